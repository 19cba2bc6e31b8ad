/-! makers: a new object at o, its rows behind it -/
abbrev zFn : Fn := fun _ => 0
def kF0 : FlockV := (nI 0, nI 0, nI 0, -1, nI 0, zFn, zFn, zFn, zFn)
def kP0 : ParV := (nI 0, nI 0, nI 0, nI 0, nI 0, zFn, zFn, zFn, zFn, zFn, zFn)
def kT0 : TextV := (zFn, nI 0, -1, nI 0, nI 0, nI 0)
def kS0 : SeenV := (zFn, zFn, zFn, zFn, zFn, nI 0, nI 0, nI 0)
def kL0 : SettV := (zFn, zFn)
def kU0 : TopV := (0, 1, nI 0, zFn, zFn, zFn)
def kC0 : CSt := (fun _ => kF0, fun _ => kP0, kT0, (nI 0, nI 0), kS0, kL0, kU0)
abbrev kA0 : Nat → Fn := mkA zFn zFn zFn zFn zFn zFn zFn zFn zFn zFn zFn zFn zFn
abbrev kI0 : IntV := (nI 0, nI 0, -1, nI 0, nI 0, nI 0, nI 0, nI 0, nI 0, nI 0, nI 0, nI 0)
def kM0 : MSt := (mkA zFn zFn (upd zFn 26 (-1)) zFn zFn zFn zFn zFn zFn zFn zFn zFn zFn, kI0, lN 0)
def kG0 : Sg := (kC0, kM0)
def cst (h : Hp) (o ci : Nat) (fs : List Value) (a : Nat → va_E) : Hp := fun q => if q = o then .inr (ci, fs) else if o < q then a (q - o - 1) else h q
theorem cst_o {h : Hp} {o ci : Nat} {fs : List Value} {a : Nat → va_E} : cst h o ci fs a o = .inr (ci, fs) := if_pos rfl
theorem cst_a {h : Hp} {o ci : Nat} {fs : List Value} {a : Nat → va_E} (j : Nat) : cst h o ci fs a (o + 1 + j) = a j := by
  unfold cst
  rw [if_neg (by omega), if_pos (by omega)]
  congr 1
  omega
theorem cst_l {h : Hp} {o ci : Nat} {fs : List Value} {a : Nat → va_E} {q : Nat} (hq : q < o) : cst h o ci fs a q = h q := by
  unfold cst
  rw [if_neg (by omega), if_neg (by omega)]
theorem cst_in {h : Hp} {o ci : Nat} {fs : List Value} {a : Nat → va_E} (hc : h o = .inr (ci, fs)) {q : Nat} (hq : q < o + 1) : h q = cst h o ci fs a q := by
  by_cases e : q = o
  · subst e; rw [cst_o, hc]
  · rw [cst_l (by omega)]
theorem cst_put {h : Hp} {o ci : Nat} {fs fs2 : List Value} {a : Nat → va_E} (q : Nat) : cst h o ci fs2 a q = va_up (cst h o ci fs a) o (.inr (ci, fs2)) q := by
  by_cases e : q = o
  · subst e; rw [cst_o, va_up_self]
  · rw [va_up_ne _ _ e]
    unfold cst
    rw [if_neg e, if_neg e]
theorem cst_new {h : Hp} {o ci : Nat} {fs : List Value} {a : Nat → va_E} {e : va_E} (m : Nat) {N : Nat} (hN : N = o + 1 + m) (ha : a m = e) (q : Nat) : cst h o ci fs a q = va_up (cst h o ci fs a) N e q := by
  subst hN
  by_cases eq : q = o + 1 + m
  · subst eq; rw [va_up_self, cst_a, ha]
  · rw [va_up_ne _ _ eq]
set_option maxHeartbeats 4000000 in
set_option maxRecDepth 100000 in
theorem n_Flock {E : Ev} {h : Hp} {o : Nat} (hc : h o = .inr (0, [.int 0, .int 0, .int 0, .int 0, .int 0, .null, .null, .null, .null])) : Ct E yX0_init cX0_init 1 none ({ frames := 1, cells := 4, slots := 43, locals := 20 } : Room) true (o + 1) [.ref (Ez E + o)] h (o + 5) 4 43 (Ff none (cst h o 0 [.int (nI 0), .int (nI 0), .int (nI 0), .int (-1), .int (nI 0), .ref (Ez E + (o + 1)), .ref (Ez E + (o + 2)), .ref (Ez E + (o + 3)), .ref (Ez E + (o + 4))] (fun j => fC E o kF0 (j + 1)))) := by
  refine Ct.ofV (by decide) (Nat.le_of_ble_eq_true rfl) (fun X hnm => ?_)
  show V E X _ RX0 _ _ _ _ _ _ true (o + 1) 0 [(0, .ref (Ez E + o))] [] _
  refine v_heap (h' := cst h o 0 [.int 0, .int 0, .int 0, .int 0, .int 0, .null, .null, .null, .null] (fun j => fC E o kF0 (j + 1))) (fun q hq => cst_in hc hq) ?_
  refine v_aload_n (pc := 0) 0 dX0_init_0 rfl rfl ?_
  refine v_objInit (pc := 1) ml_X0_3 dX0_init_1 (by decide) (by decide) ?_
  refine v_aload_n (pc := 4) 0 dX0_init_4 rfl rfl ?_
  refine v_iconst (pc := 5) (nI 0) dX0_init_5 kI_0 ?_
  refine p_X0_9 (pc := 6) (h' := cst h o 0 [.int (nI 0), .int 0, .int 0, .int 0, .int 0, .null, .null, .null, .null] (fun j => fC E o kF0 (j + 1))) cst_o (by omega) rfl rfl (Nat.le_of_ble_eq_true rfl) dX0_init_6 (fun q _ => cst_put q) ?_
  refine v_aload_n (pc := 9) 0 dX0_init_9 rfl rfl ?_
  refine v_iconst (pc := 10) (nI 0) dX0_init_10 kI_0 ?_
  refine p_X0_15 (pc := 11) (h' := cst h o 0 [.int (nI 0), .int (nI 0), .int 0, .int 0, .int 0, .null, .null, .null, .null] (fun j => fC E o kF0 (j + 1))) cst_o (by omega) rfl rfl (Nat.le_of_ble_eq_true rfl) dX0_init_11 (fun q _ => cst_put q) ?_
  refine v_aload_n (pc := 14) 0 dX0_init_14 rfl rfl ?_
  refine v_iconst (pc := 15) (nI 0) dX0_init_15 kI_0 ?_
  refine p_X0_18 (pc := 16) (h' := cst h o 0 [.int (nI 0), .int (nI 0), .int (nI 0), .int 0, .int 0, .null, .null, .null, .null] (fun j => fC E o kF0 (j + 1))) cst_o (by omega) rfl rfl (Nat.le_of_ble_eq_true rfl) dX0_init_16 (fun q _ => cst_put q) ?_
  refine v_aload_n (pc := 19) 0 dX0_init_19 rfl rfl ?_
  refine v_iconst (pc := 20) (-1) dX0_init_20 kI_m1 ?_
  refine p_X0_21 (pc := 21) (h' := cst h o 0 [.int (nI 0), .int (nI 0), .int (nI 0), .int (-1), .int 0, .null, .null, .null, .null] (fun j => fC E o kF0 (j + 1))) cst_o (by omega) rfl rfl (Nat.le_of_ble_eq_true rfl) dX0_init_21 (fun q _ => cst_put q) ?_
  refine v_aload_n (pc := 24) 0 dX0_init_24 rfl rfl ?_
  refine v_iconst (pc := 25) (nI 0) dX0_init_25 kI_0 ?_
  refine p_X0_24 (pc := 26) (h' := cst h o 0 [.int (nI 0), .int (nI 0), .int (nI 0), .int (-1), .int (nI 0), .null, .null, .null, .null] (fun j => fC E o kF0 (j + 1))) cst_o (by omega) rfl rfl (Nat.le_of_ble_eq_true rfl) dX0_init_26 (fun q _ => cst_put q) ?_
  refine v_aload_n (pc := 29) 0 dX0_init_29 rfl rfl ?_
  refine v_bipush (pc := 30) (nI 7) dX0_init_30 kB_7 ?_
  refine v_newa (pc := 32) (h' := cst h o 0 [.int (nI 0), .int (nI 0), .int (nI 0), .int (-1), .int (nI 0), .null, .null, .null, .null] (fun j => fC E o kF0 (j + 1))) (a0 := (7, .inl zFn)) (M := 7) 0 ac_int rfl rfl (fun _ _ q => q) (fun _ => rfl) (by decide) (by decide) (by decide) (Nat.le_of_ble_eq_true rfl) (Nat.le_of_ble_eq_true rfl) dX0_init_32 (fun q _ => cst_new 0 (by omega) rfl q) ?_
  refine p_X0_27 (pc := 34) (h' := cst h o 0 [.int (nI 0), .int (nI 0), .int (nI 0), .int (-1), .int (nI 0), .ref (Ez E + (o + 1)), .null, .null, .null] (fun j => fC E o kF0 (j + 1))) hnm cst_o (by omega) rfl rfl (Nat.le_of_ble_eq_true rfl) dX0_init_34 (fun q _ => cst_put q) ?_
  refine v_aload_n (pc := 37) 0 dX0_init_37 rfl rfl ?_
  refine v_bipush (pc := 38) (nI 7) dX0_init_38 kB_7 ?_
  refine v_newa (pc := 40) (h' := cst h o 0 [.int (nI 0), .int (nI 0), .int (nI 0), .int (-1), .int (nI 0), .ref (Ez E + (o + 1)), .null, .null, .null] (fun j => fC E o kF0 (j + 1))) (a0 := (7, .inl zFn)) (M := 7) 0 ac_int rfl rfl (fun _ _ q => q) (fun _ => rfl) (by decide) (by decide) (by decide) (Nat.le_of_ble_eq_true rfl) (Nat.le_of_ble_eq_true rfl) dX0_init_40 (fun q _ => cst_new 1 (by omega) rfl q) ?_
  refine p_X0_31 (pc := 42) (h' := cst h o 0 [.int (nI 0), .int (nI 0), .int (nI 0), .int (-1), .int (nI 0), .ref (Ez E + (o + 1)), .ref (Ez E + (o + 2)), .null, .null] (fun j => fC E o kF0 (j + 1))) hnm cst_o (by omega) rfl rfl (Nat.le_of_ble_eq_true rfl) dX0_init_42 (fun q _ => cst_put q) ?_
  refine v_aload_n (pc := 45) 0 dX0_init_45 rfl rfl ?_
  refine v_bipush (pc := 46) (nI 9) dX0_init_46 kB_9 ?_
  refine v_newa (pc := 48) (h' := cst h o 0 [.int (nI 0), .int (nI 0), .int (nI 0), .int (-1), .int (nI 0), .ref (Ez E + (o + 1)), .ref (Ez E + (o + 2)), .null, .null] (fun j => fC E o kF0 (j + 1))) (a0 := (9, .inl zFn)) (M := 9) 0 ac_int rfl rfl (fun _ _ q => q) (fun _ => rfl) (by decide) (by decide) (by decide) (Nat.le_of_ble_eq_true rfl) (Nat.le_of_ble_eq_true rfl) dX0_init_48 (fun q _ => cst_new 2 (by omega) rfl q) ?_
  refine p_X0_34 (pc := 50) (h' := cst h o 0 [.int (nI 0), .int (nI 0), .int (nI 0), .int (-1), .int (nI 0), .ref (Ez E + (o + 1)), .ref (Ez E + (o + 2)), .ref (Ez E + (o + 3)), .null] (fun j => fC E o kF0 (j + 1))) hnm cst_o (by omega) rfl rfl (Nat.le_of_ble_eq_true rfl) dX0_init_50 (fun q _ => cst_put q) ?_
  refine v_aload_n (pc := 53) 0 dX0_init_53 rfl rfl ?_
  refine v_bipush (pc := 54) (nI 20) dX0_init_54 kB_20 ?_
  refine v_newa (pc := 56) (h' := cst h o 0 [.int (nI 0), .int (nI 0), .int (nI 0), .int (-1), .int (nI 0), .ref (Ez E + (o + 1)), .ref (Ez E + (o + 2)), .ref (Ez E + (o + 3)), .null] (fun j => fC E o kF0 (j + 1))) (a0 := (20, .inl zFn)) (M := 20) 0 ac_int rfl rfl (fun _ _ q => q) (fun _ => rfl) (by decide) (by decide) (by decide) (Nat.le_of_ble_eq_true rfl) (Nat.le_of_ble_eq_true rfl) dX0_init_56 (fun q _ => cst_new 3 (by omega) rfl q) ?_
  refine p_X0_37 (pc := 58) (h' := cst h o 0 [.int (nI 0), .int (nI 0), .int (nI 0), .int (-1), .int (nI 0), .ref (Ez E + (o + 1)), .ref (Ez E + (o + 2)), .ref (Ez E + (o + 3)), .ref (Ez E + (o + 4))] (fun j => fC E o kF0 (j + 1))) hnm cst_o (by omega) rfl rfl (Nat.le_of_ble_eq_true rfl) dX0_init_58 (fun q _ => cst_put q) ?_
  exact v_vret (pc := 61) dX0_init_61 ⟨rfl, rfl⟩
set_option maxHeartbeats 4000000 in
set_option maxRecDepth 100000 in
theorem n_Parish {E : Ev} {h : Hp} {o : Nat} (hc : h o = .inr (1, [.int 0, .int 0, .int 0, .int 0, .int 0, .null, .null, .null, .null, .null, .null])) : Ct E yX1_init cX1_init 1 none ({ frames := 1, cells := 6, slots := 48, locals := 20 } : Room) true (o + 1) [.ref (Ez E + o)] h (o + 7) 6 48 (Ff none (cst h o 1 [.int (nI 0), .int (nI 0), .int (nI 0), .int (nI 0), .int (nI 0), .ref (Ez E + (o + 1)), .ref (Ez E + (o + 2)), .ref (Ez E + (o + 3)), .ref (Ez E + (o + 4)), .ref (Ez E + (o + 5)), .ref (Ez E + (o + 6))] (fun j => pC E o kP0 (j + 1)))) := by
  refine Ct.ofV (by decide) (Nat.le_of_ble_eq_true rfl) (fun X hnm => ?_)
  show V E X _ RX1 _ _ _ _ _ _ true (o + 1) 0 [(0, .ref (Ez E + o))] [] _
  refine v_heap (h' := cst h o 1 [.int 0, .int 0, .int 0, .int 0, .int 0, .null, .null, .null, .null, .null, .null] (fun j => pC E o kP0 (j + 1))) (fun q hq => cst_in hc hq) ?_
  refine v_aload_n (pc := 0) 0 dX1_init_0 rfl rfl ?_
  refine v_objInit (pc := 1) ml_X1_3 dX1_init_1 (by decide) (by decide) ?_
  refine v_aload_n (pc := 4) 0 dX1_init_4 rfl rfl ?_
  refine v_iconst (pc := 5) (nI 0) dX1_init_5 kI_0 ?_
  refine p_X1_9 (pc := 6) (h' := cst h o 1 [.int (nI 0), .int 0, .int 0, .int 0, .int 0, .null, .null, .null, .null, .null, .null] (fun j => pC E o kP0 (j + 1))) cst_o (by omega) n0_nar rfl (Nat.le_of_ble_eq_true rfl) dX1_init_6 (fun q _ => cst_put q) ?_
  refine v_aload_n (pc := 9) 0 dX1_init_9 rfl rfl ?_
  refine v_iconst (pc := 10) (nI 0) dX1_init_10 kI_0 ?_
  refine p_X1_15 (pc := 11) (h' := cst h o 1 [.int (nI 0), .int (nI 0), .int 0, .int 0, .int 0, .null, .null, .null, .null, .null, .null] (fun j => pC E o kP0 (j + 1))) cst_o (by omega) rfl rfl (Nat.le_of_ble_eq_true rfl) dX1_init_11 (fun q _ => cst_put q) ?_
  refine v_aload_n (pc := 14) 0 dX1_init_14 rfl rfl ?_
  refine v_iconst (pc := 15) (nI 0) dX1_init_15 kI_0 ?_
  refine p_X1_19 (pc := 16) (h' := cst h o 1 [.int (nI 0), .int (nI 0), .int (nI 0), .int 0, .int 0, .null, .null, .null, .null, .null, .null] (fun j => pC E o kP0 (j + 1))) cst_o (by omega) rfl rfl (Nat.le_of_ble_eq_true rfl) dX1_init_16 (fun q _ => cst_put q) ?_
  refine v_aload_n (pc := 19) 0 dX1_init_19 rfl rfl ?_
  refine v_iconst (pc := 20) (nI 0) dX1_init_20 kI_0 ?_
  refine p_X1_22 (pc := 21) (h' := cst h o 1 [.int (nI 0), .int (nI 0), .int (nI 0), .int (nI 0), .int 0, .null, .null, .null, .null, .null, .null] (fun j => pC E o kP0 (j + 1))) cst_o (by omega) rfl rfl (Nat.le_of_ble_eq_true rfl) dX1_init_21 (fun q _ => cst_put q) ?_
  refine v_aload_n (pc := 24) 0 dX1_init_24 rfl rfl ?_
  refine v_iconst (pc := 25) (nI 0) dX1_init_25 kI_0 ?_
  refine p_X1_25 (pc := 26) (h' := cst h o 1 [.int (nI 0), .int (nI 0), .int (nI 0), .int (nI 0), .int (nI 0), .null, .null, .null, .null, .null, .null] (fun j => pC E o kP0 (j + 1))) cst_o (by omega) rfl rfl (Nat.le_of_ble_eq_true rfl) dX1_init_26 (fun q _ => cst_put q) ?_
  refine v_aload_n (pc := 29) 0 dX1_init_29 rfl rfl ?_
  refine v_bipush (pc := 30) (nI 7) dX1_init_30 kB_7 ?_
  refine v_newa (pc := 32) (h' := cst h o 1 [.int (nI 0), .int (nI 0), .int (nI 0), .int (nI 0), .int (nI 0), .null, .null, .null, .null, .null, .null] (fun j => pC E o kP0 (j + 1))) (a0 := (7, .inl zFn)) (M := 7) 0 ac_int rfl rfl (fun _ _ q => q) (fun _ => rfl) (by decide) (by decide) (by decide) (Nat.le_of_ble_eq_true rfl) (Nat.le_of_ble_eq_true rfl) dX1_init_32 (fun q _ => cst_new 0 (by omega) rfl q) ?_
  refine p_X1_28 (pc := 34) (h' := cst h o 1 [.int (nI 0), .int (nI 0), .int (nI 0), .int (nI 0), .int (nI 0), .ref (Ez E + (o + 1)), .null, .null, .null, .null, .null] (fun j => pC E o kP0 (j + 1))) hnm cst_o (by omega) rfl rfl (Nat.le_of_ble_eq_true rfl) dX1_init_34 (fun q _ => cst_put q) ?_
  refine v_aload_n (pc := 37) 0 dX1_init_37 rfl rfl ?_
  refine v_bipush (pc := 38) (nI 7) dX1_init_38 kB_7 ?_
  refine v_newa (pc := 40) (h' := cst h o 1 [.int (nI 0), .int (nI 0), .int (nI 0), .int (nI 0), .int (nI 0), .ref (Ez E + (o + 1)), .null, .null, .null, .null, .null] (fun j => pC E o kP0 (j + 1))) (a0 := (7, .inl zFn)) (M := 7) 0 ac_int rfl rfl (fun _ _ q => q) (fun _ => rfl) (by decide) (by decide) (by decide) (Nat.le_of_ble_eq_true rfl) (Nat.le_of_ble_eq_true rfl) dX1_init_40 (fun q _ => cst_new 1 (by omega) rfl q) ?_
  refine p_X1_32 (pc := 42) (h' := cst h o 1 [.int (nI 0), .int (nI 0), .int (nI 0), .int (nI 0), .int (nI 0), .ref (Ez E + (o + 1)), .ref (Ez E + (o + 2)), .null, .null, .null, .null] (fun j => pC E o kP0 (j + 1))) hnm cst_o (by omega) rfl rfl (Nat.le_of_ble_eq_true rfl) dX1_init_42 (fun q _ => cst_put q) ?_
  refine v_aload_n (pc := 45) 0 dX1_init_45 rfl rfl ?_
  refine v_bipush (pc := 46) (nI 7) dX1_init_46 kB_7 ?_
  refine v_newa (pc := 48) (h' := cst h o 1 [.int (nI 0), .int (nI 0), .int (nI 0), .int (nI 0), .int (nI 0), .ref (Ez E + (o + 1)), .ref (Ez E + (o + 2)), .null, .null, .null, .null] (fun j => pC E o kP0 (j + 1))) (a0 := (7, .inl zFn)) (M := 7) 0 ac_int rfl rfl (fun _ _ q => q) (fun _ => rfl) (by decide) (by decide) (by decide) (Nat.le_of_ble_eq_true rfl) (Nat.le_of_ble_eq_true rfl) dX1_init_48 (fun q _ => cst_new 2 (by omega) rfl q) ?_
  refine p_X1_35 (pc := 50) (h' := cst h o 1 [.int (nI 0), .int (nI 0), .int (nI 0), .int (nI 0), .int (nI 0), .ref (Ez E + (o + 1)), .ref (Ez E + (o + 2)), .ref (Ez E + (o + 3)), .null, .null, .null] (fun j => pC E o kP0 (j + 1))) hnm cst_o (by omega) rfl rfl (Nat.le_of_ble_eq_true rfl) dX1_init_50 (fun q _ => cst_put q) ?_
  refine v_aload_n (pc := 53) 0 dX1_init_53 rfl rfl ?_
  refine v_bipush (pc := 54) (nI 9) dX1_init_54 kB_9 ?_
  refine v_newa (pc := 56) (h' := cst h o 1 [.int (nI 0), .int (nI 0), .int (nI 0), .int (nI 0), .int (nI 0), .ref (Ez E + (o + 1)), .ref (Ez E + (o + 2)), .ref (Ez E + (o + 3)), .null, .null, .null] (fun j => pC E o kP0 (j + 1))) (a0 := (9, .inl zFn)) (M := 9) 0 ac_int rfl rfl (fun _ _ q => q) (fun _ => rfl) (by decide) (by decide) (by decide) (Nat.le_of_ble_eq_true rfl) (Nat.le_of_ble_eq_true rfl) dX1_init_56 (fun q _ => cst_new 3 (by omega) rfl q) ?_
  refine p_X1_38 (pc := 58) (h' := cst h o 1 [.int (nI 0), .int (nI 0), .int (nI 0), .int (nI 0), .int (nI 0), .ref (Ez E + (o + 1)), .ref (Ez E + (o + 2)), .ref (Ez E + (o + 3)), .ref (Ez E + (o + 4)), .null, .null] (fun j => pC E o kP0 (j + 1))) hnm cst_o (by omega) rfl rfl (Nat.le_of_ble_eq_true rfl) dX1_init_58 (fun q _ => cst_put q) ?_
  refine v_aload_n (pc := 61) 0 dX1_init_61 rfl rfl ?_
  refine v_bipush (pc := 62) (nI 9) dX1_init_62 kB_9 ?_
  refine v_newa (pc := 64) (h' := cst h o 1 [.int (nI 0), .int (nI 0), .int (nI 0), .int (nI 0), .int (nI 0), .ref (Ez E + (o + 1)), .ref (Ez E + (o + 2)), .ref (Ez E + (o + 3)), .ref (Ez E + (o + 4)), .null, .null] (fun j => pC E o kP0 (j + 1))) (a0 := (9, .inl zFn)) (M := 9) 0 ac_int rfl rfl (fun _ _ q => q) (fun _ => rfl) (by decide) (by decide) (by decide) (Nat.le_of_ble_eq_true rfl) (Nat.le_of_ble_eq_true rfl) dX1_init_64 (fun q _ => cst_new 4 (by omega) rfl q) ?_
  refine p_X1_41 (pc := 66) (h' := cst h o 1 [.int (nI 0), .int (nI 0), .int (nI 0), .int (nI 0), .int (nI 0), .ref (Ez E + (o + 1)), .ref (Ez E + (o + 2)), .ref (Ez E + (o + 3)), .ref (Ez E + (o + 4)), .ref (Ez E + (o + 5)), .null] (fun j => pC E o kP0 (j + 1))) hnm cst_o (by omega) rfl rfl (Nat.le_of_ble_eq_true rfl) dX1_init_66 (fun q _ => cst_put q) ?_
  refine v_aload_n (pc := 69) 0 dX1_init_69 rfl rfl ?_
  refine v_bipush (pc := 70) (nI 9) dX1_init_70 kB_9 ?_
  refine v_newa (pc := 72) (h' := cst h o 1 [.int (nI 0), .int (nI 0), .int (nI 0), .int (nI 0), .int (nI 0), .ref (Ez E + (o + 1)), .ref (Ez E + (o + 2)), .ref (Ez E + (o + 3)), .ref (Ez E + (o + 4)), .ref (Ez E + (o + 5)), .null] (fun j => pC E o kP0 (j + 1))) (a0 := (9, .inl zFn)) (M := 9) 0 ac_int rfl rfl (fun _ _ q => q) (fun _ => rfl) (by decide) (by decide) (by decide) (Nat.le_of_ble_eq_true rfl) (Nat.le_of_ble_eq_true rfl) dX1_init_72 (fun q _ => cst_new 5 (by omega) rfl q) ?_
  refine p_X1_44 (pc := 74) (h' := cst h o 1 [.int (nI 0), .int (nI 0), .int (nI 0), .int (nI 0), .int (nI 0), .ref (Ez E + (o + 1)), .ref (Ez E + (o + 2)), .ref (Ez E + (o + 3)), .ref (Ez E + (o + 4)), .ref (Ez E + (o + 5)), .ref (Ez E + (o + 6))] (fun j => pC E o kP0 (j + 1))) hnm cst_o (by omega) rfl rfl (Nat.le_of_ble_eq_true rfl) dX1_init_74 (fun q _ => cst_put q) ?_
  exact v_vret (pc := 77) dX1_init_77 ⟨rfl, rfl⟩
set_option maxHeartbeats 4000000 in
set_option maxRecDepth 100000 in
theorem n_Text {E : Ev} {h : Hp} {o : Nat} (hc : h o = .inr (5, [.null, .int 0, .int 0, .int 0, .int 0, .int 0])) : Ct E yX5_init cX5_init 1 none ({ frames := 1, cells := 1, slots := 240, locals := 20 } : Room) true (o + 1) [.ref (Ez E + o)] h (o + 2) 1 240 (Ff none (cst h o 5 [.ref (Ez E + (o + 1)), .int (nI 0), .int (-1), .int (nI 0), .int (nI 0), .int (nI 0)] (fun j => tC E o kT0 (j + 1)))) := by
  refine Ct.ofV (by decide) (Nat.le_of_ble_eq_true rfl) (fun X hnm => ?_)
  show V E X _ RX5 _ _ _ _ _ _ true (o + 1) 0 [(0, .ref (Ez E + o))] [] _
  refine v_heap (h' := cst h o 5 [.null, .int 0, .int 0, .int 0, .int 0, .int 0] (fun j => tC E o kT0 (j + 1))) (fun q hq => cst_in hc hq) ?_
  refine v_aload_n (pc := 0) 0 dX5_init_0 rfl rfl ?_
  refine v_objInit (pc := 1) ml_X5_3 dX5_init_1 (by decide) (by decide) ?_
  refine v_aload_n (pc := 4) 0 dX5_init_4 rfl rfl ?_
  refine v_sipush (pc := 5) (nI 240) dX5_init_5 kS_240 ?_
  refine v_newa (pc := 8) (h' := cst h o 5 [.null, .int 0, .int 0, .int 0, .int 0, .int 0] (fun j => tC E o kT0 (j + 1))) (a0 := (240, .inl zFn)) (M := 240) 0 ac_int rfl rfl (fun _ _ q => q) (fun _ => rfl) (by decide) (by decide) (by decide) (Nat.le_of_ble_eq_true rfl) (Nat.le_of_ble_eq_true rfl) dX5_init_8 (fun q _ => cst_new 0 (by omega) rfl q) ?_
  refine p_X5_9 (pc := 10) (h' := cst h o 5 [.ref (Ez E + (o + 1)), .int 0, .int 0, .int 0, .int 0, .int 0] (fun j => tC E o kT0 (j + 1))) hnm cst_o (by omega) rfl rfl (Nat.le_of_ble_eq_true rfl) dX5_init_10 (fun q _ => cst_put q) ?_
  refine v_aload_n (pc := 13) 0 dX5_init_13 rfl rfl ?_
  refine v_iconst (pc := 14) (nI 0) dX5_init_14 kI_0 ?_
  refine p_X5_15 (pc := 15) (h' := cst h o 5 [.ref (Ez E + (o + 1)), .int (nI 0), .int 0, .int 0, .int 0, .int 0] (fun j => tC E o kT0 (j + 1))) cst_o (by omega) rfl rfl (Nat.le_of_ble_eq_true rfl) dX5_init_15 (fun q _ => cst_put q) ?_
  refine v_aload_n (pc := 18) 0 dX5_init_18 rfl rfl ?_
  refine v_iconst (pc := 19) (-1) dX5_init_19 kI_m1 ?_
  refine p_X5_19 (pc := 20) (h' := cst h o 5 [.ref (Ez E + (o + 1)), .int (nI 0), .int (-1), .int 0, .int 0, .int 0] (fun j => tC E o kT0 (j + 1))) cst_o (by omega) rfl rfl (Nat.le_of_ble_eq_true rfl) dX5_init_20 (fun q _ => cst_put q) ?_
  refine v_aload_n (pc := 23) 0 dX5_init_23 rfl rfl ?_
  refine v_iconst (pc := 24) (nI 0) dX5_init_24 kI_0 ?_
  refine p_X5_22 (pc := 25) (h' := cst h o 5 [.ref (Ez E + (o + 1)), .int (nI 0), .int (-1), .int (nI 0), .int 0, .int 0] (fun j => tC E o kT0 (j + 1))) cst_o (by omega) rfl rfl (Nat.le_of_ble_eq_true rfl) dX5_init_25 (fun q _ => cst_put q) ?_
  refine v_aload_n (pc := 28) 0 dX5_init_28 rfl rfl ?_
  refine v_iconst (pc := 29) (nI 0) dX5_init_29 kI_0 ?_
  refine p_X5_25 (pc := 30) (h' := cst h o 5 [.ref (Ez E + (o + 1)), .int (nI 0), .int (-1), .int (nI 0), .int (nI 0), .int 0] (fun j => tC E o kT0 (j + 1))) cst_o (by omega) rfl rfl (Nat.le_of_ble_eq_true rfl) dX5_init_30 (fun q _ => cst_put q) ?_
  refine v_aload_n (pc := 33) 0 dX5_init_33 rfl rfl ?_
  refine v_iconst (pc := 34) (nI 0) dX5_init_34 kI_0 ?_
  refine p_X5_28 (pc := 35) (h' := cst h o 5 [.ref (Ez E + (o + 1)), .int (nI 0), .int (-1), .int (nI 0), .int (nI 0), .int (nI 0)] (fun j => tC E o kT0 (j + 1))) cst_o (by omega) rfl rfl (Nat.le_of_ble_eq_true rfl) dX5_init_35 (fun q _ => cst_put q) ?_
  exact v_vret (pc := 38) dX5_init_38 ⟨rfl, rfl⟩
set_option maxHeartbeats 4000000 in
set_option maxRecDepth 100000 in
theorem n_Settling {E : Ev} {h : Hp} {o : Nat} (hc : h o = .inr (4, [.null, .null])) : Ct E yX4_init cX4_init 1 none ({ frames := 1, cells := 2, slots := 519, locals := 20 } : Room) true (o + 1) [.ref (Ez E + o)] h (o + 3) 2 519 (Ff none (cst h o 4 [.ref (Ez E + (o + 1)), .ref (Ez E + (o + 2))] (fun j => lC E o kL0 (j + 1)))) := by
  refine Ct.ofV (by decide) (Nat.le_of_ble_eq_true rfl) (fun X hnm => ?_)
  show V E X _ RX4 _ _ _ _ _ _ true (o + 1) 0 [(0, .ref (Ez E + o))] [] _
  refine v_heap (h' := cst h o 4 [.null, .null] (fun j => lC E o kL0 (j + 1))) (fun q hq => cst_in hc hq) ?_
  refine v_aload_n (pc := 0) 0 dX4_init_0 rfl rfl ?_
  refine v_objInit (pc := 1) ml_X4_3 dX4_init_1 (by decide) (by decide) ?_
  refine v_aload_n (pc := 4) 0 dX4_init_4 rfl rfl ?_
  refine v_bipush (pc := 5) (nI 7) dX4_init_5 kB_7 ?_
  refine v_newa (pc := 7) (h' := cst h o 4 [.null, .null] (fun j => lC E o kL0 (j + 1))) (a0 := (7, .inl zFn)) (M := 7) 0 ac_int rfl rfl (fun _ _ q => q) (fun _ => rfl) (by decide) (by decide) (by decide) (Nat.le_of_ble_eq_true rfl) (Nat.le_of_ble_eq_true rfl) dX4_init_7 (fun q _ => cst_new 0 (by omega) rfl q) ?_
  refine p_X4_9 (pc := 9) (h' := cst h o 4 [.ref (Ez E + (o + 1)), .null] (fun j => lC E o kL0 (j + 1))) hnm cst_o (by omega) rfl rfl (Nat.le_of_ble_eq_true rfl) dX4_init_9 (fun q _ => cst_put q) ?_
  refine v_aload_n (pc := 12) 0 dX4_init_12 rfl rfl ?_
  refine v_sipush (pc := 13) (nI 512) dX4_init_13 kS_512 ?_
  refine v_newa (pc := 16) (h' := cst h o 4 [.ref (Ez E + (o + 1)), .null] (fun j => lC E o kL0 (j + 1))) (a0 := (512, .inl zFn)) (M := 512) 0 ac_int rfl rfl (fun _ _ q => q) (fun _ => rfl) (by decide) (by decide) (by decide) (Nat.le_of_ble_eq_true rfl) (Nat.le_of_ble_eq_true rfl) dX4_init_16 (fun q _ => cst_new 1 (by omega) rfl q) ?_
  refine p_X4_15 (pc := 18) (h' := cst h o 4 [.ref (Ez E + (o + 1)), .ref (Ez E + (o + 2))] (fun j => lC E o kL0 (j + 1))) hnm cst_o (by omega) rfl rfl (Nat.le_of_ble_eq_true rfl) dX4_init_18 (fun q _ => cst_put q) ?_
  exact v_vret (pc := 21) dX4_init_21 ⟨rfl, rfl⟩
set_option maxHeartbeats 4000000 in
set_option maxRecDepth 100000 in
theorem n_Seen {E : Ev} {h : Hp} {o : Nat} (hc : h o = .inr (3, [.null, .null, .null, .null, .null, .int 0, .int 0, .int 0])) : Ct E yX3_init cX3_init 1 none ({ frames := 1, cells := 5, slots := 48, locals := 20 } : Room) true (o + 1) [.ref (Ez E + o)] h (o + 6) 5 48 (Ff none (cst h o 3 [.ref (Ez E + (o + 1)), .ref (Ez E + (o + 2)), .ref (Ez E + (o + 3)), .ref (Ez E + (o + 4)), .ref (Ez E + (o + 5)), .int (nI 0), .int (nI 0), .int (nI 0)] (fun j => sC E o kS0 (j + 1)))) := by
  refine Ct.ofV (by decide) (Nat.le_of_ble_eq_true rfl) (fun X hnm => ?_)
  show V E X _ RX3 _ _ _ _ _ _ true (o + 1) 0 [(0, .ref (Ez E + o))] [] _
  refine v_heap (h' := cst h o 3 [.null, .null, .null, .null, .null, .int 0, .int 0, .int 0] (fun j => sC E o kS0 (j + 1))) (fun q hq => cst_in hc hq) ?_
  refine v_aload_n (pc := 0) 0 dX3_init_0 rfl rfl ?_
  refine v_objInit (pc := 1) ml_X3_3 dX3_init_1 (by decide) (by decide) ?_
  refine v_aload_n (pc := 4) 0 dX3_init_4 rfl rfl ?_
  refine v_bipush (pc := 5) (nI 6) dX3_init_5 kB_6 ?_
  refine v_newa (pc := 7) (h' := cst h o 3 [.null, .null, .null, .null, .null, .int 0, .int 0, .int 0] (fun j => sC E o kS0 (j + 1))) (a0 := (6, .inl zFn)) (M := 6) 0 ac_int rfl rfl (fun _ _ q => q) (fun _ => rfl) (by decide) (by decide) (by decide) (Nat.le_of_ble_eq_true rfl) (Nat.le_of_ble_eq_true rfl) dX3_init_7 (fun q _ => cst_new 0 (by omega) rfl q) ?_
  refine p_X3_9 (pc := 9) (h' := cst h o 3 [.ref (Ez E + (o + 1)), .null, .null, .null, .null, .int 0, .int 0, .int 0] (fun j => sC E o kS0 (j + 1))) hnm cst_o (by omega) rfl rfl (Nat.le_of_ble_eq_true rfl) dX3_init_9 (fun q _ => cst_put q) ?_
  refine v_aload_n (pc := 12) 0 dX3_init_12 rfl rfl ?_
  refine v_bipush (pc := 13) (nI 6) dX3_init_13 kB_6 ?_
  refine v_newa (pc := 15) (h' := cst h o 3 [.ref (Ez E + (o + 1)), .null, .null, .null, .null, .int 0, .int 0, .int 0] (fun j => sC E o kS0 (j + 1))) (a0 := (6, .inl zFn)) (M := 6) 0 ac_int rfl rfl (fun _ _ q => q) (fun _ => rfl) (by decide) (by decide) (by decide) (Nat.le_of_ble_eq_true rfl) (Nat.le_of_ble_eq_true rfl) dX3_init_15 (fun q _ => cst_new 1 (by omega) rfl q) ?_
  refine p_X3_15 (pc := 17) (h' := cst h o 3 [.ref (Ez E + (o + 1)), .ref (Ez E + (o + 2)), .null, .null, .null, .int 0, .int 0, .int 0] (fun j => sC E o kS0 (j + 1))) hnm cst_o (by omega) rfl rfl (Nat.le_of_ble_eq_true rfl) dX3_init_17 (fun q _ => cst_put q) ?_
  refine v_aload_n (pc := 20) 0 dX3_init_20 rfl rfl ?_
  refine v_bipush (pc := 21) (nI 6) dX3_init_21 kB_6 ?_
  refine v_newa (pc := 23) (h' := cst h o 3 [.ref (Ez E + (o + 1)), .ref (Ez E + (o + 2)), .null, .null, .null, .int 0, .int 0, .int 0] (fun j => sC E o kS0 (j + 1))) (a0 := (6, .inl zFn)) (M := 6) 1 ac_boolean rfl rfl (fun _ _ q => q) (fun _ => rfl) (by decide) (by decide) (by decide) (Nat.le_of_ble_eq_true rfl) (Nat.le_of_ble_eq_true rfl) dX3_init_23 (fun q _ => cst_new 2 (by omega) rfl q) ?_
  refine p_X3_18 (pc := 25) (h' := cst h o 3 [.ref (Ez E + (o + 1)), .ref (Ez E + (o + 2)), .ref (Ez E + (o + 3)), .null, .null, .int 0, .int 0, .int 0] (fun j => sC E o kS0 (j + 1))) hnm cst_o (by omega) rfl rfl (Nat.le_of_ble_eq_true rfl) dX3_init_25 (fun q _ => cst_put q) ?_
  refine v_aload_n (pc := 28) 0 dX3_init_28 rfl rfl ?_
  refine v_bipush (pc := 29) (nI 15) dX3_init_29 kB_15 ?_
  refine v_newa (pc := 31) (h' := cst h o 3 [.ref (Ez E + (o + 1)), .ref (Ez E + (o + 2)), .ref (Ez E + (o + 3)), .null, .null, .int 0, .int 0, .int 0] (fun j => sC E o kS0 (j + 1))) (a0 := (15, .inl zFn)) (M := 15) 0 ac_int rfl rfl (fun _ _ q => q) (fun _ => rfl) (by decide) (by decide) (by decide) (Nat.le_of_ble_eq_true rfl) (Nat.le_of_ble_eq_true rfl) dX3_init_31 (fun q _ => cst_new 3 (by omega) rfl q) ?_
  refine p_X3_22 (pc := 33) (h' := cst h o 3 [.ref (Ez E + (o + 1)), .ref (Ez E + (o + 2)), .ref (Ez E + (o + 3)), .ref (Ez E + (o + 4)), .null, .int 0, .int 0, .int 0] (fun j => sC E o kS0 (j + 1))) hnm cst_o (by omega) rfl rfl (Nat.le_of_ble_eq_true rfl) dX3_init_33 (fun q _ => cst_put q) ?_
  refine v_aload_n (pc := 36) 0 dX3_init_36 rfl rfl ?_
  refine v_bipush (pc := 37) (nI 15) dX3_init_37 kB_15 ?_
  refine v_newa (pc := 39) (h' := cst h o 3 [.ref (Ez E + (o + 1)), .ref (Ez E + (o + 2)), .ref (Ez E + (o + 3)), .ref (Ez E + (o + 4)), .null, .int 0, .int 0, .int 0] (fun j => sC E o kS0 (j + 1))) (a0 := (15, .inl zFn)) (M := 15) 0 ac_int rfl rfl (fun _ _ q => q) (fun _ => rfl) (by decide) (by decide) (by decide) (Nat.le_of_ble_eq_true rfl) (Nat.le_of_ble_eq_true rfl) dX3_init_39 (fun q _ => cst_new 4 (by omega) rfl q) ?_
  refine p_X3_25 (pc := 41) (h' := cst h o 3 [.ref (Ez E + (o + 1)), .ref (Ez E + (o + 2)), .ref (Ez E + (o + 3)), .ref (Ez E + (o + 4)), .ref (Ez E + (o + 5)), .int 0, .int 0, .int 0] (fun j => sC E o kS0 (j + 1))) hnm cst_o (by omega) rfl rfl (Nat.le_of_ble_eq_true rfl) dX3_init_41 (fun q _ => cst_put q) ?_
  refine v_aload_n (pc := 44) 0 dX3_init_44 rfl rfl ?_
  refine v_iconst (pc := 45) (nI 0) dX3_init_45 kI_0 ?_
  refine p_X3_28 (pc := 46) (h' := cst h o 3 [.ref (Ez E + (o + 1)), .ref (Ez E + (o + 2)), .ref (Ez E + (o + 3)), .ref (Ez E + (o + 4)), .ref (Ez E + (o + 5)), .int (nI 0), .int 0, .int 0] (fun j => sC E o kS0 (j + 1))) cst_o (by omega) rfl rfl (Nat.le_of_ble_eq_true rfl) dX3_init_46 (fun q _ => cst_put q) ?_
  refine v_aload_n (pc := 49) 0 dX3_init_49 rfl rfl ?_
  refine v_iconst (pc := 50) (nI 0) dX3_init_50 kI_0 ?_
  refine p_X3_32 (pc := 51) (h' := cst h o 3 [.ref (Ez E + (o + 1)), .ref (Ez E + (o + 2)), .ref (Ez E + (o + 3)), .ref (Ez E + (o + 4)), .ref (Ez E + (o + 5)), .int (nI 0), .int (nI 0), .int 0] (fun j => sC E o kS0 (j + 1))) cst_o (by omega) rfl rfl (Nat.le_of_ble_eq_true rfl) dX3_init_51 (fun q _ => cst_put q) ?_
  refine v_aload_n (pc := 54) 0 dX3_init_54 rfl rfl ?_
  refine v_iconst (pc := 55) (nI 0) dX3_init_55 kI_0 ?_
  refine p_X3_35 (pc := 56) (h' := cst h o 3 [.ref (Ez E + (o + 1)), .ref (Ez E + (o + 2)), .ref (Ez E + (o + 3)), .ref (Ez E + (o + 4)), .ref (Ez E + (o + 5)), .int (nI 0), .int (nI 0), .int (nI 0)] (fun j => sC E o kS0 (j + 1))) cst_o (by omega) rfl rfl (Nat.le_of_ble_eq_true rfl) dX3_init_56 (fun q _ => cst_put q) ?_
  exact v_vret (pc := 59) dX3_init_59 ⟨rfl, rfl⟩
theorem cst_now {E : Ev} {h : Hp} {o ci : Nat} {fs : List Value} (q : Nat) : cst h o ci fs (fun j => mC E kM0 (j + 1)) q = va_up (cst h o ci fs (fun j => mC E (kA0, kI0, lN 0) (j + 1))) (o + 3) (.inl (EI E, 48, .inl (upd zFn 26 (-1)))) q := by
  by_cases e : q = o + 3
  · subst e
    rw [va_up_self]
    exact cst_a (h := h) (o := o) (ci := ci) (fs := fs) (a := fun j => mC E kM0 (j + 1)) 2
  · rw [va_up_ne _ _ e]
    unfold cst
    by_cases e1 : q = o
    · rw [if_pos e1, if_pos e1]
    · rw [if_neg e1, if_neg e1]
      by_cases e2 : o < q
      · rw [if_pos e2, if_pos e2]
        show .inl (mK E (q - o - 1), mL (q - o - 1), .inl (mkA zFn zFn (upd zFn 26 (-1)) zFn zFn zFn zFn zFn zFn zFn zFn zFn zFn (q - o - 1))) = (.inl (mK E (q - o - 1), mL (q - o - 1), .inl (kA0 (q - o - 1))) : va_E)
        rw [← mkA_up2 (xW := zFn), va_up_ne _ _ (by omega)]
      · rw [if_neg e2, if_neg e2]
set_option maxHeartbeats 4000000 in
set_option maxRecDepth 100000 in
theorem n_Model {E : Ev} {h : Hp} {o : Nat} (hc : h o = .inr (7, [.null, .null, .null, .null, .null, .int 0, .null, .null, .long 0, .null, .int 0, .int 0, .null, .int 0, .null, .int 0, .null, .int 0, .int 0, .int 0, .int 0, .int 0, .int 0, .int 0, .null, .null])) : Ct E yX7_init cX7_init 1 none ({ frames := 1, cells := 13, slots := 1881, locals := 20 } : Room) true (o + 1) [.ref (Ez E + o)] h (o + 14) 13 1881 (Ff none (cst h o 7 [.ref (Ez E + (o + 1)), .ref (Ez E + (o + 2)), .ref (Ez E + (o + 3)), .ref (Ez E + (o + 4)), .ref (Ez E + (o + 5)), .int 0, .ref (Ez E + (o + 6)), .ref (Ez E + (o + 7)), .long 0, .ref (Ez E + (o + 8)), .int 0, .int (-1), .ref (Ez E + (o + 9)), .int 0, .ref (Ez E + (o + 10)), .int 0, .ref (Ez E + (o + 11)), .int 0, .int 0, .int 0, .int 0, .int 0, .int 0, .int 0, .ref (Ez E + (o + 12)), .ref (Ez E + (o + 13))] (fun j => mC E kM0 (j + 1)))) := by
  refine Ct.ofV (by decide) (Nat.le_of_ble_eq_true rfl) (fun X hnm => ?_)
  show V E X _ RX7 _ _ _ _ _ _ true (o + 1) 0 [(0, .ref (Ez E + o))] [] _
  refine v_heap (h' := cst h o 7 [.null, .null, .null, .null, .null, .int 0, .null, .null, .long 0, .null, .int 0, .int 0, .null, .int 0, .null, .int 0, .null, .int 0, .int 0, .int 0, .int 0, .int 0, .int 0, .int 0, .null, .null] (fun j => mC E (kA0, kI0, lN 0) (j + 1))) (fun q hq => cst_in hc hq) ?_
  refine v_aload_n (pc := 0) 0 dX7_init_0 rfl rfl ?_
  refine v_objInit (pc := 1) ml_X7_1 dX7_init_1 (by decide) (by decide) ?_
  refine v_aload_n (pc := 4) 0 dX7_init_4 rfl rfl ?_
  refine v_bipush (pc := 5) (nI 52) dX7_init_5 kB_52 ?_
  refine v_newa (pc := 7) (h' := cst h o 7 [.null, .null, .null, .null, .null, .int 0, .null, .null, .long 0, .null, .int 0, .int 0, .null, .int 0, .null, .int 0, .null, .int 0, .int 0, .int 0, .int 0, .int 0, .int 0, .int 0, .null, .null] (fun j => mC E (kA0, kI0, lN 0) (j + 1))) (a0 := (52, .inl zFn)) (M := 52) 0 ac_int rfl rfl (fun _ _ q => q) (fun _ => rfl) (by decide) (by decide) (by decide) (Nat.le_of_ble_eq_true rfl) (Nat.le_of_ble_eq_true rfl) dX7_init_7 (fun q _ => cst_new 0 (by omega) rfl q) ?_
  refine p_X7_7 (pc := 9) (h' := cst h o 7 [.ref (Ez E + (o + 1)), .null, .null, .null, .null, .int 0, .null, .null, .long 0, .null, .int 0, .int 0, .null, .int 0, .null, .int 0, .null, .int 0, .int 0, .int 0, .int 0, .int 0, .int 0, .int 0, .null, .null] (fun j => mC E (kA0, kI0, lN 0) (j + 1))) hnm cst_o (by omega) rfl rfl (Nat.le_of_ble_eq_true rfl) dX7_init_9 (fun q _ => cst_put q) ?_
  refine v_aload_n (pc := 12) 0 dX7_init_12 rfl rfl ?_
  refine v_bipush (pc := 13) (nI 52) dX7_init_13 kB_52 ?_
  refine v_newa (pc := 15) (h' := cst h o 7 [.ref (Ez E + (o + 1)), .null, .null, .null, .null, .int 0, .null, .null, .long 0, .null, .int 0, .int 0, .null, .int 0, .null, .int 0, .null, .int 0, .int 0, .int 0, .int 0, .int 0, .int 0, .int 0, .null, .null] (fun j => mC E (kA0, kI0, lN 0) (j + 1))) (a0 := (52, .inl zFn)) (M := 52) 0 ac_int rfl rfl (fun _ _ q => q) (fun _ => rfl) (by decide) (by decide) (by decide) (Nat.le_of_ble_eq_true rfl) (Nat.le_of_ble_eq_true rfl) dX7_init_15 (fun q _ => cst_new 1 (by omega) rfl q) ?_
  refine p_X7_13 (pc := 17) (h' := cst h o 7 [.ref (Ez E + (o + 1)), .ref (Ez E + (o + 2)), .null, .null, .null, .int 0, .null, .null, .long 0, .null, .int 0, .int 0, .null, .int 0, .null, .int 0, .null, .int 0, .int 0, .int 0, .int 0, .int 0, .int 0, .int 0, .null, .null] (fun j => mC E (kA0, kI0, lN 0) (j + 1))) hnm cst_o (by omega) rfl rfl (Nat.le_of_ble_eq_true rfl) dX7_init_17 (fun q _ => cst_put q) ?_
  refine v_aload_n (pc := 20) 0 dX7_init_20 rfl rfl ?_
  refine v_bipush (pc := 21) (nI 48) dX7_init_21 kB_48 ?_
  refine v_newa (pc := 23) (h' := cst h o 7 [.ref (Ez E + (o + 1)), .ref (Ez E + (o + 2)), .null, .null, .null, .int 0, .null, .null, .long 0, .null, .int 0, .int 0, .null, .int 0, .null, .int 0, .null, .int 0, .int 0, .int 0, .int 0, .int 0, .int 0, .int 0, .null, .null] (fun j => mC E (kA0, kI0, lN 0) (j + 1))) (a0 := (48, .inl zFn)) (M := 48) 0 ac_int rfl rfl (fun _ _ q => q) (fun _ => rfl) (by decide) (by decide) (by decide) (Nat.le_of_ble_eq_true rfl) (Nat.le_of_ble_eq_true rfl) dX7_init_23 (fun q _ => cst_new 2 (by omega) rfl q) ?_
  refine p_X7_16 (pc := 25) (h' := cst h o 7 [.ref (Ez E + (o + 1)), .ref (Ez E + (o + 2)), .ref (Ez E + (o + 3)), .null, .null, .int 0, .null, .null, .long 0, .null, .int 0, .int 0, .null, .int 0, .null, .int 0, .null, .int 0, .int 0, .int 0, .int 0, .int 0, .int 0, .int 0, .null, .null] (fun j => mC E (kA0, kI0, lN 0) (j + 1))) hnm cst_o (by omega) rfl rfl (Nat.le_of_ble_eq_true rfl) dX7_init_25 (fun q _ => cst_put q) ?_
  refine v_aload_n (pc := 28) 0 dX7_init_28 rfl rfl ?_
  refine v_bipush (pc := 29) (nI 48) dX7_init_29 kB_48 ?_
  refine v_newa (pc := 31) (h' := cst h o 7 [.ref (Ez E + (o + 1)), .ref (Ez E + (o + 2)), .ref (Ez E + (o + 3)), .null, .null, .int 0, .null, .null, .long 0, .null, .int 0, .int 0, .null, .int 0, .null, .int 0, .null, .int 0, .int 0, .int 0, .int 0, .int 0, .int 0, .int 0, .null, .null] (fun j => mC E (kA0, kI0, lN 0) (j + 1))) (a0 := (48, .inl zFn)) (M := 48) 0 ac_int rfl rfl (fun _ _ q => q) (fun _ => rfl) (by decide) (by decide) (by decide) (Nat.le_of_ble_eq_true rfl) (Nat.le_of_ble_eq_true rfl) dX7_init_31 (fun q _ => cst_new 3 (by omega) rfl q) ?_
  refine p_X7_19 (pc := 33) (h' := cst h o 7 [.ref (Ez E + (o + 1)), .ref (Ez E + (o + 2)), .ref (Ez E + (o + 3)), .ref (Ez E + (o + 4)), .null, .int 0, .null, .null, .long 0, .null, .int 0, .int 0, .null, .int 0, .null, .int 0, .null, .int 0, .int 0, .int 0, .int 0, .int 0, .int 0, .int 0, .null, .null] (fun j => mC E (kA0, kI0, lN 0) (j + 1))) hnm cst_o (by omega) rfl rfl (Nat.le_of_ble_eq_true rfl) dX7_init_33 (fun q _ => cst_put q) ?_
  refine v_aload_n (pc := 36) 0 dX7_init_36 rfl rfl ?_
  refine v_sipush (pc := 37) (nI 768) dX7_init_37 kS_768 ?_
  refine v_newa (pc := 40) (h' := cst h o 7 [.ref (Ez E + (o + 1)), .ref (Ez E + (o + 2)), .ref (Ez E + (o + 3)), .ref (Ez E + (o + 4)), .null, .int 0, .null, .null, .long 0, .null, .int 0, .int 0, .null, .int 0, .null, .int 0, .null, .int 0, .int 0, .int 0, .int 0, .int 0, .int 0, .int 0, .null, .null] (fun j => mC E (kA0, kI0, lN 0) (j + 1))) (a0 := (768, .inl zFn)) (M := 768) 0 ac_int rfl rfl (fun _ _ q => q) (fun _ => rfl) (by decide) (by decide) (by decide) (Nat.le_of_ble_eq_true rfl) (Nat.le_of_ble_eq_true rfl) dX7_init_40 (fun q _ => cst_new 4 (by omega) rfl q) ?_
  refine p_X7_22 (pc := 42) (h' := cst h o 7 [.ref (Ez E + (o + 1)), .ref (Ez E + (o + 2)), .ref (Ez E + (o + 3)), .ref (Ez E + (o + 4)), .ref (Ez E + (o + 5)), .int 0, .null, .null, .long 0, .null, .int 0, .int 0, .null, .int 0, .null, .int 0, .null, .int 0, .int 0, .int 0, .int 0, .int 0, .int 0, .int 0, .null, .null] (fun j => mC E (kA0, kI0, lN 0) (j + 1))) hnm cst_o (by omega) rfl rfl (Nat.le_of_ble_eq_true rfl) dX7_init_42 (fun q _ => cst_put q) ?_
  refine v_aload_n (pc := 45) 0 dX7_init_45 rfl rfl ?_
  refine v_bipush (pc := 46) (nI 98) dX7_init_46 kB_98 ?_
  refine v_newa (pc := 48) (h' := cst h o 7 [.ref (Ez E + (o + 1)), .ref (Ez E + (o + 2)), .ref (Ez E + (o + 3)), .ref (Ez E + (o + 4)), .ref (Ez E + (o + 5)), .int 0, .null, .null, .long 0, .null, .int 0, .int 0, .null, .int 0, .null, .int 0, .null, .int 0, .int 0, .int 0, .int 0, .int 0, .int 0, .int 0, .null, .null] (fun j => mC E (kA0, kI0, lN 0) (j + 1))) (a0 := (98, .inl zFn)) (M := 98) 0 ac_int rfl rfl (fun _ _ q => q) (fun _ => rfl) (by decide) (by decide) (by decide) (Nat.le_of_ble_eq_true rfl) (Nat.le_of_ble_eq_true rfl) dX7_init_48 (fun q _ => cst_new 5 (by omega) rfl q) ?_
  refine p_X7_25 (pc := 50) (h' := cst h o 7 [.ref (Ez E + (o + 1)), .ref (Ez E + (o + 2)), .ref (Ez E + (o + 3)), .ref (Ez E + (o + 4)), .ref (Ez E + (o + 5)), .int 0, .ref (Ez E + (o + 6)), .null, .long 0, .null, .int 0, .int 0, .null, .int 0, .null, .int 0, .null, .int 0, .int 0, .int 0, .int 0, .int 0, .int 0, .int 0, .null, .null] (fun j => mC E (kA0, kI0, lN 0) (j + 1))) hnm cst_o (by omega) rfl rfl (Nat.le_of_ble_eq_true rfl) dX7_init_50 (fun q _ => cst_put q) ?_
  refine v_aload_n (pc := 53) 0 dX7_init_53 rfl rfl ?_
  refine v_iconst (pc := 54) (nI 2) dX7_init_54 kI_2 ?_
  refine v_newa (pc := 55) (h' := cst h o 7 [.ref (Ez E + (o + 1)), .ref (Ez E + (o + 2)), .ref (Ez E + (o + 3)), .ref (Ez E + (o + 4)), .ref (Ez E + (o + 5)), .int 0, .ref (Ez E + (o + 6)), .null, .long 0, .null, .int 0, .int 0, .null, .int 0, .null, .int 0, .null, .int 0, .int 0, .int 0, .int 0, .int 0, .int 0, .int 0, .null, .null] (fun j => mC E (kA0, kI0, lN 0) (j + 1))) (a0 := (2, .inl zFn)) (M := 2) 1 ac_boolean rfl rfl (fun _ _ q => q) (fun _ => rfl) (by decide) (by decide) (by decide) (Nat.le_of_ble_eq_true rfl) (Nat.le_of_ble_eq_true rfl) dX7_init_55 (fun q _ => cst_new 6 (by omega) rfl q) ?_
  refine p_X7_28 (pc := 57) (h' := cst h o 7 [.ref (Ez E + (o + 1)), .ref (Ez E + (o + 2)), .ref (Ez E + (o + 3)), .ref (Ez E + (o + 4)), .ref (Ez E + (o + 5)), .int 0, .ref (Ez E + (o + 6)), .ref (Ez E + (o + 7)), .long 0, .null, .int 0, .int 0, .null, .int 0, .null, .int 0, .null, .int 0, .int 0, .int 0, .int 0, .int 0, .int 0, .int 0, .null, .null] (fun j => mC E (kA0, kI0, lN 0) (j + 1))) hnm cst_o (by omega) rfl rfl (Nat.le_of_ble_eq_true rfl) dX7_init_57 (fun q _ => cst_put q) ?_
  refine v_aload_n (pc := 60) 0 dX7_init_60 rfl rfl ?_
  refine v_sipush (pc := 61) (nI 240) dX7_init_61 kS_240 ?_
  refine v_newa (pc := 64) (h' := cst h o 7 [.ref (Ez E + (o + 1)), .ref (Ez E + (o + 2)), .ref (Ez E + (o + 3)), .ref (Ez E + (o + 4)), .ref (Ez E + (o + 5)), .int 0, .ref (Ez E + (o + 6)), .ref (Ez E + (o + 7)), .long 0, .null, .int 0, .int 0, .null, .int 0, .null, .int 0, .null, .int 0, .int 0, .int 0, .int 0, .int 0, .int 0, .int 0, .null, .null] (fun j => mC E (kA0, kI0, lN 0) (j + 1))) (a0 := (240, .inl zFn)) (M := 240) 0 ac_int rfl rfl (fun _ _ q => q) (fun _ => rfl) (by decide) (by decide) (by decide) (Nat.le_of_ble_eq_true rfl) (Nat.le_of_ble_eq_true rfl) dX7_init_64 (fun q _ => cst_new 7 (by omega) rfl q) ?_
  refine p_X7_32 (pc := 66) (h' := cst h o 7 [.ref (Ez E + (o + 1)), .ref (Ez E + (o + 2)), .ref (Ez E + (o + 3)), .ref (Ez E + (o + 4)), .ref (Ez E + (o + 5)), .int 0, .ref (Ez E + (o + 6)), .ref (Ez E + (o + 7)), .long 0, .ref (Ez E + (o + 8)), .int 0, .int 0, .null, .int 0, .null, .int 0, .null, .int 0, .int 0, .int 0, .int 0, .int 0, .int 0, .int 0, .null, .null] (fun j => mC E (kA0, kI0, lN 0) (j + 1))) hnm cst_o (by omega) rfl rfl (Nat.le_of_ble_eq_true rfl) dX7_init_66 (fun q _ => cst_put q) ?_
  refine v_aload_n (pc := 69) 0 dX7_init_69 rfl rfl ?_
  refine v_iconst (pc := 70) (-1) dX7_init_70 kI_m1 ?_
  refine p_X7_35 (pc := 71) (h' := cst h o 7 [.ref (Ez E + (o + 1)), .ref (Ez E + (o + 2)), .ref (Ez E + (o + 3)), .ref (Ez E + (o + 4)), .ref (Ez E + (o + 5)), .int 0, .ref (Ez E + (o + 6)), .ref (Ez E + (o + 7)), .long 0, .ref (Ez E + (o + 8)), .int 0, .int (-1), .null, .int 0, .null, .int 0, .null, .int 0, .int 0, .int 0, .int 0, .int 0, .int 0, .int 0, .null, .null] (fun j => mC E (kA0, kI0, lN 0) (j + 1))) cst_o (by omega) rfl rfl (Nat.le_of_ble_eq_true rfl) dX7_init_71 (fun q _ => cst_put q) ?_
  refine v_aload_n (pc := 74) 0 dX7_init_74 rfl rfl ?_
  refine v_bipush (pc := 75) (nI 6) dX7_init_75 kB_6 ?_
  refine v_newa (pc := 77) (h' := cst h o 7 [.ref (Ez E + (o + 1)), .ref (Ez E + (o + 2)), .ref (Ez E + (o + 3)), .ref (Ez E + (o + 4)), .ref (Ez E + (o + 5)), .int 0, .ref (Ez E + (o + 6)), .ref (Ez E + (o + 7)), .long 0, .ref (Ez E + (o + 8)), .int 0, .int (-1), .null, .int 0, .null, .int 0, .null, .int 0, .int 0, .int 0, .int 0, .int 0, .int 0, .int 0, .null, .null] (fun j => mC E (kA0, kI0, lN 0) (j + 1))) (a0 := (6, .inl zFn)) (M := 6) 0 ac_int rfl rfl (fun _ _ q => q) (fun _ => rfl) (by decide) (by decide) (by decide) (Nat.le_of_ble_eq_true rfl) (Nat.le_of_ble_eq_true rfl) dX7_init_77 (fun q _ => cst_new 8 (by omega) rfl q) ?_
  refine p_X7_39 (pc := 79) (h' := cst h o 7 [.ref (Ez E + (o + 1)), .ref (Ez E + (o + 2)), .ref (Ez E + (o + 3)), .ref (Ez E + (o + 4)), .ref (Ez E + (o + 5)), .int 0, .ref (Ez E + (o + 6)), .ref (Ez E + (o + 7)), .long 0, .ref (Ez E + (o + 8)), .int 0, .int (-1), .ref (Ez E + (o + 9)), .int 0, .null, .int 0, .null, .int 0, .int 0, .int 0, .int 0, .int 0, .int 0, .int 0, .null, .null] (fun j => mC E (kA0, kI0, lN 0) (j + 1))) hnm cst_o (by omega) rfl rfl (Nat.le_of_ble_eq_true rfl) dX7_init_79 (fun q _ => cst_put q) ?_
  refine v_aload_n (pc := 82) 0 dX7_init_82 rfl rfl ?_
  refine v_bipush (pc := 83) (nI 18) dX7_init_83 kB_18 ?_
  refine v_newa (pc := 85) (h' := cst h o 7 [.ref (Ez E + (o + 1)), .ref (Ez E + (o + 2)), .ref (Ez E + (o + 3)), .ref (Ez E + (o + 4)), .ref (Ez E + (o + 5)), .int 0, .ref (Ez E + (o + 6)), .ref (Ez E + (o + 7)), .long 0, .ref (Ez E + (o + 8)), .int 0, .int (-1), .ref (Ez E + (o + 9)), .int 0, .null, .int 0, .null, .int 0, .int 0, .int 0, .int 0, .int 0, .int 0, .int 0, .null, .null] (fun j => mC E (kA0, kI0, lN 0) (j + 1))) (a0 := (18, .inl zFn)) (M := 18) 0 ac_int rfl rfl (fun _ _ q => q) (fun _ => rfl) (by decide) (by decide) (by decide) (Nat.le_of_ble_eq_true rfl) (Nat.le_of_ble_eq_true rfl) dX7_init_85 (fun q _ => cst_new 9 (by omega) rfl q) ?_
  refine p_X7_42 (pc := 87) (h' := cst h o 7 [.ref (Ez E + (o + 1)), .ref (Ez E + (o + 2)), .ref (Ez E + (o + 3)), .ref (Ez E + (o + 4)), .ref (Ez E + (o + 5)), .int 0, .ref (Ez E + (o + 6)), .ref (Ez E + (o + 7)), .long 0, .ref (Ez E + (o + 8)), .int 0, .int (-1), .ref (Ez E + (o + 9)), .int 0, .ref (Ez E + (o + 10)), .int 0, .null, .int 0, .int 0, .int 0, .int 0, .int 0, .int 0, .int 0, .null, .null] (fun j => mC E (kA0, kI0, lN 0) (j + 1))) hnm cst_o (by omega) rfl rfl (Nat.le_of_ble_eq_true rfl) dX7_init_87 (fun q _ => cst_put q) ?_
  refine v_aload_n (pc := 90) 0 dX7_init_90 rfl rfl ?_
  refine v_bipush (pc := 91) (nI 30) dX7_init_91 kB_30 ?_
  refine v_newa (pc := 93) (h' := cst h o 7 [.ref (Ez E + (o + 1)), .ref (Ez E + (o + 2)), .ref (Ez E + (o + 3)), .ref (Ez E + (o + 4)), .ref (Ez E + (o + 5)), .int 0, .ref (Ez E + (o + 6)), .ref (Ez E + (o + 7)), .long 0, .ref (Ez E + (o + 8)), .int 0, .int (-1), .ref (Ez E + (o + 9)), .int 0, .ref (Ez E + (o + 10)), .int 0, .null, .int 0, .int 0, .int 0, .int 0, .int 0, .int 0, .int 0, .null, .null] (fun j => mC E (kA0, kI0, lN 0) (j + 1))) (a0 := (30, .inl zFn)) (M := 30) 0 ac_int rfl rfl (fun _ _ q => q) (fun _ => rfl) (by decide) (by decide) (by decide) (Nat.le_of_ble_eq_true rfl) (Nat.le_of_ble_eq_true rfl) dX7_init_93 (fun q _ => cst_new 10 (by omega) rfl q) ?_
  refine p_X7_45 (pc := 95) (h' := cst h o 7 [.ref (Ez E + (o + 1)), .ref (Ez E + (o + 2)), .ref (Ez E + (o + 3)), .ref (Ez E + (o + 4)), .ref (Ez E + (o + 5)), .int 0, .ref (Ez E + (o + 6)), .ref (Ez E + (o + 7)), .long 0, .ref (Ez E + (o + 8)), .int 0, .int (-1), .ref (Ez E + (o + 9)), .int 0, .ref (Ez E + (o + 10)), .int 0, .ref (Ez E + (o + 11)), .int 0, .int 0, .int 0, .int 0, .int 0, .int 0, .int 0, .null, .null] (fun j => mC E (kA0, kI0, lN 0) (j + 1))) hnm cst_o (by omega) rfl rfl (Nat.le_of_ble_eq_true rfl) dX7_init_95 (fun q _ => cst_put q) ?_
  refine v_aload_n (pc := 98) 0 dX7_init_98 rfl rfl ?_
  refine v_bipush (pc := 99) (nI 7) dX7_init_99 kB_7 ?_
  refine v_newa (pc := 101) (h' := cst h o 7 [.ref (Ez E + (o + 1)), .ref (Ez E + (o + 2)), .ref (Ez E + (o + 3)), .ref (Ez E + (o + 4)), .ref (Ez E + (o + 5)), .int 0, .ref (Ez E + (o + 6)), .ref (Ez E + (o + 7)), .long 0, .ref (Ez E + (o + 8)), .int 0, .int (-1), .ref (Ez E + (o + 9)), .int 0, .ref (Ez E + (o + 10)), .int 0, .ref (Ez E + (o + 11)), .int 0, .int 0, .int 0, .int 0, .int 0, .int 0, .int 0, .null, .null] (fun j => mC E (kA0, kI0, lN 0) (j + 1))) (a0 := (7, .inl zFn)) (M := 7) 0 ac_int rfl rfl (fun _ _ q => q) (fun _ => rfl) (by decide) (by decide) (by decide) (Nat.le_of_ble_eq_true rfl) (Nat.le_of_ble_eq_true rfl) dX7_init_101 (fun q _ => cst_new 11 (by omega) rfl q) ?_
  refine p_X7_48 (pc := 103) (h' := cst h o 7 [.ref (Ez E + (o + 1)), .ref (Ez E + (o + 2)), .ref (Ez E + (o + 3)), .ref (Ez E + (o + 4)), .ref (Ez E + (o + 5)), .int 0, .ref (Ez E + (o + 6)), .ref (Ez E + (o + 7)), .long 0, .ref (Ez E + (o + 8)), .int 0, .int (-1), .ref (Ez E + (o + 9)), .int 0, .ref (Ez E + (o + 10)), .int 0, .ref (Ez E + (o + 11)), .int 0, .int 0, .int 0, .int 0, .int 0, .int 0, .int 0, .ref (Ez E + (o + 12)), .null] (fun j => mC E (kA0, kI0, lN 0) (j + 1))) hnm cst_o (by omega) rfl rfl (Nat.le_of_ble_eq_true rfl) dX7_init_103 (fun q _ => cst_put q) ?_
  refine v_aload_n (pc := 106) 0 dX7_init_106 rfl rfl ?_
  refine v_sipush (pc := 107) (nI 512) dX7_init_107 kS_512 ?_
  refine v_newa (pc := 110) (h' := cst h o 7 [.ref (Ez E + (o + 1)), .ref (Ez E + (o + 2)), .ref (Ez E + (o + 3)), .ref (Ez E + (o + 4)), .ref (Ez E + (o + 5)), .int 0, .ref (Ez E + (o + 6)), .ref (Ez E + (o + 7)), .long 0, .ref (Ez E + (o + 8)), .int 0, .int (-1), .ref (Ez E + (o + 9)), .int 0, .ref (Ez E + (o + 10)), .int 0, .ref (Ez E + (o + 11)), .int 0, .int 0, .int 0, .int 0, .int 0, .int 0, .int 0, .ref (Ez E + (o + 12)), .null] (fun j => mC E (kA0, kI0, lN 0) (j + 1))) (a0 := (512, .inl zFn)) (M := 512) 0 ac_int rfl rfl (fun _ _ q => q) (fun _ => rfl) (by decide) (by decide) (by decide) (Nat.le_of_ble_eq_true rfl) (Nat.le_of_ble_eq_true rfl) dX7_init_110 (fun q _ => cst_new 12 (by omega) rfl q) ?_
  refine p_X7_51 (pc := 112) (h' := cst h o 7 [.ref (Ez E + (o + 1)), .ref (Ez E + (o + 2)), .ref (Ez E + (o + 3)), .ref (Ez E + (o + 4)), .ref (Ez E + (o + 5)), .int 0, .ref (Ez E + (o + 6)), .ref (Ez E + (o + 7)), .long 0, .ref (Ez E + (o + 8)), .int 0, .int (-1), .ref (Ez E + (o + 9)), .int 0, .ref (Ez E + (o + 10)), .int 0, .ref (Ez E + (o + 11)), .int 0, .int 0, .int 0, .int 0, .int 0, .int 0, .int 0, .ref (Ez E + (o + 12)), .ref (Ez E + (o + 13))] (fun j => mC E (kA0, kI0, lN 0) (j + 1))) hnm cst_o (by omega) rfl rfl (Nat.le_of_ble_eq_true rfl) dX7_init_112 (fun q _ => cst_put q) ?_
  refine v_aload_n (pc := 115) 0 dX7_init_115 rfl rfl ?_
  refine g_X7_16 (pc := 116) cst_o (by omega) rfl dX7_init_116 ?_
  refine v_bipush (pc := 119) (nI 26) dX7_init_119 kB_26 ?_
  refine v_iconst (pc := 121) (-1) dX7_init_121 kI_m1 ?_
  refine v_iastN (pc := 122) (h' := cst h o 7 [.ref (Ez E + (o + 1)), .ref (Ez E + (o + 2)), .ref (Ez E + (o + 3)), .ref (Ez E + (o + 4)), .ref (Ez E + (o + 5)), .int 0, .ref (Ez E + (o + 6)), .ref (Ez E + (o + 7)), .long 0, .ref (Ez E + (o + 8)), .int 0, .int (-1), .ref (Ez E + (o + 9)), .int 0, .ref (Ez E + (o + 10)), .int 0, .ref (Ez E + (o + 11)), .int 0, .int 0, .int 0, .int 0, .int 0, .int 0, .int 0, .ref (Ez E + (o + 12)), .ref (Ez E + (o + 13))] (fun j => mC E kM0 (j + 1))) (m := 26) (len := 48) (o := o + 3) (f := zFn) (cst_a (h := h) (o := o) 2) (by omega) (by omega) (by decide) dX7_init_122 (fun q _ => cst_now q) ?_
  exact v_vret (pc := 123) dX7_init_123 ⟨rfl, rfl⟩
