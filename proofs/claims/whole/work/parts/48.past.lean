/-! the past with its flocks, and the object itself -/
def qF (E : Ev) (n b i : Nat) : va_E := .inl (EF E, n, .inr (.inr (.inr (.inr (fun t => if t < i then some (Ez E + (b + 5 * t)) else none)))))
def paA (E : Ev) (o i : Nat) : Nat → va_E := fun j => if j = 0 then qF E 16 (o + 2) i else fC E (o + 2 + 5 * ((j - 1) / 5)) kF0 ((j - 1) % 5)
/-- a row of references with one more -/
theorem qF_up {E : Ev} {n b i : Nat} (hi : i < 2147483648) : (.inl (EF E, n, .inr (.inr (.inr (.inr (va_up (fun t => if t < i then some (Ez E + (b + 5 * t)) else none) (nI i).toNatClampNeg (some (Ez E + (b + 5 * i)))))))) : va_E) = qF E n b (i + 1) := by
  unfold qF
  rw [nI_clamp hi]
  congr 7
  funext t
  by_cases e : t = i
  · subst e; rw [va_up_self, if_pos (by omega)]
  · rw [va_up_ne _ _ e]
    by_cases q : t < i
    · rw [if_pos q, if_pos (by omega)]
    · rw [if_neg q, if_neg (by omega)]
theorem fC_fin {E : Ev} {a : Nat} : fC E a kF0 0 = .inr (0, [.int (nI 0), .int (nI 0), .int (nI 0), .int (-1), .int (nI 0), .ref (Ez E + (a + 1)), .ref (Ez E + (a + 2)), .ref (Ez E + (a + 3)), .ref (Ez E + (a + 4))]) := rfl
/-- a flock made at b + 5 * i, and put into a row at w: what the heap is -/
theorem flock_in {E : Ev} {g g2 : Hp} {b i w n : Nat} {e0 : va_E} (hw : w < b) (hgw : ∀ q, q < b + 5 * i → q ≠ w → g2 q = g q) (h2w : g2 w = qF E n b (i + 1)) (h2 : ∀ j, j < 5 → g2 (b + 5 * i + j) = fC E (b + 5 * i) kF0 j) (hi : i < 2147483648) (q : Nat) (hq : q < b + 5 * i + 5) :
    g2 q = va_up (cst (va_up g (b + 5 * i) e0) (b + 5 * i) 0 [.int (nI 0), .int (nI 0), .int (nI 0), .int (-1), .int (nI 0), .ref (Ez E + (b + 5 * i + 1)), .ref (Ez E + (b + 5 * i + 2)), .ref (Ez E + (b + 5 * i + 3)), .ref (Ez E + (b + 5 * i + 4))] (fun j => fC E (b + 5 * i) kF0 (j + 1))) w (.inl (EF E, n, .inr (.inr (.inr (.inr (va_up (fun t => if t < i then some (Ez E + (b + 5 * t)) else none) (nI i).toNatClampNeg (some (Ez E + (b + 5 * i)))))))))  q := by
  rw [qF_up hi]
  by_cases e : q = w
  · subst e; rw [va_up_self, h2w]
  · rw [va_up_ne _ _ e]
    by_cases q1 : q < b + 5 * i
    · rw [cst_l q1, va_up_ne _ _ (by omega), hgw q q1 e]
    · obtain ⟨j, hj, rfl⟩ : ∃ j, j < 5 ∧ q = b + 5 * i + j := ⟨q - (b + 5 * i), by omega, by omega⟩
      rw [h2 j hj]
      cases j with
      | zero => exact fC_fin.trans cst_o.symm
      | succ j =>
        rw [show b + 5 * i + (j + 1) = b + 5 * i + 1 + j by omega, cst_a]
set_option maxHeartbeats 4000000 in
set_option maxRecDepth 100000 in
theorem n_Past {E : Ev} {h : Hp} {o : Nat} (hc : h o = .inr (2, [.null, .int 0, .int 0])) : Ct E yX2_init cX2_init 2 none ({ frames := 2, cells := 81, slots := 848, locals := 40 } : Room) true (o + 1) [.ref (Ez E + o)] h (o + 82) 81 848 (Ff none (cst h o 2 [.ref (Ez E + (o + 1)), .int (nI 0), .int (nI 0)] (paA E o 16))) := by
  refine Ct.ofV (by decide) (Nat.le_of_ble_eq_true rfl) (fun X hnm => ?_)
  show V E X _ RX2 _ _ _ _ _ _ true (o + 1) 0 [(0, .ref (Ez E + o))] [] _
  refine v_heap (h' := cst h o 2 [.null, .int 0, .int 0] (paA E o 0)) (fun q hq => cst_in hc hq) ?_
  refine v_aload_n (pc := 0) 0 dX2_init_0 rfl rfl ?_
  refine v_objInit (pc := 1) ml_X2_3 dX2_init_1 (by decide) (by decide) ?_
  refine v_aload_n (pc := 4) 0 dX2_init_4 rfl rfl ?_
  refine v_bipush (pc := 5) (nI 16) dX2_init_5 kB_16 ?_
  refine v_newq (pc := 7) (h' := cst h o 2 [.null, .int 0, .int 0] (paA E o 0)) (M := 16) cl_X2_9 (by decide) (by decide) (by decide) (Nat.le_of_ble_eq_true rfl) (Nat.le_of_ble_eq_true rfl) dX2_init_7 (fun q _ => cst_new 0 (by omega) ?_ q) ?_
  · show qF E 16 (o + 2) 0 = _
    unfold qF
    congr 7
  refine p_X2_11 (pc := 10) (h' := cst h o 2 [.ref (Ez E + (o + 1)), .int 0, .int 0] (paA E o 0)) hnm cst_o (by omega) rfl rfl (Nat.le_of_ble_eq_true rfl) dX2_init_10 (fun q _ => cst_put q) ?_
  refine v_aload_n (pc := 13) 0 dX2_init_13 rfl rfl ?_
  refine v_iconst (pc := 14) (nI 0) dX2_init_14 kI_0 ?_
  refine p_X2_17 (pc := 15) (h' := cst h o 2 [.ref (Ez E + (o + 1)), .int (nI 0), .int 0] (paA E o 0)) cst_o (by omega) rfl rfl (Nat.le_of_ble_eq_true rfl) dX2_init_15 (fun q _ => cst_put q) ?_
  refine v_aload_n (pc := 18) 0 dX2_init_18 rfl rfl ?_
  refine v_iconst (pc := 19) (nI 0) dX2_init_19 kI_0 ?_
  refine p_X2_21 (pc := 20) (h' := cst h o 2 [.ref (Ez E + (o + 1)), .int (nI 0), .int (nI 0)] (paA E o (0))) cst_o (by omega) rfl rfl (Nat.le_of_ble_eq_true rfl) dX2_init_20 (fun q _ => cst_put q) ?_
  refine v_iconst (pc := 23) (nI 0) dX2_init_23 kI_0 ?_
  refine v_istore_n (pc := 24) [1, 0] [(0, _), (1, _)] dX2_init_24 rfl (by decide) rfl ?_
  refine dn (P := fun i => V E X ({ frames := 2, cells := 81, slots := 848, locals := 40 } : Room) RX2 cX2_init 2 none (1 + 5 * i) (16 + 52 * i) (QX E X true (o + 82) (Ff none (cst h o 2 [.ref (Ez E + (o + 1)), .int (nI 0), .int (nI 0)] (paA E o 16))) 81 848) true (o + 2 + 5 * i) 25 [(0, .ref (Ez E + o)), (1, .int (nI i))] [] (cst h o 2 [.ref (Ez E + (o + 1)), .int (nI 0), .int (nI 0)] (paA E o (i)))) (N := 16) ?_ ?_
  · refine v_iload_n (pc := 25) 1 dX2_init_25 rfl rfl ?_
    refine v_aload_n (pc := 26) 0 dX2_init_26 rfl rfl ?_
    refine g_X2_11 (pc := 27) cst_o (by omega) rfl dX2_init_27 ?_
    refine v_alen (pc := 30) 2 (nI 16) (cst_a (h := h) (o := o) 0) (by omega) rfl rfl dX2_init_30 ?_
    refine v_icmp_geN (pc := 31) (by omega) (by omega) (tgt := 53) dX2_init_31 rfl (fun c_31 => ?_) (fun c_31 => False.elim (absurd c_31 (by omega)))
    exact v_vret (pc := 53) dX2_init_53 ⟨rfl, rfl⟩
  · intro i hi ih
    have ih : V E X ({ frames := 2, cells := 81, slots := 848, locals := 40 } : Room) RX2 cX2_init 2 none (1 + 5 * i + 1 + 4) (16 + 52 * i + 9 + 43) (QX E X true (o + 82) (Ff none (cst h o 2 [.ref (Ez E + (o + 1)), .int (nI 0), .int (nI 0)] (paA E o 16))) 81 848) true (o + 2 + 5 * i + 5) 25 [(0, .ref (Ez E + o)), (1, .int (nI (i + 1)))] [] (cst h o 2 [.ref (Ez E + (o + 1)), .int (nI 0), .int (nI 0)] (paA E o (i + 1))) := by
      rw [show 1 + 5 * (i + 1) = 1 + 5 * i + 1 + 4 by omega, show 16 + 52 * (i + 1) = 16 + 52 * i + 9 + 43 by omega, show o + 2 + 5 * (i + 1) = o + 2 + 5 * i + 5 by omega] at ih
      exact ih
    refine v_iload_n (pc := 25) 1 dX2_init_25 rfl rfl ?_
    refine v_aload_n (pc := 26) 0 dX2_init_26 rfl rfl ?_
    refine g_X2_11 (pc := 27) cst_o (by omega) rfl dX2_init_27 ?_
    refine v_alen (pc := 30) 2 (nI 16) (cst_a (h := h) (o := o) 0) (by omega) rfl rfl dX2_init_30 ?_
    refine v_icmp_geN (pc := 31) (by omega) (by omega) (tgt := 53) dX2_init_31 rfl (fun c_31 => False.elim (absurd c_31 (by omega))) (fun c_31 => ?_)
    refine v_aload_n (pc := 34) 0 dX2_init_34 rfl rfl ?_
    refine g_X2_11 (pc := 35) cst_o (by omega) rfl dX2_init_35 ?_
    refine v_iload_n (pc := 38) 1 dX2_init_38 rfl rfl ?_
    refine v_new (pc := 39) (fs := [.int 0, .int 0, .int 0, .int 0, .int 0, .null, .null, .null, .null]) (h' := va_up (cst h o 2 [.ref (Ez E + (o + 1)), .int (nI 0), .int (nI 0)] (paA E o (i))) (o + 2 + 5 * i) (.inr (0, [.int 0, .int 0, .int 0, .int 0, .int 0, .null, .null, .null, .null]))) inB0 tyX0 tyX0_ok (ci := 0) rfl cl_X2_9 ia_X0 in_X0 (fun j hj => by rcases (show j = 0 ∨ j = 1 ∨ j = 2 ∨ j = 3 ∨ j = 4 ∨ j = 5 ∨ j = 6 ∨ j = 7 ∨ j = 8 by omega) with rfl | rfl | rfl | rfl | rfl | rfl | rfl | rfl | rfl <;> rfl) (by show _ ≤ 81; omega) (by show _ ≤ 848; omega) dX2_init_39 (fun _ _ => rfl) ?_
    refine v_dup (pc := 42) dX2_init_42 rfl ?_
    refine v_callIN (pc := 43) [] _ k_X2_24 (n_Flock (o := o + 2 + 5 * i) (va_up_self _ _ _)) ⟨rfl, rfl, by decide⟩ rfl rfl (Nat.le_of_ble_eq_true rfl) ⟨by show _ ≤ 81; omega, by show _ ≤ 848; omega⟩ dX2_init_43 (unS ?_)
    show V E X _ RX2 _ _ _ (1 + 5 * i + 1 + 4) (16 + 52 * i + 9 + 43) _ true (o + 2 + 5 * i + 5) 46 _ [_, _, _] _
    refine v_aast (pc := 46) (h' := cst h o 2 [.ref (Ez E + (o + 1)), .int (nI 0), .int (nI 0)] (paA E o (i + 1))) (o := o + 1) (ov := o + 2 + 5 * i) (len := 16) (f := fun t => if t < i then some (Ez E + (o + 2 + 5 * t)) else none) ?_ (by omega) cst_o (by omega) (vp_in_nI (by omega) (by decide)) dX2_init_46 (fun q hq => flock_in (g := cst h o 2 [.ref (Ez E + (o + 1)), .int (nI 0), .int (nI 0)] (paA E o (i))) (n := 16) (by omega) (fun q h1 h2 => ?_) ?_ (fun j hj => ?_) (by omega) q hq) ?_
    · rw [cst_l (by omega), va_up_ne _ _ (by omega)]
      exact cst_a (h := h) (o := o) 0
    · unfold cst
      by_cases e1 : q = o
      · rw [if_pos e1, if_pos e1]
      · rw [if_neg e1, if_neg e1]
        by_cases e2 : o < q
        · rw [if_pos e2, if_pos e2]
          unfold paA
          rw [if_neg (by omega), if_neg (by omega)]
        · rw [if_neg e2, if_neg e2]
    · exact cst_a (h := h) (o := o) 0
    · rw [show o + 2 + 5 * i + j = o + 1 + (1 + 5 * i + j) by omega, cst_a]
      unfold paA
      rw [if_neg (by omega), show (1 + 5 * i + j - 1) / 5 = i by omega, show (1 + 5 * i + j - 1) % 5 = j by omega]
    refine v_iincN (pc := 47) 1 [1, 0] [(0, _), (1, _)] kI_1 dX2_init_47 rfl (by decide) rfl ?_
    refine v_goto (pc := 50) (tgt := 25) dX2_init_50 rfl ?_
    exact ih
