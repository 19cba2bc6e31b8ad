/-! the object itself is made -/
def aU (E : Ev) (i : Nat) : Nat → va_E := fun j => if j = 108 then qF E 2 122 i else cellOf E kG0 (j + 1)
theorem gU_at {E : Ev} {h : Hp} {fs : List Value} {i q : Nat} (h1 : 1 ≤ q) (h2 : q ≠ 109) : cst h 0 6 fs (aU E i) q = cellOf E kG0 q := by
  obtain ⟨j, rfl⟩ : ∃ j, q = 0 + 1 + j := ⟨q - 1, by omega⟩
  rw [cst_a]
  unfold aU
  rw [if_neg (by omega)]
  congr 1
  omega
theorem sub_in {G : Hp} {N N2 ci : Nat} {e : va_E} {fin : List Value} {aN : Nat → va_E} (h0 : G N = .inr (ci, fin)) (ha : ∀ j, N + 1 + j < N2 → aN j = G (N + 1 + j)) {q : Nat} (hq : q < N2) : cst (va_up G N e) N ci fin aN q = G q := by
  by_cases q1 : q < N
  · rw [cst_l q1, va_up_ne _ _ (by omega)]
  · by_cases q2 : q = N
    · subst q2; rw [cst_o, h0]
    · obtain ⟨j, rfl⟩ : ∃ j, q = N + 1 + j := ⟨q - N - 1, by omega⟩
      rw [cst_a, ha j hq]
theorem past_in {E : Ev} {j : Nat} (hj : 27 + 1 + j < 109) : paA E 27 16 j = cellOf E kG0 (27 + 1 + j) := by
  unfold paA
  by_cases e : j = 0
  · subst e
    rw [if_pos rfl]
    show qF E 16 29 16 = cellOf E kG0 28
    rw [cQr_f]
    unfold qF
    congr 7
    funext t
    by_cases q : t < 16
    · rw [if_pos q, if_pos q]
      have := adr_cases (k := 2 + t) (by omega)
      rw [show adr (2 + t) = 29 + 5 * t by omega]
    · rw [if_neg q, if_neg q]
  · rw [if_neg e]
    have q := cF_at E kG0 (k := 2 + (j - 1) / 5) (j := (j - 1) % 5) (by omega) (by omega)
    have := adr_cases (k := 2 + (j - 1) / 5) (by omega)
    rw [show adr (2 + (j - 1) / 5) = 27 + 2 + 5 * ((j - 1) / 5) by omega, show 27 + 2 + 5 * ((j - 1) / 5) + (j - 1) % 5 = 27 + 1 + j by omega] at q
    rw [q]
    rfl
set_option maxHeartbeats 4000000 in
set_option maxRecDepth 100000 in
theorem n_Sparrow {E : Ev} {h : Hp} (hc : h 0 = .inr (6, [.null, .null, .null, .null, .null, .null, .null, .null, .null, .null, .null, .null, .int 0])) : Ct E yX6_init cX6_init 2 none ({ frames := 3, cells := 131, slots := 2013, locals := 61 } : Room) true 1 [.ref (Ez E + 0)] h 132 131 2013 (Ff none (cellOf E kG0)) := by
  refine Ct.ofV (by decide) (Nat.le_of_ble_eq_true rfl) (fun X hnm => ?_)
  show V E X _ RX6 _ _ _ _ _ _ true 1 0 [(0, .ref (Ez E + 0))] [] _
  refine v_heap (h' := cst h 0 6 [.null, .null, .null, .null, .null, .null, .null, .null, .null, .null, .null, .null, .int 0] (aU E 0)) (fun q hq => cst_in hc hq) ?_
  refine v_aload_n (pc := 0) 0 dX6_init_0 rfl rfl ?_
  refine v_objInit (pc := 1) ml_X6_1 dX6_init_1 (by decide) (by decide) ?_
  refine v_aload_n (pc := 4) 0 dX6_init_4 rfl rfl ?_
  refine v_new (pc := 5) (fs := [.null, .int 0, .int 0, .int 0, .int 0, .int 0]) (h' := va_up (cst h 0 6 [.null, .null, .null, .null, .null, .null, .null, .null, .null, .null, .null, .null, .int 0] (aU E 0)) 1 (.inr (5, [.null, .int 0, .int 0, .int 0, .int 0, .int 0]))) inB5 tyX5 tyX5_ok (ci := 5) rfl cl_X6_7 ia_X5 in_X5 (fun j hj => by rcases (show j = 0 ∨ j = 1 ∨ j = 2 ∨ j = 3 ∨ j = 4 ∨ j = 5 by omega) with rfl | rfl | rfl | rfl | rfl | rfl <;> rfl) (Nat.le_of_ble_eq_true rfl) (Nat.le_of_ble_eq_true rfl) dX6_init_5 (fun _ _ => rfl) ?_
  refine v_dup (pc := 8) dX6_init_8 rfl ?_
  refine v_callIN (pc := 9) [] _ k_X6_9 (n_Text (o := 1) (va_up_self _ _ _)) ⟨rfl, rfl, by decide⟩ rfl rfl (Nat.le_of_ble_eq_true rfl) ⟨Nat.le_of_ble_eq_true rfl, Nat.le_of_ble_eq_true rfl⟩ dX6_init_9 (unS ?_)
  show V E X _ RX6 _ _ _ 2 246 _ true 3 12 _ [_, _] _
  refine v_heap (h' := cst h 0 6 [.null, .null, .null, .null, .null, .null, .null, .null, .null, .null, .null, .null, .int 0] (aU E 0)) (fun q hq => sub_in (N := 1) (N2 := 3) ((gU_at (by omega) (by omega)).trans rfl) (fun j hj => by rw [gU_at (by omega) (by omega)]; rcases (show j = 0 by omega) with rfl; rfl) hq) ?_
  refine p_X6_10 (pc := 12) (h' := cst h 0 6 [.ref (Ez E + 1), .null, .null, .null, .null, .null, .null, .null, .null, .null, .null, .null, .int 0] (aU E 0)) hnm cst_o (by omega) rfl rfl (Nat.le_of_ble_eq_true rfl) dX6_init_12 (fun q _ => cst_put q) ?_
  refine v_aload_n (pc := 15) 0 dX6_init_15 rfl rfl ?_
  refine v_new (pc := 16) (fs := [.int 0, .int 0, .int 0, .int 0, .int 0, .null, .null, .null, .null, .null, .null]) (h' := va_up (cst h 0 6 [.ref (Ez E + 1), .null, .null, .null, .null, .null, .null, .null, .null, .null, .null, .null, .int 0] (aU E 0)) 3 (.inr (1, [.int 0, .int 0, .int 0, .int 0, .int 0, .null, .null, .null, .null, .null, .null]))) inB1 tyX1 tyX1_ok (ci := 1) rfl cl_X6_16 ia_X1 in_X1 (fun j hj => by rcases (show j = 0 ∨ j = 1 ∨ j = 2 ∨ j = 3 ∨ j = 4 ∨ j = 5 ∨ j = 6 ∨ j = 7 ∨ j = 8 ∨ j = 9 ∨ j = 10 by omega) with rfl | rfl | rfl | rfl | rfl | rfl | rfl | rfl | rfl | rfl | rfl <;> rfl) (Nat.le_of_ble_eq_true rfl) (Nat.le_of_ble_eq_true rfl) dX6_init_16 (fun _ _ => rfl) ?_
  refine v_dup (pc := 19) dX6_init_19 rfl ?_
  refine v_callIN (pc := 20) [] _ k_X6_18 (n_Parish (o := 3) (va_up_self _ _ _)) ⟨rfl, rfl, by decide⟩ rfl rfl (Nat.le_of_ble_eq_true rfl) ⟨Nat.le_of_ble_eq_true rfl, Nat.le_of_ble_eq_true rfl⟩ dX6_init_20 (unS ?_)
  show V E X _ RX6 _ _ _ 9 305 _ true 10 23 _ [_, _] _
  refine v_heap (h' := cst h 0 6 [.ref (Ez E + 1), .null, .null, .null, .null, .null, .null, .null, .null, .null, .null, .null, .int 0] (aU E 0)) (fun q hq => sub_in (N := 3) (N2 := 10) ((gU_at (by omega) (by omega)).trans rfl) (fun j hj => by rw [gU_at (by omega) (by omega)]; rcases (show j = 0 ∨ j = 1 ∨ j = 2 ∨ j = 3 ∨ j = 4 ∨ j = 5 by omega) with rfl | rfl | rfl | rfl | rfl | rfl <;> rfl) hq) ?_
  refine p_X6_19 (pc := 23) (h' := cst h 0 6 [.ref (Ez E + 1), .ref (Ez E + 3), .null, .null, .null, .null, .null, .null, .null, .null, .null, .null, .int 0] (aU E 0)) cst_o (by omega) rfl rfl (Nat.le_of_ble_eq_true rfl) dX6_init_23 (fun q _ => cst_put q) ?_
  refine v_aload_n (pc := 26) 0 dX6_init_26 rfl rfl ?_
  refine v_new (pc := 27) (fs := [.int 0, .int 0, .int 0, .int 0, .int 0, .null, .null, .null, .null, .null, .null]) (h' := va_up (cst h 0 6 [.ref (Ez E + 1), .ref (Ez E + 3), .null, .null, .null, .null, .null, .null, .null, .null, .null, .null, .int 0] (aU E 0)) 10 (.inr (1, [.int 0, .int 0, .int 0, .int 0, .int 0, .null, .null, .null, .null, .null, .null]))) inB1 tyX1 tyX1_ok (ci := 1) rfl cl_X6_16 ia_X1 in_X1 (fun j hj => by rcases (show j = 0 ∨ j = 1 ∨ j = 2 ∨ j = 3 ∨ j = 4 ∨ j = 5 ∨ j = 6 ∨ j = 7 ∨ j = 8 ∨ j = 9 ∨ j = 10 by omega) with rfl | rfl | rfl | rfl | rfl | rfl | rfl | rfl | rfl | rfl | rfl <;> rfl) (Nat.le_of_ble_eq_true rfl) (Nat.le_of_ble_eq_true rfl) dX6_init_27 (fun _ _ => rfl) ?_
  refine v_dup (pc := 30) dX6_init_30 rfl ?_
  refine v_callIN (pc := 31) [] _ k_X6_18 (n_Parish (o := 10) (va_up_self _ _ _)) ⟨rfl, rfl, by decide⟩ rfl rfl (Nat.le_of_ble_eq_true rfl) ⟨Nat.le_of_ble_eq_true rfl, Nat.le_of_ble_eq_true rfl⟩ dX6_init_31 (unS ?_)
  show V E X _ RX6 _ _ _ 16 364 _ true 17 34 _ [_, _] _
  refine v_heap (h' := cst h 0 6 [.ref (Ez E + 1), .ref (Ez E + 3), .null, .null, .null, .null, .null, .null, .null, .null, .null, .null, .int 0] (aU E 0)) (fun q hq => sub_in (N := 10) (N2 := 17) ((gU_at (by omega) (by omega)).trans rfl) (fun j hj => by rw [gU_at (by omega) (by omega)]; rcases (show j = 0 ∨ j = 1 ∨ j = 2 ∨ j = 3 ∨ j = 4 ∨ j = 5 by omega) with rfl | rfl | rfl | rfl | rfl | rfl <;> rfl) hq) ?_
  refine p_X6_23 (pc := 34) (h' := cst h 0 6 [.ref (Ez E + 1), .ref (Ez E + 3), .ref (Ez E + 10), .null, .null, .null, .null, .null, .null, .null, .null, .null, .int 0] (aU E 0)) cst_o (by omega) rfl rfl (Nat.le_of_ble_eq_true rfl) dX6_init_34 (fun q _ => cst_put q) ?_
  refine v_aload_n (pc := 37) 0 dX6_init_37 rfl rfl ?_
  refine v_new (pc := 38) (fs := [.int 0, .int 0, .int 0, .int 0, .int 0, .null, .null, .null, .null]) (h' := va_up (cst h 0 6 [.ref (Ez E + 1), .ref (Ez E + 3), .ref (Ez E + 10), .null, .null, .null, .null, .null, .null, .null, .null, .null, .int 0] (aU E 0)) 17 (.inr (0, [.int 0, .int 0, .int 0, .int 0, .int 0, .null, .null, .null, .null]))) inB0 tyX0 tyX0_ok (ci := 0) rfl cl_X6_26 ia_X0 in_X0 (fun j hj => by rcases (show j = 0 ∨ j = 1 ∨ j = 2 ∨ j = 3 ∨ j = 4 ∨ j = 5 ∨ j = 6 ∨ j = 7 ∨ j = 8 by omega) with rfl | rfl | rfl | rfl | rfl | rfl | rfl | rfl | rfl <;> rfl) (Nat.le_of_ble_eq_true rfl) (Nat.le_of_ble_eq_true rfl) dX6_init_38 (fun _ _ => rfl) ?_
  refine v_dup (pc := 41) dX6_init_41 rfl ?_
  refine v_callIN (pc := 42) [] _ k_X6_28 (n_Flock (o := 17) (va_up_self _ _ _)) ⟨rfl, rfl, by decide⟩ rfl rfl (Nat.le_of_ble_eq_true rfl) ⟨Nat.le_of_ble_eq_true rfl, Nat.le_of_ble_eq_true rfl⟩ dX6_init_42 (unS ?_)
  show V E X _ RX6 _ _ _ 21 416 _ true 22 45 _ [_, _] _
  refine v_heap (h' := cst h 0 6 [.ref (Ez E + 1), .ref (Ez E + 3), .ref (Ez E + 10), .null, .null, .null, .null, .null, .null, .null, .null, .null, .int 0] (aU E 0)) (fun q hq => sub_in (N := 17) (N2 := 22) ((gU_at (by omega) (by omega)).trans rfl) (fun j hj => by rw [gU_at (by omega) (by omega)]; rcases (show j = 0 ∨ j = 1 ∨ j = 2 ∨ j = 3 by omega) with rfl | rfl | rfl | rfl <;> rfl) hq) ?_
  refine p_X6_29 (pc := 45) (h' := cst h 0 6 [.ref (Ez E + 1), .ref (Ez E + 3), .ref (Ez E + 10), .ref (Ez E + 17), .null, .null, .null, .null, .null, .null, .null, .null, .int 0] (aU E 0)) hnm cst_o (by omega) rfl rfl (Nat.le_of_ble_eq_true rfl) dX6_init_45 (fun q _ => cst_put q) ?_
  refine v_aload_n (pc := 48) 0 dX6_init_48 rfl rfl ?_
  refine v_new (pc := 49) (fs := [.int 0, .int 0, .int 0, .int 0, .int 0, .null, .null, .null, .null]) (h' := va_up (cst h 0 6 [.ref (Ez E + 1), .ref (Ez E + 3), .ref (Ez E + 10), .ref (Ez E + 17), .null, .null, .null, .null, .null, .null, .null, .null, .int 0] (aU E 0)) 22 (.inr (0, [.int 0, .int 0, .int 0, .int 0, .int 0, .null, .null, .null, .null]))) inB0 tyX0 tyX0_ok (ci := 0) rfl cl_X6_26 ia_X0 in_X0 (fun j hj => by rcases (show j = 0 ∨ j = 1 ∨ j = 2 ∨ j = 3 ∨ j = 4 ∨ j = 5 ∨ j = 6 ∨ j = 7 ∨ j = 8 by omega) with rfl | rfl | rfl | rfl | rfl | rfl | rfl | rfl | rfl <;> rfl) (Nat.le_of_ble_eq_true rfl) (Nat.le_of_ble_eq_true rfl) dX6_init_49 (fun _ _ => rfl) ?_
  refine v_dup (pc := 52) dX6_init_52 rfl ?_
  refine v_callIN (pc := 53) [] _ k_X6_28 (n_Flock (o := 22) (va_up_self _ _ _)) ⟨rfl, rfl, by decide⟩ rfl rfl (Nat.le_of_ble_eq_true rfl) ⟨Nat.le_of_ble_eq_true rfl, Nat.le_of_ble_eq_true rfl⟩ dX6_init_53 (unS ?_)
  show V E X _ RX6 _ _ _ 26 468 _ true 27 56 _ [_, _] _
  refine v_heap (h' := cst h 0 6 [.ref (Ez E + 1), .ref (Ez E + 3), .ref (Ez E + 10), .ref (Ez E + 17), .null, .null, .null, .null, .null, .null, .null, .null, .int 0] (aU E 0)) (fun q hq => sub_in (N := 22) (N2 := 27) ((gU_at (by omega) (by omega)).trans rfl) (fun j hj => by rw [gU_at (by omega) (by omega)]; rcases (show j = 0 ∨ j = 1 ∨ j = 2 ∨ j = 3 by omega) with rfl | rfl | rfl | rfl <;> rfl) hq) ?_
  refine p_X6_33 (pc := 56) (h' := cst h 0 6 [.ref (Ez E + 1), .ref (Ez E + 3), .ref (Ez E + 10), .ref (Ez E + 17), .ref (Ez E + 22), .null, .null, .null, .null, .null, .null, .null, .int 0] (aU E 0)) hnm cst_o (by omega) rfl rfl (Nat.le_of_ble_eq_true rfl) dX6_init_56 (fun q _ => cst_put q) ?_
  refine v_aload_n (pc := 59) 0 dX6_init_59 rfl rfl ?_
  refine v_new (pc := 60) (fs := [.null, .int 0, .int 0]) (h' := va_up (cst h 0 6 [.ref (Ez E + 1), .ref (Ez E + 3), .ref (Ez E + 10), .ref (Ez E + 17), .ref (Ez E + 22), .null, .null, .null, .null, .null, .null, .null, .int 0] (aU E 0)) 27 (.inr (2, [.null, .int 0, .int 0]))) inB2 tyX2 tyX2_ok (ci := 2) rfl cl_X6_36 ia_X2 in_X2 (fun j hj => by rcases (show j = 0 ∨ j = 1 ∨ j = 2 by omega) with rfl | rfl | rfl <;> rfl) (Nat.le_of_ble_eq_true rfl) (Nat.le_of_ble_eq_true rfl) dX6_init_60 (fun _ _ => rfl) ?_
  refine v_dup (pc := 63) dX6_init_63 rfl ?_
  refine v_callI (pc := 64) [] _ k_X6_38 (n_Past (o := 27) (va_up_self _ _ _)) ⟨rfl, rfl, by decide⟩ rfl rfl (Nat.le_of_ble_eq_true rfl) ⟨Nat.le_of_ble_eq_true rfl, Nat.le_of_ble_eq_true rfl⟩ dX6_init_64 (unS ?_)
  show V E X _ RX6 _ _ _ 108 1319 _ true 109 67 _ [_, _] _
  refine v_heap (h' := cst h 0 6 [.ref (Ez E + 1), .ref (Ez E + 3), .ref (Ez E + 10), .ref (Ez E + 17), .ref (Ez E + 22), .null, .null, .null, .null, .null, .null, .null, .int 0] (aU E 0)) (fun q hq => sub_in (N := 27) (N2 := 109) ((gU_at (by omega) (by omega)).trans rfl) (fun j hj => (past_in hj).trans (gU_at (by omega) (by omega)).symm) hq) ?_
  refine p_X6_39 (pc := 67) (h' := cst h 0 6 [.ref (Ez E + 1), .ref (Ez E + 3), .ref (Ez E + 10), .ref (Ez E + 17), .ref (Ez E + 22), .ref (Ez E + 27), .null, .null, .null, .null, .null, .null, .int 0] (aU E 0)) hnm cst_o (by omega) rfl rfl (Nat.le_of_ble_eq_true rfl) dX6_init_67 (fun q _ => cst_put q) ?_
  refine v_aload_n (pc := 70) 0 dX6_init_70 rfl rfl ?_
  refine v_iconst (pc := 71) (nI 2) dX6_init_71 kI_2 ?_
  refine v_newq (pc := 72) (h' := cst h 0 6 [.ref (Ez E + 1), .ref (Ez E + 3), .ref (Ez E + 10), .ref (Ez E + 17), .ref (Ez E + 22), .ref (Ez E + 27), .null, .null, .null, .null, .null, .null, .int 0] (aU E 0)) (M := 2) cl_X6_26 (by decide) (by decide) (by decide) (Nat.le_of_ble_eq_true rfl) (Nat.le_of_ble_eq_true rfl) dX6_init_72 (fun q _ => cst_new 108 (by omega) (by show qF E 2 122 0 = _; unfold qF; congr 7) q) ?_
  refine p_X6_43 (pc := 75) (h' := cst h 0 6 [.ref (Ez E + 1), .ref (Ez E + 3), .ref (Ez E + 10), .ref (Ez E + 17), .ref (Ez E + 22), .ref (Ez E + 27), .ref (Ez E + 109), .null, .null, .null, .null, .null, .int 0] (aU E 0)) hnm cst_o (by omega) rfl rfl (Nat.le_of_ble_eq_true rfl) dX6_init_75 (fun q _ => cst_put q) ?_
  refine v_aload_n (pc := 78) 0 dX6_init_78 rfl rfl ?_
  refine v_iconst (pc := 79) (nI 2) dX6_init_79 kI_2 ?_
  refine v_newa (pc := 80) (h' := cst h 0 6 [.ref (Ez E + 1), .ref (Ez E + 3), .ref (Ez E + 10), .ref (Ez E + 17), .ref (Ez E + 22), .ref (Ez E + 27), .ref (Ez E + 109), .null, .null, .null, .null, .null, .int 0] (aU E 0)) (a0 := (2, .inl zFn)) (M := 2) 0 ac_int rfl rfl (fun _ _ q => q) (fun _ => rfl) (by decide) (by decide) (by decide) (Nat.le_of_ble_eq_true rfl) (Nat.le_of_ble_eq_true rfl) dX6_init_80 (fun q _ => cst_new 109 (by omega) rfl q) ?_
  refine p_X6_47 (pc := 82) (h' := cst h 0 6 [.ref (Ez E + 1), .ref (Ez E + 3), .ref (Ez E + 10), .ref (Ez E + 17), .ref (Ez E + 22), .ref (Ez E + 27), .ref (Ez E + 109), .ref (Ez E + 110), .null, .null, .null, .null, .int 0] (aU E 0)) hnm cst_o (by omega) rfl rfl (Nat.le_of_ble_eq_true rfl) dX6_init_82 (fun q _ => cst_put q) ?_
  refine v_aload_n (pc := 85) 0 dX6_init_85 rfl rfl ?_
  refine v_iconst (pc := 86) (nI 2) dX6_init_86 kI_2 ?_
  refine v_newa (pc := 87) (h' := cst h 0 6 [.ref (Ez E + 1), .ref (Ez E + 3), .ref (Ez E + 10), .ref (Ez E + 17), .ref (Ez E + 22), .ref (Ez E + 27), .ref (Ez E + 109), .ref (Ez E + 110), .null, .null, .null, .null, .int 0] (aU E 0)) (a0 := (2, .inl zFn)) (M := 2) 1 ac_boolean rfl rfl (fun _ _ q => q) (fun _ => rfl) (by decide) (by decide) (by decide) (Nat.le_of_ble_eq_true rfl) (Nat.le_of_ble_eq_true rfl) dX6_init_87 (fun q _ => cst_new 110 (by omega) rfl q) ?_
  refine p_X6_51 (pc := 89) (h' := cst h 0 6 [.ref (Ez E + 1), .ref (Ez E + 3), .ref (Ez E + 10), .ref (Ez E + 17), .ref (Ez E + 22), .ref (Ez E + 27), .ref (Ez E + 109), .ref (Ez E + 110), .ref (Ez E + 111), .null, .null, .null, .int 0] (aU E 0)) hnm cst_o (by omega) rfl rfl (Nat.le_of_ble_eq_true rfl) dX6_init_89 (fun q _ => cst_put q) ?_
  refine v_aload_n (pc := 92) 0 dX6_init_92 rfl rfl ?_
  refine v_new (pc := 93) (fs := [.null, .null]) (h' := va_up (cst h 0 6 [.ref (Ez E + 1), .ref (Ez E + 3), .ref (Ez E + 10), .ref (Ez E + 17), .ref (Ez E + 22), .ref (Ez E + 27), .ref (Ez E + 109), .ref (Ez E + 110), .ref (Ez E + 111), .null, .null, .null, .int 0] (aU E 0)) 112 (.inr (4, [.null, .null]))) inB4 tyX4 tyX4_ok (ci := 4) rfl cl_X6_55 ia_X4 in_X4 (fun j hj => by rcases (show j = 0 ∨ j = 1 by omega) with rfl | rfl <;> rfl) (Nat.le_of_ble_eq_true rfl) (Nat.le_of_ble_eq_true rfl) dX6_init_93 (fun _ _ => rfl) ?_
  refine v_dup (pc := 96) dX6_init_96 rfl ?_
  refine v_callIN (pc := 97) [] _ k_X6_57 (n_Settling (o := 112) (va_up_self _ _ _)) ⟨rfl, rfl, by decide⟩ rfl rfl (Nat.le_of_ble_eq_true rfl) ⟨Nat.le_of_ble_eq_true rfl, Nat.le_of_ble_eq_true rfl⟩ dX6_init_97 (unS ?_)
  show V E X _ RX6 _ _ _ 114 1846 _ true 115 100 _ [_, _] _
  refine v_heap (h' := cst h 0 6 [.ref (Ez E + 1), .ref (Ez E + 3), .ref (Ez E + 10), .ref (Ez E + 17), .ref (Ez E + 22), .ref (Ez E + 27), .ref (Ez E + 109), .ref (Ez E + 110), .ref (Ez E + 111), .null, .null, .null, .int 0] (aU E 0)) (fun q hq => sub_in (N := 112) (N2 := 115) ((gU_at (by omega) (by omega)).trans rfl) (fun j hj => by rw [gU_at (by omega) (by omega)]; rcases (show j = 0 ∨ j = 1 by omega) with rfl | rfl <;> rfl) hq) ?_
  refine p_X6_58 (pc := 100) (h' := cst h 0 6 [.ref (Ez E + 1), .ref (Ez E + 3), .ref (Ez E + 10), .ref (Ez E + 17), .ref (Ez E + 22), .ref (Ez E + 27), .ref (Ez E + 109), .ref (Ez E + 110), .ref (Ez E + 111), .ref (Ez E + 112), .null, .null, .int 0] (aU E 0)) hnm cst_o (by omega) rfl rfl (Nat.le_of_ble_eq_true rfl) dX6_init_100 (fun q _ => cst_put q) ?_
  refine v_aload_n (pc := 103) 0 dX6_init_103 rfl rfl ?_
  refine v_new (pc := 104) (fs := [.null, .null, .null, .null, .null, .int 0, .int 0, .int 0]) (h' := va_up (cst h 0 6 [.ref (Ez E + 1), .ref (Ez E + 3), .ref (Ez E + 10), .ref (Ez E + 17), .ref (Ez E + 22), .ref (Ez E + 27), .ref (Ez E + 109), .ref (Ez E + 110), .ref (Ez E + 111), .ref (Ez E + 112), .null, .null, .int 0] (aU E 0)) 115 (.inr (3, [.null, .null, .null, .null, .null, .int 0, .int 0, .int 0]))) inB3 tyX3 tyX3_ok (ci := 3) rfl cl_X6_62 ia_X3 in_X3 (fun j hj => by rcases (show j = 0 ∨ j = 1 ∨ j = 2 ∨ j = 3 ∨ j = 4 ∨ j = 5 ∨ j = 6 ∨ j = 7 by omega) with rfl | rfl | rfl | rfl | rfl | rfl | rfl | rfl <;> rfl) (Nat.le_of_ble_eq_true rfl) (Nat.le_of_ble_eq_true rfl) dX6_init_104 (fun _ _ => rfl) ?_
  refine v_dup (pc := 107) dX6_init_107 rfl ?_
  refine v_callIN (pc := 108) [] _ k_X6_64 (n_Seen (o := 115) (va_up_self _ _ _)) ⟨rfl, rfl, by decide⟩ rfl rfl (Nat.le_of_ble_eq_true rfl) ⟨Nat.le_of_ble_eq_true rfl, Nat.le_of_ble_eq_true rfl⟩ dX6_init_108 (unS ?_)
  show V E X _ RX6 _ _ _ 120 1902 _ true 121 111 _ [_, _] _
  refine v_heap (h' := cst h 0 6 [.ref (Ez E + 1), .ref (Ez E + 3), .ref (Ez E + 10), .ref (Ez E + 17), .ref (Ez E + 22), .ref (Ez E + 27), .ref (Ez E + 109), .ref (Ez E + 110), .ref (Ez E + 111), .ref (Ez E + 112), .null, .null, .int 0] (aU E 0)) (fun q hq => sub_in (N := 115) (N2 := 121) ((gU_at (by omega) (by omega)).trans rfl) (fun j hj => by rw [gU_at (by omega) (by omega)]; rcases (show j = 0 ∨ j = 1 ∨ j = 2 ∨ j = 3 ∨ j = 4 by omega) with rfl | rfl | rfl | rfl | rfl <;> rfl) hq) ?_
  refine p_X6_65 (pc := 111) (h' := cst h 0 6 [.ref (Ez E + 1), .ref (Ez E + 3), .ref (Ez E + 10), .ref (Ez E + 17), .ref (Ez E + 22), .ref (Ez E + 27), .ref (Ez E + 109), .ref (Ez E + 110), .ref (Ez E + 111), .ref (Ez E + 112), .ref (Ez E + 115), .null, .int 0] (aU E 0)) hnm cst_o (by omega) rfl rfl (Nat.le_of_ble_eq_true rfl) dX6_init_111 (fun q _ => cst_put q) ?_
  refine v_aload_n (pc := 114) 0 dX6_init_114 rfl rfl ?_
  refine v_bipush (pc := 115) (nI 7) dX6_init_115 kB_7 ?_
  refine v_newa (pc := 117) (h' := cst h 0 6 [.ref (Ez E + 1), .ref (Ez E + 3), .ref (Ez E + 10), .ref (Ez E + 17), .ref (Ez E + 22), .ref (Ez E + 27), .ref (Ez E + 109), .ref (Ez E + 110), .ref (Ez E + 111), .ref (Ez E + 112), .ref (Ez E + 115), .null, .int 0] (aU E 0)) (a0 := (7, .inl zFn)) (M := 7) 0 ac_int rfl rfl (fun _ _ q => q) (fun _ => rfl) (by decide) (by decide) (by decide) (Nat.le_of_ble_eq_true rfl) (Nat.le_of_ble_eq_true rfl) dX6_init_117 (fun q _ => cst_new 120 (by omega) rfl q) ?_
  refine p_X6_69 (pc := 119) (h' := cst h 0 6 [.ref (Ez E + 1), .ref (Ez E + 3), .ref (Ez E + 10), .ref (Ez E + 17), .ref (Ez E + 22), .ref (Ez E + 27), .ref (Ez E + 109), .ref (Ez E + 110), .ref (Ez E + 111), .ref (Ez E + 112), .ref (Ez E + 115), .ref (Ez E + 121), .int 0] (aU E 0)) hnm cst_o (by omega) rfl rfl (Nat.le_of_ble_eq_true rfl) dX6_init_119 (fun q _ => cst_put q) ?_
  refine v_aload_n (pc := 122) 0 dX6_init_122 rfl rfl ?_
  refine v_iconst (pc := 123) (nI 0) dX6_init_123 kI_0 ?_
  refine p_X6_72 (pc := 124) (h' := cst h 0 6 [.ref (Ez E + 1), .ref (Ez E + 3), .ref (Ez E + 10), .ref (Ez E + 17), .ref (Ez E + 22), .ref (Ez E + 27), .ref (Ez E + 109), .ref (Ez E + 110), .ref (Ez E + 111), .ref (Ez E + 112), .ref (Ez E + 115), .ref (Ez E + 121), .int (nI 0)] (aU E 0)) cst_o (by omega) rfl rfl (Nat.le_of_ble_eq_true rfl) dX6_init_124 (fun q _ => cst_put q) ?_
  refine v_iconst (pc := 127) (nI 0) dX6_init_127 kI_0 ?_
  refine v_istore_n (pc := 128) [1, 0] [(0, _), (1, _)] dX6_init_128 rfl (by decide) rfl ?_
  refine dn (P := fun i => V E X ({ frames := 3, cells := 131, slots := 2013, locals := 61 } : Room) RX6 cX6_init 2 none (121 + 5 * i) (1909 + 52 * i) (QX E X true 132 (Ff none (cellOf E kG0)) 131 2013) true (122 + 5 * i) 129 [(0, .ref (Ez E + 0)), (1, .int (nI i))] [] (cst h 0 6 [.ref (Ez E + 1), .ref (Ez E + 3), .ref (Ez E + 10), .ref (Ez E + 17), .ref (Ez E + 22), .ref (Ez E + 27), .ref (Ez E + 109), .ref (Ez E + 110), .ref (Ez E + 111), .ref (Ez E + 112), .ref (Ez E + 115), .ref (Ez E + 121), .int (nI 0)] (aU E i))) (N := 2) ?_ ?_
  · refine v_iload_n (pc := 129) 1 dX6_init_129 rfl rfl ?_
    refine v_aload_n (pc := 130) 0 dX6_init_130 rfl rfl ?_
    refine g_X6_43 (pc := 131) cst_o (by omega) rfl dX6_init_131 ?_
    refine v_alen (pc := 134) 2 (nI 2) (cst_a (h := h) (o := 0) 108) (by omega) rfl rfl dX6_init_134 ?_
    refine v_icmp_geN (pc := 135) (by omega) (by omega) (tgt := 157) dX6_init_135 rfl (fun c_135 => ?_) (fun c_135 => False.elim (absurd c_135 (by omega)))
    refine v_heap (h' := cellOf E kG0) (fun q hq => ?_) (v_vret (pc := 157) dX6_init_157 ⟨rfl, rfl⟩)
    by_cases e0 : q = 0
    · subst e0; rw [cst_o]; rfl
    · by_cases e1 : q = 109
      · subst e1
        refine (cst_a (h := h) (o := 0) 108).trans ?_
        show qF E 2 122 2 = _
        rw [cUr_im]
        unfold qF
        congr 7
        funext t
        by_cases z : t < 2
        · rw [if_pos z, if_pos z]
          have := adr_cases (k := 18 + t) (by omega)
          rw [show adr (18 + t) = 122 + 5 * t by omega]
        · rw [if_neg z, if_neg z]
      · exact gU_at (by omega) e1
  · intro i hi ih
    have ih : V E X ({ frames := 3, cells := 131, slots := 2013, locals := 61 } : Room) RX6 cX6_init 2 none (121 + 5 * i + 1 + 4) (1909 + 52 * i + 9 + 43) (QX E X true 132 (Ff none (cellOf E kG0)) 131 2013) true (122 + 5 * i + 5) 129 [(0, .ref (Ez E + 0)), (1, .int (nI (i + 1)))] [] (cst h 0 6 [.ref (Ez E + 1), .ref (Ez E + 3), .ref (Ez E + 10), .ref (Ez E + 17), .ref (Ez E + 22), .ref (Ez E + 27), .ref (Ez E + 109), .ref (Ez E + 110), .ref (Ez E + 111), .ref (Ez E + 112), .ref (Ez E + 115), .ref (Ez E + 121), .int (nI 0)] (aU E (i + 1))) := by
      rw [show 121 + 5 * (i + 1) = 121 + 5 * i + 1 + 4 by omega, show 1909 + 52 * (i + 1) = 1909 + 52 * i + 9 + 43 by omega, show 122 + 5 * (i + 1) = 122 + 5 * i + 5 by omega] at ih
      exact ih
    refine v_iload_n (pc := 129) 1 dX6_init_129 rfl rfl ?_
    refine v_aload_n (pc := 130) 0 dX6_init_130 rfl rfl ?_
    refine g_X6_43 (pc := 131) cst_o (by omega) rfl dX6_init_131 ?_
    refine v_alen (pc := 134) 2 (nI 2) (cst_a (h := h) (o := 0) 108) (by omega) rfl rfl dX6_init_134 ?_
    refine v_icmp_geN (pc := 135) (by omega) (by omega) (tgt := 157) dX6_init_135 rfl (fun c_135 => False.elim (absurd c_135 (by omega))) (fun c_135 => ?_)
    refine v_aload_n (pc := 138) 0 dX6_init_138 rfl rfl ?_
    refine g_X6_43 (pc := 139) cst_o (by omega) rfl dX6_init_139 ?_
    refine v_iload_n (pc := 142) 1 dX6_init_142 rfl rfl ?_
    refine v_new (pc := 143) (fs := [.int 0, .int 0, .int 0, .int 0, .int 0, .null, .null, .null, .null]) (h' := va_up (cst h 0 6 [.ref (Ez E + 1), .ref (Ez E + 3), .ref (Ez E + 10), .ref (Ez E + 17), .ref (Ez E + 22), .ref (Ez E + 27), .ref (Ez E + 109), .ref (Ez E + 110), .ref (Ez E + 111), .ref (Ez E + 112), .ref (Ez E + 115), .ref (Ez E + 121), .int (nI 0)] (aU E i)) (122 + 5 * i) (.inr (0, [.int 0, .int 0, .int 0, .int 0, .int 0, .null, .null, .null, .null]))) inB0 tyX0 tyX0_ok (ci := 0) rfl cl_X6_26 ia_X0 in_X0 (fun j hj => by rcases (show j = 0 ∨ j = 1 ∨ j = 2 ∨ j = 3 ∨ j = 4 ∨ j = 5 ∨ j = 6 ∨ j = 7 ∨ j = 8 by omega) with rfl | rfl | rfl | rfl | rfl | rfl | rfl | rfl | rfl <;> rfl) (by show _ ≤ 131; omega) (by show _ ≤ 2013; omega) dX6_init_143 (fun _ _ => rfl) ?_
    refine v_dup (pc := 146) dX6_init_146 rfl ?_
    refine v_callIN (pc := 147) [] _ k_X6_28 (n_Flock (o := 122 + 5 * i) (va_up_self _ _ _)) ⟨rfl, rfl, by decide⟩ rfl rfl (Nat.le_of_ble_eq_true rfl) ⟨by show _ ≤ 131; omega, by show _ ≤ 2013; omega⟩ dX6_init_147 (unS ?_)
    show V E X _ RX6 _ _ _ (121 + 5 * i + 1 + 4) (1909 + 52 * i + 9 + 43) _ true (122 + 5 * i + 5) 150 _ [_, _, _] _
    refine v_aast (pc := 150) (h' := cst h 0 6 [.ref (Ez E + 1), .ref (Ez E + 3), .ref (Ez E + 10), .ref (Ez E + 17), .ref (Ez E + 22), .ref (Ez E + 27), .ref (Ez E + 109), .ref (Ez E + 110), .ref (Ez E + 111), .ref (Ez E + 112), .ref (Ez E + 115), .ref (Ez E + 121), .int (nI 0)] (aU E (i + 1))) (o := 109) (ov := 122 + 5 * i) (len := 2) (f := fun t => if t < i then some (Ez E + (122 + 5 * t)) else none) ?_ (by omega) cst_o (by omega) (vp_in_nI (by omega) (by decide)) dX6_init_150 (fun q hq => flock_in (g := cst h 0 6 [.ref (Ez E + 1), .ref (Ez E + 3), .ref (Ez E + 10), .ref (Ez E + 17), .ref (Ez E + 22), .ref (Ez E + 27), .ref (Ez E + 109), .ref (Ez E + 110), .ref (Ez E + 111), .ref (Ez E + 112), .ref (Ez E + 115), .ref (Ez E + 121), .int (nI 0)] (aU E i)) (n := 2) (by omega) (fun q h1 h2 => ?_) ?_ (fun j hj => ?_) (by omega) q hq) ?_
    · rw [cst_l (by omega), va_up_ne _ _ (by omega)]
      exact cst_a (h := h) (o := 0) 108
    · by_cases e1 : q = 0
      · subst e1; rw [cst_o, cst_o]
      · rw [gU_at (by omega) h2, gU_at (by omega) h2]
    · exact cst_a (h := h) (o := 0) 108
    · rw [gU_at (by omega) (by omega)]
      have q := cF_at E kG0 (k := 18 + i) (j := j) (by omega) hj
      have := adr_cases (k := 18 + i) (by omega)
      rw [show adr (18 + i) = 122 + 5 * i by omega] at q
      exact q
    refine v_iincN (pc := 151) 1 [1, 0] [(0, _), (1, _)] kI_1 dX6_init_151 rfl (by decide) rfl ?_
    refine v_goto (pc := 154) (tgt := 129) dX6_init_154 rfl ?_
    exact ih
