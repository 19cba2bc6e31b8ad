/-! persons, debts, clauses, the whole text -/
theorem pPers3_f {T : Fn} {L w e s : Nat} {a n v fa : Int32} {D : DV} (h : w ≠ 0) : pPers3 T L a n (v, (fa, w, e, s)) D = ((fa, w, e, s), D) := by
  show pPersE a n v (pEnd T L (fa, w, e, s)) D = _
  rw [pEnd_f h]
  show ((fa, w, e, s), if w = 0 then _ else D) = _
  rw [if_neg h]
theorem pPers2_f {T : Fn} {L w e s : Nat} {a v fa : Int32} {D : DV} (h : w ≠ 0) : pPers2 T L a (v, (fa, w, e, s)) D = ((fa, w, e, s), D) := by
  show pPers3 T L a v (pNum T L (nI 0) (nI 50) (fa, w, e, s)) D = _
  rw [pNum_f h]
  exact pPers3_f h
theorem pPers1_f {T : Fn} {L w e s : Nat} {v fa : Int32} {D : DV} (h : w ≠ 0) : pPers1 T L (v, (fa, w, e, s)) D = ((fa, w, e, s), D) := by
  show pPers2 T L v (pNum T L (nI 0) (nI 99) (fa, w, e, s)) D = _
  rw [pNum_f h]
  exact pPers2_f h
theorem pDebt3_f {T : Fn} {L w e s : Nat} {a b v fa : Int32} {D : DV} (h : w ≠ 0) : pDebt3 T L a b (v, (fa, w, e, s)) D = ((fa, w, e, s), D) := by
  show pDebtE a b v (pEnd T L (fa, w, e, s)) D = _
  rw [pEnd_f h]
  show ((fa, w, e, s), if w = 0 then _ else D) = _
  rw [if_neg h]
theorem pDebt2_f {T : Fn} {L w e s : Nat} {a v fa : Int32} {D : DV} (h : w ≠ 0) : pDebt2 T L a (v, (fa, w, e, s)) D = ((fa, w, e, s), D) := by
  show pDebt3 T L a v (pNum T L (nI 1) (nI 99) (if a = v then pNote (fa, w, e, s) 4 (nI s) else (fa, w, e, s))) D = _
  have e1 : (if a = v then pNote (fa, w, e, s) 4 (nI s) else (fa, w, e, s)) = (fa, w, e, s) := by
    split
    · exact pNote_f h
    · rfl
  rw [e1, pNum_f h]
  exact pDebt3_f h
theorem pDebt1_f {T : Fn} {L w e s : Nat} {v fa : Int32} {D : DV} (h : w ≠ 0) : pDebt1 T L (v, (fa, w, e, s)) D = ((fa, w, e, s), D) := by
  show pDebt2 T L v (pNum T L (nI 0) (nI D.2.2.2.1 - nI 1) (fa, w, e, s)) D = _
  rw [pNum_f h]
  exact pDebt2_f h
theorem PRs_f {L A w e s B : Nat} {D : DV} {y : MZ} (h : w ≠ 0) (h1 : y.2.1 = B) (h2 : y.2.2.2.2.2.1 = nI w) : PRs L A ((nI B, w, e, s), D) (false, y) := Or.inr ⟨h, rfl, by show nI B = nI y.2.1; rw [h1], h2.symm⟩
theorem DRl_sd {D : DV} {R : Fn} (h : DRl D R) : (D.1 = 0 ↔ R 1 = 0) ∧ (R 1 ≤ 0 ↔ R 1 = 0) := by
  obtain ⟨Tr, Du, t1, t2, t3, t4, t5, t6, t7, -⟩ := h
  rw [t3, t7]
  by_cases q : Du = 0
  · subst q; exact ⟨by decide, by decide⟩
  · rw [if_neg q]
    exact ⟨⟨fun r => absurd r (by decide), fun r => absurd r (nI_ne0 (by omega) (by omega))⟩, ⟨fun r => absurd r (nI_nle (by omega) (by omega)), fun r => absurd r (nI_ne0 (by omega) (by omega))⟩⟩
theorem pers_sim {T : Fn} {L A m : Nat} {D : DV} {y : MZ} (hA : A < L) (hy : y.1 = A + 1) (hD : DRl D y.2.2.2.2.2.2) (h0 : ¬ D.1 = 0) (h7 : D.2.2.2.1 < 7) : PRs L A (pPers T L (-1, 0, A + 1, m) D) (mPersE T L (mPut y 2 (nI (D.2.2.2.1 + 1))) D.2.2.2.1) := by
  have hsd := DRl_sd hD
  obtain ⟨Tr, Du, t1, t2, t3, t4, t5, t6, t7, t8, t9, t10, t11, t12, t13, t14, t15, t16⟩ := hD
  have hDu : ¬ Du = 0 := fun q => by rw [if_pos q] at t3; exact h0 t3
  unfold mPersE pPers
  rcases num_sim (T := T) (L := L) (m := m) (k := 4 + D.2.2.2.1) (lo := nI 0) (hi := nI 4) (fa := -1) (y := mPut y 2 (nI (D.2.2.2.1 + 1))) (by omega) hy with ⟨v, e, s, e1, e2, e3, e4, y2, f1, f2, f3, f4⟩ | ⟨v, w, e, s, B, e1, e2, y2, f1, f2, f3⟩
  · rw [e1, andR_t f1]
    show PRs L A (pPers2 T L v (pNum T L (nI 0) (nI 99) (-1, 0, e, s)) D) _
    rcases num_sim (T := T) (L := L) (m := s) (k := 11 + D.2.2.2.1) (lo := nI 0) (hi := nI 99) (fa := -1) e4 f2 with ⟨v2, e', s', g1, g2, g3, g4, y3, h1, h2, h3, h4⟩ | ⟨v2, w, e', s', B, g1, g2, y3, h1, h2, h3⟩
    · rw [g1, andR_t h1]
      show PRs L A (pPers3 T L v v2 (pNum T L (nI 0) (nI 50) (-1, 0, e', s')) D) _
      rcases num_sim (T := T) (L := L) (m := s') (k := 18 + D.2.2.2.1) (lo := nI 0) (hi := nI 50) (fa := -1) g4 h2 with ⟨v3, e'', s'', k1, k2, k3, k4, y5, l1, l2, l3, l4⟩ | ⟨v3, w, e'', s'', B, k1, k2, y5, l1, l2, l3⟩
      · rw [k1, andR_t l1]
        show PRs L A (pEnd T L (-1, 0, e'', s''), if (pEnd T L (-1, 0, e'', s'')).2.1 = 0 then dAddP D v v2 v3 else D) _
        rcases end_sim (T := T) (L := L) (m := s'') (fa := -1) k4 l2 with ⟨q, i1, i2, i3, y4, j1, j2, j3⟩ | ⟨w, q, q2, B, i1, i2, y4, j1, j2, j3⟩
        · rw [i1, j1]
          show PRs L A ((-1, 0, q, s''), if (0 : Nat) = 0 then dAddP D v v2 v3 else D) _
          rw [if_pos rfl]
          obtain ⟨x, x1, x2, rfl⟩ := outB_nat (by decide) (by decide) e2
          obtain ⟨z, z1, z2, rfl⟩ := outB_nat (by decide) (by decide) g2
          obtain ⟨u, u1, u2, rfl⟩ := outB_nat (by decide) (by decide) k2
          have eR : y4.2.2.2.2.2.2 = upd (upd (upd (upd y.2.2.2.2.2.2 2 (nI (D.2.2.2.1 + 1))) (4 + D.2.2.2.1) (nI x)) (11 + D.2.2.2.1) (nI z)) (18 + D.2.2.2.1) (nI u) := by rw [j3, l4, h4, f4]; rfl
          refine Or.inl ⟨rfl, rfl, rfl, j2.symm, by show A < y4.1; omega, by show y4.1 ≤ L; omega, ?_⟩
          show DRl (dAddP D (nI x) (nI z) (nI u)) y4.2.2.2.2.2.2
          rw [eR]
          generalize y.2.2.2.2.2.2 = R at t6 t7 t8 t9 t13 t14 t15 t16 ⊢
          obtain ⟨sd, du, tr, np, nd, kd, bd, dr, dt, cr, ow⟩ := D
          unfold dAddP
          rw [if_pos h7]
          simp only at h7 t3 t4 t5 t8 t9 t10 t11 t12 t13 t14 t15 t16 ⊢
          have lo : ∀ i, i ≠ 2 → i ≠ 4 + np → i ≠ 11 + np → i ≠ 18 + np → upd (upd (upd (upd R 2 (nI (np + 1))) (4 + np) (nI x)) (11 + np) (nI z)) (18 + np) (nI u) i = R i := fun i a1 a2 a3 a4 => by rw [upd_ne a4, upd_ne a3, upd_ne a2, upd_ne a1]
          refine ⟨Tr, Du, t1, t2, t3, t4, t5, by rw [lo 0 (by omega) (by omega) (by omega) (by omega)]; exact t6, by rw [lo 1 (by omega) (by omega) (by omega) (by omega)]; exact t7, by rw [upd_ne (by omega), upd_ne (by omega), upd_ne (by omega), upd_self], by rw [lo 3 (by omega) (by omega) (by omega) (by omega)]; exact t9, by show np + 1 ≤ 7; omega, t11, fun q => absurd q hDu, fun i hi => ?_, fun i a b => ?_, fun d hd => ?_, fun d a b => ?_⟩
          · simp only at hi ⊢
            by_cases ei : i = np
            · subst ei
              refine ⟨x, z, u, x2, z2, u2, upd_self, ?_, upd_self, ?_, upd_self, upd_self⟩
              · rw [upd_ne (by omega), upd_ne (by omega), upd_self]
              · rw [upd_ne (by omega), upd_self]
            · rw [lo (4 + i) (by omega) (by omega) (by omega) (by omega), lo (11 + i) (by omega) (by omega) (by omega) (by omega), lo (18 + i) (by omega) (by omega) (by omega) (by omega), upd_ne ei, upd_ne ei, upd_ne ei]
              exact t13 i (by omega)
          · simp only at a b ⊢
            rw [lo (11 + i) (by omega) (by omega) (by omega) (by omega)]; exact t14 i (by omega) b
          · simp only at hd ⊢
            rw [lo (25 + d) (by omega) (by omega) (by omega) (by omega), lo (34 + d) (by omega) (by omega) (by omega) (by omega), lo (43 + d) (by omega) (by omega) (by omega) (by omega)]
            obtain ⟨a, c, n, a1, a2, a3⟩ := t15 d hd
            exact ⟨a, c, n, by omega, by omega, a3⟩
          · simp only at a b ⊢
            rw [lo (43 + d) (by omega) (by omega) (by omega) (by omega)]; exact t16 d a b
        · rw [i1, j1]
          show PRs L A ((nI B, w, q, q2), if w = 0 then _ else D) _
          rw [if_neg i2]
          exact PRs_f i2 j2 j3
      · rw [k1, andR_f l1, pPers3_f k2]
        exact PRs_f k2 l2 l3
    · rw [g1, andR_f h1, pPers2_f g2]
      exact PRs_f g2 h2 h3
  · rw [e1, andR_f f1, pPers1_f e2]
    exact PRs_f e2 f2 f3
theorem debt_sim {T : Fn} {L A m : Nat} {D : DV} {y : MZ} (hA : A < L) (hy : y.1 = A + 1) (hD : DRl D y.2.2.2.2.2.2) (h0 : ¬ D.1 = 0) (h9 : D.2.2.2.2.1 < 9) : PRs L A (pDebt T L (-1, 0, A + 1, m) D) (mDebtE T L (mPut y 3 (nI (D.2.2.2.2.1 + 1))) D.2.2.2.2.1 (upd y.2.2.2.2.2.2 3 (nI (D.2.2.2.2.1 + 1)) 2 - nI 1)) := by
  have hsd := DRl_sd hD
  obtain ⟨Tr, Du, t1, t2, t3, t4, t5, t6, t7, t8, t9, t10, t11, t12, t13, t14, t15, t16⟩ := hD
  have hDu : ¬ Du = 0 := fun q => by rw [if_pos q] at t3; exact h0 t3
  rw [upd_ne (by decide), t8]
  have hper : ∀ v, outB v (nI 0) (nI D.2.2.2.1 - nI 1) = false → ∃ i, i < D.2.2.2.1 ∧ v = nI i := fun v hv => by
    have q := inB_i hv
    rw [inB_p (by omega)] at q
    exact perB_nat q (by omega)
  unfold mDebtE pDebt
  rcases num_sim (T := T) (L := L) (m := m) (k := 25 + D.2.2.2.2.1) (lo := nI 0) (hi := nI D.2.2.2.1 - nI 1) (fa := -1) (y := mPut y 3 (nI (D.2.2.2.2.1 + 1))) (by omega) hy with ⟨v, e, s, e1, e2, e3, e4, y2, f1, f2, f3, f4⟩ | ⟨v, w, e, s, B, e1, e2, y2, f1, f2, f3⟩
  · rw [e1, andR_t f1]
    show PRs L A (pDebt2 T L v (pNum T L (nI 0) (nI D.2.2.2.1 - nI 1) (-1, 0, e, s)) D) _
    rcases num_sim (T := T) (L := L) (m := s) (k := 34 + D.2.2.2.2.1) (lo := nI 0) (hi := nI D.2.2.2.1 - nI 1) (fa := -1) e4 f2 with ⟨v2, e', s', g1, g2, g3, g4, y3, h1, h2, h3, h4⟩ | ⟨v2, w, e', s', B, g1, g2, y3, h1, h2, h3⟩
    · rw [g1, andR_t h1]
      have eR3 : y3.2.2.2.2.2.2 = upd (upd (upd y.2.2.2.2.2.2 3 (nI (D.2.2.2.2.1 + 1))) (25 + D.2.2.2.2.1) v) (34 + D.2.2.2.2.1) v2 := by rw [h4, f4]; rfl
      have ea : y3.2.2.2.2.2.2 (25 + D.2.2.2.2.1) = v := by rw [eR3, upd_ne (by omega), upd_self]
      have eb : y3.2.2.2.2.2.2 (34 + D.2.2.2.2.1) = v2 := by rw [eR3, upd_self]
      show PRs L A (pDebt3 T L v v2 (pNum T L (nI 1) (nI 99) (if v = v2 then pNote (-1, 0, e', s') 4 (nI s') else (-1, 0, e', s'))) D) (if y3.2.2.2.2.2.2 (25 + D.2.2.2.2.1) = y3.2.2.2.2.2.2 (34 + D.2.2.2.2.1) then (false, mFail y3 (nI 4)) else _)
      rw [ea, eb]
      by_cases cv : v = v2
      · rw [if_pos cv, if_pos cv]
        have en : pNote (-1, 0, e', s') 4 (nI s') = (nI s', 4, e', s') := if_pos rfl
        rw [en, pNum_f (by decide), pDebt3_f (by decide)]
        exact PRs_f (by decide) h3 rfl
      · rw [if_neg cv, if_neg cv]
        rcases num_sim (T := T) (L := L) (m := s') (k := 43 + D.2.2.2.2.1) (lo := nI 1) (hi := nI 99) (fa := -1) g4 h2 with ⟨v3, e'', s'', k1, k2, k3, k4, y5, l1, l2, l3, l4⟩ | ⟨v3, w, e'', s'', B, k1, k2, y5, l1, l2, l3⟩
        · rw [k1, andR_t l1]
          show PRs L A (pEnd T L (-1, 0, e'', s''), if (pEnd T L (-1, 0, e'', s'')).2.1 = 0 then dAddD D v v2 v3 else D) _
          rcases end_sim (T := T) (L := L) (m := s'') (fa := -1) k4 l2 with ⟨q, i1, i2, i3, y4, j1, j2, j3⟩ | ⟨w, q, q2, B, i1, i2, y4, j1, j2, j3⟩
          · rw [i1, j1]
            show PRs L A ((-1, 0, q, s''), if (0 : Nat) = 0 then dAddD D v v2 v3 else D) _
            rw [if_pos rfl]
            obtain ⟨x, x2, rfl⟩ := hper v e2
            obtain ⟨z, z2, rfl⟩ := hper v2 g2
            obtain ⟨u, u1, u2, rfl⟩ := outB_nat (by decide) (by decide) k2
            have eR : y4.2.2.2.2.2.2 = upd (upd (upd (upd y.2.2.2.2.2.2 3 (nI (D.2.2.2.2.1 + 1))) (25 + D.2.2.2.2.1) (nI x)) (34 + D.2.2.2.2.1) (nI z)) (43 + D.2.2.2.2.1) (nI u) := by rw [j3, l4, eR3]
            refine Or.inl ⟨rfl, rfl, rfl, j2.symm, by show A < y4.1; omega, by show y4.1 ≤ L; omega, ?_⟩
            show DRl (dAddD D (nI x) (nI z) (nI u)) y4.2.2.2.2.2.2
            rw [eR]
            clear hper ea eb eR3 h4 f4 l4 j3 eR hsd
            generalize y.2.2.2.2.2.2 = R at t6 t7 t8 t9 t13 t14 t15 t16 ⊢
            obtain ⟨sd, du, tr, np, nd, kd, bd, dr, dt, cr, ow⟩ := D
            unfold dAddD
            rw [if_pos h9]
            simp only at h9 t3 t4 t5 t8 t9 t10 t11 t12 t13 t14 t15 t16 x2 z2 ⊢
            have lo : ∀ i, i ≠ 3 → i ≠ 25 + nd → i ≠ 34 + nd → i ≠ 43 + nd → upd (upd (upd (upd R 3 (nI (nd + 1))) (25 + nd) (nI x)) (34 + nd) (nI z)) (43 + nd) (nI u) i = R i := fun i a1 a2 a3 a4 => by rw [upd_ne a4, upd_ne a3, upd_ne a2, upd_ne a1]
            refine ⟨Tr, Du, t1, t2, t3, t4, t5, by rw [lo 0 (by omega) (by omega) (by omega) (by omega)]; exact t6, by rw [lo 1 (by omega) (by omega) (by omega) (by omega)]; exact t7, by rw [lo 2 (by omega) (by omega) (by omega) (by omega)]; exact t8, by rw [upd_ne (by omega), upd_ne (by omega), upd_ne (by omega), upd_self], t10, by show nd + 1 ≤ 9; omega, fun q => absurd q hDu, fun i hi => ?_, fun i a b => ?_, fun d hd => ?_, fun d a b => ?_⟩
            · simp only at hi ⊢
              rw [lo (4 + i) (by omega) (by omega) (by omega) (by omega), lo (11 + i) (by omega) (by omega) (by omega) (by omega), lo (18 + i) (by omega) (by omega) (by omega) (by omega)]
              exact t13 i hi
            · simp only at a b ⊢
              rw [lo (11 + i) (by omega) (by omega) (by omega) (by omega)]; exact t14 i a b
            · simp only at hd ⊢
              by_cases ei : d = nd
              · subst ei
                refine ⟨x, z, u, x2, z2, u2, upd_self, ?_, upd_self, ?_, upd_self, upd_self⟩
                · rw [upd_ne (by omega), upd_ne (by omega), upd_self]
                · rw [upd_ne (by omega), upd_self]
              · rw [lo (25 + d) (by omega) (by omega) (by omega) (by omega), lo (34 + d) (by omega) (by omega) (by omega) (by omega), lo (43 + d) (by omega) (by omega) (by omega) (by omega), upd_ne ei, upd_ne ei, upd_ne ei]
                exact t15 d (by omega)
            · simp only at a b ⊢
              rw [lo (43 + d) (by omega) (by omega) (by omega) (by omega)]; exact t16 d (by omega) b
          · rw [i1, j1]
            show PRs L A ((nI B, w, q, q2), if w = 0 then _ else D) _
            rw [if_neg i2]
            exact PRs_f i2 j2 j3
        · rw [k1, andR_f l1, pDebt3_f k2]
          exact PRs_f k2 l2 l3
    · rw [g1, andR_f h1, pDebt2_f g2]
      exact PRs_f g2 h2 h3
  · rw [e1, andR_f f1, pDebt1_f e2]
    exact PRs_f e2 f2 f3
