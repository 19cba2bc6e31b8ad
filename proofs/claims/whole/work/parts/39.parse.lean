/-! how both read a text -/
theorem dg_gt {T : Fn} {L s : Nat} (h : s < L ∧ ¬ T s < nI 48 ∧ ¬ nI 57 < T s) : s < dg T L s := by
  rw [← dg_t h]
  exact dg_le T L (s + 1)
theorem out_in (v lo hi : Int32) : inB v lo hi = false ↔ outB v lo hi = true := by
  unfold inB
  rw [Bool.not_eq_false']
theorem num_sim {T : Fn} {L a m k : Nat} {lo hi fa : Int32} {y : MZ} (ha : a ≤ L) (hy : y.1 = a) :
    (∃ v e s, pNum T L lo hi (fa, 0, a, m) = (v, (fa, 0, e, s)) ∧ outB v lo hi = false ∧ a ≤ e ∧ e ≤ L ∧ ∃ y2, mNum T L y k lo hi = (true, y2) ∧ y2.1 = e ∧ y2.2.1 = s ∧ y2.2.2.2.2.2.2 = upd y.2.2.2.2.2.2 k v)
    ∨ (∃ v w e s B, pNum T L lo hi (fa, 0, a, m) = (v, (nI B, w, e, s)) ∧ w ≠ 0 ∧ ∃ y2, mNum T L y k lo hi = (false, y2) ∧ y2.2.1 = B ∧ y2.2.2.2.2.2.1 = nI w) := by
  obtain ⟨a1, b1, s1, f1, v1, w1, R1⟩ := y
  replace hy : a1 = a := hy
  subst hy
  have hs := sk_le T L a1
  have hsL := sk_L (lt := T) (L := L) ha
  have hp : pNum T L lo hi (fa, 0, a1, m) = pNumB fa 0 (sk T L a1) (dg T L (sk T L a1)) (dv T L (sk T L a1) (sk T L a1) (nI 0)) lo hi := if_pos rfl
  rw [hp]
  unfold mNum mStep
  show (∃ v e s, _ ∧ _ ∧ _ ∧ _ ∧ ∃ y2, mNumE (if inB (hrI T L (sk T L a1)) (nI 48) (nI 57) = false then (if hrI T L (sk T L a1) < 0 then sk T L a1 else sk T L a1 + 1, sk T L a1, hrI T L (sk T L a1), 0, nI 0, w1, R1) else (dg T L (sk T L a1), sk T L a1, nI 48, dg T L (sk T L a1) - sk T L a1, dv T L (sk T L a1) (sk T L a1) (nI 0), w1, R1)) k lo hi = (true, y2) ∧ _) ∨ (∃ v w e s B, _ ∧ _ ∧ ∃ y2, mNumE (if inB (hrI T L (sk T L a1)) (nI 48) (nI 57) = false then (if hrI T L (sk T L a1) < 0 then sk T L a1 else sk T L a1 + 1, sk T L a1, hrI T L (sk T L a1), 0, nI 0, w1, R1) else (dg T L (sk T L a1), sk T L a1, nI 48, dg T L (sk T L a1) - sk T L a1, dv T L (sk T L a1) (sk T L a1) (nI 0), w1, R1)) k lo hi = (false, y2) ∧ _)
  generalize sk T L a1 = s at hs hsL ⊢
  by_cases c : inB (hrI T L s) (nI 48) (nI 57) = false
  · rw [if_pos c]
    right
    have e : dg T L s = s := dg_f (hrdgn c)
    have hne : ¬ hrI T L s = nI 48 := fun q => by rw [q] at c; revert c; decide
    refine ⟨dv T L s s (nI 0), 1, s, s, s, ?_, by decide, _, if_neg hne, rfl, rfl⟩
    rw [e]
    unfold pNumB pNote
    rw [if_pos rfl]
    rfl
  · rw [if_neg c]
    have ht : inB (hrI T L s) (nI 48) (nI 57) = true := by cases q : inB (hrI T L s) (nI 48) (nI 57); exact absurd q c; rfl
    have hd := hrdg ht
    have hgt := dg_gt hd
    have hle := dg_L (lt := T) (L := L) (a := s) (by omega)
    generalize dg T L s = e at hgt hle ⊢
    generalize dv T L s s (nI 0) = v
    unfold pNumB pNote mNumE
    show (∃ v2 e2 s2, (v, if e = s then _ else if 3 < e - s ∨ outB v lo hi = true then _ else (fa, 0, e, s)) = _ ∧ _ ∧ _ ∧ _ ∧ ∃ y2, (if nI 48 = nI 48 then (if 3 < e - s ∨ inB v lo hi = false then (false, mFail (e, s, nI 48, e - s, v, w1, R1) (nI 2)) else (true, mPut (e, s, nI 48, e - s, v, w1, R1) k v)) else (false, mFail (e, s, nI 48, e - s, v, w1, R1) (nI 1))) = _ ∧ _) ∨ (∃ v2 w e2 s2 B, (v, if e = s then _ else if 3 < e - s ∨ outB v lo hi = true then _ else (fa, 0, e, s)) = _ ∧ _ ∧ ∃ y2, (if nI 48 = nI 48 then (if 3 < e - s ∨ inB v lo hi = false then (false, mFail (e, s, nI 48, e - s, v, w1, R1) (nI 2)) else (true, mPut (e, s, nI 48, e - s, v, w1, R1) k v)) else (false, mFail (e, s, nI 48, e - s, v, w1, R1) (nI 1))) = _ ∧ _)
    rw [if_pos (show nI 48 = nI 48 from rfl), if_neg (show ¬ e = s by omega)]
    by_cases c2 : 3 < e - s ∨ outB v lo hi = true
    · right
      rw [if_pos c2, if_pos (c2.imp id (out_in v lo hi).mpr)]
      exact ⟨v, 2, e, s, s, rfl, by decide, _, rfl, rfl, rfl⟩
    · left
      have c3 : ¬ (3 < e - s ∨ inB v lo hi = false) := fun q => c2 (q.imp id (out_in v lo hi).mp)
      rw [if_neg c2, if_neg c3]
      refine ⟨v, e, s, rfl, ?_, by omega, hle, _, rfl, rfl, rfl, rfl⟩
      cases q : outB v lo hi
      · rfl
      · exact absurd (Or.inr q) c2
theorem end_sim {T : Fn} {L a m : Nat} {fa : Int32} {y : MZ} (ha : a ≤ L) (hy : y.1 = a) :
    (∃ e, pEnd T L (fa, 0, a, m) = (fa, 0, e, m) ∧ a < e ∧ e ≤ L ∧ ∃ y2, mEnd T L y = (true, y2) ∧ y2.1 = e ∧ y2.2.2.2.2.2.2 = y.2.2.2.2.2.2)
    ∨ (∃ w e s B, pEnd T L (fa, 0, a, m) = (nI B, w, e, s) ∧ w ≠ 0 ∧ ∃ y2, mEnd T L y = (false, y2) ∧ y2.2.1 = B ∧ y2.2.2.2.2.2.1 = nI w) := by
  obtain ⟨a1, b1, s1, f1, v1, w1, R1⟩ := y
  replace hy : a1 = a := hy
  subst hy
  have hs := sk_le T L a1
  have hsL := sk_L (lt := T) (L := L) ha
  have hp : pEnd T L (fa, 0, a1, m) = if sk T L a1 < L ∧ T (sk T L a1) = nI 59 then (fa, 0, sk T L a1 + 1, m) else pNote (fa, 0, sk T L a1, m) 1 (nI (sk T L a1)) := if_pos rfl
  rw [hp]
  unfold mEnd mStep
  show (∃ e, _ ∧ _ ∧ _ ∧ ∃ y2, mEndE (if inB (hrI T L (sk T L a1)) (nI 48) (nI 57) = false then (if hrI T L (sk T L a1) < 0 then sk T L a1 else sk T L a1 + 1, sk T L a1, hrI T L (sk T L a1), 0, nI 0, w1, R1) else (dg T L (sk T L a1), sk T L a1, nI 48, dg T L (sk T L a1) - sk T L a1, dv T L (sk T L a1) (sk T L a1) (nI 0), w1, R1)) = (true, y2) ∧ _) ∨ (∃ w e s B, _ ∧ _ ∧ ∃ y2, mEndE (if inB (hrI T L (sk T L a1)) (nI 48) (nI 57) = false then (if hrI T L (sk T L a1) < 0 then sk T L a1 else sk T L a1 + 1, sk T L a1, hrI T L (sk T L a1), 0, nI 0, w1, R1) else (dg T L (sk T L a1), sk T L a1, nI 48, dg T L (sk T L a1) - sk T L a1, dv T L (sk T L a1) (sk T L a1) (nI 0), w1, R1)) = (false, y2) ∧ _)
  generalize sk T L a1 = s at hs hsL ⊢
  by_cases c : s < L ∧ T s = nI 59
  · left
    rw [if_pos c]
    have e1 : hrI T L s = nI 59 := by rw [hr_t c.1, c.2]
    rw [e1, if_pos (by decide), if_neg (by decide)]
    exact ⟨s + 1, rfl, by omega, by omega, _, if_pos rfl, rfl, rfl⟩
  · right
    rw [if_neg c]
    by_cases c2 : inB (hrI T L s) (nI 48) (nI 57) = false
    · rw [if_pos c2]
      have hne : ¬ hrI T L s = nI 59 := fun q => by
        by_cases r : s < L
        · rw [hr_t r] at q; exact c ⟨r, q⟩
        · rw [hr_f r] at q; revert q; decide
      exact ⟨1, s, m, s, rfl, by decide, _, if_neg hne, rfl, rfl⟩
    · rw [if_neg c2]
      exact ⟨1, s, m, s, rfl, by decide, _, if_neg (show ¬ nI 48 = nI 59 by decide), rfl, rfl⟩
/-! what a draft and a row hold -/
def DRl (D : DV) (R : Fn) : Prop := ∃ Tr Du : Nat, Tr ≤ 999 ∧ Du ≤ 24 ∧ D.1 = (if Du = 0 then nI 0 else nI 1) ∧ D.2.1 = nI Du ∧ D.2.2.1 = nI Tr ∧ R 0 = nI Tr ∧ R 1 = nI Du ∧ R 2 = nI D.2.2.2.1 ∧ R 3 = nI D.2.2.2.2.1 ∧ D.2.2.2.1 ≤ 7 ∧ D.2.2.2.2.1 ≤ 9 ∧ (Du = 0 → D.2.2.2.1 = 0 ∧ D.2.2.2.2.1 = 0)
  ∧ (∀ i, i < D.2.2.2.1 → ∃ k n x, k ≤ 4 ∧ n ≤ 99 ∧ x ≤ 50 ∧ D.2.2.2.2.2.1 i = nI k ∧ R (4 + i) = nI k ∧ D.2.2.2.2.2.2.1 i = nI n ∧ R (11 + i) = nI n ∧ D.2.2.2.2.2.2.2.1 i = nI x ∧ R (18 + i) = nI x)
  ∧ (∀ i, D.2.2.2.1 ≤ i → i < 7 → R (11 + i) = nI 0)
  ∧ (∀ d, d < D.2.2.2.2.1 → ∃ a c n, a < D.2.2.2.1 ∧ c < D.2.2.2.1 ∧ n ≤ 99 ∧ D.2.2.2.2.2.2.2.2.1 d = nI a ∧ R (25 + d) = nI a ∧ D.2.2.2.2.2.2.2.2.2.1 d = nI c ∧ R (34 + d) = nI c ∧ D.2.2.2.2.2.2.2.2.2.2 d = nI n ∧ R (43 + d) = nI n)
  ∧ (∀ d, D.2.2.2.2.1 ≤ d → d < 9 → R (43 + d) = nI 0)
/-- both have read on well, to one place; or both found one fault -/
def PRs (L A : Nat) (c : PZ × DV) (r : Bool × MZ) : Prop := (c.1.2.1 = 0 ∧ c.1.1 = -1 ∧ r.1 = true ∧ c.1.2.2.1 = r.2.1 ∧ A < r.2.1 ∧ r.2.1 ≤ L ∧ DRl c.2 r.2.2.2.2.2.2.2) ∨ (c.1.2.1 ≠ 0 ∧ r.1 = false ∧ c.1.1 = nI r.2.2.1 ∧ nI c.1.2.1 = r.2.2.2.2.2.2.1)
theorem pNum_f {T : Fn} {L w e s : Nat} {lo hi fa : Int32} (h : w ≠ 0) : pNum T L lo hi (fa, w, e, s) = (-1, (fa, w, e, s)) := if_neg h
theorem pEnd_f {T : Fn} {L w e s : Nat} {fa : Int32} (h : w ≠ 0) : pEnd T L (fa, w, e, s) = (fa, w, e, s) := if_neg h
theorem pNote_f {w e s q : Nat} {fa v : Int32} (h : w ≠ 0) : pNote (fa, w, e, s) q v = (fa, w, e, s) := if_neg h
theorem tree_sim {T : Fn} {L A m : Nat} {D : DV} {y : MZ} (hA : A < L) (hy : y.1 = A + 1) (hD : DRl D y.2.2.2.2.2.2) (h0 : D.1 = 0) : PRs L A (pTree T L (-1, 0, A + 1, m) D) (mTree T L y) := by
  obtain ⟨Tr, Du, t1, t2, t3, t4, t5, t6, t7, t8, t9, t10, t11, t12, t13, t14, t15, t16⟩ := hD
  have hDu : Du = 0 := by
    by_cases q : Du = 0
    · exact q
    · rw [if_neg q, h0] at t3; exact absurd t3 (by decide)
  subst hDu
  obtain ⟨np0, nd0⟩ := t12 rfl
  unfold mTree
  rw [if_pos (by rw [t7]; decide)]
  unfold pTree pTreeE
  rcases num_sim (T := T) (L := L) (m := m) (k := 0) (lo := nI 0) (hi := nI 999) (fa := -1) (by omega) hy with ⟨v, e, s, e1, e2, e3, e4, y2, f1, f2, f3, f4⟩ | ⟨v, w, e, s, B, e1, e2, y2, f1, f2, f3⟩
  · rw [e1, andR_t f1]
    rcases num_sim (T := T) (L := L) (m := s) (k := 1) (lo := nI 1) (hi := nI 24) (fa := -1) e4 f2 with ⟨v2, e', s', g1, g2, g3, g4, y3, h1, h2, h3, h4⟩ | ⟨v2, w, e', s', B, g1, g2, y3, h1, h2, h3⟩
    · show PRs L A (pEnd T L (pNum T L (nI 1) (nI 24) (-1, 0, e, s)).2, if (pEnd T L (pNum T L (nI 1) (nI 24) (-1, 0, e, s)).2).2.1 = 0 then (nI 1, (pNum T L (nI 1) (nI 24) (-1, 0, e, s)).1, v, D.2.2.2) else D) _
      rw [g1, andR_t h1]
      rcases end_sim (T := T) (L := L) (m := s') (fa := -1) g4 h2 with ⟨q, i1, i2, i3, y4, j1, j2, j3⟩ | ⟨w, q, q2, B, i1, i2, y4, j1, j2, j3⟩
      · rw [j1]
        show PRs L A (pEnd T L (-1, 0, e', s'), if (pEnd T L (-1, 0, e', s')).2.1 = 0 then (nI 1, v2, v, D.2.2.2) else D) _
        rw [i1]
        show PRs L A ((-1, 0, q, s'), if (0 : Nat) = 0 then (nI 1, v2, v, D.2.2.2) else D) _
        rw [if_pos rfl]
        obtain ⟨x, x1, x2, rfl⟩ := outB_nat (by decide) (by decide) e2
        obtain ⟨z, z1, z2, rfl⟩ := outB_nat (by decide) (by decide) g2
        have eR : y4.2.2.2.2.2.2 = upd (upd y.2.2.2.2.2.2 0 (nI x)) 1 (nI z) := by rw [j3, h4, f4]
        refine Or.inl ⟨rfl, rfl, rfl, j2.symm, by show A < y4.1; omega, by show y4.1 ≤ L; omega, ?_⟩
        show DRl (nI 1, nI z, nI x, D.2.2.2) y4.2.2.2.2.2.2
        rw [eR]
        refine ⟨x, z, x2, z2, by rw [if_neg (by omega)], rfl, rfl, by rw [upd_ne (by decide), upd_self], upd_self, by rw [upd_ne (by decide), upd_ne (by decide)]; exact t8, by rw [upd_ne (by decide), upd_ne (by decide)]; exact t9, t10, t11, fun q => by omega, fun i hi => ?_, fun i a b => ?_, fun d hd => ?_, fun d a b => ?_⟩
        · rw [upd_ne (by omega), upd_ne (by omega), upd_ne (by omega), upd_ne (by omega), upd_ne (by omega), upd_ne (by omega)]; exact t13 i hi
        · rw [upd_ne (by omega), upd_ne (by omega)]; exact t14 i a b
        · rw [upd_ne (by omega), upd_ne (by omega), upd_ne (by omega), upd_ne (by omega), upd_ne (by omega), upd_ne (by omega)]; exact t15 d hd
        · rw [upd_ne (by omega), upd_ne (by omega)]; exact t16 d a b
      · rw [j1]
        show PRs L A (pEnd T L (-1, 0, e', s'), if (pEnd T L (-1, 0, e', s')).2.1 = 0 then (nI 1, v2, v, D.2.2.2) else D) _
        rw [i1]
        exact Or.inr ⟨i2, rfl, by show nI B = nI y4.2.1; rw [j2], j3.symm⟩
    · show PRs L A (pEnd T L (pNum T L (nI 1) (nI 24) (-1, 0, e, s)).2, if (pEnd T L (pNum T L (nI 1) (nI 24) (-1, 0, e, s)).2).2.1 = 0 then (nI 1, (pNum T L (nI 1) (nI 24) (-1, 0, e, s)).1, v, D.2.2.2) else D) _
      rw [g1, andR_f h1]
      show PRs L A (pEnd T L (nI B, w, e', s'), if (pEnd T L (nI B, w, e', s')).2.1 = 0 then _ else D) _
      rw [pEnd_f g2]
      exact Or.inr ⟨g2, rfl, by show nI B = nI y3.2.1; rw [h2], h3.symm⟩
  · rw [e1, andR_f f1]
    show PRs L A (pEnd T L (pNum T L (nI 1) (nI 24) (nI B, w, e, s)).2, if (pEnd T L (pNum T L (nI 1) (nI 24) (nI B, w, e, s)).2).2.1 = 0 then (nI 1, (pNum T L (nI 1) (nI 24) (nI B, w, e, s)).1, v, D.2.2.2) else D) _
    rw [pNum_f e2]
    show PRs L A (pEnd T L (nI B, w, e, s), if (pEnd T L (nI B, w, e, s)).2.1 = 0 then _ else D) _
    rw [pEnd_f e2]
    exact Or.inr ⟨e2, rfl, by show nI B = nI y2.2.1; rw [f2], f3.symm⟩
