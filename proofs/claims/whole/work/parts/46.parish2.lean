/-! a parish, on both sides -/
theorem DRl_c {D : DV} {R R2 : Fn} (h : DRl D R) (e : ∀ k, k < 52 → R2 k = R k) : DRl D R2 := by
  obtain ⟨Tr, Du, t1, t2, t3, t4, t5, t6, t7, t8, t9, t10, t11, t12, t13, t14, t15, t16⟩ := h
  refine ⟨Tr, Du, t1, t2, t3, t4, t5, by rw [e _ (by omega)]; exact t6, by rw [e _ (by omega)]; exact t7, by rw [e _ (by omega)]; exact t8, by rw [e _ (by omega)]; exact t9, t10, t11, t12, fun i hi => ?_, fun i a b => ?_, fun d hd => ?_, fun d a b => ?_⟩
  · rw [e (4 + i) (by omega), e (11 + i) (by omega), e (18 + i) (by omega)]; exact t13 i hi
  · rw [e (11 + i) (by omega)]; exact t14 i a b
  · rw [e (25 + d) (by omega), e (34 + d) (by omega), e (43 + d) (by omega)]; exact t15 d hd
  · rw [e (43 + d) (by omega)]; exact t16 d a b
set_option maxHeartbeats 4000000 in
theorem t_parish {E : Ev} {K : Nat} {σ : Sg} (h : RS K σ) (hK : K ≤ 96000) : Two E K (fun τ q_ => Ct E yX6_parish cX6_parish 4 (some .int) ({ frames := 5, cells := 0, slots := 0, locals := 114 } : Room) false 146 [.ref (Ez E + 0)] (cellOf E τ) 146 0 0 q_) (fun τ q_ => Ct E yX7_parish cX7_parish 2 (some .int) ({ frames := 5, cells := 0, slots := 0, locals := 110 } : Room) false 146 [.ref (Ez E + 132)] (cellOf E τ) 146 0 0 q_) σ := by
  obtain ⟨D, xP, xR, xW, xS, xZ, xG, xK, xT, xQ, xF, xB, xL, xC, un, sz, wm, fm, bm, at_, bg, fg, ft, sg, vl, wr, sd, e, hx⟩ := h
  obtain ⟨c, μ⟩ := σ
  replace e : μ = (mkA xP xR xW xS xZ xG xK xT xQ xF xB xL xC, (nI un, nI sz, ft, nI wm, nI fm, nI bm, nI at_, nI bg, sg, nI fg, vl, wr), sd) := e
  subst e
  have hW := RS_WC hx
  obtain ⟨hP, hnp_, hnd_, hD, hn7, hn9⟩ := RS_par hx
  obtain ⟨k1, k2, k3, k4, k5, k6, k7, k8, k9, k10, k11⟩ := DRl_k hD
  have hF := hx.2.1
  have hx2 := RSx_mono (Nat.le_add_right K 1500) hx
  obtain ⟨fn, ap, m, t1, t2, t3, t4⟩ := hx.2.2.2.2.2.1
  obtain ⟨wa, df, wf, ep, eb, s1, s2, s3, s4, s5⟩ := hx.2.2.2.2.2.2
  obtain ⟨x1, x2, x3, x4, x5, x6, x7⟩ := hx2
  obtain ⟨p1, p2, p3, p4, p5, D2, R2, p6, p7⟩ := x1
  have hs := s_parish (E := E) hW
  have eA : rdA (c, (mkA xP xR xW xS xZ xG xK xT xQ xF xB xL xC, (nI un, nI sz, ft, nI wm, nI fm, nI bm, nI at_, nI bg, sg, nI fg, vl, wr), sd)) = pAll xT sz m (parD (gP (c, (mkA xP xR xW xS xZ xG xK xT xQ xF xB xL xC, (nI un, nI sz, ft, nI wm, nI fm, nI bm, nI at_, nI bg, sg, nI fg, vl, wr), sd)) (gU (c, (mkA xP xR xW xS xZ xG xK xT xQ xF xB xL xC, (nI un, nI sz, ft, nI wm, nI fm, nI bm, nI at_, nI bg, sg, nI fg, vl, wr), sd))).2.1)) := by
    unfold rdA
    rw [t1]
    show pAll xT (nI sz).toNatClampNeg (nI m).toNatClampNeg _ = _
    rw [nI_clamp (by omega), nI_clamp (by omega)]
  have hf := parse_sim (T := xT) (R := xR) (L := sz) (m := m) (bg := bg) (fg := fg) (sg := sg) (vl := vl) (wr := wr) (D := parD (gP (c, (mkA xP xR xW xS xZ xG xK xT xQ xF xB xL xC, (nI un, nI sz, ft, nI wm, nI fm, nI bm, nI at_, nI bg, sg, nI fg, vl, wr), sd)) (gU (c, (mkA xP xR xW xS xZ xG xK xT xQ xF xB xL xC, (nI un, nI sz, ft, nI wm, nI fm, nI bm, nI at_, nI bg, sg, nI fg, vl, wr), sd))).2.1)) t2 t4
  have hz := (pAll_ok (lt := xT) (L := sz) (m := m) (D := parD (gP (c, (mkA xP xR xW xS xZ xG xK xT xQ xF xB xL xC, (nI un, nI sz, ft, nI wm, nI fm, nI bm, nI at_, nI bg, sg, nI fg, vl, wr), sd)) (gU (c, (mkA xP xR xW xS xZ xG xK xT xQ xF xB xL xC, (nI un, nI sz, ft, nI wm, nI fm, nI bm, nI at_, nI bg, sg, nI fg, vl, wr), sd))).2.1)) t2 t3).1
  rw [← eA] at hf hz
  unfold cs_parish rdS newF at hs
  rw [t1, s1] at hs
  generalize rdA (c, (mkA xP xR xW xS xZ xG xK xT xQ xF xB xL xC, (nI un, nI sz, ft, nI wm, nI fm, nI bm, nI at_, nI bg, sg, nI fg, vl, wr), sd)) = A at hs hf hz
  obtain ⟨⟨fa, w, a2, m2⟩, D1⟩ := A
  generalize hr : mLp xT sz 500 (true, mStep xT sz (0, bg, sg, fg, vl, wr, mR0 xR)) = r at hf
  obtain ⟨b9, a9, g9, x9, f9, v9, w9, R9⟩ := r
  replace hz : w ≤ 4 ∧ a2 ≤ sz ∧ m2 ≤ 240 := hz
  rcases hf with ⟨q1, q2, q3, q4⟩ | ⟨q1, q2, q3, q4, R3, q5⟩
  · replace q1 : w = 0 := q1
    replace q2 : fa = -1 := q2
    replace q3 : b9 = true := q3
    replace q4 : DRl D1 R9 := q4
    subst q1 q2 q3
    have hc : ∀ k, k < 52 → cpA R9 0 xP 0 52 k = R9 k := fun k hk => by
      have z := cpA_at (a := R9) (b := xP) (i := 0) (j := 0) (n := 52) (k := k) hk
      rw [Nat.zero_add] at z
      exact z
    have hD1 := DRl_c q4 hc
    have hk1 := DRl_k q4
    rw [if_pos rfl] at hs
    have hFb := FR_begin (W := xW) (F := nowF (c, (mkA xP xR xW xS xZ xG xK xT xQ xF xB xL xC, (nI un, nI sz, ft, nI wm, nI fm, nI bm, nI at_, nI bg, sg, nI fg, vl, wr), sd))) hD1
    have h7 : D1.2.2.2.1 ≤ 7 := by obtain ⟨Tr, Du, z1, z2, z3, z4, z5, z6, z7, z8, z9, z10, -⟩ := id q4; exact z10
    refine ⟨_, _, hs, _, m_parish t2 hr hk1.2.2.2.2.1 h7, ans_of rfl (RS_mk (D := D1) ⟨⟨p2, p1, fun z => p3 z.symm, ?_, hD1, D, xP, ?_, p5⟩, ?_, PastR_0 x3, fun i hi => ?_, x5, ⟨_, _, m2, rfl, by omega, hz.2.2, fun i hi => absurd hi (Nat.not_lt_zero _)⟩, ⟨wa, df, wf, ep, eb, rfl, by omega, by omega, by omega, fun i hi => absurd hi (Nat.not_lt_zero _), fun i hi => absurd hi (Nat.not_lt_zero _), fun i hi => absurd hi (Nat.not_lt_zero _)⟩⟩)⟩
    · show va_up c.2.1 (gU (c, (mkA xP xR xW xS xZ xG xK xT xQ xF xB xL xC, (nI un, nI sz, ft, nI wm, nI fm, nI bm, nI at_, nI bg, sg, nI fg, vl, wr), sd))).2.1 (dP D1) (gU (c, (mkA xP xR xW xS xZ xG xK xT xQ xF xB xL xC, (nI un, nI sz, ft, nI wm, nI fm, nI bm, nI at_, nI bg, sg, nI fg, vl, wr), sd))).2.1 = dP D1
      rw [va_up_self]
    · show va_up c.2.1 (gU (c, (mkA xP xR xW xS xZ xG xK xT xQ xF xB xL xC, (nI un, nI sz, ft, nI wm, nI fm, nI bm, nI at_, nI bg, sg, nI fg, vl, wr), sd))).2.1 (dP D1) (gU (c, (mkA xP xR xW xS xZ xG xK xT xQ xF xB xL xC, (nI un, nI sz, ft, nI wm, nI fm, nI bm, nI at_, nI bg, sg, nI fg, vl, wr), sd))).1 = dP D
      rw [va_up_ne _ _ p3]
      exact p4
    · show FR _ _ (va_up c.1 0 _ 0) _
      rw [va_up_self]
      exact FR_mono (by omega) hFb
    · show upd (upd (gU (c, (mkA xP xR xW xS xZ xG xK xT xQ xF xB xL xC, (nI un, nI sz, ft, nI wm, nI fm, nI bm, nI at_, nI bg, sg, nI fg, vl, wr), sd))).2.2.2.2.1 0 (nI 0)) 1 (nI 0) i = upd (upd xK 0 (nI 0)) 1 (nI 0) i ∧ (¬ upd (upd xK 0 (nI 0)) 1 (nI 0) i = 0 → _)
      have e0 : ∀ f : Fn, upd (upd f 0 (nI 0)) 1 (nI 0) i = nI 0 := fun f => by
        rcases (show i = 0 ∨ i = 1 by omega) with rfl | rfl
        · rw [upd_ne (by decide), upd_self]
        · rw [upd_self]
      rw [e0, e0]
      exact ⟨rfl, fun z => absurd (by decide) z⟩
  · replace q1 : w ≠ 0 := q1
    replace q2 : b9 = false := q2
    replace q3 : fa = nI g9 := q3
    replace q4 : nI w = w9 := q4
    replace q5 : DRl D1 R3 := q5
    subst q2 q3 q4
    rw [if_neg q1] at hs
    refine ⟨_, _, hs, _, m_parish1 t2 hr, ans_of rfl (RS_mk (D := D) ⟨⟨p1, p2, p3, ?_, p5, D1, R3, ?_, q5⟩, x2, x3, x4, x5, ⟨_, _, m2, rfl, by omega, hz.2.2, fun i hi => absurd hi (Nat.not_lt_zero _)⟩, x7⟩)⟩
    · show va_up c.2.1 (gU (c, (mkA xP xR xW xS xZ xG xK xT xQ xF xB xL xC, (nI un, nI sz, ft, nI wm, nI fm, nI bm, nI at_, nI bg, sg, nI fg, vl, wr), sd))).2.1 (dP D1) (gU (c, (mkA xP xR xW xS xZ xG xK xT xQ xF xB xL xC, (nI un, nI sz, ft, nI wm, nI fm, nI bm, nI at_, nI bg, sg, nI fg, vl, wr), sd))).1 = dP D
      rw [va_up_ne _ _ p3]
      exact p4
    · show va_up c.2.1 (gU (c, (mkA xP xR xW xS xZ xG xK xT xQ xF xB xL xC, (nI un, nI sz, ft, nI wm, nI fm, nI bm, nI at_, nI bg, sg, nI fg, vl, wr), sd))).2.1 (dP D1) (gU (c, (mkA xP xR xW xS xZ xG xK xT xQ xF xB xL xC, (nI un, nI sz, ft, nI wm, nI fm, nI bm, nI at_, nI bg, sg, nI fg, vl, wr), sd))).2.1 = dP D1
      rw [va_up_self]
