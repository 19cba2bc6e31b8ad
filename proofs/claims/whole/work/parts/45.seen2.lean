/-! what is tried and seen, draws and images, on both sides -/
set_option maxHeartbeats 4000000 in
theorem t_hat {E : Ev} {K : Nat} {σ : Sg} (h : RS K σ) (hK : K ≤ 96000) (a n : Int32) : Two E K (fun τ q_ => Ct E yX6_hat cX6_hat 4 (some .int) ({ frames := 5, cells := 0, slots := 0, locals := 111 } : Room) false 146 [.ref (Ez E + 0), .int a, .int n] (cellOf E τ) 146 0 0 q_) (fun τ q_ => Ct E yX7_hat cX7_hat 4 (some .int) ({ frames := 4, cells := 0, slots := 0, locals := 89 } : Room) false 146 [.ref (Ez E + 132), .int a, .int n] (cellOf E τ) 146 0 0 q_) σ := by
  obtain ⟨D, xP, xR, xW, xS, xZ, xG, xK, xT, xQ, xF, xB, xL, xC, un, sz, wm, fm, bm, at_, bg, fg, ft, sg, vl, wr, sd, e, hx⟩ := h
  obtain ⟨c, μ⟩ := σ
  replace e : μ = (mkA xP xR xW xS xZ xG xK xT xQ xF xB xL xC, (nI un, nI sz, ft, nI wm, nI fm, nI bm, nI at_, nI bg, sg, nI fg, vl, wr), sd) := e
  subst e
  have hW := RS_WC hx
  obtain ⟨hP, hnp_, hnd_, hD, hn7, hn9⟩ := RS_par hx
  obtain ⟨k1, k2, k3, k4, k5, k6, k7, k8, k9, k10, k11⟩ := DRl_k hD
  have hF := hx.2.1
  have hx2 := RSx_mono (Nat.le_add_right K 1500) hx
  have hs := s_hat (E := E) hW a n
  unfold cs_hat at hs
  rw [hnp_, hP] at hs
  by_cases c1 : perB a (dNp D) = true
  · rw [if_pos c1] at hs
    by_cases c2 : outB n (nI 0) (nI 100) = true
    · rw [if_pos c2] at hs
      exact ⟨_, _, hs, _, m_hat2 k5 hn7 c1 c2, ans_of rfl (RS_mk hx2)⟩
    · rw [if_neg c2] at hs
      obtain ⟨j, j1, rfl⟩ := perB_nat c1 (by omega)
      obtain ⟨q, -, q2, rfl⟩ := outB_nat (by decide) (by decide) (bf c2)
      rw [nI_clamp (by omega), nI_clamp (by omega)] at hs
      have hdu : ¬ xP 1 = 0 := fun z => by have := k10 z; omega
      have hm := FR_passN hn7 (l := xL) (FR_lay (G := c.1 1) (S := xS) hF) k1 k7 (du_pos hdu k9 k7) q (by omega)
      refine ⟨_, _, hs, _, m_hat k5 hn7 (FR_trc hF) hdu j1 q2, ans_of ?_ (RS_mk (RSx_m _ (RSx_try _ hx2)))⟩
      obtain ⟨b, -, b1, b2, -, -⟩ := FR_b hm (i := j) (by omega)
      rw [Nat.zero_add, b2]
      exact b1.symm
  · rw [if_neg c1] at hs
    exact ⟨_, _, hs, _, m_hat1 k5 hn7 (bf c1), ans_of rfl (RS_mk hx2)⟩
set_option maxHeartbeats 4000000 in
theorem t_most {E : Ev} {K : Nat} {σ : Sg} (h : RS K σ) (hK : K ≤ 96000) (a n w : Int32) : Two E K (fun τ q_ => Ct E yX6_most cX6_most 7 (some .int) ({ frames := 5, cells := 0, slots := 0, locals := 111 } : Room) false 146 [.ref (Ez E + 0), .int a, .int n, .int w] (cellOf E τ) 146 0 0 q_) (fun τ q_ => Ct E yX7_most cX7_most 7 (some .int) ({ frames := 4, cells := 0, slots := 0, locals := 89 } : Room) false 146 [.ref (Ez E + 132), .int a, .int n, .int w] (cellOf E τ) 146 0 0 q_) σ := by
  obtain ⟨D, xP, xR, xW, xS, xZ, xG, xK, xT, xQ, xF, xB, xL, xC, un, sz, wm, fm, bm, at_, bg, fg, ft, sg, vl, wr, sd, e, hx⟩ := h
  obtain ⟨c, μ⟩ := σ
  replace e : μ = (mkA xP xR xW xS xZ xG xK xT xQ xF xB xL xC, (nI un, nI sz, ft, nI wm, nI fm, nI bm, nI at_, nI bg, sg, nI fg, vl, wr), sd) := e
  subst e
  have hW := RS_WC hx
  obtain ⟨hP, hnp_, hnd_, hD, hn7, hn9⟩ := RS_par hx
  obtain ⟨k1, k2, k3, k4, k5, k6, k7, k8, k9, k10, k11⟩ := DRl_k hD
  have hF := hx.2.1
  have hx2 := RSx_mono (Nat.le_add_right K 1500) hx
  have hs := s_most (E := E) hW a n w
  unfold cs_most at hs
  rw [hnp_] at hs
  by_cases c1 : perB a (dNp D) = true
  · rw [if_pos c1] at hs
    by_cases c2 : outB n (nI 0) (nI 100) = true
    · rw [if_pos (Or.inl c2)] at hs
      exact ⟨_, _, hs, _, m_most2 k5 hn7 c1 c2, ans_of rfl (RS_mk hx2)⟩
    · by_cases c3 : outB w (nI 0) (nI 1) = true
      · rw [if_pos (Or.inr c3)] at hs
        exact ⟨_, _, hs, _, m_most3 k5 hn7 c1 (bf c2) c3, ans_of rfl (RS_mk hx2)⟩
      · rw [if_neg (fun q => q.elim c2 c3)] at hs
        obtain ⟨j, j1, rfl⟩ := perB_nat c1 (by omega)
        obtain ⟨q, -, q2, rfl⟩ := outB_nat (by decide) (by decide) (bf c2)
        obtain ⟨v, -, v2, rfl⟩ := outB_nat (by decide) (by decide) (bf c3)
        unfold mostN at hs
        rw [nI_clamp (by omega), nI_clamp (by omega), hnp_, hP] at hs
        have hdu : ¬ xP 1 = 0 := fun z => by have := k10 z; omega
        obtain ⟨m1, m2, m3, m4⟩ := most_sim hn7 (l := xL) (FR_lay (G := c.1 1) (S := xS) hF) k1 k7 (du_pos hdu k9 k7) j1 q (by omega)
        refine ⟨_, _, hs, _, m_most k5 hn7 (FR_trc hF) hdu j1 q2 v2, ans_of ?_ (RS_mk (RSx_m _ (RSx_try _ hx2)))⟩
        rcases (show v = 0 ∨ v = 1 by omega) with rfl | rfl
        · rw [if_pos rfl, if_pos (by decide)]
          exact m2.symm
        · rw [if_neg (by decide), if_neg (by decide)]
          exact m1.symm
  · rw [if_neg c1] at hs
    exact ⟨_, _, hs, _, m_most1 k5 hn7 (bf c1), ans_of rfl (RS_mk hx2)⟩
set_option maxHeartbeats 4000000 in
theorem t_kept {E : Ev} {K : Nat} {σ : Sg} (h : RS K σ) (hK : K ≤ 96000) (a : Int32) : Two E K (fun τ q_ => Ct E yX6_kept cX6_kept 3 (some .int) ({ frames := 4, cells := 0, slots := 0, locals := 90 } : Room) false 146 [.ref (Ez E + 0), .int a] (cellOf E τ) 146 0 0 q_) (fun τ q_ => Ct E yX7_kept cX7_kept 2 (some .int) ({ frames := 4, cells := 0, slots := 0, locals := 89 } : Room) false 146 [.ref (Ez E + 132), .int a] (cellOf E τ) 146 0 0 q_) σ := by
  obtain ⟨D, xP, xR, xW, xS, xZ, xG, xK, xT, xQ, xF, xB, xL, xC, un, sz, wm, fm, bm, at_, bg, fg, ft, sg, vl, wr, sd, e, hx⟩ := h
  obtain ⟨c, μ⟩ := σ
  replace e : μ = (mkA xP xR xW xS xZ xG xK xT xQ xF xB xL xC, (nI un, nI sz, ft, nI wm, nI fm, nI bm, nI at_, nI bg, sg, nI fg, vl, wr), sd) := e
  subst e
  have hW := RS_WC hx
  obtain ⟨hP, hnp_, hnd_, hD, hn7, hn9⟩ := RS_par hx
  obtain ⟨k1, k2, k3, k4, k5, k6, k7, k8, k9, k10, k11⟩ := DRl_k hD
  have hF := hx.2.1
  have hx2 := RSx_mono (Nat.le_add_right K 1500) hx
  have hs := s_kept (E := E) hW a
  unfold cs_kept at hs
  rw [hnp_, hP] at hs
  by_cases c1 : perB a (dNp D) = true
  · rw [if_pos c1] at hs
    obtain ⟨j, j1, rfl⟩ := perB_nat c1 (by omega)
    rw [nI_clamp (by omega)] at hs
    have hdu : ¬ xP 1 = 0 := fun z => by have := k10 z; omega
    have hpos := du_pos hdu k9 k7
    obtain ⟨du, d1, d2⟩ := k9
    obtain ⟨hh, hh0, hh1, hh2⟩ := hF.2.2.2.1
    have hd1 : 1 ≤ du := by
      rcases Nat.eq_zero_or_pos du with z | z
      · rw [d2, z] at hdu; exact absurd (by decide) hdu
      · exact z
    have hm := kept_sim hn7 k1 k7 hpos 23 (K + 8) _ _ (m_lo xP (cpA xW 0 xS 0 48) xL (dNp D)) (FR_fly hn7 (by omega) (l := xL) (FR_lay (G := c.1 1) (S := xS) hF) k1) (by omega)
    refine ⟨_, _, hs, _, m_kept k5 hn7 (FR_trc hF) d2 hd1 d1 hh2 (by omega) j1, ans_of ?_ (RS_mk (RSx_m _ (RSx_try _ hx2)))⟩
    obtain ⟨b, -, b1, b2, -, -⟩ := FR_b hm (i := j) (by omega)
    rw [Nat.zero_add]
    exact b2.trans b1.symm
  · rw [if_neg c1] at hs
    exact ⟨_, _, hs, _, m_kept1 k5 hn7 (bf c1), ans_of rfl (RS_mk hx2)⟩
set_option maxHeartbeats 4000000 in
theorem t_settled {E : Ev} {K : Nat} {σ : Sg} (h : RS K σ) (hK : K ≤ 96000) (w : Int32) : Two E K (fun τ q_ => Ct E yX6_settled cX6_settled 3 (some .int) ({ frames := 3, cells := 0, slots := 0, locals := 92 } : Room) false 146 [.ref (Ez E + 0), .int w] (cellOf E τ) 146 0 0 q_) (fun τ q_ => Ct E yX7_settled cX7_settled 6 (some .int) ({ frames := 3, cells := 0, slots := 0, locals := 72 } : Room) false 146 [.ref (Ez E + 132), .int w] (cellOf E τ) 146 0 0 q_) σ := by
  obtain ⟨D, xP, xR, xW, xS, xZ, xG, xK, xT, xQ, xF, xB, xL, xC, un, sz, wm, fm, bm, at_, bg, fg, ft, sg, vl, wr, sd, e, hx⟩ := h
  obtain ⟨c, μ⟩ := σ
  replace e : μ = (mkA xP xR xW xS xZ xG xK xT xQ xF xB xL xC, (nI un, nI sz, ft, nI wm, nI fm, nI bm, nI at_, nI bg, sg, nI fg, vl, wr), sd) := e
  subst e
  have hW := RS_WC hx
  obtain ⟨hP, hnp_, hnd_, hD, hn7, hn9⟩ := RS_par hx
  obtain ⟨k1, k2, k3, k4, k5, k6, k7, k8, k9, k10, k11⟩ := DRl_k hD
  have hF := hx.2.1
  have hx2 := RSx_mono (Nat.le_add_right K 1500) hx
  have hs := s_settled (E := E) hW w
  unfold cs_settled lngR at hs
  rw [hnd_, hP] at hs
  have hDb := DbR_of hD hF
  have hv : ∀ d, d < dNd D → vp_in (xP (25 + d)) 7 := fun d hd => by
    obtain ⟨a, a1, -, a2⟩ := k3 d hd
    rw [a2]; exact vp_in_nI (by omega) (by decide)
  by_cases c1 : outB w (nI 0) (nI 1) = true
  · rw [if_pos c1] at hs
    exact ⟨_, _, hs, _, m_settled2 c1, ans_of rfl (RS_mk hx2)⟩
  · rw [if_neg c1] at hs
    obtain ⟨q, -, q2, rfl⟩ := outB_nat (by decide) (by decide) (bf c1)
    obtain ⟨e1, e2⟩ := settled_eq hDb (gL (c, (mkA xP xR xW xS xZ xG xK xT xQ xF xB xL xC, (nI un, nI sz, ft, nI wm, nI fm, nI bm, nI at_, nI bg, sg, nI fg, vl, wr), sd))) xC
    rcases (show q = 0 ∨ q = 1 by omega) with rfl | rfl
    · refine ⟨_, _, hs, _, m_settled0 k6 hn9 hv, ans_of ?_ (RS_mk (RSx_m _ (RSx_st _ hx2)))⟩
      rw [if_pos (by decide)]
      exact e1.symm
    · refine ⟨_, _, hs, _, m_settled1 k6 hn9 hv (settled_ex hDb xC), ans_of ?_ (RS_mk (RSx_m _ (RSx_st _ hx2)))⟩
      rw [if_neg (by decide)]
      exact e2.symm
set_option maxHeartbeats 4000000 in
theorem t_toFloat {E : Ev} {K : Nat} {σ : Sg} (h : RS K σ) (hK : K ≤ 96000) (a : Int32) : Two E K (fun τ q_ => Ct E yX6_toFloat cX6_toFloat 2 (some .int) ({ frames := 3, cells := 0, slots := 0, locals := 91 } : Room) false 146 [.ref (Ez E + 0), .int a] (cellOf E τ) 146 0 0 q_) (fun τ q_ => Ct E yX7_toFloat cX7_toFloat 6 (some .int) ({ frames := 3, cells := 0, slots := 0, locals := 72 } : Room) false 146 [.ref (Ez E + 132), .int a] (cellOf E τ) 146 0 0 q_) σ := by
  obtain ⟨D, xP, xR, xW, xS, xZ, xG, xK, xT, xQ, xF, xB, xL, xC, un, sz, wm, fm, bm, at_, bg, fg, ft, sg, vl, wr, sd, e, hx⟩ := h
  obtain ⟨c, μ⟩ := σ
  replace e : μ = (mkA xP xR xW xS xZ xG xK xT xQ xF xB xL xC, (nI un, nI sz, ft, nI wm, nI fm, nI bm, nI at_, nI bg, sg, nI fg, vl, wr), sd) := e
  subst e
  have hW := RS_WC hx
  obtain ⟨hP, hnp_, hnd_, hD, hn7, hn9⟩ := RS_par hx
  obtain ⟨k1, k2, k3, k4, k5, k6, k7, k8, k9, k10, k11⟩ := DRl_k hD
  have hF := hx.2.1
  have hx2 := RSx_mono (Nat.le_add_right K 1500) hx
  have hs := s_toFloat (E := E) hW a
  unfold cs_toFloat floT at hs
  rw [hnp_, hnd_, hP] at hs
  have hDb := DbR_of hD hF
  have hv : ∀ d, d < dNd D → vp_in (xP (25 + d)) 7 := fun d hd => by
    obtain ⟨a, a1, -, a2⟩ := k3 d hd
    rw [a2]; exact vp_in_nI (by omega) (by decide)
  by_cases c1 : perB a (dNp D) = true
  · rw [if_pos c1] at hs
    obtain ⟨j, j1, rfl⟩ := perB_nat c1 (by omega)
    have e1 := float_eq hDb (gL (c, (mkA xP xR xW xS xZ xG xK xT xQ xF xB xL xC, (nI un, nI sz, ft, nI wm, nI fm, nI bm, nI at_, nI bg, sg, nI fg, vl, wr), sd))) xC j1
    refine ⟨_, _, hs, _, m_toFloat k5 hn7 k6 hn9 hv j1, fun r h' q => ?_⟩
    obtain ⟨q1, c1, q2⟩ := q
    exact ⟨by rw [q1, ← e1], _, q2, RS_mk (RSx_m _ (RSx_st _ hx2))⟩
  · rw [if_neg c1] at hs
    exact ⟨_, _, hs, _, m_toFloat1 k5 hn7 (bf c1), ans_of rfl (RS_mk hx2)⟩
set_option maxHeartbeats 4000000 in
theorem t_nets {E : Ev} {K : Nat} {σ : Sg} (h : RS K σ) (hK : K ≤ 96000) (n h2 : Int32) : Two E K (fun τ q_ => Ct E yX6_nets cX6_nets 8 (some .int) ({ frames := 6, cells := 0, slots := 0, locals := 134 } : Room) false 146 [.ref (Ez E + 0), .int n, .int h2] (cellOf E τ) 146 0 0 q_) (fun τ q_ => Ct E yX7_nets cX7_nets 6 (some .int) ({ frames := 4, cells := 0, slots := 0, locals := 89 } : Room) false 146 [.ref (Ez E + 132), .int n, .int h2] (cellOf E τ) 146 0 0 q_) σ := by
  obtain ⟨D, xP, xR, xW, xS, xZ, xG, xK, xT, xQ, xF, xB, xL, xC, un, sz, wm, fm, bm, at_, bg, fg, ft, sg, vl, wr, sd, e, hx⟩ := h
  obtain ⟨c, μ⟩ := σ
  replace e : μ = (mkA xP xR xW xS xZ xG xK xT xQ xF xB xL xC, (nI un, nI sz, ft, nI wm, nI fm, nI bm, nI at_, nI bg, sg, nI fg, vl, wr), sd) := e
  subst e
  have hW := RS_WC hx
  obtain ⟨hP, hnp_, hnd_, hD, hn7, hn9⟩ := RS_par hx
  obtain ⟨k1, k2, k3, k4, k5, k6, k7, k8, k9, k10, k11⟩ := DRl_k hD
  have hF := hx.2.1
  have hx2 := RSx_mono (Nat.le_add_right K 1500) hx
  have hs := s_nets (E := E) hW n h2
  unfold cs_nets at hs
  rw [hP] at hs
  by_cases c1 : outB n (nI 0) (nI 9999) = true
  · rw [if_pos (Or.inl c1)] at hs
    exact ⟨_, _, hs, _, m_nets1 c1, ans_of rfl (RS_mk hx2)⟩
  · by_cases c2 : outB h2 (nI 1) (nI 24) = true
    · rw [if_pos (Or.inr c2)] at hs
      exact ⟨_, _, hs, _, m_nets2 (bf c1) c2, ans_of rfl (RS_mk hx2)⟩
    · rw [if_neg (fun q => q.elim c1 c2)] at hs
      obtain ⟨q, -, q2, rfl⟩ := outB_nat (by decide) (by decide) (bf c1)
      obtain ⟨v, v1, v2, rfl⟩ := outB_nat (by decide) (by decide) (bf c2)
      by_cases c3 : parSd (dP D) = 0
      · rw [if_pos c3] at hs
        have p1 := k8.mp c3
        have n0 := k10 p1
        refine ⟨_, _, hs, _, m_nets k5 hn7 (FR_trc hF) (Or.inl n0) q2 v1 v2, ans_of ?_ (RS_mk (RSx_m _ hx2))⟩
        rw [n0]
        show (st_mne xP xW 0 (nI q) v 0 (-1, xS, xL)).1 = -1
        unfold st_mne
        rw [if_neg (fun z => z.2.2 (by rw [p1]; decide))]
      · rw [if_neg c3] at hs
        unfold netsN at hs
        rw [nI_clamp (by omega), hnp_, hP] at hs
        have hdu : ¬ xP 1 = 0 := fun z => c3 (k8.mpr z)
        have e1 := (nets_sim hn7 (by omega) (G := c.1 1) (S := xS) (L := xL) hF k1 k7 (du_pos hdu k9 k7) v2 (nI q) (2 ^ dNp D) (pow7 hn7)).1
        exact ⟨_, _, hs, _, m_nets k5 hn7 (FR_trc hF) (Or.inr hdu) q2 v1 v2, ans_of e1.symm (RS_mk (RSx_m _ (RSx_try _ hx2)))⟩
set_option maxHeartbeats 4000000 in
theorem t_calm {E : Ev} {K : Nat} {σ : Sg} (h : RS K σ) (hK : K ≤ 96000) (n q : Int32) : Two E K (fun τ q_ => Ct E yX6_calm cX6_calm 6 (some .int) ({ frames := 1, cells := 0, slots := 0, locals := 22 } : Room) false 146 [.ref (Ez E + 0), .int n, .int q] (cellOf E τ) 146 0 0 q_) (fun τ q_ => Ct E yX7_calm cX7_calm 6 (some .int) ({ frames := 1, cells := 0, slots := 0, locals := 25 } : Room) false 146 [.ref (Ez E + 132), .int n, .int q] (cellOf E τ) 146 0 0 q_) σ := by
  obtain ⟨D, xP, xR, xW, xS, xZ, xG, xK, xT, xQ, xF, xB, xL, xC, un, sz, wm, fm, bm, at_, bg, fg, ft, sg, vl, wr, sd, e, hx⟩ := h
  obtain ⟨c, μ⟩ := σ
  replace e : μ = (mkA xP xR xW xS xZ xG xK xT xQ xF xB xL xC, (nI un, nI sz, ft, nI wm, nI fm, nI bm, nI at_, nI bg, sg, nI fg, vl, wr), sd) := e
  subst e
  have hW := RS_WC hx
  obtain ⟨hP, hnp_, hnd_, hD, hn7, hn9⟩ := RS_par hx
  obtain ⟨k1, k2, k3, k4, k5, k6, k7, k8, k9, k10, k11⟩ := DRl_k hD
  have hF := hx.2.1
  have hx2 := RSx_mono (Nat.le_add_right K 1500) hx
  have hs := s_calm (E := E) (σ := (c, (mkA xP xR xW xS xZ xG xK xT xQ xF xB xL xC, (nI un, nI sz, ft, nI wm, nI fm, nI bm, nI at_, nI bg, sg, nI fg, vl, wr), sd))) n q
  unfold cs_calm at hs
  by_cases c1 : outB n (nI 0) (nI 60) = true
  · rw [if_pos (Or.inl c1)] at hs
    exact ⟨_, _, hs, _, m_calm1 c1, ans_of rfl (RS_mk hx2)⟩
  · by_cases c2 : outB q (nI 0) (nI 100) = true
    · rw [if_pos (Or.inr c2)] at hs
      exact ⟨_, _, hs, _, m_calm2 (bf c1) c2, ans_of rfl (RS_mk hx2)⟩
    · rw [if_neg (fun z => z.elim c1 c2)] at hs
      obtain ⟨u, -, u2, rfl⟩ := outB_nat (by decide) (by decide) (bf c1)
      obtain ⟨v, v1, v2, rfl⟩ := outB_nat (by decide) (by decide) (bf c2)
      rw [nI_clamp (by omega)] at hs
      exact ⟨_, _, hs, _, m_calm u2 v2, ans_of rfl (RS_mk hx2)⟩
set_option maxHeartbeats 4000000 in
theorem t_watch {E : Ev} {K : Nat} {σ : Sg} (h : RS K σ) (hK : K ≤ 96000) (a : Int32) : Two E K (fun τ q_ => Ct E yX6_watch cX6_watch 2 (some .int) ({ frames := 1, cells := 0, slots := 0, locals := 22 } : Room) false 146 [.ref (Ez E + 0), .int a] (cellOf E τ) 146 0 0 q_) (fun τ q_ => Ct E yX7_watch cX7_watch 2 (some .int) ({ frames := 1, cells := 0, slots := 0, locals := 25 } : Room) false 146 [.ref (Ez E + 132), .int a] (cellOf E τ) 146 0 0 q_) σ := by
  obtain ⟨D, xP, xR, xW, xS, xZ, xG, xK, xT, xQ, xF, xB, xL, xC, un, sz, wm, fm, bm, at_, bg, fg, ft, sg, vl, wr, sd, e, hx⟩ := h
  obtain ⟨c, μ⟩ := σ
  replace e : μ = (mkA xP xR xW xS xZ xG xK xT xQ xF xB xL xC, (nI un, nI sz, ft, nI wm, nI fm, nI bm, nI at_, nI bg, sg, nI fg, vl, wr), sd) := e
  subst e
  have hW := RS_WC hx
  obtain ⟨hP, hnp_, hnd_, hD, hn7, hn9⟩ := RS_par hx
  obtain ⟨k1, k2, k3, k4, k5, k6, k7, k8, k9, k10, k11⟩ := DRl_k hD
  have hF := hx.2.1
  have hx2 := RSx_mono (Nat.le_add_right K 1500) hx
  obtain ⟨wa, df, wf, ep, eb, s1, s2, s3, s4, s5⟩ := hx.2.2.2.2.2.2

  have hs := s_watch (E := E) hW a
  unfold cs_watch at hs
  rw [s1] at hs
  change Ct _ _ _ _ _ _ _ _ _ _ _ _ _ (Ff (some (.int (if outB a (nI 0) (nI 99) = true then _ else if (nI wm).toNatClampNeg < 6 then _ else _ : Int32 × Sg).1)) (cellOf E (if outB a (nI 0) (nI 99) = true then _ else if (nI wm).toNatClampNeg < 6 then (nI ((nI wm).toNatClampNeg + 1), sSe _ (upd wa (nI wm).toNatClampNeg a, df, wf, ep, eb, nI ((nI wm).toNatClampNeg + 1), nI fm, nI bm)) else _ : Int32 × Sg).2)) at hs
  rw [nI_clamp (by omega)] at hs
  by_cases c1 : outB a (nI 0) (nI 99) = true
  · rw [if_pos c1] at hs
    exact ⟨_, _, hs, _, m_watch1 c1, ans_of rfl (RS_mk hx2)⟩
  · rw [if_neg c1] at hs
    by_cases c2 : wm < 6
    · rw [if_pos c2] at hs
      refine ⟨_, _, hs, _, m_watch (bf c1) c2, ans_of rfl (RS_mk (D := D) ?_)⟩
      obtain ⟨x1, x2, x3, x4, x5, x6, x7⟩ := hx2
      refine ⟨x1, x2, x3, x4, x5, x6, upd wa wm a, df, wf, ep, eb, rfl, by omega, s3, s4, fun i hi => ?_, s5.2.1, s5.2.2⟩
      by_cases ei : i = wm
      · subst ei; rw [upd_self, upd_self]
      · rw [upd_ne ei, upd_ne ei]; exact s5.1 i (by omega)
    · rw [if_neg c2] at hs
      exact ⟨_, _, hs, _, m_watch2 (bf c1) (by omega), ans_of rfl (RS_mk hx2)⟩
set_option maxHeartbeats 4000000 in
theorem t_feel {E : Ev} {K : Nat} {σ : Sg} (h : RS K σ) (hK : K ≤ 96000) (x y : Int32) (w : Bool) : Two E K (fun τ q_ => Ct E yX6_feel cX6_feel 4 (some .int) ({ frames := 1, cells := 0, slots := 0, locals := 22 } : Room) false 146 [.ref (Ez E + 0), .int x, .int y, .int (bI w)] (cellOf E τ) 146 0 0 q_) (fun τ q_ => Ct E yX7_feel cX7_feel 4 (some .int) ({ frames := 1, cells := 0, slots := 0, locals := 25 } : Room) false 146 [.ref (Ez E + 132), .int x, .int y, .int (bI w)] (cellOf E τ) 146 0 0 q_) σ := by
  obtain ⟨D, xP, xR, xW, xS, xZ, xG, xK, xT, xQ, xF, xB, xL, xC, un, sz, wm, fm, bm, at_, bg, fg, ft, sg, vl, wr, sd, e, hx⟩ := h
  obtain ⟨c, μ⟩ := σ
  replace e : μ = (mkA xP xR xW xS xZ xG xK xT xQ xF xB xL xC, (nI un, nI sz, ft, nI wm, nI fm, nI bm, nI at_, nI bg, sg, nI fg, vl, wr), sd) := e
  subst e
  have hW := RS_WC hx
  obtain ⟨hP, hnp_, hnd_, hD, hn7, hn9⟩ := RS_par hx
  obtain ⟨k1, k2, k3, k4, k5, k6, k7, k8, k9, k10, k11⟩ := DRl_k hD
  have hF := hx.2.1
  have hx2 := RSx_mono (Nat.le_add_right K 1500) hx
  obtain ⟨wa, df, wf, ep, eb, s1, s2, s3, s4, s5⟩ := hx.2.2.2.2.2.2

  have hs := s_feel (E := E) hW x y w
  unfold cs_feel at hs
  rw [s1] at hs
  change Ct _ _ _ _ _ _ _ _ _ _ _ _ _ (Ff (some (.int (if outB x (nI 0) (nI 50) = true ∨ outB y (nI 0) (nI 50) = true then _ else if (nI fm).toNatClampNeg < 6 then _ else _ : Int32 × Sg).1)) (cellOf E (if outB x (nI 0) (nI 50) = true ∨ outB y (nI 0) (nI 50) = true then _ else if (nI fm).toNatClampNeg < 6 then (nI ((nI fm).toNatClampNeg + 1), sSe _ (wa, upd df (nI fm).toNatClampNeg (abI (x - y)), upd wf (nI fm).toNatClampNeg (bI w), ep, eb, nI wm, nI ((nI fm).toNatClampNeg + 1), nI bm)) else _ : Int32 × Sg).2)) at hs
  rw [nI_clamp (by omega)] at hs
  by_cases c1 : outB x (nI 0) (nI 50) = true
  · rw [if_pos (Or.inl c1)] at hs
    exact ⟨_, _, hs, _, m_feel1 c1 w, ans_of rfl (RS_mk hx2)⟩
  · by_cases c3 : outB y (nI 0) (nI 50) = true
    · rw [if_pos (Or.inr c3)] at hs
      exact ⟨_, _, hs, _, m_feel2 (bf c1) c3 w, ans_of rfl (RS_mk hx2)⟩
    · rw [if_neg (fun z => z.elim c1 c3)] at hs
      by_cases c2 : fm < 6
      · rw [if_pos c2] at hs
        refine ⟨_, _, hs, _, m_feel (bf c1) (bf c3) c2 w, ans_of rfl (RS_mk (D := D) ?_)⟩
        obtain ⟨x1, x2, x3, x4, x5, x6, x7⟩ := hx2
        obtain ⟨u, -, u2, rfl⟩ := outB_nat (by decide) (by decide) (bf c1)
        obtain ⟨v, -, v2, rfl⟩ := outB_nat (by decide) (by decide) (bf c3)
        refine ⟨x1, x2, x3, x4, x5, x6, wa, upd df fm (abI (nI u - nI v)), upd wf fm (bI w), ep, eb, rfl, s2, by omega, s4, s5.1, fun i hi => ?_, s5.2.2⟩
        by_cases ei : i = fm
        · subst ei
          refine ⟨u, v, w, u2, v2, ?_, ?_, ?_, upd_self, upd_self⟩
          · rw [upd_ne (by omega), upd_ne (by omega), upd_self]
          · rw [upd_ne (by omega), upd_self]
          · rw [upd_self]
        · rw [upd_ne ei, upd_ne ei, upd_ne (by omega), upd_ne (by omega), upd_ne (by omega), upd_ne (by omega), upd_ne (by omega), upd_ne (by omega), upd_ne (by omega), upd_ne (by omega), upd_ne (by omega)]
          exact s5.2.1 i (by omega)
      · rw [if_neg c2] at hs
        exact ⟨_, _, hs, _, m_feel3 (bf c1) (bf c3) (by omega) w, ans_of rfl (RS_mk hx2)⟩
set_option maxHeartbeats 4000000 in
theorem t_reach {E : Ev} {K : Nat} {σ : Sg} (h : RS K σ) (hK : K ≤ 96000) (w : Int32) : Two E K (fun τ q_ => Ct E yX6_reach cX6_reach 2 (some .int) ({ frames := 3, cells := 0, slots := 0, locals := 71 } : Room) false 146 [.ref (Ez E + 0), .int w] (cellOf E τ) 146 0 0 q_) (fun τ q_ => Ct E yX7_reach cX7_reach 10 (some .int) ({ frames := 2, cells := 0, slots := 0, locals := 48 } : Room) false 146 [.ref (Ez E + 132), .int w] (cellOf E τ) 146 0 0 q_) σ := by
  obtain ⟨D, xP, xR, xW, xS, xZ, xG, xK, xT, xQ, xF, xB, xL, xC, un, sz, wm, fm, bm, at_, bg, fg, ft, sg, vl, wr, sd, e, hx⟩ := h
  obtain ⟨c, μ⟩ := σ
  replace e : μ = (mkA xP xR xW xS xZ xG xK xT xQ xF xB xL xC, (nI un, nI sz, ft, nI wm, nI fm, nI bm, nI at_, nI bg, sg, nI fg, vl, wr), sd) := e
  subst e
  have hW := RS_WC hx
  obtain ⟨hP, hnp_, hnd_, hD, hn7, hn9⟩ := RS_par hx
  obtain ⟨k1, k2, k3, k4, k5, k6, k7, k8, k9, k10, k11⟩ := DRl_k hD
  have hF := hx.2.1
  have hx2 := RSx_mono (Nat.le_add_right K 1500) hx
  obtain ⟨wa, df, wf, ep, eb, s1, s2, s3, s4, s5⟩ := hx.2.2.2.2.2.2

  have hs := s_reach (E := E) hW w
  unfold cs_reach seeCan at hs
  rw [s1] at hs
  change Ct _ _ _ _ _ _ _ _ _ _ _ _ _ (Ff (some (.int (if w = nI 0 then cntR (fun r => canR df wf (nI fm).toNatClampNeg (nI r)) 51 else if w = nI 1 then fst_ (fun r => canR df wf (nI fm).toNatClampNeg (nI r)) 51 0 else if w = nI 2 then lst_ (fun r => canR df wf (nI fm).toNatClampNeg (nI r)) 51 else if w = nI 3 then partR (fun r => canR df wf (nI fm).toNatClampNeg (nI r)) (cntR (fun r => canR df wf (nI fm).toNatClampNeg (nI r)) 51) else cOUT))) _) at hs
  rw [nI_clamp (by omega)] at hs
  by_cases c1 : outB w (nI 0) (nI 3) = true
  · have hw : ∀ q, q ≤ 3 → ¬ w = nI q := fun q hq r => by rw [r, outB_in (Nat.zero_le _) hq (by decide)] at c1; exact Bool.noConfusion c1
    rw [if_neg (hw 0 (by omega)), if_neg (hw 1 (by omega)), if_neg (hw 2 (by omega)), if_neg (hw 3 (by omega))] at hs
    exact ⟨_, _, hs, _, m_reach1 c1, ans_of rfl (RS_mk hx2)⟩
  · obtain ⟨q, -, q2, rfl⟩ := outB_nat (by decide) (by decide) (bf c1)
    obtain ⟨e0, e1, e2, e3⟩ := reach_eq s5.2.1
    refine ⟨_, _, hs, _, m_reach s3 q2, ans_of ?_ (RS_mk hx2)⟩
    rcases (show q = 0 ∨ q = 1 ∨ q = 2 ∨ q = 3 by omega) with rfl | rfl | rfl | rfl
    · rw [if_pos rfl]; exact e0.symm
    · rw [if_neg (by decide), if_pos rfl]; exact e1.symm
    · rw [if_neg (by decide), if_neg (by decide), if_pos rfl]; exact e2.symm
    · rw [if_neg (by decide), if_neg (by decide), if_neg (by decide), if_pos rfl]; exact e3.symm
set_option maxHeartbeats 4000000 in
theorem t_write {E : Ev} {K : Nat} {σ : Sg} (h : RS K σ) (hK : K ≤ 96000) (a n : Int32) : Two E K (fun τ q_ => Ct E yX6_write cX6_write 3 (some .int) ({ frames := 1, cells := 0, slots := 0, locals := 22 } : Room) false 146 [.ref (Ez E + 0), .int a, .int n] (cellOf E τ) 146 0 0 q_) (fun τ q_ => Ct E yX7_write cX7_write 3 (some .int) ({ frames := 2, cells := 0, slots := 0, locals := 46 } : Room) false 146 [.ref (Ez E + 132), .int a, .int n] (cellOf E τ) 146 0 0 q_) σ := by
  obtain ⟨D, xP, xR, xW, xS, xZ, xG, xK, xT, xQ, xF, xB, xL, xC, un, sz, wm, fm, bm, at_, bg, fg, ft, sg, vl, wr, sd, e, hx⟩ := h
  obtain ⟨c, μ⟩ := σ
  replace e : μ = (mkA xP xR xW xS xZ xG xK xT xQ xF xB xL xC, (nI un, nI sz, ft, nI wm, nI fm, nI bm, nI at_, nI bg, sg, nI fg, vl, wr), sd) := e
  subst e
  have hW := RS_WC hx
  obtain ⟨hP, hnp_, hnd_, hD, hn7, hn9⟩ := RS_par hx
  obtain ⟨k1, k2, k3, k4, k5, k6, k7, k8, k9, k10, k11⟩ := DRl_k hD
  have hF := hx.2.1
  have hx2 := RSx_mono (Nat.le_add_right K 1500) hx
  obtain ⟨wa, df, wf, ep, eb, s1, s2, s3, s4, s5⟩ := hx.2.2.2.2.2.2

  have hs := s_write (E := E) hW a n
  unfold cs_write at hs
  rw [s1, hnp_] at hs
  change Ct _ _ _ _ _ _ _ _ _ _ _ _ _ (Ff (some (.int (if perB a (dNp D) = true then (if outB n (nI 0) (nI 9999) = true then _ else if (nI bm).toNatClampNeg < 15 then _ else _) else _ : Int32 × Sg).1)) (cellOf E (if perB a (dNp D) = true then (if outB n (nI 0) (nI 9999) = true then _ else if (nI bm).toNatClampNeg < 15 then (nI ((nI bm).toNatClampNeg + 1), sSe _ (wa, df, wf, upd ep (nI bm).toNatClampNeg a, upd eb (nI bm).toNatClampNeg n, nI wm, nI fm, nI ((nI bm).toNatClampNeg + 1))) else _) else _ : Int32 × Sg).2)) at hs
  rw [nI_clamp (by omega)] at hs
  by_cases c1 : perB a (dNp D) = true
  · rw [if_pos c1] at hs
    by_cases c2 : outB n (nI 0) (nI 9999) = true
    · rw [if_pos c2] at hs
      exact ⟨_, _, hs, _, m_write2 k5 hn7 c1 c2, ans_of rfl (RS_mk hx2)⟩
    · rw [if_neg c2] at hs
      by_cases c3 : bm < 15
      · rw [if_pos c3] at hs
        refine ⟨_, _, hs, _, m_write k5 hn7 c1 (bf c2) c3, ans_of rfl (RS_mk (D := D) ?_)⟩
        obtain ⟨x1, x2, x3, x4, x5, x6, x7⟩ := hx2
        obtain ⟨j, j1, rfl⟩ := perB_nat c1 (by omega)
        refine ⟨x1, x2, x3, x4, x5, x6, wa, df, wf, upd ep bm (nI j), upd eb bm n, rfl, s2, s3, by omega, s5.1, s5.2.1, fun i hi => ?_⟩
        by_cases ei : i = bm
        · subst ei
          refine ⟨j, by omega, upd_self, ?_, ?_⟩
          · rw [upd_ne (by omega), upd_self]
          · rw [upd_self, upd_self]
        · rw [upd_ne ei, upd_ne ei, upd_ne (by omega), upd_ne (by omega), upd_ne (by omega), upd_ne (by omega)]
          exact s5.2.2 i (by omega)
      · rw [if_neg c3] at hs
        exact ⟨_, _, hs, _, m_write3 k5 hn7 c1 (bf c2) (by omega), ans_of rfl (RS_mk hx2)⟩
  · rw [if_neg c1] at hs
    exact ⟨_, _, hs, _, m_write1 k5 hn7 (bf c1), ans_of rfl (RS_mk hx2)⟩
set_option maxHeartbeats 4000000 in
theorem t_tear {E : Ev} {K : Nat} {σ : Sg} (h : RS K σ) (hK : K ≤ 96000) : Two E K (fun τ q_ => Ct E yX6_tear cX6_tear 2 (some .int) ({ frames := 1, cells := 0, slots := 0, locals := 20 } : Room) false 146 [.ref (Ez E + 0)] (cellOf E τ) 146 0 0 q_) (fun τ q_ => Ct E yX7_tear cX7_tear 2 (some .int) ({ frames := 0, cells := 0, slots := 0, locals := 0 } : Room) false 146 [.ref (Ez E + 132)] (cellOf E τ) 146 0 0 q_) σ := by
  obtain ⟨D, xP, xR, xW, xS, xZ, xG, xK, xT, xQ, xF, xB, xL, xC, un, sz, wm, fm, bm, at_, bg, fg, ft, sg, vl, wr, sd, e, hx⟩ := h
  obtain ⟨c, μ⟩ := σ
  replace e : μ = (mkA xP xR xW xS xZ xG xK xT xQ xF xB xL xC, (nI un, nI sz, ft, nI wm, nI fm, nI bm, nI at_, nI bg, sg, nI fg, vl, wr), sd) := e
  subst e
  have hW := RS_WC hx
  obtain ⟨hP, hnp_, hnd_, hD, hn7, hn9⟩ := RS_par hx
  obtain ⟨k1, k2, k3, k4, k5, k6, k7, k8, k9, k10, k11⟩ := DRl_k hD
  have hF := hx.2.1
  have hx2 := RSx_mono (Nat.le_add_right K 1500) hx
  obtain ⟨wa, df, wf, ep, eb, s1, s2, s3, s4, s5⟩ := hx.2.2.2.2.2.2

  have hs := s_tear (E := E) hW
  unfold cs_tear at hs
  rw [s1] at hs
  refine ⟨_, _, hs, _, m_tear, ans_of nI_add3 (RS_mk (D := D) ?_)⟩
  obtain ⟨x1, x2, x3, x4, x5, x6, x7⟩ := hx2
  exact ⟨x1, x2, x3, x4, x5, x6, wa, df, wf, ep, eb, rfl, by omega, by omega, by omega, fun i hi => absurd hi (Nat.not_lt_zero _), fun i hi => absurd hi (Nat.not_lt_zero _), fun i hi => absurd hi (Nat.not_lt_zero _)⟩
set_option maxHeartbeats 4000000 in
theorem t_judge {E : Ev} {K : Nat} {σ : Sg} (h : RS K σ) (hK : K ≤ 96000) : Two E K (fun τ q_ => Ct E yX6_judge cX6_judge 1 (some .int) ({ frames := 1, cells := 0, slots := 0, locals := 22 } : Room) false 146 [.ref (Ez E + 0)] (cellOf E τ) 146 0 0 q_) (fun τ q_ => Ct E yX7_judge cX7_judge 2 (some .int) ({ frames := 0, cells := 0, slots := 0, locals := 0 } : Room) false 146 [.ref (Ez E + 132)] (cellOf E τ) 146 0 0 q_) σ := by
  obtain ⟨D, xP, xR, xW, xS, xZ, xG, xK, xT, xQ, xF, xB, xL, xC, un, sz, wm, fm, bm, at_, bg, fg, ft, sg, vl, wr, sd, e, hx⟩ := h
  obtain ⟨c, μ⟩ := σ
  replace e : μ = (mkA xP xR xW xS xZ xG xK xT xQ xF xB xL xC, (nI un, nI sz, ft, nI wm, nI fm, nI bm, nI at_, nI bg, sg, nI fg, vl, wr), sd) := e
  subst e
  have hW := RS_WC hx
  obtain ⟨hP, hnp_, hnd_, hD, hn7, hn9⟩ := RS_par hx
  obtain ⟨k1, k2, k3, k4, k5, k6, k7, k8, k9, k10, k11⟩ := DRl_k hD
  have hF := hx.2.1
  have hx2 := RSx_mono (Nat.le_add_right K 1500) hx
  obtain ⟨wa, df, wf, ep, eb, s1, s2, s3, s4, s5⟩ := hx.2.2.2.2.2.2

  have hs := s_judge (E := E) hW
  unfold cs_judge at hs
  rw [s1] at hs
  change Ct _ _ _ _ _ _ _ _ _ _ _ _ _ (Ff (some (.int (fst_ (wrongB (fB (c.1 0)) ep eb) (nI bm).toNatClampNeg 0))) _) at hs
  rw [nI_clamp (by omega)] at hs
  exact ⟨_, _, hs, _, m_judge s4 (fun i hi => by obtain ⟨a, a1, -, a2, -⟩ := s5.2.2 i hi; rw [a2]; exact vp_in_nI a1 (by decide)), ans_of (judge_eq hF s5.2.2).symm (RS_mk hx2)⟩
set_option maxHeartbeats 4000000 in
theorem t_seed {E : Ev} {K : Nat} {σ : Sg} (h : RS K σ) (hK : K ≤ 96000) (v : Int32) : Two E K (fun τ q_ => Ct E yX6_seed cX6_seed 3 (some .int) ({ frames := 0, cells := 0, slots := 0, locals := 0 } : Room) false 146 [.ref (Ez E + 0), .int v] (cellOf E τ) 146 0 0 q_) (fun τ q_ => Ct E yX7_seed cX7_seed 3 (some .int) ({ frames := 0, cells := 0, slots := 0, locals := 0 } : Room) false 146 [.ref (Ez E + 132), .int v] (cellOf E τ) 146 0 0 q_) σ := by
  obtain ⟨D, xP, xR, xW, xS, xZ, xG, xK, xT, xQ, xF, xB, xL, xC, un, sz, wm, fm, bm, at_, bg, fg, ft, sg, vl, wr, sd, e, hx⟩ := h
  obtain ⟨c, μ⟩ := σ
  replace e : μ = (mkA xP xR xW xS xZ xG xK xT xQ xF xB xL xC, (nI un, nI sz, ft, nI wm, nI fm, nI bm, nI at_, nI bg, sg, nI fg, vl, wr), sd) := e
  subst e
  have hW := RS_WC hx
  obtain ⟨hP, hnp_, hnd_, hD, hn7, hn9⟩ := RS_par hx
  obtain ⟨k1, k2, k3, k4, k5, k6, k7, k8, k9, k10, k11⟩ := DRl_k hD
  have hF := hx.2.1
  have hx2 := RSx_mono (Nat.le_add_right K 1500) hx
  have hs := s_seed (E := E) hW v
  unfold cs_seed at hs
  by_cases c1 : v < 0
  · rw [if_pos c1] at hs
    exact ⟨_, _, hs, _, m_seed1 c1, ans_of rfl (RS_mk hx2)⟩
  · rw [if_neg c1] at hs
    obtain ⟨j, j1, j2⟩ := nI_of c1
    obtain ⟨n, n1, n2, n3⟩ := hx.2.2.2.2.1
    refine ⟨_, _, hs, _, m_seed c1, ans_of ?_ (RS_mk (RSx_m _ (RSx_up (up := ((gU (c, (mkA xP xR xW xS xZ xG xK xT xQ xF xB xL xC, (nI un, nI sz, ft, nI wm, nI fm, nI bm, nI at_, nI bg, sg, nI fg, vl, wr), sd))).1, (gU (c, (mkA xP xR xW xS xZ xG xK xT xQ xF xB xL xC, (nI un, nI sz, ft, nI wm, nI fm, nI bm, nI at_, nI bg, sg, nI fg, vl, wr), sd))).2.1, v, (gU (c, (mkA xP xR xW xS xZ xG xK xT xQ xF xB xL xC, (nI un, nI sz, ft, nI wm, nI fm, nI bm, nI at_, nI bg, sg, nI fg, vl, wr), sd))).2.2.2)) hx2 rfl rfl rfl rfl ⟨j, j1, j2, by rw [j2]; exact nI_l j1⟩)))⟩
    rw [n3, lN_i]
    exact n2.symm
set_option maxHeartbeats 4000000 in
theorem t_keep {E : Ev} {K : Nat} {σ : Sg} (h : RS K σ) (hK : K ≤ 96000) (i : Int32) : Two E K (fun τ q_ => Ct E yX6_keep cX6_keep 2 (some .int) ({ frames := 2, cells := 0, slots := 0, locals := 61 } : Room) false 146 [.ref (Ez E + 0), .int i] (cellOf E τ) 146 0 0 q_) (fun τ q_ => Ct E yX7_keep cX7_keep 2 (some .int) ({ frames := 1, cells := 0, slots := 0, locals := 25 } : Room) false 146 [.ref (Ez E + 132), .int i] (cellOf E τ) 146 0 0 q_) σ := by
  obtain ⟨D, xP, xR, xW, xS, xZ, xG, xK, xT, xQ, xF, xB, xL, xC, un, sz, wm, fm, bm, at_, bg, fg, ft, sg, vl, wr, sd, e, hx⟩ := h
  obtain ⟨c, μ⟩ := σ
  replace e : μ = (mkA xP xR xW xS xZ xG xK xT xQ xF xB xL xC, (nI un, nI sz, ft, nI wm, nI fm, nI bm, nI at_, nI bg, sg, nI fg, vl, wr), sd) := e
  subst e
  have hW := RS_WC hx
  obtain ⟨hP, hnp_, hnd_, hD, hn7, hn9⟩ := RS_par hx
  obtain ⟨k1, k2, k3, k4, k5, k6, k7, k8, k9, k10, k11⟩ := DRl_k hD
  have hF := hx.2.1
  have hx2 := RSx_mono (Nat.le_add_right K 1500) hx
  have hs := s_keep (E := E) hW i
  unfold cs_keep at hs
  by_cases c1 : outB i (nI 0) (nI 1) = true
  · rw [if_pos c1] at hs
    exact ⟨_, _, hs, _, m_keep1 c1, ans_of rfl (RS_mk hx2)⟩
  · rw [if_neg c1] at hs
    obtain ⟨j, -, j1, rfl⟩ := outB_nat (by decide) (by decide) (bf c1)
    rw [nI_clamp (by omega)] at hs
    obtain ⟨x1, x2, x3, x4, x5, x6⟩ := hx2
    obtain ⟨n, n1, n2, n3⟩ := x5
    have esd : sd.toInt32 = (gU (c, (mkA xP xR xW xS xZ xG xK xT xQ xF xB xL xC, (nI un, nI sz, ft, nI wm, nI fm, nI bm, nI at_, nI bg, sg, nI fg, vl, wr), sd))).2.2.1 := by rw [n2, n3, lN_i]
    refine ⟨_, _, hs, _, m_keep j1, ans_of rfl (RS_mk (D := D) ⟨x1, ?_, PastR_0 x3, fun q hq => ?_, ⟨n, n1, n2, n3⟩, x6⟩)⟩
    · show FR _ _ (va_up c.1 (18 + j) _ 0) xW
      rw [va_up_ne _ _ (by omega)]
      exact x2
    · obtain ⟨y1, y2⟩ := x4 q hq
      show upd (gU (c, (mkA xP xR xW xS xZ xG xK xT xQ xF xB xL xC, (nI un, nI sz, ft, nI wm, nI fm, nI bm, nI at_, nI bg, sg, nI fg, vl, wr), sd))).2.2.2.2.1 j (nI 1) q = upd xK j (nI 1) q ∧ (¬ upd xK j (nI 1) q = 0 → FR _ _ (va_up c.1 (18 + j) (fl_copy (c.1 0) (c.1 (18 + j))) (18 + q)) (fun r => upd (cpA xW 0 xG (49 * j) 48) (49 * j + 48) sd.toInt32 (49 * q + r)) ∧ upd (gU (c, (mkA xP xR xW xS xZ xG xK xT xQ xF xB xL xC, (nI un, nI sz, ft, nI wm, nI fm, nI bm, nI at_, nI bg, sg, nI fg, vl, wr), sd))).2.2.2.1 j (gU (c, (mkA xP xR xW xS xZ xG xK xT xQ xF xB xL xC, (nI un, nI sz, ft, nI wm, nI fm, nI bm, nI at_, nI bg, sg, nI fg, vl, wr), sd))).2.2.1 q = upd (cpA xW 0 xG (49 * j) 48) (49 * j + 48) sd.toInt32 (49 * q + 48) ∧ ∃ n : Nat, n < 2147483648 ∧ upd (gU (c, (mkA xP xR xW xS xZ xG xK xT xQ xF xB xL xC, (nI un, nI sz, ft, nI wm, nI fm, nI bm, nI at_, nI bg, sg, nI fg, vl, wr), sd))).2.2.2.1 j (gU (c, (mkA xP xR xW xS xZ xG xK xT xQ xF xB xL xC, (nI un, nI sz, ft, nI wm, nI fm, nI bm, nI at_, nI bg, sg, nI fg, vl, wr), sd))).2.2.1 q = nI n)
      by_cases e : q = j
      · subst e
        rw [upd_self, upd_self, upd_self, upd_self, va_up_self, esd]
        refine ⟨rfl, fun _ => ⟨FR_row (FR_copy x2) (fun r hr => ?_), rfl, n, n1, n2⟩⟩
        rw [upd_ne (by omega)]
        have z := cpA_at (a := xW) (b := xG) (i := 0) (j := 49 * q) (n := 48) (k := r) hr
        rw [Nat.zero_add] at z
        exact z
      · rw [upd_ne e, upd_ne e, upd_ne e, va_up_ne _ _ (by omega)]
        refine ⟨y1, fun z => ?_⟩
        obtain ⟨y3, y4, y5⟩ := y2 z
        refine ⟨FR_row y3 (fun r hr => ?_), ?_, y5⟩
        · rw [upd_ne (by omega), cpA_out (by omega)]
        · rw [upd_ne (by omega), cpA_out (by omega)]
          exact y4
set_option maxHeartbeats 4000000 in
theorem t_goBack {E : Ev} {K : Nat} {σ : Sg} (h : RS K σ) (hK : K ≤ 96000) (i : Int32) : Two E K (fun τ q_ => Ct E yX6_goBack cX6_goBack 2 (some .int) ({ frames := 2, cells := 0, slots := 0, locals := 61 } : Room) false 146 [.ref (Ez E + 0), .int i] (cellOf E τ) 146 0 0 q_) (fun τ q_ => Ct E yX7_goBack cX7_goBack 2 (some .int) ({ frames := 1, cells := 0, slots := 0, locals := 25 } : Room) false 146 [.ref (Ez E + 132), .int i] (cellOf E τ) 146 0 0 q_) σ := by
  obtain ⟨D, xP, xR, xW, xS, xZ, xG, xK, xT, xQ, xF, xB, xL, xC, un, sz, wm, fm, bm, at_, bg, fg, ft, sg, vl, wr, sd, e, hx⟩ := h
  obtain ⟨c, μ⟩ := σ
  replace e : μ = (mkA xP xR xW xS xZ xG xK xT xQ xF xB xL xC, (nI un, nI sz, ft, nI wm, nI fm, nI bm, nI at_, nI bg, sg, nI fg, vl, wr), sd) := e
  subst e
  have hW := RS_WC hx
  obtain ⟨hP, hnp_, hnd_, hD, hn7, hn9⟩ := RS_par hx
  obtain ⟨k1, k2, k3, k4, k5, k6, k7, k8, k9, k10, k11⟩ := DRl_k hD
  have hF := hx.2.1
  have hx2 := RSx_mono (Nat.le_add_right K 1500) hx
  have hs := s_goBack (E := E) hW i
  unfold cs_goBack at hs
  by_cases c1 : outB i (nI 0) (nI 1) = true
  · rw [if_pos c1] at hs
    exact ⟨_, _, hs, _, m_back1 c1, ans_of rfl (RS_mk hx2)⟩
  · rw [if_neg c1] at hs
    obtain ⟨j, -, j1, rfl⟩ := outB_nat (by decide) (by decide) (bf c1)
    rw [nI_clamp (by omega)] at hs
    obtain ⟨x1, x2, x3, x4, x5, x6⟩ := id hx2
    obtain ⟨y1, y2⟩ := x4 j (by omega)
    by_cases c2 : (gU (c, (mkA xP xR xW xS xZ xG xK xT xQ xF xB xL xC, (nI un, nI sz, ft, nI wm, nI fm, nI bm, nI at_, nI bg, sg, nI fg, vl, wr), sd))).2.2.2.2.1 j = 0
    · rw [if_pos c2] at hs
      exact ⟨_, _, hs, _, m_back2 j1 (by rw [← y1]; exact c2), ans_of rfl (RS_mk hx2)⟩
    · rw [if_neg c2] at hs
      have ck : ¬ xK j = 0 := by rw [← y1]; exact c2
      obtain ⟨y3, y4, n, n1, n2⟩ := y2 ck
      refine ⟨_, _, hs, _, m_back j1 ck, ans_of rfl (RS_mk (D := D) ⟨x1, ?_, PastR_0 x3, ImgR_c (Nat.le_refl _) (fun k a b => va_up_ne _ _ (by omega)) x4, ⟨n, n1, n2, ?_⟩, x6⟩)⟩
      · show FR _ _ (va_up c.1 0 (fl_copy (c.1 (18 + j)) (c.1 0)) 0) _
        rw [va_up_self]
        refine FR_row (FR_copy y3) (fun r hr => ?_)
        have z := cpA_at (a := xG) (b := xW) (i := 49 * j) (j := 0) (n := 48) (k := r) hr
        rw [Nat.zero_add] at z
        exact z
      · rw [← y4, n2]
        exact nI_l n1
