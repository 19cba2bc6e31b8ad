/-! what is done, on both sides -/
theorem ref_eq {sd hr n : Int32} {P W : Fn} (h1 : sd = 0 ↔ P 1 = 0) (h2 : hr = W 16) : rfM P W n = refI sd hr n := by
  unfold rfM refI
  rw [h2]
  by_cases c : outB n (nI 1) (nI 60) = true
  · rw [if_pos c, if_pos ((out_in _ _ _).mpr c)]
  · rw [if_neg c, if_neg (fun q => c ((out_in _ _ _).mp q))]
    by_cases c2 : sd = 0
    · rw [if_pos c2, if_pos (h1.mp c2)]
    · rw [if_neg c2, if_neg (fun q => c2 (h1.mpr q))]
theorem ref_sd {sd hr n : Int32} (h : refI sd hr n = 0) : ¬ sd = 0 := by
  intro q
  unfold refI at h
  by_cases c : outB n (nI 1) (nI 60) = true
  · rw [if_pos c] at h; revert h; decide
  · rw [if_neg c, if_pos q] at h; revert h; decide
theorem du_pos {D : DV} {P : Fn} (h : ¬ P 1 = 0) (h2 : ∃ du : Nat, du ≤ 24 ∧ P 1 = nI du) (h3 : P 1 = D.2.1) : ¬ D.2.1 ≤ 0 := by
  obtain ⟨du, d1, d2⟩ := h2
  rw [← h3, d2]
  refine nI_nle ?_ (by omega)
  rcases Nat.eq_zero_or_pos du with q | q
  · rw [d2, q] at h; exact absurd (by decide) h
  · exact q
set_option maxHeartbeats 4000000 in
theorem t_count {E : Ev} {K : Nat} {σ : Sg} (h : RS K σ) (hK : K ≤ 96000) (a n : Int32) : Two E K (fun τ q_ => Ct E yX6_count cX6_count 3 (some .int) ({ frames := 3, cells := 0, slots := 0, locals := 82 } : Room) false 146 [.ref (Ez E + 0), .int a, .int n] (cellOf E τ) 146 0 0 q_) (fun τ q_ => Ct E yX7_count cX7_count 3 (some .int) ({ frames := 2, cells := 0, slots := 0, locals := 46 } : Room) false 146 [.ref (Ez E + 132), .int a, .int n] (cellOf E τ) 146 0 0 q_) σ := by
  obtain ⟨D, xP, xR, xW, xS, xZ, xG, xK, xT, xQ, xF, xB, xL, xC, un, sz, wm, fm, bm, at_, bg, fg, ft, sg, vl, wr, sd, e, hx⟩ := h
  obtain ⟨c, μ⟩ := σ
  replace e : μ = (mkA xP xR xW xS xZ xG xK xT xQ xF xB xL xC, (nI un, nI sz, ft, nI wm, nI fm, nI bm, nI at_, nI bg, sg, nI fg, vl, wr), sd) := e
  subst e
  have hW := RS_WC hx
  obtain ⟨hP, hnp_, hnd_, hD, hn7, hn9⟩ := RS_par hx
  obtain ⟨k1, k2, k3, k4, k5, k6, k7, k8, k9, k10, k11⟩ := DRl_k hD
  have hF := hx.2.1
  have hx2 := RSx_mono (Nat.le_add_right K 1500) hx
  have hs := s_count (E := E) hW a n
  unfold cs_count at hs
  rw [hnp_] at hs
  obtain ⟨t, t0, t1, t2, t3⟩ := FR_t hF
  by_cases c1 : perB a (dNp D) = true
  · rw [if_pos c1] at hs
    by_cases c2 : outB n (nI 1) (nI 999) = true
    · rw [if_pos c2] at hs
      exact ⟨_, _, hs, _, m_count2 k5 hn7 c1 c2, ans_of rfl (RS_mk hx2)⟩
    · rw [if_neg c2] at hs
      by_cases c3 : fT (nowF (c, (mkA xP xR xW xS xZ xG xK xT xQ xF xB xL xC, (nI un, nI sz, ft, nI wm, nI fm, nI bm, nI at_, nI bg, sg, nI fg, vl, wr), sd))) < n
      · rw [if_pos c3] at hs
        have c3' : xW 15 < n := by rw [t2, ← t1]; exact c3
        exact ⟨_, _, hs, _, m_count3 k5 hn7 c1 (bf c2) c3', ans_of rfl (RS_mk hx2)⟩
      · rw [if_neg c3] at hs
        obtain ⟨j, j1, rfl⟩ := perB_nat c1 (by omega)
        obtain ⟨q, q1, q2, rfl⟩ := outB_nat (by decide) (by decide) (bf c2)
        replace c3 : ¬ fT (c.1 0) < nI q := c3
        have c3' : ¬ xW 15 < nI q := by rw [t2, ← t1]; exact c3
        have hm := FR_move hn7 (by omega) hF (a := -2) (z := nI j) (j := 7) (k := j) (Or.inl ⟨rfl, rfl⟩) (Or.inr ⟨j1, rfl⟩) (by omega) (m := q) (by omega) (by rw [t3, ← t1]; exact c3)
        refine ⟨_, _, hs, _, m_count k5 hn7 hx.2.2.1.choose_spec.2.2.1 (FR_trc hF) j1 q1 q2 c3', ans_of ?_ (RS_mk (RSx_m _ (RSx_do (Nat.le_add_right K 1500) hx (FR_mono (by omega) hm))))⟩
        obtain ⟨b, -, b1, b2, -, -⟩ := FR_b hm (i := j) (by omega)
        rw [Nat.zero_add, nI_clamp (by omega), b2]
        exact b1.symm
  · rw [if_neg c1] at hs
    exact ⟨_, _, hs, _, m_count1 k5 hn7 (bf c1), ans_of rfl (RS_mk hx2)⟩
set_option maxHeartbeats 4000000 in
theorem t_pay {E : Ev} {K : Nat} {σ : Sg} (h : RS K σ) (hK : K ≤ 96000) (a z n : Int32) : Two E K (fun τ q_ => Ct E yX6_pay cX6_pay 4 (some .int) ({ frames := 3, cells := 0, slots := 0, locals := 82 } : Room) false 146 [.ref (Ez E + 0), .int a, .int z, .int n] (cellOf E τ) 146 0 0 q_) (fun τ q_ => Ct E yX7_pay cX7_pay 7 (some .int) ({ frames := 2, cells := 0, slots := 0, locals := 46 } : Room) false 146 [.ref (Ez E + 132), .int a, .int z, .int n] (cellOf E τ) 146 0 0 q_) σ := by
  obtain ⟨D, xP, xR, xW, xS, xZ, xG, xK, xT, xQ, xF, xB, xL, xC, un, sz, wm, fm, bm, at_, bg, fg, ft, sg, vl, wr, sd, e, hx⟩ := h
  obtain ⟨c, μ⟩ := σ
  replace e : μ = (mkA xP xR xW xS xZ xG xK xT xQ xF xB xL xC, (nI un, nI sz, ft, nI wm, nI fm, nI bm, nI at_, nI bg, sg, nI fg, vl, wr), sd) := e
  subst e
  have hW := RS_WC hx
  obtain ⟨hP, hnp_, hnd_, hD, hn7, hn9⟩ := RS_par hx
  obtain ⟨k1, k2, k3, k4, k5, k6, k7, k8, k9, k10, k11⟩ := DRl_k hD
  have hF := hx.2.1
  have hx2 := RSx_mono (Nat.le_add_right K 1500) hx
  have hs := s_pay (E := E) hW a z n
  unfold cs_pay at hs
  rw [hnp_, hnd_, hP] at hs
  by_cases c1 : perB a (dNp D) = true
  · by_cases c2 : perB z (dNp D) = true
    · by_cases c3 : a = z
      · rw [if_neg (fun q => q.2.2 c3)] at hs
        exact ⟨_, _, hs, _, m_pay3 k5 hn7 c1 c2 c3, ans_of rfl (RS_mk hx2)⟩
      · rw [if_pos ⟨c1, c2, c3⟩] at hs
        by_cases c4 : outB n (nI 1) (nI 999) = true
        · rw [if_pos c4] at hs
          exact ⟨_, _, hs, _, m_pay4 k5 hn7 c1 c2 c3 c4, ans_of rfl (RS_mk hx2)⟩
        · rw [if_neg c4] at hs
          obtain ⟨j, j1, rfl⟩ := perB_nat c1 (by omega)
          obtain ⟨k, k1', rfl⟩ := perB_nat c2 (by omega)
          have hjk : j ≠ k := fun q => c3 (by rw [q])
          rw [nI_clamp (by omega)] at hs
          obtain ⟨b, b0, b1, b2, b3, -⟩ := FR_b hF (i := j) (by omega)
          by_cases c5 : fB (nowF (c, (mkA xP xR xW xS xZ xG xK xT xQ xF xB xL xC, (nI un, nI sz, ft, nI wm, nI fm, nI bm, nI at_, nI bg, sg, nI fg, vl, wr), sd))) j < n
          · rw [if_pos c5] at hs
            have c5' : xW (0 + j) < n := by rw [Nat.zero_add, b2, ← b1]; exact c5
            exact ⟨_, _, hs, _, m_pay5 k5 hn7 j1 k1' hjk (bf c4) c5', ans_of rfl (RS_mk hx2)⟩
          · rw [if_neg c5] at hs
            obtain ⟨q, q1, q2, rfl⟩ := outB_nat (by decide) (by decide) (bf c4)
            replace c5 : ¬ fB (c.1 0) j < nI q := c5
            have c5' : ¬ xW (0 + j) < nI q := by rw [Nat.zero_add, b2, ← b1]; exact c5
            have hm := FR_move hn7 (by omega) hF (a := nI j) (z := nI k) (j := j) (k := k) (Or.inr ⟨j1, rfl⟩) (Or.inr ⟨k1', rfl⟩) hjk (m := q) (by omega) (by rw [b3, ← b1]; exact c5)
            obtain ⟨hl, hv⟩ := FR_less hn9 hm (P := xP) (fun d hd => dbL_e k3 hd) (fun d hd => dbL_e k4 hd) (a := nI j) (z := nI k) (nI_m1 (by omega)) (nI_m1 (by omega)) (m := q) (by omega)
            exact ⟨_, _, hs, _, m_pay k5 hn7 k6 hn9 hx.2.2.1.choose_spec.2.2.1 (FR_trc hF) j1 k1' hjk q1 q2 c5', ans_of hv.symm (RS_mk (RSx_m _ (RSx_do (Nat.le_add_right K 1500) hx (FR_mono (by omega) hl))))⟩
    · rw [if_neg (fun q => c2 q.2.1)] at hs
      exact ⟨_, _, hs, _, m_pay2 k5 hn7 c1 (bf c2), ans_of rfl (RS_mk hx2)⟩
  · rw [if_neg (fun q => c1 q.1)] at hs
    exact ⟨_, _, hs, _, m_pay1 k5 hn7 (bf c1), ans_of rfl (RS_mk hx2)⟩
set_option maxHeartbeats 4000000 in
theorem t_strew {E : Ev} {K : Nat} {σ : Sg} (h : RS K σ) (hK : K ≤ 96000) (a n : Int32) : Two E K (fun τ q_ => Ct E yX6_strew cX6_strew 3 (some .int) ({ frames := 3, cells := 0, slots := 0, locals := 82 } : Room) false 146 [.ref (Ez E + 0), .int a, .int n] (cellOf E τ) 146 0 0 q_) (fun τ q_ => Ct E yX7_strew cX7_strew 3 (some .int) ({ frames := 2, cells := 0, slots := 0, locals := 46 } : Room) false 146 [.ref (Ez E + 132), .int a, .int n] (cellOf E τ) 146 0 0 q_) σ := by
  obtain ⟨D, xP, xR, xW, xS, xZ, xG, xK, xT, xQ, xF, xB, xL, xC, un, sz, wm, fm, bm, at_, bg, fg, ft, sg, vl, wr, sd, e, hx⟩ := h
  obtain ⟨c, μ⟩ := σ
  replace e : μ = (mkA xP xR xW xS xZ xG xK xT xQ xF xB xL xC, (nI un, nI sz, ft, nI wm, nI fm, nI bm, nI at_, nI bg, sg, nI fg, vl, wr), sd) := e
  subst e
  have hW := RS_WC hx
  obtain ⟨hP, hnp_, hnd_, hD, hn7, hn9⟩ := RS_par hx
  obtain ⟨k1, k2, k3, k4, k5, k6, k7, k8, k9, k10, k11⟩ := DRl_k hD
  have hF := hx.2.1
  have hx2 := RSx_mono (Nat.le_add_right K 1500) hx
  have hs := s_strew (E := E) hW a n
  unfold cs_strew at hs
  rw [hnp_] at hs
  by_cases c1 : perB a (dNp D) = true
  · rw [if_pos c1] at hs
    by_cases c2 : outB n (nI 1) (nI 99) = true
    · rw [if_pos c2] at hs
      exact ⟨_, _, hs, _, m_strew2 k5 hn7 c1 c2, ans_of rfl (RS_mk hx2)⟩
    · rw [if_neg c2] at hs
      obtain ⟨j, j1, rfl⟩ := perB_nat c1 (by omega)
      obtain ⟨q, q1, q2, rfl⟩ := outB_nat (by decide) (by decide) (bf c2)
      rw [nI_clamp (by omega)] at hs
      obtain ⟨hm, hv⟩ := FR_crumb hn7 hF j1 (nI q)
      exact ⟨_, _, hs, _, m_strew k5 hn7 hx.2.2.1.choose_spec.2.2.1 j1 q1 q2, ans_of hv.symm (RS_mk (RSx_m _ (RSx_do (Nat.le_add_right K 1500) hx (FR_mono (by omega) hm))))⟩
  · rw [if_neg c1] at hs
    exact ⟨_, _, hs, _, m_strew1 k5 hn7 (bf c1), ans_of rfl (RS_mk hx2)⟩
set_option maxHeartbeats 4000000 in
theorem t_net {E : Ev} {K : Nat} {σ : Sg} (h : RS K σ) (hK : K ≤ 96000) (a : Int32) (y : Bool) : Two E K (fun τ q_ => Ct E yX6_net cX6_net 5 (some .int) ({ frames := 3, cells := 0, slots := 0, locals := 82 } : Room) false 146 [.ref (Ez E + 0), .int a, .int (bI y)] (cellOf E τ) 146 0 0 q_) (fun τ q_ => Ct E yX7_net cX7_net 4 (some .int) ({ frames := 2, cells := 0, slots := 0, locals := 46 } : Room) false 146 [.ref (Ez E + 132), .int a, .int (bI y)] (cellOf E τ) 146 0 0 q_) σ := by
  obtain ⟨D, xP, xR, xW, xS, xZ, xG, xK, xT, xQ, xF, xB, xL, xC, un, sz, wm, fm, bm, at_, bg, fg, ft, sg, vl, wr, sd, e, hx⟩ := h
  obtain ⟨c, μ⟩ := σ
  replace e : μ = (mkA xP xR xW xS xZ xG xK xT xQ xF xB xL xC, (nI un, nI sz, ft, nI wm, nI fm, nI bm, nI at_, nI bg, sg, nI fg, vl, wr), sd) := e
  subst e
  have hW := RS_WC hx
  obtain ⟨hP, hnp_, hnd_, hD, hn7, hn9⟩ := RS_par hx
  obtain ⟨k1, k2, k3, k4, k5, k6, k7, k8, k9, k10, k11⟩ := DRl_k hD
  have hF := hx.2.1
  have hx2 := RSx_mono (Nat.le_add_right K 1500) hx
  have hs := s_net (E := E) hW a y
  unfold cs_net at hs
  rw [hnp_] at hs
  by_cases c1 : perB a (dNp D) = true
  · rw [if_pos c1] at hs
    obtain ⟨j, j1, rfl⟩ := perB_nat c1 (by omega)
    have e14 : fN (c.1 0) = xW 14 := hF.2.2.1
    have hm := FR_net hF (if y = true then fN (c.1 0) ||| (nI 1 <<< (nI j &&& 31)) else fN (c.1 0) &&& ((nI 1 <<< (nI j &&& 31)) ^^^ (-1)))
    refine ⟨_, _, hs, _, m_net k5 hn7 hx.2.2.1.choose_spec.2.2.1 j1 y, ans_of ?_ (RS_mk (RSx_m _ (RSx_do (Nat.le_add_right K 1500) hx (FR_mono (Nat.le_add_right K 1500) ?_))))⟩
    · show _ = bI (hasB (fN (c.1 0)) (nI j))
      rw [net_bit, e14]
    · unfold netW
      rw [← e14]
      exact hm
  · rw [if_neg c1] at hs
    exact ⟨_, _, hs, _, m_net1 k5 hn7 (bf c1) y, ans_of rfl (RS_mk hx2)⟩
set_option maxHeartbeats 4000000 in
theorem t_hawk {E : Ev} {K : Nat} {σ : Sg} (h : RS K σ) (hK : K ≤ 96000) (x n : Int32) : Two E K (fun τ q_ => Ct E yX6_hawk cX6_hawk 3 (some .int) ({ frames := 4, cells := 0, slots := 0, locals := 90 } : Room) false 146 [.ref (Ez E + 0), .int x, .int n] (cellOf E τ) 146 0 0 q_) (fun τ q_ => Ct E yX7_hawk cX7_hawk 3 (some .int) ({ frames := 2, cells := 0, slots := 0, locals := 50 } : Room) false 146 [.ref (Ez E + 132), .int x, .int n] (cellOf E τ) 146 0 0 q_) σ := by
  obtain ⟨D, xP, xR, xW, xS, xZ, xG, xK, xT, xQ, xF, xB, xL, xC, un, sz, wm, fm, bm, at_, bg, fg, ft, sg, vl, wr, sd, e, hx⟩ := h
  obtain ⟨c, μ⟩ := σ
  replace e : μ = (mkA xP xR xW xS xZ xG xK xT xQ xF xB xL xC, (nI un, nI sz, ft, nI wm, nI fm, nI bm, nI at_, nI bg, sg, nI fg, vl, wr), sd) := e
  subst e
  have hW := RS_WC hx
  obtain ⟨hP, hnp_, hnd_, hD, hn7, hn9⟩ := RS_par hx
  obtain ⟨k1, k2, k3, k4, k5, k6, k7, k8, k9, k10, k11⟩ := DRl_k hD
  have hF := hx.2.1
  have hx2 := RSx_mono (Nat.le_add_right K 1500) hx
  have hs := s_hawk (E := E) hW x n
  unfold cs_hawk at hs
  rw [hnp_, hP] at hs
  by_cases c1 : outB x (nI 0) (nI 50) = true
  · rw [if_pos (Or.inl c1)] at hs
    exact ⟨_, _, hs, _, m_hawk1 c1, ans_of rfl (RS_mk hx2)⟩
  · by_cases c2 : outB n (nI 0) (nI 50) = true
    · rw [if_pos (Or.inr c2)] at hs
      exact ⟨_, _, hs, _, m_hawk2 (bf c1) c2, ans_of rfl (RS_mk hx2)⟩
    · rw [if_neg (fun q => q.elim c1 c2)] at hs
      by_cases c3 : parSd (dP D) = 0
      · rw [if_pos c3] at hs
        exact ⟨_, _, hs, _, m_hawk3 (bf c1) (bf c2) (k8.mp c3), ans_of rfl (RS_mk hx2)⟩
      · rw [if_neg c3] at hs
        obtain ⟨q, -, q2, rfl⟩ := outB_nat (by decide) (by decide) (bf c1)
        obtain ⟨r, -, r2, rfl⟩ := outB_nat (by decide) (by decide) (bf c2)
        obtain ⟨hm, hv⟩ := FR_scare hn7 (by omega) hF k2 q2 r2 (dNp D) (Nat.le_refl _)
        exact ⟨_, _, hs, _, m_hawk k5 hn7 hx.2.2.1.choose_spec.2.2.1 (FR_trc hF) q2 r2 (fun z => c3 (k8.mpr z)), ans_of hv.symm (RS_mk (RSx_m _ (RSx_do (Nat.le_add_right K 1500) hx (FR_mono (by omega) hm))))⟩
set_option maxHeartbeats 4000000 in
theorem t_hour {E : Ev} {K : Nat} {σ : Sg} (h : RS K σ) (hK : K ≤ 96000) (n : Int32) : Two E K (fun τ q_ => Ct E yX6_hour cX6_hour 4 (some .int) ({ frames := 5, cells := 0, slots := 0, locals := 111 } : Room) false 146 [.ref (Ez E + 0), .int n] (cellOf E τ) 146 0 0 q_) (fun τ q_ => Ct E yX7_hour cX7_hour 4 (some .int) ({ frames := 4, cells := 0, slots := 0, locals := 89 } : Room) false 146 [.ref (Ez E + 132), .int n] (cellOf E τ) 146 0 0 q_) σ := by
  obtain ⟨D, xP, xR, xW, xS, xZ, xG, xK, xT, xQ, xF, xB, xL, xC, un, sz, wm, fm, bm, at_, bg, fg, ft, sg, vl, wr, sd, e, hx⟩ := h
  obtain ⟨c, μ⟩ := σ
  replace e : μ = (mkA xP xR xW xS xZ xG xK xT xQ xF xB xL xC, (nI un, nI sz, ft, nI wm, nI fm, nI bm, nI at_, nI bg, sg, nI fg, vl, wr), sd) := e
  subst e
  have hW := RS_WC hx
  obtain ⟨hP, hnp_, hnd_, hD, hn7, hn9⟩ := RS_par hx
  obtain ⟨k1, k2, k3, k4, k5, k6, k7, k8, k9, k10, k11⟩ := DRl_k hD
  have hF := hx.2.1
  have hx2 := RSx_mono (Nat.le_add_right K 1500) hx
  have hs := s_hour (E := E) hW n
  unfold cs_hour at hs
  rw [hnp_, hP] at hs
  obtain ⟨hh, -, hh1, hh2⟩ := hF.2.2.2.1
  have er : rfM xP xW n = refI (parSd (dP D)) (fH (c.1 0)) n := ref_eq k8 (by rw [hh1, hh2])
  by_cases c1 : refI (parSd (dP D)) (fH (nowF (c, (mkA xP xR xW xS xZ xG xK xT xQ xF xB xL xC, (nI un, nI sz, ft, nI wm, nI fm, nI bm, nI at_, nI bg, sg, nI fg, vl, wr), sd)))) n = 0
  · rw [if_pos c1] at hs
    obtain ⟨q, q1, q2, rfl⟩ := refI_nat c1
    rw [nI_clamp (by omega)] at hs
    have hdu : ¬ xP 1 = 0 := fun z => ref_sd c1 (k8.mpr z)
    have hm := FR_passN hn7 (l := xL) hF k1 k7 (du_pos hdu k9 k7) q (by omega)
    refine ⟨_, _, hs, _, m_hour k5 hn7 hx.2.2.1.choose_spec.2.2.1 (FR_trc hF) hdu q2 (by rw [er]; exact c1), ans_of ?_ (RS_mk (RSx_m _ (RSx_do (Nat.le_add_right K 1500) hx (FR_mono (by omega) hm))))⟩
    obtain ⟨t, -, t1, t2, -⟩ := FR_t hm
    rw [t2]
    exact t1.symm
  · rw [if_neg c1] at hs
    exact ⟨_, _, hs, _, m_hour1 (by rw [er]; exact c1), ans_of er (RS_mk hx2)⟩
set_option maxHeartbeats 4000000 in
theorem t_drift {E : Ev} {K : Nat} {σ : Sg} (h : RS K σ) (hK : K ≤ 96000) (n : Int32) : Two E K (fun τ q_ => Ct E yX6_drift cX6_drift 4 (some .int) ({ frames := 5, cells := 0, slots := 0, locals := 112 } : Room) false 146 [.ref (Ez E + 0), .int n] (cellOf E τ) 146 0 0 q_) (fun τ q_ => Ct E yX7_drift cX7_drift 4 (some .int) ({ frames := 4, cells := 0, slots := 0, locals := 89 } : Room) false 146 [.ref (Ez E + 132), .int n] (cellOf E τ) 146 0 0 q_) σ := by
  obtain ⟨D, xP, xR, xW, xS, xZ, xG, xK, xT, xQ, xF, xB, xL, xC, un, sz, wm, fm, bm, at_, bg, fg, ft, sg, vl, wr, sd, e, hx⟩ := h
  obtain ⟨c, μ⟩ := σ
  replace e : μ = (mkA xP xR xW xS xZ xG xK xT xQ xF xB xL xC, (nI un, nI sz, ft, nI wm, nI fm, nI bm, nI at_, nI bg, sg, nI fg, vl, wr), sd) := e
  subst e
  have hW := RS_WC hx
  obtain ⟨hP, hnp_, hnd_, hD, hn7, hn9⟩ := RS_par hx
  obtain ⟨k1, k2, k3, k4, k5, k6, k7, k8, k9, k10, k11⟩ := DRl_k hD
  have hF := hx.2.1
  have hx2 := RSx_mono (Nat.le_add_right K 1500) hx
  have hs := s_drift (E := E) hW n
  unfold cs_drift at hs
  rw [hP] at hs
  obtain ⟨hh, -, hh1, hh2⟩ := hF.2.2.2.1
  have er : rfM xP xW n = refI (parSd (dP D)) (fH (c.1 0)) n := ref_eq k8 (by rw [hh1, hh2])
  by_cases c1 : refI (parSd (dP D)) (fH (nowF (c, (mkA xP xR xW xS xZ xG xK xT xQ xF xB xL xC, (nI un, nI sz, ft, nI wm, nI fm, nI bm, nI at_, nI bg, sg, nI fg, vl, wr), sd)))) n = 0
  · rw [if_pos c1] at hs
    obtain ⟨q, q1, q2, rfl⟩ := refI_nat c1
    unfold driftN at hs
    rw [nI_clamp (by omega), hnp_, hP] at hs
    have hdu : ¬ xP 1 = 0 := fun z => ref_sd c1 (k8.mpr z)
    obtain ⟨hm, hsd⟩ := FR_drift hn7 (L := xL) hF k2 k1 k7 (du_pos hdu k9 k7) hx.2.2.2.2.1 q (by omega)
    refine ⟨_, _, hs, _, m_drift k5 hn7 hx.2.2.1.choose_spec.2.2.1 (FR_trc hF) (SR_ok hx.2.2.2.2.1) hdu q2 (by rw [er]; exact c1), ans_of ?_ (RS_mk (RSx_m _ (RSx_up (up := ((gU (c, (mkA xP xR xW xS xZ xG xK xT xQ xF xB xL xC, (nI un, nI sz, ft, nI wm, nI fm, nI bm, nI at_, nI bg, sg, nI fg, vl, wr), sd))).1, (gU (c, (mkA xP xR xW xS xZ xG xK xT xQ xF xB xL xC, (nI un, nI sz, ft, nI wm, nI fm, nI bm, nI at_, nI bg, sg, nI fg, vl, wr), sd))).2.1, (itn (fun _ z => st_drift D.2.2.2.2.2.1 D.2.2.2.2.2.2.2.1 D.2.1 (dNp D) z) q ((gU (c, (mkA xP xR xW xS xZ xG xK xT xQ xF xB xL xC, (nI un, nI sz, ft, nI wm, nI fm, nI bm, nI at_, nI bg, sg, nI fg, vl, wr), sd))).2.2.1, c.1 0)).1, (gU (c, (mkA xP xR xW xS xZ xG xK xT xQ xF xB xL xC, (nI un, nI sz, ft, nI wm, nI fm, nI bm, nI at_, nI bg, sg, nI fg, vl, wr), sd))).2.2.2)) (RSx_do (Nat.le_add_right K 1500) hx (FR_mono (by omega) hm)) rfl rfl rfl rfl hsd)))⟩
    obtain ⟨t, -, t1, t2, -⟩ := FR_t hm
    rw [t2]
    exact t1.symm
  · rw [if_neg c1] at hs
    exact ⟨_, _, hs, _, m_drift1 (by rw [er]; exact c1), ans_of er (RS_mk hx2)⟩
set_option maxHeartbeats 4000000 in
theorem t_undo {E : Ev} {K : Nat} {σ : Sg} (h : RS K σ) (hK : K ≤ 96000) : Two E K (fun τ q_ => Ct E yX6_undo cX6_undo 1 (some .int) ({ frames := 3, cells := 0, slots := 0, locals := 82 } : Room) false 146 [.ref (Ez E + 0)] (cellOf E τ) 146 0 0 q_) (fun τ q_ => Ct E yX7_undo cX7_undo 1 (some .int) ({ frames := 1, cells := 0, slots := 0, locals := 25 } : Room) false 146 [.ref (Ez E + 132)] (cellOf E τ) 146 0 0 q_) σ := by
  obtain ⟨D, xP, xR, xW, xS, xZ, xG, xK, xT, xQ, xF, xB, xL, xC, un, sz, wm, fm, bm, at_, bg, fg, ft, sg, vl, wr, sd, e, hx⟩ := h
  obtain ⟨c, μ⟩ := σ
  replace e : μ = (mkA xP xR xW xS xZ xG xK xT xQ xF xB xL xC, (nI un, nI sz, ft, nI wm, nI fm, nI bm, nI at_, nI bg, sg, nI fg, vl, wr), sd) := e
  subst e
  have hW := RS_WC hx
  obtain ⟨hP, hnp_, hnd_, hD, hn7, hn9⟩ := RS_par hx
  obtain ⟨k1, k2, k3, k4, k5, k6, k7, k8, k9, k10, k11⟩ := DRl_k hD
  have hF := hx.2.1
  have hx2 := RSx_mono (Nat.le_add_right K 1500) hx
  have hs := s_undo (E := E) hW
  obtain ⟨x1, x2, x3, x4, x5⟩ := hx2
  obtain ⟨x, q1, q2, q3, q4⟩ := x3
  unfold cs_undo at hs
  rw [q1] at hs
  change Ct _ _ _ _ _ _ _ _ _ _ _ _ _ (Ff (some (.int (if (nI un).toNatClampNeg = 0 then _ else (nI ((nI un).toNatClampNeg - 1), _) : Int32 × Sg).1)) (cellOf E (if (nI un).toNatClampNeg = 0 then _ else _ : Int32 × Sg).2)) at hs
  rw [nI_clamp (by omega)] at hs
  by_cases c1 : un = 0
  · rw [if_pos c1] at hs
    exact ⟨_, _, hs, _, m_undo1 c1, ans_of rfl (RS_mk ⟨x1, x2, ⟨x, q1, q2, q3, q4⟩, x4, x5⟩)⟩
  · rw [if_neg c1] at hs
    unfold rec_ at hs
    rw [q1] at hs
    change Ct _ _ _ _ _ _ _ _ _ _ _ _ _ (Ff _ (cellOf E (sPa (sFl _ 0 (fl_copy (gF _ (2 + ((nI x).toNatClampNeg + 15) % 16)) _)) (nI (((nI x).toNatClampNeg + 15) % 16), nI ((nI un).toNatClampNeg - 1))))) at hs
    rw [nI_clamp (by omega), nI_clamp (by omega)] at hs
    refine ⟨_, _, hs, _, m_undo q3 (by omega), ans_of rfl (RS_mk (D := D) ⟨x1, ?_, ⟨(x + 15) % 16, rfl, by omega, by omega, fun k hk => ?_⟩, ImgR_c (Nat.le_refl _) (fun k a b => va_up_ne _ _ (by omega)) x4, x5⟩)⟩
    · have qq := q4 (un - 1) (by omega)
      rw [show (x + 16 - un + (un - 1)) % 16 = (x + 15) % 16 by omega] at qq
      show FR _ _ (va_up c.1 0 (fl_copy (c.1 (2 + (x + 15) % 16)) (c.1 0)) 0) _
      rw [va_up_self]
      refine FR_row (FR_copy qq) (fun i hi => ?_)
      have r := cpA_at (a := xZ) (b := xW) (i := 48 * (un - 1)) (j := 0) (n := 48) (k := i) hi
      rw [Nat.zero_add] at r
      exact r
    · have qq := q4 k (by omega)
      show FR _ _ (va_up c.1 0 _ (2 + ((x + 15) % 16 + 16 - (un - 1) + k) % 16)) _
      rw [va_up_ne _ _ (by omega), show ((x + 15) % 16 + 16 - (un - 1) + k) % 16 = (x + 16 - un + k) % 16 by omega]
      exact qq
