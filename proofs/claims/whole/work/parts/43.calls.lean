/-! calls of both, one behind the other: one answer, and states alike -/
def Ans (E : Ev) (K : Nat) (v : Int32) (post : Option Value → Hp → Prop) : Prop := ∀ r h', post r h' → r = some (.int v) ∧ ∃ σ2, h' = cellOf E σ2 ∧ RS K σ2
def Two (E : Ev) (K : Nat) (C M : Sg → (Option Value → Hp → Prop) → Prop) (σ : Sg) : Prop := ∃ v σ1, C σ (Ff (some (.int v)) (cellOf E σ1)) ∧ ∃ post, M σ1 post ∧ Ans E (K + 1500) v post
theorem ans_of {E : Ev} {K : Nat} {v v2 : Int32} {σ2 : Sg} (hv : v2 = v) (h : RS K σ2) : Ans E K v (Ff (some (.int v2)) (cellOf E σ2)) := fun r h' q => ⟨by rw [q.1, hv], σ2, q.2, h⟩
theorem RS_mk {K : Nat} {c : CSt} {D : DV} {xP xR xW xS xZ xG xK xT xQ xF xB xL xC : Fn} {un sz wm fm bm at_ bg fg : Nat} {ft sg vl wr : Int32} {sd : Int64} (h : RSx K (c, (mkA xP xR xW xS xZ xG xK xT xQ xF xB xL xC, (nI un, nI sz, ft, nI wm, nI fm, nI bm, nI at_, nI bg, sg, nI fg, vl, wr), sd)) D xP xW xZ xG xK xT xQ xF xB un sz wm fm bm ft sd) : RS K (c, (mkA xP xR xW xS xZ xG xK xT xQ xF xB xL xC, (nI un, nI sz, ft, nI wm, nI fm, nI bm, nI at_, nI bg, sg, nI fg, vl, wr), sd)) := ⟨D, xP, xR, xW, xS, xZ, xG, xK, xT, xQ, xF, xB, xL, xC, un, sz, wm, fm, bm, at_, bg, fg, ft, sg, vl, wr, sd, rfl, h⟩
theorem bf {b : Bool} (h : ¬ b = true) : b = false := by cases b; rfl; exact absurd rfl h
set_option maxHeartbeats 4000000 in
theorem t_feed {E : Ev} {K : Nat} {σ : Sg} (h : RS K σ) (hK : K ≤ 96000) (a : Int32) : Two E K (fun τ q_ => Ct E yX6_feed cX6_feed 2 (some .int) ({ frames := 1, cells := 0, slots := 0, locals := 22 } : Room) false 146 [.ref (Ez E + 0), .int a] (cellOf E τ) 146 0 0 q_) (fun τ q_ => Ct E yX7_feed cX7_feed 2 (some .int) ({ frames := 1, cells := 0, slots := 0, locals := 25 } : Room) false 146 [.ref (Ez E + 132), .int a] (cellOf E τ) 146 0 0 q_) σ := by
  obtain ⟨D, xP, xR, xW, xS, xZ, xG, xK, xT, xQ, xF, xB, xL, xC, un, sz, wm, fm, bm, at_, bg, fg, ft, sg, vl, wr, sd, e, hx⟩ := h
  obtain ⟨c, μ⟩ := σ
  replace e : μ = (mkA xP xR xW xS xZ xG xK xT xQ xF xB xL xC, (nI un, nI sz, ft, nI wm, nI fm, nI bm, nI at_, nI bg, sg, nI fg, vl, wr), sd) := e
  subst e
  have hW := RS_WC hx
  obtain ⟨hP, hnp_, hnd_, hD, hn7, hn9⟩ := RS_par hx
  obtain ⟨k1, k2, k3, k4, k5, k6, k7, k8, k9, k10, k11⟩ := DRl_k hD
  have hF := hx.2.1
  have hx2 := RSx_mono (Nat.le_add_right K 1500) hx
  obtain ⟨fn, ap, m, t1, t2, t3, t4⟩ := hx.2.2.2.2.2.1
  have hs := s_feed (E := E) hW a
  unfold cs_feed at hs
  rw [t1] at hs
  change Ct _ _ _ _ _ _ _ _ _ _ _ _ _ (Ff (some (.int (if outB a (nI 0) (nI 255) = true then _ else if (nI sz).toNatClampNeg < 240 then _ else _ : Int32 × Sg).1)) (cellOf E (if outB a (nI 0) (nI 255) = true then _ else if (nI sz).toNatClampNeg < 240 then _ else _ : Int32 × Sg).2)) at hs
  rw [nI_clamp (by omega)] at hs
  by_cases c1 : outB a (nI 0) (nI 255) = true
  · rw [if_pos c1] at hs
    exact ⟨_, _, hs, _, m_feed1 c1, ans_of rfl (RS_mk hx2)⟩
  · rw [if_neg c1] at hs
    by_cases c2 : sz < 240
    · rw [if_pos c2] at hs
      refine ⟨_, _, hs, _, m_feed (bf c1) c2, ans_of rfl (RS_mk (D := D) ?_)⟩
      obtain ⟨x1, x2, x3, x4, x5, x6, x7⟩ := hx2
      refine ⟨x1, x2, x3, x4, x5, ⟨fn, ap, m, rfl, by omega, t3, fun i hi => ?_⟩, x7⟩
      by_cases ei : i = sz
      · subst ei
        obtain ⟨ch, -, h2, h3⟩ := outB_nat (by decide) (by decide) (bf c1)
        rw [upd_self]; exact ⟨ch, h2, h3⟩
      · rw [upd_ne ei]; exact t4 i (by omega)
    · rw [if_neg c2] at hs
      exact ⟨_, _, hs, _, m_feed2 (bf c1) (by omega), ans_of rfl (RS_mk hx2)⟩
set_option maxHeartbeats 4000000 in
theorem t_fault {E : Ev} {K : Nat} {σ : Sg} (h : RS K σ) (hK : K ≤ 96000) : Two E K (fun τ q_ => Ct E yX6_fault cX6_fault 1 (some .int) ({ frames := 0, cells := 0, slots := 0, locals := 0 } : Room) false 146 [.ref (Ez E + 0)] (cellOf E τ) 146 0 0 q_) (fun τ q_ => Ct E yX7_fault cX7_fault 1 (some .int) ({ frames := 0, cells := 0, slots := 0, locals := 0 } : Room) false 146 [.ref (Ez E + 132)] (cellOf E τ) 146 0 0 q_) σ := by
  obtain ⟨D, xP, xR, xW, xS, xZ, xG, xK, xT, xQ, xF, xB, xL, xC, un, sz, wm, fm, bm, at_, bg, fg, ft, sg, vl, wr, sd, e, hx⟩ := h
  obtain ⟨c, μ⟩ := σ
  replace e : μ = (mkA xP xR xW xS xZ xG xK xT xQ xF xB xL xC, (nI un, nI sz, ft, nI wm, nI fm, nI bm, nI at_, nI bg, sg, nI fg, vl, wr), sd) := e
  subst e
  have hW := RS_WC hx
  obtain ⟨hP, hnp_, hnd_, hD, hn7, hn9⟩ := RS_par hx
  obtain ⟨k1, k2, k3, k4, k5, k6, k7, k8, k9, k10, k11⟩ := DRl_k hD
  have hF := hx.2.1
  have hx2 := RSx_mono (Nat.le_add_right K 1500) hx
  obtain ⟨fn, ap, m, t1, t2, t3, t4⟩ := hx.2.2.2.2.2.1
  have hs := s_fault (E := E) hW
  refine ⟨_, _, hs, _, m_fault, ans_of ?_ (RS_mk hx2)⟩
  show ft = (gT _).2.2.1
  rw [t1]
set_option maxHeartbeats 4000000 in
theorem t_trace {E : Ev} {K : Nat} {σ : Sg} (h : RS K σ) (hK : K ≤ 96000) (i : Int32) : Two E K (fun τ q_ => Ct E yX6_trace cX6_trace 2 (some .int) ({ frames := 3, cells := 0, slots := 0, locals := 62 } : Room) false 146 [.ref (Ez E + 0), .int i] (cellOf E τ) 146 0 0 q_) (fun τ q_ => Ct E yX7_trace cX7_trace 2 (some .int) ({ frames := 1, cells := 0, slots := 0, locals := 25 } : Room) false 146 [.ref (Ez E + 132), .int i] (cellOf E τ) 146 0 0 q_) σ := by
  obtain ⟨D, xP, xR, xW, xS, xZ, xG, xK, xT, xQ, xF, xB, xL, xC, un, sz, wm, fm, bm, at_, bg, fg, ft, sg, vl, wr, sd, e, hx⟩ := h
  obtain ⟨c, μ⟩ := σ
  replace e : μ = (mkA xP xR xW xS xZ xG xK xT xQ xF xB xL xC, (nI un, nI sz, ft, nI wm, nI fm, nI bm, nI at_, nI bg, sg, nI fg, vl, wr), sd) := e
  subst e
  have hW := RS_WC hx
  obtain ⟨hP, hnp_, hnd_, hD, hn7, hn9⟩ := RS_par hx
  obtain ⟨k1, k2, k3, k4, k5, k6, k7, k8, k9, k10, k11⟩ := DRl_k hD
  have hF := hx.2.1
  have hx2 := RSx_mono (Nat.le_add_right K 1500) hx
  obtain ⟨t, h1, h2, h3, h4, h5⟩ := back_eq (by omega) hF
  have hs := s_trace (E := E) hW i
  by_cases c1 : perB i t = true
  · obtain ⟨j, j1, rfl⟩ := perB_nat c1 (by omega)
    exact ⟨_, _, hs, _, m_trace h2 h1 j1, ans_of (h4 j j1).symm (RS_mk hx2)⟩
  · exact ⟨_, _, hs, _, m_trace1 h2 h1 (bf c1), ans_of (h5 i (bf c1)).symm (RS_mk hx2)⟩
set_option maxHeartbeats 4000000 in
theorem t_debt {E : Ev} {K : Nat} {σ : Sg} (h : RS K σ) (hK : K ≤ 96000) (d w : Int32) : Two E K (fun τ q_ => Ct E yX6_debt cX6_debt 3 (some .int) ({ frames := 1, cells := 0, slots := 0, locals := 21 } : Room) false 146 [.ref (Ez E + 0), .int d, .int w] (cellOf E τ) 146 0 0 q_) (fun τ q_ => Ct E yX7_debt cX7_debt 3 (some .int) ({ frames := 1, cells := 0, slots := 0, locals := 25 } : Room) false 146 [.ref (Ez E + 132), .int d, .int w] (cellOf E τ) 146 0 0 q_) σ := by
  obtain ⟨D, xP, xR, xW, xS, xZ, xG, xK, xT, xQ, xF, xB, xL, xC, un, sz, wm, fm, bm, at_, bg, fg, ft, sg, vl, wr, sd, e, hx⟩ := h
  obtain ⟨c, μ⟩ := σ
  replace e : μ = (mkA xP xR xW xS xZ xG xK xT xQ xF xB xL xC, (nI un, nI sz, ft, nI wm, nI fm, nI bm, nI at_, nI bg, sg, nI fg, vl, wr), sd) := e
  subst e
  have hW := RS_WC hx
  obtain ⟨hP, hnp_, hnd_, hD, hn7, hn9⟩ := RS_par hx
  obtain ⟨k1, k2, k3, k4, k5, k6, k7, k8, k9, k10, k11⟩ := DRl_k hD
  have hF := hx.2.1
  have hx2 := RSx_mono (Nat.le_add_right K 1500) hx
  have hs := s_debt (E := E) hW d w
  unfold cs_debt at hs
  rw [hnd_, hP] at hs
  by_cases c1 : perB d (dNd D) = true
  · rw [if_pos c1] at hs
    obtain ⟨j, j1, rfl⟩ := perB_nat c1 (by omega)
    rw [nI_clamp (by omega)] at hs
    obtain ⟨o, -, o1, o2⟩ := hF.2.2.2.2.1 j (by omega)
    by_cases c2 : outB w (nI 0) (nI 2) = true
    · have hw : ∀ q, q ≤ 2 → ¬ w = nI q := fun q hq r => by rw [r, outB_in (Nat.zero_le _) hq (by decide)] at c2; exact Bool.noConfusion c2
      rw [if_neg (hw 0 (by omega)), if_neg (hw 1 (by omega)), if_neg (hw 2 (by omega))] at hs
      exact ⟨_, _, hs, _, m_debt2 k6 hn9 c1 c2, ans_of rfl (RS_mk hx2)⟩
    · obtain ⟨q, -, q2, rfl⟩ := outB_nat (by decide) (by decide) (bf c2)
      refine ⟨_, _, hs, _, m_debt k6 hn9 j1 q2, ans_of ?_ (RS_mk hx2)⟩
      rcases (show q = 0 ∨ q = 1 ∨ q = 2 by omega) with rfl | rfl | rfl
      · rw [if_pos (by decide), if_pos rfl]
        exact (dbL_e k3 j1).symm
      · rw [if_pos (by decide), if_neg (by decide), if_pos rfl]
        exact (dbL_e k4 j1).symm
      · rw [if_neg (by decide), if_neg (by decide), if_neg (by decide), if_pos rfl, o2]
        exact o1.symm
  · rw [if_neg c1] at hs
    exact ⟨_, _, hs, _, m_debt1 k6 hn9 (bf c1), ans_of rfl (RS_mk hx2)⟩
set_option maxHeartbeats 4000000 in
theorem t_person {E : Ev} {K : Nat} {σ : Sg} (h : RS K σ) (hK : K ≤ 96000) (a w : Int32) : Two E K (fun τ q_ => Ct E yX6_person cX6_person 3 (some .int) ({ frames := 3, cells := 0, slots := 0, locals := 67 } : Room) false 146 [.ref (Ez E + 0), .int a, .int w] (cellOf E τ) 146 0 0 q_) (fun τ q_ => Ct E yX7_person cX7_person 3 (some .int) ({ frames := 3, cells := 0, slots := 0, locals := 65 } : Room) false 146 [.ref (Ez E + 132), .int a, .int w] (cellOf E τ) 146 0 0 q_) σ := by
  obtain ⟨D, xP, xR, xW, xS, xZ, xG, xK, xT, xQ, xF, xB, xL, xC, un, sz, wm, fm, bm, at_, bg, fg, ft, sg, vl, wr, sd, e, hx⟩ := h
  obtain ⟨c, μ⟩ := σ
  replace e : μ = (mkA xP xR xW xS xZ xG xK xT xQ xF xB xL xC, (nI un, nI sz, ft, nI wm, nI fm, nI bm, nI at_, nI bg, sg, nI fg, vl, wr), sd) := e
  subst e
  have hW := RS_WC hx
  obtain ⟨hP, hnp_, hnd_, hD, hn7, hn9⟩ := RS_par hx
  obtain ⟨k1, k2, k3, k4, k5, k6, k7, k8, k9, k10, k11⟩ := DRl_k hD
  have hF := hx.2.1
  have hx2 := RSx_mono (Nat.le_add_right K 1500) hx
  have hs := s_person (E := E) hW a w
  unfold cs_person at hs
  rw [hnp_, hnd_, hP] at hs
  by_cases c1 : perB a (dNp D) = true
  · rw [if_pos c1] at hs
    obtain ⟨j, j1, rfl⟩ := perB_nat c1 (by omega)
    rw [nI_clamp (by omega)] at hs
    refine ⟨_, _, hs, _, m_person k5 hn7 k6 hn9 j1 w, ans_of ?_ (RS_mk hx2)⟩
    obtain ⟨b, -, b1, b2, -, -⟩ := FR_b hF (i := j) (by omega)
    have eb : xW (0 + j) = fB (c.1 0) j := by rw [Nat.zero_add, b1, b2]
    have e1 : mPersI xP xW (dNd D) j w = if w = nI 0 then D.2.2.2.2.2.1 j else if w = nI 1 then fB (c.1 0) j else if w = nI 2 then D.2.2.2.2.2.2.2.1 j else if w = nI 3 then fK (c.1 0) j else if w = nI 4 then bI (hasB (fN (c.1 0)) (nI j)) else if w = nI 5 then fB (c.1 0) j / nI 9 else if w = nI 6 then fB (c.1 0) j - fB (c.1 0) j / nI 9 * nI 9 else if w = nI 7 then owI D.2.2.2.2.2.2.2.2.1 (fO (c.1 0)) (nI j) (dNd D) else if w = nI 8 then owI D.2.2.2.2.2.2.2.2.2.1 (fO (c.1 0)) (nI j) (dNd D) else if w = nI 9 then fl_loss (c.1 0) D.2.2.2.2.2.1 j (decide (¬ fK (c.1 0) j ≤ 0)) else cOUT := by
      unfold mPersI
      obtain ⟨x, -, x1, x2⟩ := k2 j j1
      rw [k1 j j1, eb, x1, x2, (hF.2.1 j (by omega)).1, show fN (c.1 0) = xW 14 from hF.2.2.1, net_bit, ow_by (nI_m1 (by omega)) (dNd D) hn9 (fun d hd => dbL_e k3 hd) hF.2.2.2.2.1, ow_to (nI_m1 (by omega)) (dNd D) hn9 (fun d hd => dbL_e k4 hd) hF.2.2.2.2.1]
      have el := loss_eq (kd := D.2.2.2.2.2.1) (P := xP) hF (i := j) (by omega) (k1 j j1)
      rw [(hF.2.1 j (by omega)).1] at el
      rw [el]
    exact e1
  · rw [if_neg c1] at hs
    exact ⟨_, _, hs, _, m_person1 k5 hn7 (bf c1) w, ans_of rfl (RS_mk hx2)⟩
set_option maxHeartbeats 4000000 in
theorem t_told {E : Ev} {K : Nat} {σ : Sg} (h : RS K σ) (hK : K ≤ 96000) (w : Int32) : Two E K (fun τ q_ => Ct E yX6_told cX6_told 2 (some .int) ({ frames := 5, cells := 0, slots := 0, locals := 113 } : Room) false 146 [.ref (Ez E + 0), .int w] (cellOf E τ) 146 0 0 q_) (fun τ q_ => Ct E yX7_told cX7_told 2 (some .int) ({ frames := 4, cells := 0, slots := 0, locals := 90 } : Room) false 146 [.ref (Ez E + 132), .int w] (cellOf E τ) 146 0 0 q_) σ := by
  obtain ⟨D, xP, xR, xW, xS, xZ, xG, xK, xT, xQ, xF, xB, xL, xC, un, sz, wm, fm, bm, at_, bg, fg, ft, sg, vl, wr, sd, e, hx⟩ := h
  obtain ⟨c, μ⟩ := σ
  replace e : μ = (mkA xP xR xW xS xZ xG xK xT xQ xF xB xL xC, (nI un, nI sz, ft, nI wm, nI fm, nI bm, nI at_, nI bg, sg, nI fg, vl, wr), sd) := e
  subst e
  have hW := RS_WC hx
  obtain ⟨hP, hnp_, hnd_, hD, hn7, hn9⟩ := RS_par hx
  obtain ⟨k1, k2, k3, k4, k5, k6, k7, k8, k9, k10, k11⟩ := DRl_k hD
  have hF := hx.2.1
  have hx2 := RSx_mono (Nat.le_add_right K 1500) hx
  obtain ⟨fn, ap, m, t1, t2, t3, t4⟩ := hx.2.2.2.2.2.1
  obtain ⟨x, q1, q2, q3, -⟩ := hx.2.2.1
  obtain ⟨wa, df, wf, ep, eb, s1, s2, s3, s4, s5⟩ := hx.2.2.2.2.2.2
  have hs := s_told (E := E) hW w
  unfold cs_told at hs
  by_cases c11 : w = nI 11
  · rw [if_pos c11] at hs
    refine ⟨_, _, hs, _, m_told k5 hn7 k6 hn9 s2 w, ans_of ?_ (RS_mk (RSx_up hx2 rfl rfl rfl rfl hx2.2.2.2.2.1))⟩
    subst c11
    have er : mToldI xP xW xQ (dNp D) (dNd D) wm fm bm un sz (nI 11) = rgM xP xW (dNp D) (dNd D) := by
      unfold mToldI
      rw [if_neg (by decide), if_neg (by decide), if_neg (by decide), if_neg (by decide), if_neg (by decide), if_neg (by decide), if_neg (by decide), if_neg (by decide), if_neg (by decide), if_neg (by decide), if_neg (by decide), if_pos rfl]
    rw [er]
    unfold rgF
    rw [hnp_, hnd_, hP]
    exact (rings_eq hn7 k3 k4 hn9 hF.2.2.2.2.1).symm
  · rw [if_neg c11] at hs
    refine ⟨_, _, hs, _, m_told k5 hn7 k6 hn9 s2 w, ans_of ?_ (RS_mk hx2)⟩
    obtain ⟨t, t5, t6, t7, t8, t9⟩ := back_eq (by omega) hF
    obtain ⟨hh, -, hh1, hh2⟩ := hF.2.2.2.1
    obtain ⟨tr, -, tr1, tr2, -⟩ := FR_t hF
    show mToldI xP xW xQ (dNp D) (dNd D) wm fm bm un sz w = (if w = nI 0 then _ else _ : Int32)
    rw [hnp_, hnd_, hP, t1, q1, s1, show nowF (c, _) = c.1 0 from rfl]
    unfold mToldI
    have e1 : rgM xP xW (dNp D) (dNd D) = rgM xP xW (dNp D) (dNd D) := rfl
    rw [k7, k5, k6, hh2, ← hh1, tr2, ← tr1, ← sm_eq hn7 hF, ← show fN (c.1 0) = xW 14 from hF.2.2.1, ← show fR (c.1 0) = xW 26 from hF.2.2.2.2.2.1, t6, ← t7, ← rich_eq hn7 hF, ← ow_all (P := xP) (dNd D) hn9 hF.2.2.2.2.1, ← who_sim (P := xP) hF k1 hn7 s5.1]
    have ewm : (nI wm).toNatClampNeg = wm := nI_clamp (by omega)
    show _ = (if w = nI 0 then D.2.1 else if w = nI 1 then nI (dNp D) else if w = nI 2 then nI (dNd D) else if w = nI 3 then nI sz else if w = nI 4 then fH (c.1 0) else if w = nI 5 then fT (c.1 0) else if w = nI 6 then sm (fB (c.1 0)) 7 else if w = nI 7 then fN (c.1 0) else if w = nI 8 then fR (c.1 0) else if w = nI 9 then mnI (fE (c.1 0)) (nI 20) else if w = nI 10 then richI (fB (c.1 0)) (dNp D) else if w = nI 12 then sm (fO (c.1 0)) (dNd D) else if w = nI 13 then suspI (c.1 0) D.2.2.2.2.2.1 wa (nI wm).toNatClampNeg (dNp D) else if w = nI 14 then nI wm else if w = nI 15 then nI fm else if w = nI 16 then nI bm else if w = nI 17 then nI un else cOUT)
    rw [ewm, if_neg c11]
