/-! the whole state of both sides, alike -/
def PastR (np K : Nat) (fl : Nat → FlockV) (q : PastV) (xZ : Fn) (un : Nat) : Prop := ∃ x, q = (nI x, nI un) ∧ x < 16 ∧ un ≤ 16 ∧ ∀ k, k < un → FR np K (fl (2 + (x + 16 - un + k) % 16)) (fun i => xZ (48 * k + i))
def ImgR (np K : Nat) (fl : Nat → FlockV) (is it xG xK : Fn) : Prop := ∀ i, i < 2 → it i = xK i ∧ (¬ xK i = 0 → FR np K (fl (18 + i)) (fun q => xG (49 * i + q)) ∧ is i = xG (49 * i + 48) ∧ ∃ n : Nat, n < 2147483648 ∧ is i = nI n)
def TxtR (tx : TextV) (xT : Fn) (sz : Nat) (ft : Int32) : Prop := ∃ (fn ap : Int32) (m : Nat), tx = (xT, nI sz, ft, fn, ap, nI m) ∧ sz ≤ 240 ∧ m ≤ 240 ∧ ∀ i, i < sz → ∃ ch, ch ≤ 255 ∧ xT i = nI ch
def SenR (s : SeenV) (xQ xF xB : Fn) (wm fm bm : Nat) : Prop := ∃ wa df wf ep eb : Fn, s = (wa, df, wf, ep, eb, nI wm, nI fm, nI bm) ∧ wm ≤ 6 ∧ fm ≤ 6 ∧ bm ≤ 15 ∧ SeR wa df wf ep eb xQ xF xB wm fm bm
def ParR (pa : Nat → ParV) (up : TopV) (D : DV) (xP : Fn) : Prop := up.1 < 2 ∧ up.2.1 < 2 ∧ up.1 ≠ up.2.1 ∧ pa up.1 = dP D ∧ DRl D xP ∧ ∃ D2 R2, pa up.2.1 = dP D2 ∧ DRl D2 R2
abbrev dNp (D : DV) : Nat := D.2.2.2.1
abbrev dNd (D : DV) : Nat := D.2.2.2.2.1
def RSx (K : Nat) (σ : Sg) (D : DV) (xP xW xZ xG xK xT xQ xF xB : Fn) (un sz wm fm bm : Nat) (ft : Int32) (sd : Int64) : Prop :=
  ParR σ.1.2.1 (gU σ) D xP ∧ FR (dNp D) K (σ.1.1 0) xW ∧ PastR (dNp D) K σ.1.1 (gQ σ) xZ un ∧ ImgR (dNp D) K σ.1.1 (gU σ).2.2.2.1 (gU σ).2.2.2.2.1 xG xK ∧ SR (gU σ).2.2.1 sd ∧ TxtR (gT σ) xT sz ft ∧ SenR (gS σ) xQ xF xB wm fm bm
def RS (K : Nat) (σ : Sg) : Prop := ∃ (D : DV) (xP xR xW xS xZ xG xK xT xQ xF xB xL xC : Fn) (un sz wm fm bm at_ bg fg : Nat) (ft sg vl wr : Int32) (sd : Int64), σ.2 = (mkA xP xR xW xS xZ xG xK xT xQ xF xB xL xC, (nI un, nI sz, ft, nI wm, nI fm, nI bm, nI at_, nI bg, sg, nI fg, vl, wr), sd) ∧ RSx K σ D xP xW xZ xG xK xT xQ xF xB un sz wm fm bm ft sd
theorem DRl_ok {D : DV} {R : Fn} (h : DRl D R) : parOk (dP D) := by
  obtain ⟨sd, du, tr, np, nd, kd, bd, dr, dt, cr, ow⟩ := D
  obtain ⟨Tr, Du, t1, t2, t3, t4, t5, t6, t7, t8, t9, t10, t11, t12, t13, t14, t15, t16⟩ := h
  simp only at t10 t11 t15
  refine ⟨np, nd, sd, du, tr, kd, bd, dr, dt, cr, ow, rfl, t10, t11, fun d hd => ?_, fun d hd => ?_⟩
  · obtain ⟨a, c, n, a1, a2, a3, a4, -⟩ := t15 d hd
    rw [a4]; exact vp_in_nI (by omega) (by decide)
  · obtain ⟨a, c, n, a1, a2, a3, a4, a5, a6, -⟩ := t15 d hd
    rw [a6]; exact vp_in_nI (by omega) (by decide)
section RW
variable {K : Nat} {σ : Sg} {D : DV} {xP xW xZ xG xK xT xQ xF xB : Fn} {un sz wm fm bm : Nat} {ft : Int32} {sd : Int64}
theorem RS_WC (h : RSx K σ D xP xW xZ xG xK xT xQ xF xB un sz wm fm bm ft sd) : WC σ := by
  obtain ⟨⟨p1, p2, p3, p4, p5, D2, R2, p6, p7⟩, -, ⟨x, q1, q2, q3, -⟩, -, -, ⟨fn, ap, m, t1, t2, t3, -⟩, ⟨wa, df, wf, ep, eb, s1, s2, s3, s4, s5⟩⟩ := h
  refine ⟨⟨p1, p2, p3⟩, fun j hj => ?_, ⟨x, un, q1, q2, q3⟩, ⟨wa, df, wf, ep, eb, wm, fm, bm, s1, s2, s3, s4, fun i hi => ?_⟩, ⟨xT, sz, m, ft, fn, ap, t1, t2, t3⟩⟩
  · by_cases e : j = (gU σ).1
    · rw [e]; show parOk (σ.1.2.1 (gU σ).1); rw [p4]; exact DRl_ok p5
    · have e2 : j = (gU σ).2.1 := by omega
      rw [e2]; show parOk (σ.1.2.1 (gU σ).2.1); rw [p6]; exact DRl_ok p7
  · obtain ⟨a, a1, a2, -⟩ := s5.2.2 i hi
    rw [a2]; exact vp_in_nI a1 (by decide)
theorem RS_par (h : RSx K σ D xP xW xZ xG xK xT xQ xF xB un sz wm fm bm ft sd) : hereP σ = dP D ∧ hNp σ = dNp D ∧ hNd σ = dNd D ∧ DRl D xP ∧ dNp D ≤ 7 ∧ dNd D ≤ 9 := by
  obtain ⟨⟨p1, p2, p3, p4, p5, -⟩, -⟩ := h
  have e : hereP σ = dP D := p4
  obtain ⟨Tr, Du, t1, t2, t3, t4, t5, t6, t7, t8, t9, t10, t11, -⟩ := id p5
  refine ⟨e, ?_, ?_, p5, t10, t11⟩
  · show (hereP σ).2.2.2.1.toNatClampNeg = _
    rw [e]
    exact nI_clamp (by show D.2.2.2.1 < _; omega)
  · show (hereP σ).2.2.2.2.1.toNatClampNeg = _
    rw [e]
    exact nI_clamp (by show D.2.2.2.2.1 < _; omega)
end RW
theorem DRl_k {D : DV} {P : Fn} (h : DRl D P) : (∀ i, i < dNp D → D.2.2.2.2.2.1 i = P (4 + i)) ∧ drL (dNp D) D.2.2.2.2.2.2.2.1 P ∧ dbL (dNp D) (dNd D) D.2.2.2.2.2.2.2.2.1 P 25 ∧ dbL (dNp D) (dNd D) D.2.2.2.2.2.2.2.2.2.1 P 34 ∧ P 2 = nI (dNp D) ∧ P 3 = nI (dNd D) ∧ P 1 = D.2.1 ∧ (D.1 = 0 ↔ P 1 = 0) ∧ (∃ du : Nat, du ≤ 24 ∧ P 1 = nI du) ∧ (P 1 = 0 → dNp D = 0) ∧ P 0 = D.2.2.1 := by
  have hs := DRl_sd h
  obtain ⟨Tr, Du, t1, t2, t3, t4, t5, t6, t7, t8, t9, t10, t11, t12, t13, t14, t15, t16⟩ := h
  refine ⟨fun i hi => ?_, fun i hi => ?_, fun d hd => ?_, fun d hd => ?_, t8, t9, by rw [t7, t4], hs.1, ⟨Du, t2, t7⟩, fun q => ?_, by rw [t6, t5]⟩
  · obtain ⟨k, n, x, -, -, -, k1, k2, -⟩ := t13 i hi
    rw [k1, k2]
  · obtain ⟨k, n, x, -, -, x0, -, -, -, -, x1, x2⟩ := t13 i hi
    exact ⟨x, x0, x1, x2⟩
  · obtain ⟨a, c, n, a1, -, -, a2, a3, -⟩ := t15 d hd
    exact ⟨a, a1, a2, a3⟩
  · obtain ⟨a, c, n, -, c1, -, -, -, c2, c3, -⟩ := t15 d hd
    exact ⟨c, c1, c2, c3⟩
  · rw [t7] at q
    by_cases e : Du = 0
    · exact (t12 e).1
    · exact absurd q (nI_ne0 (by omega) (by omega))
theorem DbR_of {K : Nat} {D : DV} {P W : Fn} {F : FlockV} (h : DRl D P) (hF : FR (dNp D) K F W) : DbR (dNp D) (dNd D) D.2.2.2.2.2.2.2.2.1 D.2.2.2.2.2.2.2.2.2.1 (fO F) (fB F) P W := by
  have k := DRl_k h
  obtain ⟨Tr, Du, t1, t2, t3, t4, t5, t6, t7, t8, t9, t10, t11, -⟩ := h
  refine ⟨t10, t11, k.2.2.1, k.2.2.2.1, hF.2.2.2.2.1, fun i hi => ?_⟩
  obtain ⟨n, n0, n1, n2, -, -⟩ := FR_b hF hi
  exact ⟨n, n0, n1, n2⟩
/-! what is remembered -/
theorem zSh_at {z : Fn} : ∀ n, n ≤ 720 → (∀ i, i < n → itn (fun k f => upd f k (f (k + 48))) n z i = z (i + 48)) ∧ ∀ i, n ≤ i → itn (fun k f => upd f k (f (k + 48))) n z i = z i
  | 0, _ => ⟨fun i h => absurd h (Nat.not_lt_zero _), fun _ _ => rfl⟩
  | n + 1, hn => by
    have ih := zSh_at (z := z) n (by omega)
    refine ⟨fun i hi => ?_, fun i hi => ?_⟩
    · rw [itn_s]
      by_cases e : i = n
      · subst e; rw [upd_self]; exact ih.2 _ (by omega)
      · rw [upd_ne e]; exact ih.1 i (by omega)
    · rw [itn_s, upd_ne (by omega)]
      exact ih.2 i (by omega)
theorem PastR_rem {np K : Nat} {fl : Nat → FlockV} {q : PastV} {xZ xW : Fn} {un : Nat} {G : FlockV} (h : PastR np K fl q xZ un) (hW : FR np K (fl 0) xW) : PastR np K (va_up fl (2 + q.1.toNatClampNeg) (fl_copy (fl 0) G)) (nI ((q.1.toNatClampNeg + 1) % 16), nI (min (q.2.toNatClampNeg + 1) 16)) (remZ xZ xW un) (remU un) := by
  obtain ⟨x, rfl, h1, h2, h3⟩ := h
  show PastR np K (va_up fl (2 + (nI x).toNatClampNeg) (fl_copy (fl 0) G)) (nI (((nI x).toNatClampNeg + 1) % 16), nI (min ((nI un).toNatClampNeg + 1) 16)) (remZ xZ xW un) (remU un)
  rw [nI_clamp (by omega), nI_clamp (by omega)]
  unfold remZ remU
  by_cases c : un = 16
  · subst c
    rw [if_pos rfl, if_pos rfl]
    refine ⟨(x + 1) % 16, by rw [show min (16 + 1) 16 = 16 from rfl], by omega, by omega, fun k hk => ?_⟩
    by_cases e : k = 15
    · subst e
      rw [show 2 + ((x + 1) % 16 + 16 - 16 + 15) % 16 = 2 + x by omega, va_up_self]
      refine FR_row (FR_copy hW) (fun i hi => ?_)
      have q := cpA_at (a := xW) (b := zSh xZ) (i := 0) (j := 48 * 15) (n := 48) (k := i) hi
      rw [Nat.zero_add] at q
      exact q
    · rw [va_up_ne _ _ (by omega)]
      have q := h3 (k + 1) (by omega)
      rw [show (x + 16 - 16 + (k + 1)) % 16 = ((x + 1) % 16 + 16 - 16 + k) % 16 by omega] at q
      refine FR_row q (fun i hi => ?_)
      show cpA xW 0 (zSh xZ) (48 * 15) 48 (48 * k + i) = xZ (48 * (k + 1) + i)
      rw [cpA_out (by omega)]
      rw [show zSh xZ (48 * k + i) = xZ (48 * k + i + 48) from (zSh_at 720 (Nat.le_refl _)).1 _ (by omega)]
      congr 1
      omega
  · rw [if_neg c, if_neg c]
    refine ⟨(x + 1) % 16, by rw [Nat.min_eq_left (by omega)], by omega, by omega, fun k hk => ?_⟩
    by_cases e : k = un
    · subst e
      rw [show 2 + ((x + 1) % 16 + 16 - (k + 1) + k) % 16 = 2 + x by omega, va_up_self]
      refine FR_row (FR_copy hW) (fun i hi => ?_)
      have q := cpA_at (a := xW) (b := xZ) (i := 0) (j := 48 * k) (n := 48) (k := i) hi
      rw [Nat.zero_add] at q
      exact q
    · rw [va_up_ne _ _ (by omega)]
      have q := h3 k (by omega)
      rw [show (x + 16 - un + k) % 16 = ((x + 1) % 16 + 16 - (un + 1) + k) % 16 by omega] at q
      refine FR_row q (fun i hi => ?_)
      show cpA xW 0 xZ (48 * un) 48 (48 * k + i) = xZ (48 * k + i)
      rw [cpA_out (Or.inl (by
        have : 48 * (k + 1) ≤ 48 * un := Nat.mul_le_mul_left _ (by omega)
        omega))]
theorem PastR_c {np K K2 : Nat} {fl fl2 : Nat → FlockV} {q : PastV} {xZ : Fn} {un : Nat} (hK : K ≤ K2) (e : ∀ k, 2 ≤ k → k < 18 → fl2 k = fl k) (h : PastR np K fl q xZ un) : PastR np K2 fl2 q xZ un := by
  obtain ⟨x, h0, h1, h2, h3⟩ := h
  exact ⟨x, h0, h1, h2, fun k hk => by rw [e _ (by omega) (by omega)]; exact FR_mono hK (h3 k hk)⟩
theorem PastR_0 {np K : Nat} {fl : Nat → FlockV} {q : PastV} {xZ xZ2 : Fn} {un : Nat} {np2 K2 : Nat} {fl2 : Nat → FlockV} (h : PastR np K fl q xZ un) : PastR np2 K2 fl2 (q.1, nI 0) xZ2 0 := by
  obtain ⟨x, rfl, h1, -⟩ := h
  exact ⟨x, rfl, h1, by omega, fun k hk => absurd hk (Nat.not_lt_zero _)⟩
theorem ImgR_c {np K K2 : Nat} {fl fl2 : Nat → FlockV} {is it xG xK : Fn} (hK : K ≤ K2) (e : ∀ k, 18 ≤ k → k < 20 → fl2 k = fl k) (h : ImgR np K fl is it xG xK) : ImgR np K2 fl2 is it xG xK := fun i hi => by
  obtain ⟨h1, h2⟩ := h i hi
  refine ⟨h1, fun q => ?_⟩
  obtain ⟨a, b⟩ := h2 q
  exact ⟨by rw [e _ (by omega) (by omega)]; exact FR_mono hK a, b⟩
section RX
variable {K K2 : Nat} {σ : Sg} {D : DV} {xP xW xZ xG xK xT xQ xF xB : Fn} {un sz wm fm bm : Nat} {ft : Int32} {sd : Int64}
theorem RSx_mono (hK : K ≤ K2) (h : RSx K σ D xP xW xZ xG xK xT xQ xF xB un sz wm fm bm ft sd) : RSx K2 σ D xP xW xZ xG xK xT xQ xF xB un sz wm fm bm ft sd := by
  obtain ⟨h1, h2, h3, h4, h5⟩ := h
  exact ⟨h1, FR_mono hK h2, PastR_c hK (fun _ _ _ => rfl) h3, ImgR_c hK (fun _ _ _ => rfl) h4, h5⟩
/-- something was tried: flock 1 alone has changed -/
theorem RSx_try (F : FlockV) (h : RSx K σ D xP xW xZ xG xK xT xQ xF xB un sz wm fm bm ft sd) : RSx K (sFl σ 1 F) D xP xW xZ xG xK xT xQ xF xB un sz wm fm bm ft sd := by
  obtain ⟨h1, h2, h3, h4, h5⟩ := h
  refine ⟨h1, ?_, PastR_c (Nat.le_refl _) (fun k a b => va_up_ne _ _ (by omega)) h3, ImgR_c (Nat.le_refl _) (fun k a b => va_up_ne _ _ (by omega)) h4, h5⟩
  show FR _ K (va_up σ.1.1 1 F 0) xW
  rw [va_up_ne _ _ (by decide)]
  exact h2
/-- something was done, and can be undone -/
theorem RSx_do {F : FlockV} {xW2 : Fn} (hK : K ≤ K2) (h : RSx K σ D xP xW xZ xG xK xT xQ xF xB un sz wm fm bm ft sd) (hF : FR (dNp D) K2 F xW2) : RSx K2 (sFl (rem_ σ) 0 F) D xP xW2 (remZ xZ xW un) xG xK xT xQ xF xB (remU un) sz wm fm bm ft sd := by
  obtain ⟨h1, h2, h3, h4, h5⟩ := h
  refine ⟨h1, ?_, ?_, ?_, h5⟩
  · show FR _ K2 (gF (sFl (rem_ σ) 0 F) 0) xW2
    rw [gF_s]; exact hF
  · refine PastR_c hK (fun k a b => ?_) (PastR_rem (G := gF σ (2 + (gQ σ).1.toNatClampNeg)) h3 h2)
    exact va_up_ne _ _ (by omega)
  · refine ImgR_c hK (fun k a b => ?_) h4
    obtain ⟨x, e, x1, -⟩ := h3
    show va_up (va_up σ.1.1 (2 + (gQ σ).1.toNatClampNeg) _) 0 F k = _
    rw [va_up_ne _ _ (by omega), e]
    show va_up σ.1.1 (2 + (nI x).toNatClampNeg) _ k = _
    rw [nI_clamp (by omega), va_up_ne _ _ (by omega)]
theorem RSx_up {up : TopV} {sd2 : Int64} (h : RSx K σ D xP xW xZ xG xK xT xQ xF xB un sz wm fm bm ft sd) (e1 : up.1 = (gU σ).1) (e2 : up.2.1 = (gU σ).2.1) (e3 : up.2.2.2.1 = (gU σ).2.2.2.1) (e4 : up.2.2.2.2.1 = (gU σ).2.2.2.2.1) (hs : SR up.2.2.1 sd2) : RSx K (sU σ up) D xP xW xZ xG xK xT xQ xF xB un sz wm fm bm ft sd2 := by
  obtain ⟨⟨p1, p2, p3, p4, p5, D2, R2, p6, p7⟩, h2, h3, h4, h5, h6⟩ := h
  refine ⟨⟨by show up.1 < 2; rw [e1]; exact p1, by show up.2.1 < 2; rw [e2]; exact p2, by show up.1 ≠ up.2.1; rw [e1, e2]; exact p3, by show σ.1.2.1 up.1 = _; rw [e1]; exact p4, p5, D2, R2, by show σ.1.2.1 up.2.1 = _; rw [e2]; exact p6, p7⟩, h2, h3, ?_, hs, h6⟩
  show ImgR _ K σ.1.1 up.2.2.2.1 up.2.2.2.2.1 xG xK
  rw [e3, e4]
  exact h4
theorem RSx_st (S : SettV) (h : RSx K σ D xP xW xZ xG xK xT xQ xF xB un sz wm fm bm ft sd) : RSx K (sSt σ S) D xP xW xZ xG xK xT xQ xF xB un sz wm fm bm ft sd := h
theorem RSx_m (μ : MSt) (h : RSx K σ D xP xW xZ xG xK xT xQ xF xB un sz wm fm bm ft sd) : RSx K (σ.1, μ) D xP xW xZ xG xK xT xQ xF xB un sz wm fm bm ft sd := h
end RX
