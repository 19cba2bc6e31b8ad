/-! most, kept, nets; sums, who is rich, what is owed, who crumbed, where the ringed one was -/
theorem most_sim {np K : Nat} (hnp : np ≤ 7) {F : FlockV} {s P l kd : Fn} {du : Int32} (h : FR np K F s) (hk : ∀ i, i < np → kd i = P (4 + i)) (hdu : P 1 = du) (hpos : ¬ du ≤ 0) {a : Nat} (ha : a < np) : ∀ n, K + 16 * n < 900000 →
    (itn (st_most kd du np a) n (fB F a, nI 0, F)).1 = (mmoN P np a (n + 1) (s, l)).1 ∧ (itn (st_most kd du np a) n (fB F a, nI 0, F)).2.1 = (mmoN P np a (n + 1) (s, l)).2.1 ∧ (itn (st_most kd du np a) n (fB F a, nI 0, F)).2.2 = passN kd du np n F ∧ (mmoN P np a (n + 1) (s, l)).2.2 = mhN P np (n + 1) (s, l)
  | 0, _ => by
    obtain ⟨b, b0, b1, b2, -, -⟩ := FR_b h (i := a) (by omega)
    refine ⟨?_, ?_, rfl, rfl⟩
    · show fB F a = grI (-1) (s (0 + a))
      rw [Nat.zero_add, b1, b2]
      unfold grI
      rw [if_pos]
      rw [Int32.le_iff_toInt_le, nI_toInt (by omega)]
      have : (-1 : Int32).toInt = -1 := by decide
      omega
    · show nI 0 = (if s (0 + a) ≤ -1 then nI 0 else nI 0)
      split <;> rfl
  | n + 1, hn => by
    obtain ⟨i1, i2, i3, i4⟩ := most_sim hnp h hk hdu hpos ha (l := l) n (by omega)
    have hp := FR_passN hnp h hk hdu hpos (l := l) (n + 1) (by omega)
    obtain ⟨b, b0, b1, b2, -, -⟩ := FR_b hp (i := a) (by omega)
    have e1 : itn (st_most kd du np a) (n + 1) (fB F a, nI 0, F) = st_most kd du np a n (itn (st_most kd du np a) n (fB F a, nI 0, F)) := rfl
    have e2 : mmoN P np a (n + 1 + 1) (s, l) = st_mmo P np a (n + 1) (mmoN P np a (n + 1) (s, l)) := rfl
    rw [e1, e2]
    generalize itn (st_most kd du np a) n (fB F a, nI 0, F) = z1 at i1 i2 i3 ⊢
    generalize mmoN P np a (n + 1) (s, l) = z2 at i1 i2 i4 ⊢
    obtain ⟨v1, w1, F1⟩ := z1
    obtain ⟨v2, w2, y2⟩ := z2
    replace i1 : v1 = v2 := i1
    replace i2 : w1 = w2 := i2
    replace i3 : F1 = passN kd du np n F := i3
    replace i4 : y2 = mhN P np (n + 1) (s, l) := i4
    subst i1 i2 i3 i4
    have ep : fl_pass (passN kd du np n F) kd du np = passN kd du np (n + 1) F := rfl
    unfold st_most st_mmo
    show (if fB (fl_pass (passN kd du np n F) kd du np) a ≤ v1 then (v1, w1, fl_pass (passN kd du np n F) kd du np) else (fB (fl_pass (passN kd du np n F) kd du np) a, nI (n + 1), fl_pass (passN kd du np n F) kd du np)).1 = grI v1 ((mhN P np (n + 1) (s, l)).1 (0 + a)) ∧ (if fB (fl_pass (passN kd du np n F) kd du np) a ≤ v1 then (v1, w1, fl_pass (passN kd du np n F) kd du np) else (fB (fl_pass (passN kd du np n F) kd du np) a, nI (n + 1), fl_pass (passN kd du np n F) kd du np)).2.1 = (if (mhN P np (n + 1) (s, l)).1 (0 + a) ≤ v1 then w1 else nI (n + 1)) ∧ (if fB (fl_pass (passN kd du np n F) kd du np) a ≤ v1 then (v1, w1, fl_pass (passN kd du np n F) kd du np) else (fB (fl_pass (passN kd du np n F) kd du np) a, nI (n + 1), fl_pass (passN kd du np n F) kd du np)).2.2 = passN kd du np (n + 1) F ∧ mh2 P np (mhN P np (n + 1) (s, l)) = mhN P np (n + 1 + 1) (s, l)
    rw [ep, Nat.zero_add, b1, b2]
    unfold grI
    by_cases c : nI b ≤ v1
    · rw [if_pos c, if_pos c]
      refine ⟨?_, rfl, rfl, rfl⟩
      by_cases c2 : v1 ≤ nI b
      · rw [if_pos c2]
        exact Int32.le_antisymm c2 c
      · rw [if_neg c2]
    · rw [if_neg c, if_neg c]
      refine ⟨?_, rfl, rfl, rfl⟩
      rw [if_pos]
      rw [Int32.le_iff_toInt_le] at c ⊢
      omega
theorem kept_sim {np : Nat} (hnp : np ≤ 7) {P kd : Fn} {du : Int32} (hk : ∀ i, i < np → kd i = P (4 + i)) (hdu : P 1 = du) (hpos : ¬ du ≤ 0) : ∀ (f K : Nat) (F : FlockV) (s l : Fn), FR np K F s → K + 8 * f < 900000 → FR np (K + 8 * f) (kpN kd du np f F) (kpM P np f (s, l)).1
  | 0, K, F, s, l, h, _ => h
  | f + 1, K, F, s, l, h, hK => by
    show FR np (K + 8 * (f + 1)) (if duskB (fH F) du = true then F else kpN kd du np f (fl_fly F kd np)) (if s 16 - s 16 / P 1 * P 1 = 0 then (s, l) else kpM P np f (m_hr P s l np, m_lo P s l np)).1
    have e16 : s 16 = fH F := by
      obtain ⟨-, -, -, ⟨hh, -, a, b⟩, -⟩ := h
      rw [a, b]
    rw [e16, hdu]
    by_cases e : fH F - fH F / du * du = 0
    · rw [if_pos (by unfold duskB; exact decide_eq_true ⟨hpos, e⟩), if_pos e]
      exact FR_mono (by omega) h
    · rw [if_neg (by unfold duskB; intro q; exact e (of_decide_eq_true q).2), if_neg e]
      have q := kept_sim hnp hk hdu hpos f (K + 8) _ _ (m_lo P s l np) (FR_fly hnp (by omega) (l := l) h hk) (by omega)
      exact FR_mono (by omega) q
theorem sm_1 {np K : Nat} (hnp : np ≤ 7) {F : FlockV} {s : Fn} (h : FR np K F s) : ∀ n, n ≤ 7 → sm (fB F) n = hatN s n
  | 0, _ => rfl
  | n + 1, hn => by
    show sm (fB F) n + fB F n = hatN s n + s (0 + n)
    obtain ⟨b, -, b1, b2, -, -⟩ := FR_b h (i := n) (by omega)
    rw [sm_1 hnp h n (by omega), Nat.zero_add, b1, b2]
theorem sm_2 {np K : Nat} (hnp : np ≤ 7) {F : FlockV} {s : Fn} (h : FR np K F s) : ∀ n, np + n ≤ 7 → hatN s (np + n) = hatN s np
  | 0, _ => rfl
  | n + 1, hn => by
    show hatN s (np + n) + s (0 + (np + n)) = hatN s np
    obtain ⟨b, -, -, b2, -, b4⟩ := FR_b h (i := np + n) (by omega)
    rw [sm_2 hnp h n (by omega), Nat.zero_add, b2, b4 (by omega), nI_0, Int32.add_zero]
theorem sm_eq {np K : Nat} (hnp : np ≤ 7) {F : FlockV} {s : Fn} (h : FR np K F s) : sm (fB F) 7 = hatN s np := by
  have e := sm_2 hnp h (7 - np) (by omega)
  rw [show np + (7 - np) = 7 by omega] at e
  rw [sm_1 hnp h 7 (Nat.le_refl _), e]
set_option maxRecDepth 100000 in
theorem bc_bit : ∀ i, i < 128 → bcI (nI i) = nI (bitM i) := by decide +kernel
theorem nets_sim {np K : Nat} (hnp : np ≤ 7) (hK : K < 800000) {F0 G : FlockV} {W S L P kd : Fn} {du : Int32} (h : FR np K F0 W) (hk : ∀ i, i < np → kd i = P (4 + i)) (hdu : P 1 = du) (hpos : ¬ du ≤ 0) {hh : Nat} (h24 : hh ≤ 24) (n : Int32) : ∀ k, k ≤ 128 →
    (itn (st_nets F0 kd du np n hh) k (-1, nI 8, G)).1 = (mneN P W np n hh k (S, L)).1 ∧ (((itn (st_nets F0 kd du np n hh) k (-1, nI 8, G)).1 = -1 ∧ (itn (st_nets F0 kd du np n hh) k (-1, nI 8, G)).2.1 = nI 8) ∨ ∃ b, b < 128 ∧ (itn (st_nets F0 kd du np n hh) k (-1, nI 8, G)).1 = nI b ∧ (itn (st_nets F0 kd du np n hh) k (-1, nI 8, G)).2.1 = nI (bitM b))
  | 0, _ => ⟨rfl, Or.inl ⟨rfl, rfl⟩⟩
  | k + 1, hk1 => by
    obtain ⟨i1, i2⟩ := nets_sim hnp hK h hk hdu hpos h24 n (S := S) (L := L) (G := G) k (by omega)
    have e1 : itn (st_nets F0 kd du np n hh) (k + 1) (-1, nI 8, G) = st_nets F0 kd du np n hh k (itn (st_nets F0 kd du np n hh) k (-1, nI 8, G)) := rfl
    have e2 : mneN P W np n hh (k + 1) (S, L) = st_mne P W np n hh k (mneN P W np n hh k (S, L)) := rfl
    rw [e1, e2]
    generalize itn (st_nets F0 kd du np n hh) k (-1, nI 8, G) = z1 at i1 i2 ⊢
    generalize mneN P W np n hh k (S, L) = z2 at i1 ⊢
    obtain ⟨v1, w1, G1⟩ := z1
    obtain ⟨v2, S1, L1⟩ := z2
    replace i1 : v1 = v2 := i1
    subst i1
    replace i2 : (v1 = -1 ∧ w1 = nI 8) ∨ ∃ b, b < 128 ∧ v1 = nI b ∧ w1 = nI (bitM b) := i2
    have hl : FR np K (fl_net (fl_copy F0 G1) (fN (fl_copy F0 G1) ||| nI k)) (laW W S1 k) := by
      have q := FR_lay (G := G1) (S := S1) h
      have q2 := FR_net q (fN (fl_copy F0 G1) ||| nI k)
      unfold laW
      rw [← q.2.2.1]
      exact q2
    have hp := FR_passN hnp (l := L1) hl hk hdu hpos hh (by omega)
    have hs := sm_eq hnp hp
    have e14 : fN F0 = W 14 := h.2.2.1
    unfold st_nets st_mne
    show (if nI k &&& fN F0 = 0 ∧ bcI (nI k) < w1 then (if sm (fB (bwN F0 kd du np (nI k) hh G1)) 7 < n then (v1, w1, bwN F0 kd du np (nI k) hh G1) else (nI k, bcI (nI k), bwN F0 kd du np (nI k) hh G1)) else (v1, w1, G1)).1 = (if nI k &&& W 14 = 0 ∧ (v1 = -1 ∨ bitM k < bitM v1.toNatClampNeg) ∧ ¬ P 1 ≤ 0 then ((if hatN (mhN P np hh (laW W S1 k, L1)).1 np < n then v1 else nI k), mhN P np hh (laW W S1 k, L1)) else (v1, S1, L1)).1 ∧ (((if nI k &&& fN F0 = 0 ∧ bcI (nI k) < w1 then (if sm (fB (bwN F0 kd du np (nI k) hh G1)) 7 < n then (v1, w1, bwN F0 kd du np (nI k) hh G1) else (nI k, bcI (nI k), bwN F0 kd du np (nI k) hh G1)) else (v1, w1, G1)).1 = -1 ∧ (if nI k &&& fN F0 = 0 ∧ bcI (nI k) < w1 then (if sm (fB (bwN F0 kd du np (nI k) hh G1)) 7 < n then (v1, w1, bwN F0 kd du np (nI k) hh G1) else (nI k, bcI (nI k), bwN F0 kd du np (nI k) hh G1)) else (v1, w1, G1)).2.1 = nI 8) ∨ ∃ b, b < 128 ∧ (if nI k &&& fN F0 = 0 ∧ bcI (nI k) < w1 then (if sm (fB (bwN F0 kd du np (nI k) hh G1)) 7 < n then (v1, w1, bwN F0 kd du np (nI k) hh G1) else (nI k, bcI (nI k), bwN F0 kd du np (nI k) hh G1)) else (v1, w1, G1)).1 = nI b ∧ (if nI k &&& fN F0 = 0 ∧ bcI (nI k) < w1 then (if sm (fB (bwN F0 kd du np (nI k) hh G1)) 7 < n then (v1, w1, bwN F0 kd du np (nI k) hh G1) else (nI k, bcI (nI k), bwN F0 kd du np (nI k) hh G1)) else (v1, w1, G1)).2.1 = nI (bitM b))
    have ew : sm (fB (bwN F0 kd du np (nI k) hh G1)) 7 = hatN (mhN P np hh (laW W S1 k, L1)).1 np := hs
    rw [ew, e14, bc_bit k (by omega)]
    have hb7 := bitM_7 k (by omega)
    have hc : nI (bitM k) < w1 ↔ (v1 = -1 ∨ bitM k < bitM v1.toNatClampNeg) := by
      rcases i2 with ⟨q1, q2⟩ | ⟨b, hb, q1, q2⟩
      · rw [q2, nI_ltI (by omega) (by decide)]
        exact ⟨fun _ => Or.inl q1, fun _ => by omega⟩
      · have hb8 := bitM_7 b hb
        rw [q2, nI_ltI (by omega) (by omega), q1, nI_clamp (by omega)]
        refine ⟨Or.inr, fun r => ?_⟩
        rcases r with r | r
        · exfalso
          have q3 := congrArg Int32.toInt r
          rw [nI_toInt (by omega)] at q3
          have : (-1 : Int32).toInt = -1 := by decide
          omega
        · exact r
    by_cases c : nI k &&& W 14 = 0 ∧ nI (bitM k) < w1
    · have hcc : nI k &&& W 14 = 0 ∧ (v1 = -1 ∨ bitM k < bitM v1.toNatClampNeg) ∧ ¬ P 1 ≤ 0 := ⟨c.1, hc.mp c.2, by rw [hdu]; exact hpos⟩
      rw [if_pos c, if_pos hcc]
      by_cases c2 : hatN (mhN P np hh (laW W S1 k, L1)).1 np < n
      · rw [if_pos c2, if_pos c2]
        exact ⟨rfl, i2⟩
      · rw [if_neg c2, if_neg c2]
        exact ⟨rfl, Or.inr ⟨k, by omega, rfl, rfl⟩⟩
    · rw [if_neg c, if_neg (fun q => c ⟨q.1, hc.mpr q.2.1⟩)]
      exact ⟨rfl, i2⟩
theorem nI_m1 {a : Nat} (h : a < 2147483648) : ¬ nI a = (-1 : Int32) := by
  intro r
  have q3 := congrArg Int32.toInt r
  rw [nI_toInt (by omega)] at q3
  have : (-1 : Int32).toInt = -1 := by decide
  omega
theorem rich_1 {np K : Nat} {F : FlockV} {s : Fn} (h : FR np K F s) : ∀ n, n + 1 ≤ 7 → ∃ j, j < n + 1 ∧ riM s (n + 1) = nI j ∧ itn (fun i (y : Int32 × Int32) => if fB F i ≤ y.2 then y else (nI i, fB F i)) (n + 1) (-1, -1) = (nI j, s j)
  | 0, _ => by
    obtain ⟨b, b0, b1, b2, -, -⟩ := FR_b h (i := 0) (by omega)
    refine ⟨0, by omega, ?_, ?_⟩
    · show st_ri s 0 (-1) = nI 0
      unfold st_ri
      rw [if_pos (Or.inl rfl)]
    · show (if fB F 0 ≤ -1 then ((-1, -1) : Int32 × Int32) else (nI 0, fB F 0)) = _
      rw [if_neg, b1, b2]
      rw [b1, Int32.le_iff_toInt_le, nI_toInt (by omega)]
      have : (-1 : Int32).toInt = -1 := by decide
      omega
  | n + 1, hn => by
    obtain ⟨j, hj, e1, e2⟩ := rich_1 h n (by omega)
    obtain ⟨b, b0, b1, b2, -, -⟩ := FR_b h (i := n + 1) (by omega)
    have q1 : riM s (n + 1 + 1) = st_ri s (n + 1) (riM s (n + 1)) := rfl
    rw [q1, e1, itn_s, e2]
    unfold st_ri
    rw [Nat.zero_add, nI_add, Nat.zero_add, nI_clamp (by omega), b1, b2]
    show ∃ j2, j2 < n + 1 + 1 ∧ (if nI j = -1 ∨ ¬ nI b ≤ s j then nI (n + 1) else nI j) = nI j2 ∧ (if nI b ≤ s j then (nI j, s j) else (nI (n + 1), nI b)) = (nI j2, s j2)
    by_cases c : nI b ≤ s j
    · rw [if_neg (by rintro (r | r); exact nI_m1 (by omega) r; exact r c), if_pos c]
      exact ⟨j, by omega, rfl, rfl⟩
    · rw [if_pos (Or.inr c), if_neg c]
      exact ⟨n + 1, by omega, rfl, by rw [b2]⟩
theorem rich_eq {np K : Nat} (hnp : np ≤ 7) {F : FlockV} {s : Fn} (h : FR np K F s) : richI (fB F) np = riM s np := by
  cases np with
  | zero => rfl
  | succ n =>
    obtain ⟨j, -, e1, e2⟩ := rich_1 h n hnp
    unfold richI
    rw [e1, e2]
theorem ow_by {dt P o s : Fn} {a : Int32} (ha : ¬ a = -1) : ∀ nd, nd ≤ 9 → (∀ d, d < nd → dt d = P (25 + d)) → ORl o s → owI dt o a nd = owM P s a (-1) nd
  | 0, _, _, _ => rfl
  | n + 1, hn, h, hO => by
    show owI dt o a n + (if dt n = a then o n else nI 0) = owM P s a (-1) n + (if (a = -1 ∨ P (25 + n) = a) ∧ ((-1 : Int32) = -1 ∨ P (34 + n) = -1) then s (17 + n) else nI 0)
    obtain ⟨w, -, w1, w2⟩ := hO n (by omega)
    rw [ow_by ha n (by omega) (fun d hd => h d (by omega)) hO, h n (by omega), w1, w2]
    by_cases c : P (25 + n) = a
    · rw [if_pos c, if_pos ⟨Or.inr c, Or.inl rfl⟩]
    · rw [if_neg c, if_neg (by rintro ⟨r | r, -⟩; exact ha r; exact c r)]
theorem ow_to {cr P o s : Fn} {a : Int32} (ha : ¬ a = -1) : ∀ nd, nd ≤ 9 → (∀ d, d < nd → cr d = P (34 + d)) → ORl o s → owI cr o a nd = owM P s (-1) a nd
  | 0, _, _, _ => rfl
  | n + 1, hn, h, hO => by
    show owI cr o a n + (if cr n = a then o n else nI 0) = owM P s (-1) a n + (if ((-1 : Int32) = -1 ∨ P (25 + n) = -1) ∧ (a = -1 ∨ P (34 + n) = a) then s (17 + n) else nI 0)
    obtain ⟨w, -, w1, w2⟩ := hO n (by omega)
    rw [ow_to ha n (by omega) (fun d hd => h d (by omega)) hO, h n (by omega), w1, w2]
    by_cases c : P (34 + n) = a
    · rw [if_pos c, if_pos ⟨Or.inl rfl, Or.inr c⟩]
    · rw [if_neg c, if_neg (by rintro ⟨-, r | r⟩; exact ha r; exact c r)]
theorem ow_all {P o s : Fn} : ∀ nd, nd ≤ 9 → ORl o s → sm o nd = owM P s (-1) (-1) nd
  | 0, _, _ => rfl
  | n + 1, hn, hO => by
    show sm o n + o n = owM P s (-1) (-1) n + (if ((-1 : Int32) = -1 ∨ P (25 + n) = -1) ∧ ((-1 : Int32) = -1 ∨ P (34 + n) = -1) then s (17 + n) else nI 0)
    obtain ⟨w, -, w1, w2⟩ := hO n (by omega)
    rw [ow_all (P := P) n (by omega) hO, w1, w2, if_pos ⟨Or.inl rfl, Or.inl rfl⟩]
theorem drawn_eq {np K : Nat} {F : FlockV} {s P kd : Fn} (h : FR np K F s) (hk : ∀ i, i < np → kd i = P (4 + i)) (hnp : np ≤ 7) (a : Int32) : ∀ n, n ≤ np → fl_drawn F kd a n = drM P s a n
  | 0, _ => rfl
  | n + 1, hn => by
    show fl_drawn F kd a n + (if nI n = a then nI 0 else fl_loss F kd n false) = drM P s a n + (if nI n = a ∨ hasB (s 14) (nI n) = true then nI 0 else lbI (P (4 + n)) (s (0 + n)) false)
    obtain ⟨b, -, b1, b2, -, -⟩ := FR_b h (i := n) (by omega)
    have e14 : fN F = s 14 := h.2.2.1
    rw [drawn_eq h hk hnp a n (by omega), loss_F, hk n (by omega), Nat.zero_add, b1, b2, e14]
    by_cases c : nI n = a
    · rw [if_pos c, if_pos (Or.inl c)]
    · rw [if_neg c]
      by_cases c2 : hasB (s 14) (nI n) = true
      · rw [if_pos c2, if_pos (Or.inr c2)]
      · rw [if_neg c2, if_neg (by rintro (r | r); exact c r; exact c2 r)]
theorem so_eq {wa Q : Fn} {v : Int32} : ∀ n, (∀ i, i < n → wa i = Q i) → allW wa v n = soM Q v n
  | 0, _ => rfl
  | n + 1, h => by
    show decide (∀ i, i < n + 1 → wa i = v) = (soM Q v n && decide (v = Q n))
    rw [← so_eq n (fun i hi => h i (by omega))]
    unfold allW
    rw [← Bool.decide_and]
    refine decide_eq_decide.mpr ⟨fun q => ⟨fun i hi => q i (by omega), by rw [← h n (by omega)]; exact (q n (by omega)).symm⟩, fun q i hi => ?_⟩
    by_cases e : i = n
    · subst e; rw [h i (by omega)]; exact q.2.symm
    · exact q.1 i (by omega)
theorem who_sim {np K : Nat} {F : FlockV} {s P kd wa Q : Fn} {wm : Nat} (h : FR np K F s) (hk : ∀ i, i < np → kd i = P (4 + i)) (hnp : np ≤ 7) (hw : ∀ i, i < wm → wa i = Q i) : suspI F kd wa wm np = whM P s Q wm np := by
  unfold suspI whM
  have e : ∀ n, n ≤ np → itn (fun i y => if allW wa (fl_drawn F kd (nI i) np) wm = true then y ||| (nI 1 <<< (nI i &&& 31)) else y) n (nI 0) = itn (fun p y => y ||| (if soM Q (drM P s (nI p) np) wm = true then nI 1 <<< (nI p &&& 31) else nI 0)) n (nI 0) := by
    intro n
    induction n with
    | zero => intro _; rfl
    | succ n ih =>
      intro hn
      rw [itn_s, itn_s, ih (by omega), drawn_eq h hk hnp (nI n) np (Nat.le_refl _), so_eq wm hw]
      by_cases c : soM Q (drM P s (nI n) np) wm = true
      · rw [if_pos c, if_pos c]
      · rw [if_neg c, if_neg c, nI_0, Int32.or_zero]
  exact e np (Nat.le_refl _)
theorem net_bit (x : Int32) (a : Nat) : bI (hasB x (nI a)) = (x >>> (nI a &&& 31)) &&& nI 1 := by
  obtain ⟨j, hj, e⟩ := pk_andE (x >>> (nI a &&& 31)) (m := nI 1) 1 (by decide)
  unfold hasB
  rw [e]
  rcases Nat.lt_or_ge j 1 with q | q
  · have : j = 0 := by omega
    subst this; decide
  · have : j = 1 := by omega
    subst this; decide
theorem back_eq {np K : Nat} (hK : K < 2000000) {F : FlockV} {s : Fn} (h : FR np K F s) : ∃ t, t ≤ 20 ∧ s 27 = nI t ∧ mnI (fE F) (nI 20) = nI t ∧ (∀ i, i < t → fl_back F (nI i) = s (28 + t - 1 - i)) ∧ ∀ x, perB x t = false → fl_back F x = -1 := by
  obtain ⟨-, -, -, -, -, -, ⟨pe, q1, q2, q3, q4⟩⟩ := h
  have em : mnI (fE F) (nI 20) = nI (min pe 20) := by rw [q1, mnI_n (by omega) (by decide)]
  refine ⟨min pe 20, Nat.min_le_right _ _, q3, em, fun i hi => ?_, fun x hx => ?_⟩
  · unfold fl_back
    rw [em, if_neg (by rintro (r | r); exact nI_pos (by omega) r; exact r (nI_lt hi (by omega))), q1, pk_sub (by omega), pk_sub (by omega), fm_n (by omega), nI_clamp (by omega), show 28 + min pe 20 - 1 - i = 28 + (min pe 20 - 1 - i) by omega, q4 _ (by omega)]
    congr 1
    omega
  · unfold fl_back
    rw [em, if_pos]
    unfold perB at hx
    have := of_decide_eq_false hx
    by_cases c : x < 0
    · exact Or.inl c
    · exact Or.inr (fun r => this ⟨c, r⟩)
