/-! the two sides' flocks: birds, crumbs, trace; a flock F of the one, a row s of the other -/
def sN (B : Nat → Nat) : Nat → Nat
  | 0 => 0
  | n + 1 => sN B n + B n
def upN (B : Nat → Nat) (k v : Nat) : Nat → Nat := fun j => if j = k then v else B j
theorem upN_s {B : Nat → Nat} {k v : Nat} : upN B k v k = v := if_pos rfl
theorem upN_n {B : Nat → Nat} {k v j : Nat} (h : j ≠ k) : upN B k v j = B j := if_neg h
theorem sN_lo {B : Nat → Nat} {k v : Nat} : ∀ n, n ≤ k → sN (upN B k v) n = sN B n
  | 0, _ => rfl
  | n + 1, h => by
    show sN (upN B k v) n + upN B k v n = sN B n + B n
    rw [sN_lo n (by omega), upN_n (by omega)]
theorem sN_up {B : Nat → Nat} {k v : Nat} : ∀ n, k < n → sN (upN B k v) n + B k = sN B n + v
  | 0, h => absurd h (Nat.not_lt_zero _)
  | n + 1, h => by
    show sN (upN B k v) n + upN B k v n + B k = sN B n + B n + v
    rcases Nat.lt_or_ge k n with h1 | h1
    · have := sN_up (B := B) (v := v) n h1
      rw [upN_n (by omega)]; omega
    · have e : k = n := by omega
      subst e
      rw [sN_lo k (Nat.le_refl _), upN_s]; omega
theorem sN_ge {B : Nat → Nat} : ∀ n k, k < n → B k ≤ sN B n
  | 0, k, h => absurd h (Nat.not_lt_zero _)
  | n + 1, k, h => by
    show B k ≤ sN B n + B n
    rcases Nat.lt_or_ge k n with h1 | h1
    · have := sN_ge (B := B) n k h1; omega
    · have e : k = n := by omega
      subst e; omega
/-- place j (7 is the tree) of np persons -/
def ix (np : Nat) (a : Int32) (j : Nat) : Prop := (a = -2 ∧ j = 7) ∨ (j < np ∧ a = nI j)
def rx (j : Nat) : Nat := if j = 7 then 15 else j
def gB (F : FlockV) (j : Nat) : Int32 := if j = 7 then fT F else fB F j
theorem ix_plc {np : Nat} (hnp : np ≤ 7) {a : Int32} {j : Nat} (h : ix np a j) : plc a := by
  rcases h with ⟨rfl, rfl⟩ | ⟨h1, rfl⟩
  · exact plc_t
  · exact plc_n (by omega)
theorem ix_8 {np : Nat} (hnp : np ≤ 7) {a : Int32} {j : Nat} (h : ix np a j) : j < 8 := by
  rcases h with ⟨-, rfl⟩ | ⟨h1, -⟩ <;> omega
theorem ix_n {np : Nat} {a : Int32} {j i : Nat} (h : ix np a j) (h1 : np ≤ i) (h2 : i < 7) : i ≠ j := by
  rcases h with ⟨-, rfl⟩ | ⟨h1, -⟩ <;> omega
theorem ix_pl {np : Nat} (hnp : np ≤ 7) {a : Int32} {j : Nat} (h : ix np a j) : (plN a).toNatClampNeg = rx j := by
  rcases h with ⟨rfl, rfl⟩ | ⟨h1, rfl⟩
  · rw [plN_t, nI_clamp (by decide)]; rfl
  · rw [plN_n (by omega), nI_clamp (by omega)]; exact (if_neg (by omega)).symm
theorem rx_ne {i k : Nat} (hi : i < 8) (hk : k < 8) (h : i ≠ k) : rx i ≠ rx k := by
  unfold rx
  split <;> split <;> omega
theorem rx_15 {i : Nat} (hi : i < 8) : rx i ≤ 6 ∨ rx i = 15 := by
  unfold rx
  split <;> omega
theorem rx_lt {i : Nat} (hi : i < 7) : rx i = i := if_neg (by omega)
theorem chg_n {F : FlockV} {j : Nat} {v : Int32} (hj : j < 7) : fl_chg F (nI j) v = (fT F, fH F, fN F, fR F, fE F, upd (fB F) j (fB F j + v), fK F, fO F, fP F) := by
  unfold fl_chg
  rw [if_pos ⟨nI_pos (by omega), nI_ge hj (by decide)⟩, nI_clamp (by omega)]
theorem chg_t {F : FlockV} {v : Int32} : fl_chg F (-2) v = (fT F + v, fH F, fN F, fR F, fE F, fB F, fK F, fO F, fP F) := if_neg (by decide)
theorem chg_g {np : Nat} (hnp : np ≤ 7) {F : FlockV} {a : Int32} {j : Nat} (h : ix np a j) (v : Int32) : ∃ t b, fl_chg F a v = (t, fH F, fN F, fR F, fE F, b, fK F, fO F, fP F) ∧ ∀ i, gB (t, fH F, fN F, fR F, fE F, b, fK F, fO F, fP F) i = upd (gB F) j (gB F j + v) i := by
  rcases h with ⟨rfl, rfl⟩ | ⟨h1, rfl⟩
  · refine ⟨_, _, chg_t, fun i => ?_⟩
    by_cases e : i = 7
    · subst e; rw [upd_self]; rfl
    · rw [upd_ne e]
      show (if i = 7 then fT F + v else fB F i) = (if i = 7 then fT F else fB F i)
      rw [if_neg e, if_neg e]
  · refine ⟨_, _, chg_n (by omega), fun i => ?_⟩
    have ej : gB F j = fB F j := if_neg (by omega)
    by_cases e : i = j
    · subst e
      rw [upd_self, ej]
      show (if i = 7 then fT F else upd (fB F) i (fB F i + v) i) = _
      rw [if_neg (by omega), upd_self]
    · rw [upd_ne e]
      show (if i = 7 then fT F else upd (fB F) j (fB F j + v) i) = (if i = 7 then fT F else fB F i)
      rw [upd_ne e]
theorem nI_an {a m : Nat} (h : m ≤ a) : nI a + -(nI m) = nI (a - m) := by rw [← Int32.sub_eq_add_neg, pk_sub h]
def BRl (np : Nat) (g s : Fn) : Prop := ∃ G : Nat → Nat, sN G 8 ≤ 2000 ∧ (∀ i, np ≤ i → i < 7 → G i = 0) ∧ ∀ j, j < 8 → g j = nI (G j) ∧ s (rx j) = nI (G j)
def TRl (K : Nat) (e : Int32) (p s : Fn) : Prop := ∃ pe : Nat, e = nI pe ∧ pe ≤ K ∧ s 27 = nI (min pe 20) ∧ ∀ k, k < min pe 20 → s (28 + k) = p ((pe - min pe 20 + k) % 20)
def CRl (np : Nat) (c s : Fn) : Prop := ∀ i, i < 7 → c i = s (7 + i) ∧ (np ≤ i → s (7 + i) = nI 0)
def ORl (o s : Fn) : Prop := ∀ d, d < 9 → ∃ w, w ≤ 99 ∧ o d = nI w ∧ s (17 + d) = nI w
/-- a flock and a row are alike; np persons; K: at most so many places and hours ever -/
def FR (np K : Nat) (F : FlockV) (s : Fn) : Prop := BRl np (gB F) s ∧ CRl np (fK F) s ∧ fN F = s 14 ∧ (∃ hh, hh ≤ K ∧ fH F = nI hh ∧ s 16 = nI hh) ∧ ORl (fO F) s ∧ fR F = s 26 ∧ TRl K (fE F) (fP F) s
theorem FR_mono {np K K2 : Nat} {F : FlockV} {s : Fn} (hK : K ≤ K2) (h : FR np K F s) : FR np K2 F s := by
  obtain ⟨h1, h2, h3, ⟨hh, h4, h5⟩, h6, h7, ⟨pe, h8, h9, h10⟩⟩ := h
  exact ⟨h1, h2, h3, ⟨hh, Nat.le_trans h4 hK, h5⟩, h6, h7, ⟨pe, h8, Nat.le_trans h9 hK, h10⟩⟩
theorem FR_trc {np K : Nat} {F : FlockV} {s : Fn} (h : FR np K F s) : Trc s := by
  obtain ⟨-, -, -, -, -, -, ⟨pe, -, -, h, -⟩⟩ := h
  exact ⟨min pe 20, Nat.min_le_right _ _, h⟩
theorem BRl_c {np : Nat} {g g2 s s2 : Fn} (h1 : ∀ j, j < 8 → s2 (rx j) = s (rx j)) (h2 : ∀ j, j < 8 → g2 j = g j) (h : BRl np g s) : BRl np g2 s2 := by
  obtain ⟨G, a, b, c⟩ := h
  exact ⟨G, a, b, fun j hj => ⟨by rw [h2 j hj]; exact (c j hj).1, by rw [h1 j hj]; exact (c j hj).2⟩⟩
theorem BRl_mv {np : Nat} (hnp : np ≤ 7) {g s : Fn} {a z : Int32} {j k m : Nat} (h : BRl np g s) (ha : ix np a j) (hz : ix np z k) (hjk : j ≠ k) (hm : m < 2147483648) (hg : ¬ g j < nI m) :
    BRl np (upd (upd g j (g j + -(nI m))) k (upd g j (g j + -(nI m)) k + nI m)) (m_mv s a z (nI m)) := by
  obtain ⟨G, h1, h2, h3⟩ := h
  have hj := ix_8 hnp ha
  have hk := ix_8 hnp hz
  have hGj := sN_ge (B := G) 8 j hj
  have hle : m ≤ G j := by
    rw [(h3 j hj).1, nI_ltI (by omega) hm] at hg
    omega
  refine ⟨upN (upN G j (G j - m)) k (G k + m), ?_, fun i h5 h6 => ?_, fun i hi => ⟨?_, ?_⟩⟩
  · have e1 := sN_up (B := upN G j (G j - m)) (k := k) (v := G k + m) 8 hk
    have e2 := sN_up (B := G) (k := j) (v := G j - m) 8 hj
    rw [upN_n (Ne.symm hjk)] at e1
    omega
  · rw [upN_n (ix_n hz h5 h6), upN_n (ix_n ha h5 h6), h2 i h5 h6]
  · by_cases e : i = k
    · subst e
      rw [upd_self, upd_ne (Ne.symm hjk), upN_s, (h3 i hi).1, nI_add]
    · rw [upd_ne e, upN_n e]
      by_cases e2 : i = j
      · subst e2
        rw [upd_self, upN_s, (h3 i hi).1, nI_an hle]
      · rw [upd_ne e2, upN_n e2, (h3 i hi).1]
  · unfold m_mv
    rw [ix_pl hnp ha, ix_pl hnp hz]
    by_cases e : i = k
    · subst e
      rw [upd_self, upd_ne (rx_ne hi hj (Ne.symm hjk)), upN_s, (h3 i hi).2, nI_add]
    · rw [upd_ne (rx_ne hi hk e), upN_n e]
      by_cases e2 : i = j
      · subst e2
        rw [upd_self, upN_s, (h3 i hi).2, pk_sub hle]
      · rw [upd_ne (rx_ne hi hj e2), upN_n e2, (h3 i hi).2]
theorem m_shift_at {s : Fn} : ∀ n, n ≤ 19 → (∀ k, k < n → itn (fun k f => upd f (28 + k) (f (28 + k + 1))) n s (28 + k) = s (28 + k + 1)) ∧ ∀ i, 28 + n ≤ i → itn (fun k f => upd f (28 + k) (f (28 + k + 1))) n s i = s i
  | 0, _ => ⟨fun k h => absurd h (Nat.not_lt_zero _), fun _ _ => rfl⟩
  | n + 1, hn => by
    have ih := m_shift_at (s := s) n (by omega)
    refine ⟨fun k hk => ?_, fun i hi => ?_⟩
    · rw [itn_s]
      by_cases e : k = n
      · subst e
        rw [upd_self]
        exact ih.2 _ (by omega)
      · rw [upd_ne (by omega)]
        exact ih.1 k (by omega)
    · rw [itn_s, upd_ne (by omega)]
      exact ih.2 i (by omega)
theorem m_tr_eq {s : Fn} {z : Int32} {t : Nat} (h : m_tr0 s 27 = nI t) (ht : t ≤ 19) : m_tr s z = upd (upd (upd (m_tr0 s) 26 z) (28 + t) z) 27 (nI (t + 1)) := by
  unfold m_tr m_tr1
  rw [show upd (m_tr0 s) 26 z 27 = nI t from by rw [upd_ne (by decide), h], nI_add, nI_clamp (by omega), upd_ne (by omega), upd_ne (by decide), h, nI_add]
theorem m_tr0_lo {s : Fn} {q : Nat} (h : q < 27) : m_tr0 s q = s q := by
  unfold m_tr0
  split
  · rw [upd_ne (by omega)]
    exact m_shift_o (Or.inl (by omega)) 19 (Nat.le_refl _)
  · rfl
theorem m_tr_lo {s : Fn} {z : Int32} {q : Nat} (ht : Trc s) (h : q < 26) : m_tr s z q = s q := by
  obtain ⟨t, h1, h2⟩ := m_tr0_27 ht
  rw [m_tr_eq h2 h1, upd_ne (by omega), upd_ne (by omega), upd_ne (by omega), m_tr0_lo (by omega)]
theorem m_tr_26 {s : Fn} {z : Int32} (ht : Trc s) : m_tr s z 26 = z := by
  obtain ⟨t, h1, h2⟩ := m_tr0_27 ht
  rw [m_tr_eq h2 h1, upd_ne (by omega), upd_ne (by omega), upd_self]
theorem fm_n {a : Nat} (h : a < 2147483648) : fmI (nI a) (nI 20) = nI (a % 20) := by
  unfold fmI
  rw [if_neg (fun q => nI_pos h ((xor_neg (nI a) (by decide)).mp q.1)), pk_rem h (by decide) (by decide)]
theorem TRl_note {K : Nat} (hK : K < 2000000) {e z : Int32} {p s : Fn} (h : TRl K e p s) : TRl (K + 1) (e + nI 1) (upd p (fmI e (nI 20)).toNatClampNeg z) (m_tr s z) := by
  obtain ⟨pe, rfl, h1, h2, h3⟩ := h
  rw [fm_n (by omega), nI_clamp (by omega), nI_add]
  rcases Nat.lt_or_ge pe 20 with hp | hp
  · rw [Nat.min_eq_left (by omega)] at h2 h3
    have e0 : m_tr0 s = s := if_neg (by rw [h2]; intro q; rw [nI_eq (by omega) (by decide)] at q; omega)
    have e1 := m_tr_eq (s := s) (z := z) (t := pe) (by rw [e0, h2]) (by omega)
    rw [e0] at e1
    refine ⟨pe + 1, rfl, by omega, ?_, fun k hk => ?_⟩
    · rw [e1, upd_self, Nat.min_eq_left (by omega)]
    · rw [Nat.min_eq_left (by omega)] at hk ⊢
      rw [e1, upd_ne (by omega)]
      by_cases ek : k = pe
      · subst ek
        rw [upd_self, show (k + 1 - (k + 1) + k) % 20 = k % 20 by omega, upd_self]
      · rw [upd_ne (by omega), upd_ne (by omega), upd_ne (by omega), h3 k (by omega)]
        congr 1
        omega
  · rw [Nat.min_eq_right (by omega)] at h2 h3
    have e0 : m_tr0 s = upd (m_shift s) 27 (nI 19) := by
      unfold m_tr0
      rw [if_pos h2, show m_shift s 27 = s 27 from m_shift_o (Or.inl (by omega)) 19 (Nat.le_refl _), h2]
      congr 1
    have e1 := m_tr_eq (s := s) (z := z) (t := 19) (by rw [e0, upd_self]) (by omega)
    rw [e0] at e1
    refine ⟨pe + 1, rfl, by omega, ?_, fun k hk => ?_⟩
    · rw [e1, upd_self, Nat.min_eq_right (by omega)]
    · rw [Nat.min_eq_right (by omega)] at hk ⊢
      rw [e1, upd_ne (by omega)]
      by_cases ek : k = 19
      · subst ek
        rw [upd_self, show (pe + 1 - 20 + 19) % 20 = pe % 20 by omega, upd_self]
      · rw [upd_ne (by omega), upd_ne (by omega), upd_ne (by omega), upd_ne (by omega)]
        rw [show m_shift s (28 + k) = s (28 + k + 1) from (m_shift_at (s := s) 19 (Nat.le_refl _)).1 k (by omega), show 28 + k + 1 = 28 + (k + 1) by omega, h3 (k + 1) (by omega)]
        congr 1
        omega
theorem FR_note {np K : Nat} (hK : K < 2000000) {F : FlockV} {s : Fn} {z : Int32} (h : FR np K F s) : FR np (K + 1) (fl_note (fl_ring F z)) (m_tr s z) := by
  have ht := FR_trc h
  obtain ⟨h1, h2, h3, ⟨hh, h4, h5, h5b⟩, h6, h7, h8⟩ := h
  refine ⟨BRl_c (fun j hj => m_tr_lo ht (by have := rx_15 hj; omega)) (fun _ _ => rfl) h1, fun i hi => ?_, ?_, ⟨hh, by omega, h5, by rw [m_tr_lo ht (by decide)]; exact h5b⟩, fun d hd => ?_, ?_, ?_⟩
  · rw [m_tr_lo ht (by omega)]; exact h2 i hi
  · rw [m_tr_lo ht (by decide)]; exact h3
  · rw [m_tr_lo ht (by omega)]; exact h6 d hd
  · rw [m_tr_26 ht]; rfl
  · exact TRl_note hK h8
theorem FR_move {np K m j k : Nat} {F : FlockV} {s : Fn} {a z : Int32} (hnp : np ≤ 7) (hK : K < 2000000) (h : FR np K F s) (ha : ix np a j) (hz : ix np z k) (hjk : j ≠ k) (hm : m < 2147483648) (hg : ¬ gB F j < nI m) : FR np (K + 1) (fl_move F a z (nI m)) (m_fly s a z (nI m)) := by
  obtain ⟨hB, hC, hN, ⟨hh, hh1, hh2, hh3⟩, hO, hR, hT⟩ := h
  have hB1 := BRl_mv hnp hB ha hz hjk hm hg
  obtain ⟨t1, b1, e1, g1⟩ := chg_g hnp (F := F) ha (-(nI m))
  obtain ⟨t2, b2, e2, g2⟩ := chg_g hnp (F := (t1, fH F, fN F, fR F, fE F, b1, fK F, fO F, fP F)) hz (nI m)
  have e3 : fl_chg (fl_chg F a (-(nI m))) z (nI m) = (t2, fH F, fN F, fR F, fE F, b2, fK F, fO F, fP F) := by rw [e1]; exact e2
  have G1 : gB (t1, fH F, fN F, fR F, fE F, b1, fK F, fO F, fP F) = upd (gB F) j (gB F j + -(nI m)) := funext g1
  rw [G1] at g2
  have pa := ix_plc hnp ha
  have pz := ix_plc hnp hz
  have ho : ∀ i, (16 ≤ i ∨ (7 ≤ i ∧ i < 15)) → m_mv s a z (nI m) i = s i := fun i hi => m_mv_o pa pz hi
  have hF0 : FR np K (t2, fH F, fN F, fR F, fE F, b2, fK F, fO F, fP F) (m_mv s a z (nI m)) := by
    refine ⟨BRl_c (fun _ _ => rfl) (fun i _ => g2 i) hB1, fun i hi => ?_, ?_, ⟨hh, hh1, hh2, ?_⟩, fun d hd => ?_, ?_, ?_⟩
    · rw [ho _ (Or.inr (by omega))]; exact hC i hi
    · rw [ho _ (Or.inr (by omega))]; exact hN
    · rw [ho _ (Or.inl (by omega))]; exact hh3
    · rw [ho _ (Or.inl (by omega))]; exact hO d hd
    · rw [ho _ (Or.inl (by omega))]; exact hR
    · obtain ⟨pe, q1, q2, q3, q4⟩ := hT
      exact ⟨pe, q1, q2, by rw [ho _ (Or.inl (by omega))]; exact q3, fun k hk => by rw [ho _ (Or.inl (by omega))]; exact q4 k hk⟩
  unfold fl_move m_fly
  rw [e3, ho 26 (Or.inl (by omega))]
  by_cases h0 : m = 0
  · subst h0
    rw [if_neg (fun q => q.1 (by decide)), if_pos (Or.inl (by decide))]
    exact FR_mono (by omega) hF0
  · by_cases hr : fR F = a
    · rw [if_pos ⟨nI_nle (by omega) hm, hr⟩, if_neg (by rintro (q | q); exact nI_ne0 (by omega) hm q; exact q (by rw [← hR]; exact hr))]
      exact FR_note hK hF0
    · rw [if_neg (fun q => hr q.2), if_pos (Or.inr (by rw [← hR]; exact hr))]
      exact FR_mono (by omega) hF0
theorem m_fly_lo {np : Nat} (hnp : np ≤ 7) {s : Fn} {a z n : Int32} {j k q : Nat} (ht : Trc s) (ha : ix np a j) (hz : ix np z k) (hq : q < 26) (h1 : q ≠ rx j) (h2 : q ≠ rx k) : m_fly s a z n q = s q := by
  have e : m_mv s a z n q = s q := by
    unfold m_mv
    rw [ix_pl hnp ha, ix_pl hnp hz, upd_ne h2, upd_ne h1]
  unfold m_fly
  split
  · exact e
  · rw [m_tr_lo (m_mv_trc ht (ix_plc hnp ha) (ix_plc hnp hz)) hq, e]
/-! losses -/
theorem lb_0 (k : Int32) (w : Bool) : lbI k 0 w = nI 0 := by
  have h : plI 0 = nI 0 := by decide
  unfold lbI
  rw [h]
  have h2 : nI 0 / nI 2 = nI 0 := by decide
  have h3 : lsI 0 (nI 2 * nI 0) = nI 0 := by decide
  rw [h2, h3]
  cases w <;> simp
theorem loss_F {F : FlockV} {kd : Fn} {i : Nat} {w : Bool} : fl_loss F kd i w = if hasB (fN F) (nI i) = true then nI 0 else lbI (kd i) (fB F i) w := by
  unfold fl_loss
  by_cases h : hasB (fN F) (nI i) = true
  · rw [if_pos (Or.inr h), if_pos h]
  · rw [if_neg h]
    by_cases h0 : fB F i = 0
    · rw [if_pos (Or.inl h0), h0, lb_0]
    · rw [if_neg (by rintro (q | q); exact h0 q; exact h q)]
      have e : plI (fB F i) = fB F i / nI 10 + nI 1 := if_neg h0
      unfold lossK lbI
      rw [e]
      rfl
theorem pl_n {n : Nat} (h : n ≤ 2000) : ∃ m, m ≤ n ∧ (n = 0 ∨ 0 < m) ∧ plI (nI n) = nI m := by
  by_cases h0 : n = 0
  · subst h0
    exact ⟨0, Nat.le_refl _, Or.inl rfl, by decide⟩
  · refine ⟨n / 10 + 1, by omega, Or.inr (by omega), ?_⟩
    unfold plI
    rw [if_neg (nI_ne0 (by omega) (by omega)), pk_div (by omega) (by decide) (by decide), nI_add]
theorem lb_n {k : Int32} {n : Nat} {w : Bool} (h : n ≤ 2000) : ∃ m, m ≤ n ∧ lbI k (nI n) w = nI m := by
  obtain ⟨m, h1, h2, h3⟩ := pl_n h
  unfold lbI
  rw [h3]
  by_cases k1 : k = nI 1
  · rw [if_pos k1, pk_div (by omega) (by decide) (by decide)]
    exact ⟨m / 2, by omega, rfl⟩
  rw [if_neg k1]
  by_cases k2 : k = nI 2
  · rw [if_pos k2]; exact ⟨0, by omega, rfl⟩
  rw [if_neg k2]
  by_cases k3 : k = nI 3
  · rw [if_pos k3, pk_mul]
    unfold lsI
    by_cases q : nI n < nI (2 * m)
    · rw [if_pos q]; exact ⟨n, Nat.le_refl _, rfl⟩
    · rw [if_neg q]
      rw [nI_ltI (by omega) (by omega)] at q
      exact ⟨2 * m, by omega, rfl⟩
  rw [if_neg k3]
  by_cases k4 : k = nI 4
  · rw [if_pos k4]
    cases w
    · exact ⟨m, h1, rfl⟩
    · exact ⟨0, by omega, rfl⟩
  rw [if_neg k4]
  exact ⟨m, h1, rfl⟩
theorem FR_b {np K : Nat} {F : FlockV} {s : Fn} (h : FR np K F s) {i : Nat} (hi : i < 7) : ∃ n, n ≤ 2000 ∧ fB F i = nI n ∧ s i = nI n ∧ gB F i = nI n ∧ (np ≤ i → n = 0) := by
  obtain ⟨⟨G, h1, h2, h3⟩, -⟩ := h
  have e := h3 i (by omega)
  have hge := sN_ge (B := G) 8 i (by omega)
  rw [rx_lt hi] at e
  exact ⟨G i, by omega, by rw [← e.1]; exact (if_neg (by omega)).symm, e.2, e.1, fun q => h2 i q hi⟩
theorem FR_t {np K : Nat} {F : FlockV} {s : Fn} (h : FR np K F s) : ∃ n, n ≤ 2000 ∧ fT F = nI n ∧ s 15 = nI n ∧ gB F 7 = nI n := by
  obtain ⟨⟨G, h1, h2, h3⟩, -⟩ := h
  have e := h3 7 (by omega)
  have hge := sN_ge (B := G) 8 7 (by omega)
  exact ⟨G 7, by omega, e.1, e.2, e.1⟩
theorem loss_eq {np K : Nat} {F : FlockV} {s P kd : Fn} (h : FR np K F s) {i : Nat} (hi : i < 7) (hk : kd i = P (4 + i)) : fl_loss F kd i (decide (¬ fK F i ≤ 0)) = loI P s i := by
  obtain ⟨n, -, h1, h2, -, -⟩ := FR_b h hi
  obtain ⟨-, hC, hN, -⟩ := h
  rw [loss_F, hN, hk, (hC i hi).1, h1]
  unfold loI
  rw [Nat.zero_add, h2]
theorem lo_n {np K : Nat} {F : FlockV} {s P : Fn} (h : FR np K F s) {i : Nat} (hi : i < 7) : ∃ m, m < 2147483648 ∧ loI P s i = nI m ∧ ¬ gB F i < nI m := by
  obtain ⟨n, h0, h1, h2, h3, -⟩ := FR_b h hi
  unfold loI
  rw [Nat.zero_add, h2, h3]
  by_cases q : hasB (s 14) (nI i) = true
  · rw [if_pos q]; exact ⟨0, by decide, rfl, nI_nlt (by omega) (by omega)⟩
  · rw [if_neg q]
    obtain ⟨m, e1, e2⟩ := lb_n (k := P (4 + i)) (w := decide (¬ s (7 + i) ≤ 0)) h0
    exact ⟨m, by omega, e2, nI_nlt e1 (by omega)⟩
/-! who draws -/
def cmI (s : Fn) (b : Int32) : Int32 := if b = -2 then nI 0 else s (nI 7 + b).toNatClampNeg
theorem cmI_n {s : Fn} {i : Nat} (h : i < 7) : cmI s (nI i) = s (7 + i) := by
  unfold cmI
  rw [if_neg (ne_m2 (by omega)), nI_add, nI_clamp (by omega)]
theorem who_1 {np : Nat} (hnp : np ≤ 7) {c s : Fn} (h : CRl np c s) : ∀ n, n ≤ np → itn (st_who c) n (-2, nI 0) = (m_drw s n, cmI s (m_drw s n)) ∧ ¬ cmI s (m_drw s n) < 0
  | 0, _ => ⟨rfl, by show ¬ (if (-2 : Int32) = -2 then nI 0 else _) < 0; rw [if_pos rfl]; decide⟩
  | n + 1, hn => by
    have ih := who_1 hnp h n (by omega)
    have ec := (h n (by omega)).1
    rw [itn_s, ih.1]
    show st_who c n (m_drw s n, cmI s (m_drw s n)) = (st_mdr s n (m_drw s n), cmI s (st_mdr s n (m_drw s n))) ∧ ¬ cmI s (st_mdr s n (m_drw s n)) < 0
    unfold st_who st_mdr
    rw [ec]
    show (if ¬ s (7 + n) ≤ cmI s (m_drw s n) then (nI n, s (7 + n)) else (m_drw s n, cmI s (m_drw s n))) = ((if s (7 + n) ≤ cmI s (m_drw s n) then m_drw s n else nI n), cmI s (if s (7 + n) ≤ cmI s (m_drw s n) then m_drw s n else nI n)) ∧ ¬ cmI s (if s (7 + n) ≤ cmI s (m_drw s n) then m_drw s n else nI n) < 0
    by_cases q : s (7 + n) ≤ cmI s (m_drw s n)
    · rw [if_neg (fun r => r q), if_pos q]
      exact ⟨rfl, ih.2⟩
    · rw [if_pos q, if_neg q, cmI_n (by omega)]
      refine ⟨rfl, fun r => q ?_⟩
      have i2 := ih.2
      rw [Int32.lt_iff_toInt_lt] at r i2
      rw [Int32.le_iff_toInt_le]
      omega
theorem who_2 {np : Nat} (hnp : np ≤ 7) {c s : Fn} (h : CRl np c s) : ∀ n, np + n ≤ 7 → itn (st_who c) (np + n) (-2, nI 0) = (m_drw s np, cmI s (m_drw s np))
  | 0, _ => (who_1 hnp h np (Nat.le_refl _)).1
  | n + 1, hn => by
    show st_who c (np + n) (itn (st_who c) (np + n) (-2, nI 0)) = _
    rw [who_2 hnp h n (by omega)]
    have ec := h (np + n) (by omega)
    have hz := (who_1 hnp h np (Nat.le_refl _)).2
    unfold st_who
    rw [ec.1, ec.2 (by omega)]
    refine if_neg (fun r => r ?_)
    rw [Int32.lt_iff_toInt_lt] at hz
    rw [Int32.le_iff_toInt_le]
    have e0 : (nI 0).toInt = 0 := by decide
    have e1 : (0 : Int32).toInt = 0 := by decide
    show (nI 0).toInt ≤ (cmI s (m_drw s np)).toInt
    omega
theorem who_eq {np : Nat} (hnp : np ≤ 7) {c s : Fn} (h : CRl np c s) : fl_who c = m_drw s np := by
  unfold fl_who
  have e := who_2 hnp h (7 - np) (by omega)
  rw [show np + (7 - np) = 7 by omega] at e
  rw [e]
theorem drw_ix {s : Fn} : ∀ n, n ≤ 7 → ∃ j, ix n (m_drw s n) j
  | 0, _ => ⟨7, Or.inl ⟨rfl, rfl⟩⟩
  | n + 1, hn => by
    obtain ⟨j, ih⟩ := drw_ix (s := s) n (by omega)
    show ∃ j, ix (n + 1) (if s (7 + n) ≤ (if m_drw s n = -2 then nI 0 else s (nI 7 + m_drw s n).toNatClampNeg) then m_drw s n else nI n) j
    generalize (if m_drw s n = -2 then nI 0 else s (nI 7 + m_drw s n).toNatClampNeg) = y
    split
    · refine ⟨j, ?_⟩
      rcases ih with h | ⟨h, h2⟩
      · exact Or.inl h
      · exact Or.inr ⟨by omega, h2⟩
    · exact ⟨n, Or.inr ⟨by omega, rfl⟩⟩
theorem los_at {P s l : Fn} {d : Int32} : ∀ n p, p < n → m_los P s d n l p = if nI p = d then nI 0 else loI P s p
  | 0, p, h => absurd h (Nat.not_lt_zero _)
  | n + 1, p, h => by
    show upd (m_los P s d n l) n _ p = _
    by_cases e : p = n
    · subst e; rw [upd_self]
    · rw [upd_ne e, los_at n p (by omega)]
theorem FR_go {np K : Nat} (hnp : np ≤ 7) (hK : K < 1000000) {F : FlockV} {s P l kd : Fn} {d : Int32} {jd : Nat} (h : FR np K F s) (hk : ∀ i, i < np → kd i = P (4 + i)) (hd : ix np d jd) : ∀ n, n ≤ np →
    FR np (K + n) (itn (st_fly kd d) n F) (m_go (m_los P s d np l) d n s) ∧ (∀ q, n ≤ q → q < np → ¬ nI q = d → m_go (m_los P s d np l) d n s q = s q) ∧ (∀ q, 7 ≤ q → q < 15 → m_go (m_los P s d np l) d n s q = s q)
  | 0, _ => ⟨h, fun _ _ _ _ => rfl, fun _ _ _ => rfl⟩
  | n + 1, hn => by
    obtain ⟨i1, i2, i3⟩ := FR_go hnp hK h hk hd (l := l) n (by omega)
    show FR np (K + (n + 1)) (st_fly kd d n (itn (st_fly kd d) n F)) (st_mgo (m_los P s d np l) d n (m_go (m_los P s d np l) d n s)) ∧ (∀ q, n + 1 ≤ q → q < np → ¬ nI q = d → st_mgo (m_los P s d np l) d n (m_go (m_los P s d np l) d n s) q = s q) ∧ (∀ q, 7 ≤ q → q < 15 → st_mgo (m_los P s d np l) d n (m_go (m_los P s d np l) d n s) q = s q)
    generalize itn (st_fly kd d) n F = F1 at i1 ⊢
    unfold st_fly st_mgo
    by_cases e : nI n = d
    · rw [if_pos e, if_pos e]
      exact ⟨FR_mono (by omega) i1, fun q a b c => i2 q (by omega) b c, i3⟩
    · rw [if_neg e, if_neg e]
      have hx : ix np (nI n) n := Or.inr ⟨by omega, rfl⟩
      have hj : n ≠ jd := by
        rintro rfl
        rcases hd with ⟨-, q⟩ | ⟨-, q⟩
        · omega
        · exact e q.symm
      have el : loI P (m_go (m_los P s d np l) d n s) n = loI P s n := by
        unfold loI
        rw [i3 14 (by omega) (by omega), i3 (7 + n) (by omega) (by omega), Nat.zero_add, i2 n (Nat.le_refl _) (by omega) e]
      rw [loss_eq i1 (by omega) (hk n (by omega)), los_at np n (by omega), if_neg e, el]
      obtain ⟨m, m1, m2, m3⟩ := lo_n (P := P) i1 (i := n) (by omega)
      rw [el] at m2
      rw [m2]
      have t := FR_trc i1
      refine ⟨FR_move (K := K + n) hnp (by omega) i1 hx hd hj m1 m3, fun q a b c => ?_, fun q a b => ?_⟩
      · rw [m_fly_lo hnp t hx hd (by omega) (by rw [rx_lt (by omega)]; omega) (by
          rcases hd with ⟨-, q2⟩ | ⟨q1, q2⟩
          · subst q2; show q ≠ 15; omega
          · rw [rx_lt (by omega)]
            rintro rfl
            exact c q2.symm)]
        exact i2 q (by omega) b c
      · rw [m_fly_lo hnp t hx hd (by omega) (by rw [rx_lt (by omega)]; omega) (by have := rx_15 (ix_8 hnp hd); omega)]
        exact i3 q a b
theorem half_at {c : Fn} : ∀ n i, itn st_half n c i = if i < n then c i / nI 2 else c i
  | 0, i => rfl
  | n + 1, i => by
    rw [itn_s]
    unfold st_half
    by_cases e : i = n
    · subst e
      rw [upd_self, if_pos (by omega)]
      have := half_at (c := c) i i
      unfold st_half at this
      rw [this, if_neg (by omega)]
    · rw [upd_ne e]
      have := half_at (c := c) n i
      unfold st_half at this
      rw [this]
      by_cases q : i < n
      · rw [if_pos q, if_pos (by omega)]
      · rw [if_neg q, if_neg (by omega)]
theorem mhalf_at {s : Fn} : ∀ n i, m_half n s (7 + i) = if i < n then s (7 + i) / nI 2 else s (7 + i)
  | 0, i => rfl
  | n + 1, i => by
    show upd (m_half n s) (7 + n) (m_half n s (7 + n) / nI 2) (7 + i) = _
    by_cases e : i = n
    · subst e
      rw [upd_self, if_pos (by omega), mhalf_at i i, if_neg (by omega)]
    · rw [upd_ne (by omega), mhalf_at n i]
      by_cases q : i < n
      · rw [if_pos q, if_pos (by omega)]
      · rw [if_neg q, if_neg (by omega)]
theorem FR_hr {np K : Nat} (hnp : np ≤ 7) {F : FlockV} {s : Fn} (h : FR np K F s) : FR np (K + 1) (fl_hr F) (upd (m_half np s) 16 (m_half np s 16 + nI 1)) := by
  obtain ⟨h1, h2, h3, ⟨hh, h4, h5, h5b⟩, h6, h7, ⟨pe, q1, q2, q3, q4⟩⟩ := h
  have lo : ∀ i, i < 7 ∨ 14 ≤ i → i ≠ 16 → upd (m_half np s) 16 (m_half np s 16 + nI 1) i = s i := fun i hi hn => by rw [upd_ne hn, m_half_o hi np hnp]
  refine ⟨BRl_c (fun j hj => lo _ (by have := rx_15 hj; omega) (by have := rx_15 hj; omega)) (fun _ _ => rfl) h1, fun i hi => ?_, ?_, ⟨hh + 1, by omega, ?_, ?_⟩, fun d hd => ?_, ?_, ⟨pe, q1, by omega, ?_, fun k hk => ?_⟩⟩
  · have e := h2 i hi
    rw [upd_ne (by omega), mhalf_at, ← e.1]
    show itn st_half 7 (fK F) i = _ ∧ _
    rw [half_at, if_pos hi]
    by_cases q : i < np
    · rw [if_pos q]; exact ⟨rfl, fun r => by omega⟩
    · rw [if_neg q, e.1, e.2 (by omega)]; exact ⟨by decide, fun _ => rfl⟩
  · rw [lo 14 (by omega) (by omega)]; exact h3
  · show fH F + nI 1 = _; rw [h5, nI_add]
  · rw [upd_self, m_half_o (by omega) np hnp, h5b, nI_add]
  · rw [lo _ (by omega) (by omega)]; exact h6 d hd
  · rw [lo _ (by omega) (by omega)]; exact h7
  · rw [lo _ (by omega) (by omega)]; exact q3
  · rw [lo _ (by omega) (by omega)]; exact q4 k hk
theorem FR_fly {np K : Nat} (hnp : np ≤ 7) (hK : K < 1000000) {F : FlockV} {s P l kd : Fn} (h : FR np K F s) (hk : ∀ i, i < np → kd i = P (4 + i)) : FR np (K + 8) (fl_fly F kd np) (m_hr P s l np) := by
  obtain ⟨jd, hd⟩ := drw_ix (s := s) np hnp
  have hw : fl_who (fK F) = m_drw s np := who_eq hnp h.2.1
  have hg := (FR_go hnp hK h hk hd (l := l) np (Nat.le_refl _)).1
  unfold fl_fly m_hr
  rw [hw]
  exact FR_mono (by omega) (FR_hr hnp hg)
theorem FR_home {np K : Nat} (hnp : np ≤ 7) (hK : K < 1000000) {F : FlockV} {s P kd : Fn} (h : FR np K F s) (hk : ∀ i, i < np → kd i = P (4 + i)) : ∀ n, n ≤ np → FR np (K + n) (itn (st_home kd) n F) (m_home P n s)
  | 0, _ => h
  | n + 1, hn => by
    have ih := FR_home hnp hK h hk n (by omega)
    show FR np (K + (n + 1)) (st_home kd n (itn (st_home kd) n F)) (st_mho P n (m_home P n s))
    generalize itn (st_home kd) n F = F1 at ih ⊢
    unfold st_home st_mho
    rw [hk n (by omega)]
    by_cases e : P (4 + n) = nI 2
    · rw [if_pos e, if_pos e]; exact FR_mono (by omega) ih
    · rw [if_neg e, if_neg e]
      obtain ⟨m, m0, m1, m2, m3, -⟩ := FR_b ih (i := n) (by omega)
      rw [Nat.zero_add, m1, m2]
      exact FR_move (K := K + n) hnp (by omega) ih (Or.inr ⟨by omega, rfl⟩) (Or.inl ⟨rfl, rfl⟩) (by omega) (by omega) (by rw [m3]; exact nI_nlt (Nat.le_refl _) (by omega))
theorem FR_pass {np K : Nat} (hnp : np ≤ 7) (hK : K < 900000) {F : FlockV} {s P l kd : Fn} {du : Int32} (h : FR np K F s) (hk : ∀ i, i < np → kd i = P (4 + i)) (hdu : P 1 = du) (hpos : ¬ du ≤ 0) : FR np (K + 16) (fl_pass F kd du np) (m_hrD P s l np) := by
  have hf := FR_fly hnp (by omega) (l := l) h hk
  have e16 : m_hr P s l np 16 = fH (fl_fly F kd np) := by
    obtain ⟨-, -, -, ⟨hh, -, a, b⟩, -⟩ := hf
    rw [a, b]
  unfold fl_pass m_hrD
  rw [e16, hdu]
  by_cases e : fH (fl_fly F kd np) - fH (fl_fly F kd np) / du * du = 0
  · rw [if_pos (by unfold duskB; exact decide_eq_true ⟨hpos, e⟩), if_pos e]
    exact FR_mono (by omega) (FR_home hnp (by omega) hf hk np (Nat.le_refl _))
  · rw [if_neg (by unfold duskB; intro q; exact e (of_decide_eq_true q).2), if_neg e]
    exact FR_mono (by omega) hf
