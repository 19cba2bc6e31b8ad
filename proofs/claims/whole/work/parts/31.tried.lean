/-! hours, hawks, crumbs, nets, draws: what both sides do to a flock and a row that are alike -/
theorem FR_row {np K : Nat} {F : FlockV} {s s2 : Fn} (h : FR np K F s) (e : ∀ i, i < 48 → s2 i = s i) : FR np K F s2 := by
  obtain ⟨h1, h2, h3, ⟨hh, h4, h5, h5b⟩, h6, h7, ⟨pe, q1, q2, q3, q4⟩⟩ := h
  refine ⟨BRl_c (fun j hj => e _ (by have := rx_15 hj; omega)) (fun _ _ => rfl) h1, fun i hi => ?_, ?_, ⟨hh, h4, h5, ?_⟩, fun d hd => ?_, ?_, ⟨pe, q1, q2, ?_, fun k hk => ?_⟩⟩
  · rw [e _ (by omega)]; exact h2 i hi
  · rw [e _ (by omega)]; exact h3
  · rw [e _ (by omega)]; exact h5b
  · rw [e _ (by omega)]; exact h6 d hd
  · rw [e _ (by omega)]; exact h7
  · rw [e _ (by omega)]; exact q3
  · have : k < 20 := Nat.lt_of_lt_of_le hk (Nat.min_le_right _ _)
    rw [e _ (by omega)]; exact q4 k hk
theorem FR_copy {np K : Nat} {F G : FlockV} {s : Fn} (h : FR np K F s) : FR np K (fl_copy F G) s := by
  obtain ⟨h1, h2, h3, h5, h6, h7, ⟨pe, q1, q2, q3, q4⟩⟩ := h
  refine ⟨BRl_c (fun _ _ => rfl) (fun j hj => ?_) h1, fun i hi => ?_, h3, h5, fun d hd => ?_, h7, ⟨pe, q1, q2, q3, fun k hk => ?_⟩⟩
  · show (if j = 7 then fT F else va_cpy (fB F) (fB G) 0 0 7 j) = (if j = 7 then fT F else fB F j)
    by_cases e : j = 7
    · rw [if_pos e, if_pos e]
    · rw [if_neg e, if_neg e, pk_cpy_in (by omega) (by omega)]; congr 1; omega
  · show va_cpy (fK F) (fK G) 0 0 7 i = _ ∧ _
    rw [pk_cpy_in (by omega) (by omega), show 0 + (i - 0) = i by omega]; exact h2 i hi
  · show ∃ w, w ≤ 99 ∧ va_cpy (fO F) (fO G) 0 0 9 d = nI w ∧ _
    rw [pk_cpy_in (by omega) (by omega), show 0 + (d - 0) = d by omega]; exact h6 d hd
  · show _ = va_cpy (fP F) (fP G) 0 0 20 _
    rw [pk_cpy_in (by omega) (by omega), q4 k hk]; congr 1; omega
theorem FR_lay {np K : Nat} {F G : FlockV} {s S : Fn} (h : FR np K F s) : FR np K (fl_copy F G) (cpA s 0 S 0 48) := by
  refine FR_row (FR_copy h) (fun i hi => ?_)
  have q := cpA_at (a := s) (b := S) (i := 0) (j := 0) (n := 48) (k := i) hi
  rw [Nat.zero_add] at q
  exact q
theorem FR_passN {np K : Nat} (hnp : np ≤ 7) {F : FlockV} {s P l kd : Fn} {du : Int32} (h : FR np K F s) (hk : ∀ i, i < np → kd i = P (4 + i)) (hdu : P 1 = du) (hpos : ¬ du ≤ 0) : ∀ n, K + 16 * n < 900000 → FR np (K + 16 * n) (passN kd du np n F) (mhN P np n (s, l)).1
  | 0, _ => h
  | n + 1, hn => by
    have ih := FR_passN hnp h hk hdu hpos (l := l) n (by omega)
    have q := FR_pass hnp (by omega) (l := (mhN P np n (s, l)).2) ih hk hdu hpos
    exact FR_mono (by omega) q
theorem near_eq {a x d : Nat} (ha : a ≤ 50) (hx : x ≤ 50) (hd : d ≤ 50) : (¬ nI d < abI (nI a - nI x)) ↔ inB (nI a - nI x) (-(nI d)) (nI d) = true := by
  have e1 := pk_sub_toInt (a := a) (b := x) (by omega) (by omega)
  have e2 := pk_sub_toInt (a := x) (b := a) (by omega) (by omega)
  have e3 : (-(nI d)).toInt = -(d : Int) := by
    have q := pk_sub_toInt (a := 0) (b := d) (by omega) (by omega)
    rw [nI_0, Int32.zero_sub] at q
    omega
  have e4 := nI_toInt (n := d) (by omega)
  have e0 : (0 : Int32).toInt = 0 := by decide
  rw [inB_iff]
  unfold abI
  rw [Int32.neg_sub]
  by_cases h : 0 ≤ nI a - nI x
  · rw [if_pos h]
    rw [Int32.le_iff_toInt_le] at h
    rw [Int32.lt_iff_toInt_lt, Int32.lt_iff_toInt_lt]
    omega
  · rw [if_neg h]
    rw [Int32.le_iff_toInt_le] at h
    rw [Int32.lt_iff_toInt_lt, Int32.lt_iff_toInt_lt, Int32.lt_iff_toInt_lt]
    omega
/-- doors of both sides -/
def drL (np : Nat) (dr P : Fn) : Prop := ∀ i, i < np → ∃ a, a ≤ 50 ∧ dr i = nI a ∧ P (18 + i) = nI a
theorem FR_scare {np K : Nat} (hnp : np ≤ 7) (hK : K < 1000000) {F : FlockV} {s P dr : Fn} (h : FR np K F s) (hd : drL np dr P) {x d : Nat} (hx : x ≤ 50) (hd5 : d ≤ 50) : ∀ n, n ≤ np → FR np (K + n) (itn (st_scare dr (nI x) (nI d)) n (nI 0, F)).2 (hwM P s (nI x) (nI d) n).2 ∧ (itn (st_scare dr (nI x) (nI d)) n (nI 0, F)).1 = (hwM P s (nI x) (nI d) n).1
  | 0, _ => ⟨h, rfl⟩
  | n + 1, hn => by
    obtain ⟨i1, i2⟩ := FR_scare hnp hK h hd hx hd5 n (by omega)
    show FR np (K + (n + 1)) (st_scare dr (nI x) (nI d) n (itn (st_scare dr (nI x) (nI d)) n (nI 0, F))).2 (st_hw P (nI x) (nI d) n (hwM P s (nI x) (nI d) n)).2 ∧ (st_scare dr (nI x) (nI d) n (itn (st_scare dr (nI x) (nI d)) n (nI 0, F))).1 = (st_hw P (nI x) (nI d) n (hwM P s (nI x) (nI d) n)).1
    generalize itn (st_scare dr (nI x) (nI d)) n (nI 0, F) = z1 at i1 i2 ⊢
    generalize hwM P s (nI x) (nI d) n = z2 at i1 i2 ⊢
    obtain ⟨v1, F1⟩ := z1
    obtain ⟨v2, s1⟩ := z2
    replace i1 : FR np (K + n) F1 s1 := i1
    replace i2 : v1 = v2 := i2
    subst i2
    unfold st_scare st_hw
    show FR np (K + (n + 1)) (if ¬ nI d < abI (dr n - nI x) ∧ hasB (fN F1) (nI n) = false then (v1 + fB F1 n, fl_move F1 (nI n) (-2) (fB F1 n)) else (v1, F1)).2 (if inB (P (18 + n) - nI x) (-nI d) (nI d) = true ∧ hasB (s1 14) (nI n) = false then (v1 + s1 (0 + n), m_fly s1 (nI n) (-2) (s1 (0 + n))) else (v1, s1)).2 ∧ (if ¬ nI d < abI (dr n - nI x) ∧ hasB (fN F1) (nI n) = false then (v1 + fB F1 n, fl_move F1 (nI n) (-2) (fB F1 n)) else (v1, F1)).1 = (if inB (P (18 + n) - nI x) (-nI d) (nI d) = true ∧ hasB (s1 14) (nI n) = false then (v1 + s1 (0 + n), m_fly s1 (nI n) (-2) (s1 (0 + n))) else (v1, s1)).1
    obtain ⟨a, a1, a2, a3⟩ := hd n (by omega)
    obtain ⟨m, m0, m1, m2, m3, -⟩ := FR_b i1 (i := n) (by omega)
    have eN : fN F1 = s1 14 := i1.2.2.1
    rw [a2, a3, eN, Nat.zero_add, m1, m2]
    have hn' := near_eq a1 hx hd5
    by_cases c : inB (nI a - nI x) (-nI d) (nI d) = true ∧ hasB (s1 14) (nI n) = false
    · rw [if_pos c, if_pos ⟨hn'.mpr c.1, c.2⟩]
      exact ⟨FR_move (K := K + n) hnp (by omega) i1 (Or.inr ⟨by omega, rfl⟩) (Or.inl ⟨rfl, rfl⟩) (by omega) (by omega) (by rw [m3]; exact nI_nlt (Nat.le_refl _) (by omega)), rfl⟩
    · rw [if_neg c, if_neg (fun q => c ⟨hn'.mp q.1, q.2⟩)]
      exact ⟨FR_mono (by omega) i1, rfl⟩
theorem FR_crumb {np K : Nat} (hnp : np ≤ 7) {F : FlockV} {s : Fn} (h : FR np K F s) {a : Nat} (ha : a < np) (n : Int32) : FR np K (fl_crumb F (nI a) n) (stW s a n) ∧ fK (fl_crumb F (nI a) n) a = stW s a n (7 + a) := by
  have e : fl_crumb F (nI a) n = (fT F, fH F, fN F, fR F, fE F, fB F, upd (fK F) a (mnI (fK F a + n) (nI 99)), fO F, fP F) := by
    unfold fl_crumb
    rw [if_pos ⟨nI_pos (by omega), nI_ge (by omega) (by decide)⟩, nI_clamp (by omega)]
  have ev : mnI (fK F a + n) (nI 99) = lsI (nI 99) (s (7 + a) + n) := by rw [(h.2.1 a (by omega)).1]; rfl
  rw [e, ev]
  unfold stW
  have lo : ∀ i, i ≠ 7 + a → upd s (7 + a) (lsI (nI 99) (s (7 + a) + n)) i = s i := fun i hi => upd_ne hi
  obtain ⟨h1, h2, h3, ⟨hh, h4, h5, h5b⟩, h6, h7, ⟨pe, q1, q2, q3, q4⟩⟩ := h
  refine ⟨⟨BRl_c (fun j hj => lo _ (by have := rx_15 hj; omega)) (fun _ _ => rfl) h1, fun i hi => ?_, ?_, ⟨hh, h4, h5, ?_⟩, fun d hd => ?_, ?_, ⟨pe, q1, q2, ?_, fun k hk => ?_⟩⟩, ?_⟩
  · show upd (fK F) a _ i = _ ∧ _
    by_cases c : i = a
    · subst c; rw [upd_self, upd_self]; exact ⟨rfl, fun q => by omega⟩
    · rw [upd_ne c, lo _ (by omega)]; exact h2 i hi
  · rw [lo _ (by omega)]; exact h3
  · rw [lo _ (by omega)]; exact h5b
  · rw [lo _ (by omega)]; exact h6 d hd
  · rw [lo _ (by omega)]; exact h7
  · rw [lo _ (by omega)]; exact q3
  · rw [lo _ (by omega)]; exact q4 k hk
  · show upd (fK F) a _ a = _
    rw [upd_self, upd_self]
theorem FR_net {np K : Nat} {F : FlockV} {s : Fn} (h : FR np K F s) (v : Int32) : FR np K (fl_net F v) (upd s 14 v) := by
  have lo : ∀ i, i ≠ 14 → upd s 14 v i = s i := fun i hi => upd_ne hi
  obtain ⟨h1, h2, h3, ⟨hh, h4, h5, h5b⟩, h6, h7, ⟨pe, q1, q2, q3, q4⟩⟩ := h
  refine ⟨BRl_c (fun j hj => lo _ (by have := rx_15 hj; omega)) (fun _ _ => rfl) h1, fun i hi => ?_, ?_, ⟨hh, h4, h5, ?_⟩, fun d hd => ?_, ?_, ⟨pe, q1, q2, ?_, fun k hk => ?_⟩⟩
  · rw [lo _ (by omega)]; exact h2 i hi
  · rw [upd_self]; rfl
  · rw [lo _ (by omega)]; exact h5b
  · rw [lo _ (by omega)]; exact h6 d hd
  · rw [lo _ (by omega)]; exact h7
  · rw [lo _ (by omega)]; exact q3
  · rw [lo _ (by omega)]; exact q4 k hk
/-! debts lessened -/
theorem lsI_n {a b : Nat} (ha : a < 2147483648) (hb : b < 2147483648) : lsI (nI a) (nI b) = nI (min a b) := by
  unfold lsI
  by_cases h : a < b
  · rw [if_pos (nI_lt h hb), Nat.min_eq_left (by omega)]
  · rw [if_neg (nI_nlt (by omega) ha), Nat.min_eq_right (by omega)]
theorem owM_c {P s s2 : Fn} {a z : Int32} : ∀ n, (∀ d, d < n → s2 (17 + d) = s (17 + d)) → owM P s2 a z n = owM P s a z n
  | 0, _ => rfl
  | n + 1, h => by
    show owM P s2 a z n + _ = owM P s a z n + _
    rw [owM_c n (fun d hd => h d (by omega)), h n (by omega)]
theorem less_sim {dt cr P o s : Fn} {nd : Nat} (hnd : nd ≤ 9) (hdt : ∀ d, d < nd → dt d = P (25 + d)) (hcr : ∀ d, d < nd → cr d = P (34 + d)) {a z : Int32} (ha : ¬ a = -1) (hz : ¬ z = -1) {m : Nat} (hm : m < 2147483648) (hO : ORl o s) : ∀ k, k ≤ nd →
    ∃ L, L < 2147483648 ∧ (itn (st_less dt cr a z) k (nI m, nI 0, o)).1 = nI L ∧ (itn (st_mpay P a z) k (nI m, s)).1 = nI L ∧ ORl (itn (st_less dt cr a z) k (nI m, nI 0, o)).2.2 (itn (st_mpay P a z) k (nI m, s)).2 ∧ (itn (st_less dt cr a z) k (nI m, nI 0, o)).2.1 = owM P (itn (st_mpay P a z) k (nI m, s)).2 a z k ∧ ∀ q, q < 17 ∨ 26 ≤ q → (itn (st_mpay P a z) k (nI m, s)).2 q = s q
  | 0, _ => ⟨m, hm, rfl, rfl, hO, rfl, fun _ _ => rfl⟩
  | k + 1, hk => by
    obtain ⟨L, l1, l2, l3, l4, l5, l6⟩ := less_sim hnd hdt hcr ha hz hm hO k (by omega)
    rw [itn_s, itn_s]
    generalize itn (st_less dt cr a z) k (nI m, nI 0, o) = z1 at l2 l4 l5 ⊢
    generalize itn (st_mpay P a z) k (nI m, s) = z2 at l3 l4 l5 l6 ⊢
    obtain ⟨v1, y1, o1⟩ := z1
    obtain ⟨v2, s1⟩ := z2
    replace l2 : v1 = nI L := l2
    replace l3 : v2 = nI L := l3
    replace l4 : ORl o1 s1 := l4
    replace l5 : y1 = owM P s1 a z k := l5
    replace l6 : ∀ q, q < 17 ∨ 26 ≤ q → s1 q = s q := l6
    subst l2
    subst l3
    obtain ⟨w, w1, w2, w3⟩ := l4 k (by omega)
    unfold st_less st_mpay
    show ∃ L2, L2 < 2147483648 ∧ (if dt k = a ∧ cr k = z then (nI L - mnI (nI L) (o1 k), y1 + upd o1 k (o1 k - mnI (nI L) (o1 k)) k, upd o1 k (o1 k - mnI (nI L) (o1 k))) else (nI L, y1, o1)).1 = nI L2 ∧ (if P (25 + k) = a ∧ P (34 + k) = z then (nI L - lsI (nI L) (s1 (17 + k)), upd s1 (17 + k) (s1 (17 + k) - lsI (nI L) (s1 (17 + k)))) else (nI L, s1)).1 = nI L2 ∧ ORl (if dt k = a ∧ cr k = z then (nI L - mnI (nI L) (o1 k), y1 + upd o1 k (o1 k - mnI (nI L) (o1 k)) k, upd o1 k (o1 k - mnI (nI L) (o1 k))) else (nI L, y1, o1)).2.2 (if P (25 + k) = a ∧ P (34 + k) = z then (nI L - lsI (nI L) (s1 (17 + k)), upd s1 (17 + k) (s1 (17 + k) - lsI (nI L) (s1 (17 + k)))) else (nI L, s1)).2 ∧ (if dt k = a ∧ cr k = z then (nI L - mnI (nI L) (o1 k), y1 + upd o1 k (o1 k - mnI (nI L) (o1 k)) k, upd o1 k (o1 k - mnI (nI L) (o1 k))) else (nI L, y1, o1)).2.1 = owM P (if P (25 + k) = a ∧ P (34 + k) = z then (nI L - lsI (nI L) (s1 (17 + k)), upd s1 (17 + k) (s1 (17 + k) - lsI (nI L) (s1 (17 + k)))) else (nI L, s1)).2 a z (k + 1) ∧ ∀ q, q < 17 ∨ 26 ≤ q → (if P (25 + k) = a ∧ P (34 + k) = z then (nI L - lsI (nI L) (s1 (17 + k)), upd s1 (17 + k) (s1 (17 + k) - lsI (nI L) (s1 (17 + k)))) else (nI L, s1)).2 q = s q
    rw [hdt k (by omega), hcr k (by omega), w2, w3, mnI_n l1 (by omega), lsI_n l1 (by omega), pk_sub (Nat.min_le_left _ _), pk_sub (Nat.min_le_right _ _)]
    by_cases c : P (25 + k) = a ∧ P (34 + k) = z
    · rw [if_pos c, if_pos c]
      refine ⟨L - min L w, by omega, rfl, rfl, fun d hd => ?_, ?_, fun q hq => ?_⟩
      · show ∃ w2, w2 ≤ 99 ∧ upd o1 k (nI (w - min L w)) d = nI w2 ∧ upd s1 (17 + k) (nI (w - min L w)) (17 + d) = nI w2
        by_cases e : d = k
        · subst e; rw [upd_self, upd_self]; exact ⟨w - min L w, by omega, rfl, rfl⟩
        · rw [upd_ne e, upd_ne (by omega)]; exact l4 d hd
      · show y1 + upd o1 k (nI (w - min L w)) k = owM P (upd s1 (17 + k) (nI (w - min L w))) a z k + (if (a = -1 ∨ P (25 + k) = a) ∧ (z = -1 ∨ P (34 + k) = z) then upd s1 (17 + k) (nI (w - min L w)) (17 + k) else nI 0)
        rw [if_pos ⟨Or.inr c.1, Or.inr c.2⟩, upd_self, upd_self, l5, owM_c (s := s1) k (fun d hd => upd_ne (by omega))]
      · show upd s1 (17 + k) (nI (w - min L w)) q = s q
        rw [upd_ne (by omega)]; exact l6 q hq
    · rw [if_neg c, if_neg c]
      refine ⟨L, l1, rfl, rfl, l4, ?_, l6⟩
      show y1 = owM P s1 a z k + (if (a = -1 ∨ P (25 + k) = a) ∧ (z = -1 ∨ P (34 + k) = z) then s1 (17 + k) else nI 0)
      rw [if_neg (by rintro ⟨q1 | q1, q2 | q2⟩; exact ha q1; exact ha q1; exact hz q2; exact c ⟨q1, q2⟩), l5, nI_0, Int32.add_zero]
theorem FR_less {np K nd : Nat} (hnd : nd ≤ 9) {F : FlockV} {s dt cr P : Fn} (h : FR np K F s) (hdt : ∀ d, d < nd → dt d = P (25 + d)) (hcr : ∀ d, d < nd → cr d = P (34 + d)) {a z : Int32} (ha : ¬ a = -1) (hz : ¬ z = -1) {m : Nat} (hm : m < 2147483648) :
    FR np K (fl_less F dt cr nd a z (nI m)) (itn (st_mpay P a z) nd (nI m, s)).2 ∧ (itn (st_less dt cr a z) nd (nI m, nI 0, fO F)).2.1 = owM P (itn (st_mpay P a z) nd (nI m, s)).2 a z nd := by
  obtain ⟨h1, h2, h3, ⟨hh, h4, h5, h5b⟩, h6, h7, ⟨pe, q1, q2, q3, q4⟩⟩ := h
  obtain ⟨L, -, -, -, l4, l5, lo⟩ := less_sim hnd hdt hcr ha hz hm h6 nd (Nat.le_refl _)
  refine ⟨⟨BRl_c (fun j hj => lo _ (by have := rx_15 hj; omega)) (fun _ _ => rfl) h1, fun i hi => ?_, ?_, ⟨hh, h4, h5, ?_⟩, l4, ?_, ⟨pe, q1, q2, ?_, fun k hk => ?_⟩⟩, l5⟩
  · rw [lo _ (by omega)]; exact h2 i hi
  · rw [lo _ (by omega)]; exact h3
  · rw [lo _ (by omega)]; exact h5b
  · rw [lo _ (by omega)]; exact h7
  · rw [lo _ (by omega)]; exact q3
  · rw [lo _ (by omega)]; exact q4 k hk
/-! draws -/
theorem tn_nI (A : Nat) : (nI A).toBitVec.toNat = A % 4294967296 := BitVec.toNat_ofNat A 32
theorem drw_n {n : Nat} (h : n < 2147483648) : drw (nI n) = nI ((n * 1103515245 + 12345) % 2147483648) := by
  unfold drw
  rw [show (1103515245 : Int32) = nI 1103515245 from rfl, pk_mul, nI_add, pk_and _ 31 (by decide), tn_nI]
  generalize n * 1103515245 + 12345 = A
  rw [show A % 4294967296 % 2 ^ 31 = A % 2147483648 by omega]
theorem drv_n {n m : Nat} (h : n < 2147483648) (hm : 0 < m) (hm2 : m < 2147483648) : drv (nI n) (nI m) = nI (n / 65536 % m) := by
  unfold drv
  rw [if_neg (nI_nle hm hm2), show (65536 : Int32) = nI 65536 from rfl, pk_div h (by decide) (by decide), pk_rem (by omega) hm hm2]
/-- the seeds of both are one number -/
def SR (s : Int32) (S : Int64) : Prop := ∃ n : Nat, n < 2147483648 ∧ s = nI n ∧ S = lN n
theorem SR_d {s : Int32} {S : Int64} (h : SR s S) : SR (drw s) (sdN S) ∧ ∀ m, 0 < m → m < 2147483648 → ∃ i, i < m ∧ drv (drw s) (nI m) = nI i ∧ dwV (sdN S) (nI m) = nI i := by
  obtain ⟨n, hn, rfl, rfl⟩ := h
  rw [drw_n hn, sdN_n hn]
  have hl : (n * 1103515245 + 12345) % 2147483648 < 2147483648 := Nat.mod_lt _ (by decide)
  exact ⟨⟨_, hl, rfl, rfl⟩, fun m h1 h2 => ⟨_, Nat.mod_lt _ h1, drv_n hl h1 h2, dwV_n hl h1 h2⟩⟩
theorem SR_ok {s : Int32} {S : Int64} (h : SR s S) : sdOk S := by
  obtain ⟨n, hn, -, e⟩ := h
  exact ⟨n, hn, e⟩
theorem FR_doD {np K : Nat} (hnp : np ≤ 7) (h0 : 0 < np) (hK : K < 1000000) {F : FlockV} {W P dr : Fn} (h : FR np K F W) (hd : drL np dr P) {s : Int32} {S : Int64} (hs : SR s S) : FR np (K + 7) (doD dr np (s, F)).2 (drS P np (S, W)).2 ∧ SR (doD dr np (s, F)).1 (drS P np (S, W)).1 := by
  obtain ⟨s1, d1⟩ := SR_d hs
  obtain ⟨s2, d2⟩ := SR_d s1
  obtain ⟨s3, d3⟩ := SR_d s2
  obtain ⟨i, hi, e1, e2⟩ := d1 5 (by decide) (by decide)
  obtain ⟨p, hp, p1, p2⟩ := d2 np h0 (by omega)
  unfold doD drS
  show FR np (K + 7) (if drv (drw s) (nI 5) = 0 then _ else _ : Int32 × FlockV).2 (if dwV (sdN S) (nI 5) = 0 then _ else _ : Int64 × Fn).2 ∧ SR (if drv (drw s) (nI 5) = 0 then _ else _ : Int32 × FlockV).1 (if dwV (sdN S) (nI 5) = 0 then _ else _ : Int64 × Fn).1
  rw [e1, e2]
  by_cases c0 : nI i = 0
  · rw [if_pos c0, if_pos c0]
    refine ⟨?_, s2⟩
    show FR np (K + 7) (fl_move F (-2) (drv (drw (drw s)) (nI np)) (mnI (nI 9) (fT F))) (m_fly W (-2) (dwV (sdN (sdN S)) (nI np)) (lsI (nI 9) (W 15)))
    obtain ⟨t, t0, t1, t2, t3⟩ := FR_t h
    rw [p1, p2, t1, t2, mnI_n (by decide) (by omega), lsI_n (by decide) (by omega)]
    exact FR_mono (by omega) (FR_move hnp (by omega) h (Or.inl ⟨rfl, rfl⟩) (Or.inr ⟨hp, rfl⟩) (by omega) (by omega) (by rw [t3]; exact nI_nlt (by omega) (by omega)))
  rw [if_neg c0, if_neg c0]
  by_cases c1 : nI i = nI 1
  · rw [if_pos c1, if_pos c1]
    refine ⟨?_, s3⟩
    show FR np (K + 7) (fl_crumb F (drv (drw (drw s)) (nI np)) (drv (drw (drw (drw s))) (nI 20))) (stW W (dwV (sdN (sdN S)) (nI np)).toNatClampNeg (dwV (sdN (sdN (sdN S))) (nI 20)))
    obtain ⟨q, hq, q1, q2⟩ := d3 20 (by decide) (by decide)
    rw [p1, p2, q1, q2, nI_clamp (by omega)]
    exact FR_mono (by omega) (FR_crumb hnp h hp (nI q)).1
  rw [if_neg c1, if_neg c1]
  by_cases c2 : nI i = nI 2
  · rw [if_pos c2, if_pos c2]
    refine ⟨?_, s3⟩
    show FR np (K + 7) (itn (st_scare dr (drv (drw (drw s)) (nI 51)) (drv (drw (drw (drw s))) (nI 10))) np (nI 0, F)).2 (hwM P W (dwV (sdN (sdN S)) (nI 51)) (dwV (sdN (sdN (sdN S))) (nI 10)) np).2
    obtain ⟨x, hx, x1, x2⟩ := d2 51 (by decide) (by decide)
    obtain ⟨q, hq, q1, q2⟩ := d3 10 (by decide) (by decide)
    rw [x1, x2, q1, q2]
    exact FR_mono (by omega) (FR_scare hnp hK h hd (by omega) (by omega) np (Nat.le_refl _)).1
  rw [if_neg c2, if_neg c2]
  exact ⟨FR_mono (by omega) h, s1⟩
theorem FR_drift {np K : Nat} (hnp : np ≤ 7) {F : FlockV} {W P L dr kd : Fn} {du : Int32} (h : FR np K F W) (hd : drL np dr P) (hk : ∀ i, i < np → kd i = P (4 + i)) (hdu : P 1 = du) (hpos : ¬ du ≤ 0) {s : Int32} {S : Int64} (hs : SR s S) : ∀ n, K + 23 * n < 800000 →
    FR np (K + 23 * n) (itn (fun _ z => st_drift kd dr du np z) n (s, F)).2 (mdN P np n (S, W, L)).2.1 ∧ SR (itn (fun _ z => st_drift kd dr du np z) n (s, F)).1 (mdN P np n (S, W, L)).1
  | 0, _ => ⟨h, hs⟩
  | n + 1, hn => by
    obtain ⟨i1, i2⟩ := FR_drift hnp h hd hk hdu hpos hs (L := L) n (by omega)
    show FR np (K + 23 * (n + 1)) (st_drift kd dr du np (itn (fun _ z => st_drift kd dr du np z) n (s, F))).2 (st_mdf P np (mdN P np n (S, W, L))).2.1 ∧ SR (st_drift kd dr du np (itn (fun _ z => st_drift kd dr du np z) n (s, F))).1 (st_mdf P np (mdN P np n (S, W, L))).1
    generalize itn (fun _ z => st_drift kd dr du np z) n (s, F) = z1 at i1 i2 ⊢
    generalize mdN P np n (S, W, L) = z2 at i1 i2 ⊢
    obtain ⟨s1, F1⟩ := z1
    obtain ⟨S1, W1, L1⟩ := z2
    replace i1 : FR np (K + 23 * n) F1 W1 := i1
    replace i2 : SR s1 S1 := i2
    unfold st_drift st_mdf mdS
    show FR np (K + 23 * (n + 1)) (fl_pass (if np = 0 then (s1, F1) else doD dr np (s1, F1)).2 kd du np) (m_hrD P (if np = 0 then (S1, W1) else drS P np (S1, W1)).2 L1 np) ∧ SR (if np = 0 then (s1, F1) else doD dr np (s1, F1)).1 (if np = 0 then (S1, W1) else drS P np (S1, W1)).1
    by_cases c : np = 0
    · rw [if_pos c, if_pos c]
      exact ⟨FR_mono (by omega) (FR_pass hnp (by omega) i1 hk hdu hpos), i2⟩
    · rw [if_neg c, if_neg c]
      obtain ⟨q1, q2⟩ := FR_doD (K := K + 23 * n) hnp (by omega) (by omega) i1 hd i2
      exact ⟨FR_mono (by omega) (FR_pass hnp (by omega) q1 hk hdu hpos), q2⟩
