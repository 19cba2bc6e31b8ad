/-! rows of debts, as sets and numbers: ok T d: debt d can be paid where T is paid; val: what a row comes to -/
def pc9 (s : Nat) : Nat := sN (fun i => if s.testBit i = true then 1 else 0) 9
theorem bit_or {T d i : Nat} : (T ||| 2 ^ d).testBit i = (T.testBit i || decide (d = i)) := by rw [Nat.testBit_or, Nat.testBit_two_pow]
theorem pc_or {T d : Nat} (h : T.testBit d = false) (hd : d < 9) : pc9 (T ||| 2 ^ d) = pc9 T + 1 := by
  have e : (fun i => if (T ||| 2 ^ d).testBit i = true then 1 else 0) = upN (fun i => if T.testBit i = true then 1 else 0) d 1 := by
    funext i
    by_cases q : i = d
    · subst q; rw [upN_s, bit_or, decide_eq_true rfl, Bool.or_true, if_pos rfl]
    · rw [upN_n q, bit_or, decide_eq_false (Ne.symm q), Bool.or_false]
  unfold pc9
  rw [e]
  have q := sN_up (B := fun i => if T.testBit i = true then 1 else 0) (k := d) (v := 1) 9 hd
  have e0 : (if T.testBit d = true then 1 else 0) = 0 := by rw [h]; rfl
  change sN _ 9 + (if T.testBit d = true then 1 else 0) = _ at q
  rw [e0] at q
  exact q
theorem pc_le (s : Nat) : pc9 s ≤ 9 := (sN_7 (f := fun i => if s.testBit i = true then 1 else 0) (fun i => by show (if _ then 1 else 0) ≤ 1; split <;> decide) 9).1
theorem lt9 {s i : Nat} (hs : s < 512) (h : s.testBit i = true) : i < 9 := by
  rcases Nat.lt_or_ge i 9 with q | q
  · exact q
  · exfalso
    have : s < 2 ^ i := Nat.lt_of_lt_of_le (show s < 2 ^ 9 from hs) (Nat.pow_le_pow_right (by decide) q)
    rw [Nat.testBit_lt_two_pow this] at h
    exact Bool.noConfusion h
theorem pc_mono {s t : Nat} (h : ssB s t) : pc9 s ≤ pc9 t := by
  refine sN_le (fun i => ?_) 9
  show (if s.testBit i = true then 1 else 0) ≤ (if t.testBit i = true then 1 else 0)
  by_cases q : s.testBit i = true
  · rw [if_pos q, if_pos (h i q)]; exact Nat.le_refl _
  · rw [if_neg q]; exact Nat.zero_le _
theorem pc_lt {s t : Nat} (ht : t < 512) (h : ssB s t) (hn : ¬ t = s) : pc9 s < pc9 t := by
  have hp : ∀ i, (fun i => if s.testBit i = true then 1 else 0) i ≤ (fun i => if t.testBit i = true then 1 else 0) i := fun i => by
    show (if s.testBit i = true then 1 else 0) ≤ (if t.testBit i = true then 1 else 0)
    by_cases q : s.testBit i = true
    · rw [if_pos q, if_pos (h i q)]; exact Nat.le_refl _
    · rw [if_neg q]; exact Nat.zero_le _
  have ex : ∃ i, t.testBit i = true ∧ ¬ s.testBit i = true := by
    by_cases q : ∃ i, t.testBit i = true ∧ ¬ s.testBit i = true
    · exact q
    · exfalso
      refine hn (ss_eq (fun i a => ?_) h)
      by_cases r : s.testBit i = true
      · exact r
      · exact absurd ⟨i, a, r⟩ q
  obtain ⟨i, a, b⟩ := ex
  refine sN_lt hp (k := i) ?_ 9 (lt9 ht a)
  show (if s.testBit i = true then 1 else 0) < (if t.testBit i = true then 1 else 0)
  rw [if_pos a, if_neg b]
  decide
/-- n debts paid one behind the other come to the set S, and to r -/
def Chn (nd : Nat) (ok : Nat → Nat → Bool) (val : Nat → Nat → Nat → Nat) : Nat → Nat → Nat → Prop
  | 0, S, r => S = 0 ∧ r = 0
  | n + 1, S, r => ∃ T q d, Chn nd ok val n T q ∧ d < nd ∧ ok T d = true ∧ S = T ||| 2 ^ d ∧ r = val T d q
theorem Chn_pc {nd : Nat} (hnd : nd ≤ 9) {ok : Nat → Nat → Bool} {val : Nat → Nat → Nat → Nat} (hok : ∀ T d, ok T d = true → T.testBit d = false) : ∀ n S r, Chn nd ok val n S r → pc9 S = n ∧ S < 2 ^ nd
  | 0, S, r, h => by
    obtain ⟨rfl, rfl⟩ := h
    exact ⟨by decide, Nat.two_pow_pos _⟩
  | n + 1, S, r, h => by
    obtain ⟨T, q, d, h1, h2, h3, rfl, rfl⟩ := h
    obtain ⟨i1, i2⟩ := Chn_pc hnd hok n T q h1
    exact ⟨by rw [pc_or (hok T d h3) (by omega), i1], or_in i2 h2⟩
/-! the table of the least, one set behind the other -/
def offN (t : Nat → Nat) (S v : Nat) : Nat → Nat := if t S = 0 ∨ v + 1 < t S then upN t S (v + 1) else t
theorem offN_p {t : Nat → Nat} {S v : Nat} : (∀ X, ¬ t X = 0 → ¬ offN t S v X = 0 ∧ offN t S v X ≤ t X) ∧ (∀ X, offN t S v X = t X ∨ (X = S ∧ offN t S v X = v + 1)) ∧ (¬ offN t S v S = 0 ∧ offN t S v S ≤ v + 1) := by
  unfold offN
  by_cases c : t S = 0 ∨ v + 1 < t S
  · rw [if_pos c]
    refine ⟨fun X h => ?_, fun X => ?_, ?_⟩
    · by_cases e : X = S
      · subst e; rw [upN_s]; omega
      · rw [upN_n e]; exact ⟨h, Nat.le_refl _⟩
    · by_cases e : X = S
      · subst e; rw [upN_s]; exact Or.inr ⟨rfl, rfl⟩
      · rw [upN_n e]; exact Or.inl rfl
    · rw [upN_s]; omega
  · rw [if_neg c]
    exact ⟨fun X h => ⟨h, Nat.le_refl _⟩, fun X => Or.inl rfl, by omega⟩
def dpD (ok : Nat → Nat → Bool) (val : Nat → Nat → Nat → Nat) (p q d : Nat) (t : Nat → Nat) : Nat → Nat := if ok p d = true then offN t (p ||| 2 ^ d) (val p d q) else t
theorem dpD_p {ok : Nat → Nat → Bool} {val : Nat → Nat → Nat → Nat} {p q : Nat} {t : Nat → Nat} : ∀ n, (∀ X, ¬ t X = 0 → ¬ itn (dpD ok val p q) n t X = 0 ∧ itn (dpD ok val p q) n t X ≤ t X) ∧ (∀ X, itn (dpD ok val p q) n t X = t X ∨ ∃ d, d < n ∧ ok p d = true ∧ X = p ||| 2 ^ d ∧ itn (dpD ok val p q) n t X = val p d q + 1) ∧ (∀ d, d < n → ok p d = true → ¬ itn (dpD ok val p q) n t (p ||| 2 ^ d) = 0 ∧ itn (dpD ok val p q) n t (p ||| 2 ^ d) ≤ val p d q + 1)
  | 0 => ⟨fun X h => ⟨h, Nat.le_refl _⟩, fun X => Or.inl rfl, fun d h => absurd h (Nat.not_lt_zero _)⟩
  | n + 1 => by
    obtain ⟨i1, i2, i3⟩ := dpD_p (ok := ok) (val := val) (p := p) (q := q) (t := t) n
    rw [itn_s]
    generalize itn (dpD ok val p q) n t = u at i1 i2 i3 ⊢
    unfold dpD
    by_cases c : ok p n = true
    · rw [if_pos c]
      obtain ⟨o1, o2, o3⟩ := offN_p (t := u) (S := p ||| 2 ^ n) (v := val p n q)
      refine ⟨fun X h => ?_, fun X => ?_, fun d hd hk => ?_⟩
      · have a := i1 X h
        have b := o1 X a.1
        exact ⟨b.1, Nat.le_trans b.2 a.2⟩
      · rcases o2 X with a | ⟨a, b⟩
        · rw [a]
          rcases i2 X with h | ⟨d, d1, d2, d3, d4⟩
          · exact Or.inl h
          · exact Or.inr ⟨d, by omega, d2, d3, d4⟩
        · exact Or.inr ⟨n, by omega, c, a, b⟩
      · by_cases e : d = n
        · subst e; exact o3
        · have a := i3 d (by omega) hk
          have b := o1 _ a.1
          exact ⟨b.1, Nat.le_trans b.2 a.2⟩
    · rw [if_neg c]
      refine ⟨i1, fun X => ?_, fun d hd hk => ?_⟩
      · rcases i2 X with h | ⟨d, d1, d2, d3, d4⟩
        · exact Or.inl h
        · exact Or.inr ⟨d, by omega, d2, d3, d4⟩
      · by_cases e : d = n
        · subst e; exact absurd hk c
        · exact i3 d (by omega) hk
def dpS (nd : Nat) (ok : Nat → Nat → Bool) (val : Nat → Nat → Nat → Nat) (p : Nat) (t : Nat → Nat) : Nat → Nat := if t p = 0 then t else itn (dpD ok val p (t p - 1)) nd t
/-- behind all sets below p -/
def dpG (nd : Nat) (ok : Nat → Nat → Bool) (val : Nat → Nat → Nat → Nat) (p : Nat) (t : Nat → Nat) : Prop := t 0 = 1 ∧ (∀ S, ¬ t S = 0 → ∃ n, Chn nd ok val n S (t S - 1)) ∧ ∀ T, T < p → ∀ n q d, Chn nd ok val n T q → d < nd → ok T d = true → ¬ t (T ||| 2 ^ d) = 0 ∧ t (T ||| 2 ^ d) ≤ val T d q + 1
def t0N (S : Nat) : Nat := if S = 0 then 1 else 0
theorem dpG_0 {nd : Nat} {ok : Nat → Nat → Bool} {val : Nat → Nat → Nat → Nat} : dpG nd ok val 0 t0N := by
  refine ⟨rfl, fun S h => ?_, fun T h => absurd h (Nat.not_lt_zero _)⟩
  unfold t0N at h ⊢
  by_cases e : S = 0
  · rw [if_pos e]; exact ⟨0, e, rfl⟩
  · rw [if_neg e] at h; exact absurd rfl h
theorem dpG_f {nd : Nat} {ok : Nat → Nat → Bool} {val : Nat → Nat → Nat → Nat} (hok : ∀ T d, ok T d = true → T.testBit d = false) {p : Nat} {t : Nat → Nat} (h : dpG nd ok val p t) {n S q : Nat} (hS : S ≤ p) (hc : Chn nd ok val n S q) : ¬ t S = 0 ∧ t S ≤ q + 1 := by
  cases n with
  | zero =>
    obtain ⟨rfl, rfl⟩ := hc
    rw [h.1]; omega
  | succ n =>
    obtain ⟨T, q2, d, h1, h2, h3, rfl, rfl⟩ := hc
    have := or_gt (hok T d h3)
    exact h.2.2 T (by omega) n q2 d h1 h2 h3
theorem dpG_s {nd : Nat} {ok : Nat → Nat → Bool} {val : Nat → Nat → Nat → Nat} (hok : ∀ T d, ok T d = true → T.testBit d = false) (hv : ∀ T d q q2, q ≤ q2 → val T d q ≤ val T d q2) {p : Nat} {t : Nat → Nat} (h : dpG nd ok val p t) : dpG nd ok val (p + 1) (dpS nd ok val p t) := by
  unfold dpS
  by_cases c : t p = 0
  · rw [if_pos c]
    refine ⟨h.1, h.2.1, fun T hT n q d hc hd hk => ?_⟩
    by_cases e : T = p
    · subst e
      exact absurd c (dpG_f hok h (Nat.le_refl _) hc).1
    · exact h.2.2 T (by omega) n q d hc hd hk
  · rw [if_neg c]
    obtain ⟨i1, i2, i3⟩ := dpD_p (ok := ok) (val := val) (p := p) (q := t p - 1) (t := t) nd
    refine ⟨?_, fun S hS => ?_, fun T hT n q d hc hd hk => ?_⟩
    · rcases i2 0 with a | ⟨d, -, d2, d3, -⟩
      · rw [a]; exact h.1
      · exfalso
        have := or_gt (hok p d d2)
        omega
    · rcases i2 S with a | ⟨d, d1, d2, d3, d4⟩
      · rw [a] at hS ⊢
        exact h.2.1 S hS
      · obtain ⟨n, hn⟩ := h.2.1 p c
        exact ⟨n + 1, p, t p - 1, d, hn, d1, d2, d3, by rw [d4]; rfl⟩
    · by_cases e : T = p
      · subst e
        have a := i3 d hd hk
        have b := dpG_f hok h (Nat.le_refl _) hc
        have m := hv T d (t T - 1) q (by omega)
        exact ⟨a.1, by omega⟩
      · have a := h.2.2 T (by omega) n q d hc hd hk
        have b := i1 _ a.1
        exact ⟨b.1, Nat.le_trans b.2 a.2⟩
/-- a step changes larger sets alone -/
theorem dpS_lo {nd : Nat} {ok : Nat → Nat → Bool} {val : Nat → Nat → Nat → Nat} (hok : ∀ T d, ok T d = true → T.testBit d = false) {p : Nat} {t : Nat → Nat} {S : Nat} (hS : S ≤ p) : dpS nd ok val p t S = t S := by
  unfold dpS
  by_cases c : t p = 0
  · rw [if_pos c]
  · rw [if_neg c]
    rcases (dpD_p (ok := ok) (val := val) (p := p) (q := t p - 1) (t := t) nd).2.1 S with a | ⟨d, -, d2, d3, -⟩
    · exact a
    · exfalso
      have := or_gt (hok p d d2)
      omega
/-! on from a set: n debts more, as figures -/
def Con (nd : Nat) (ok : Nat → Nat → Bool) : Nat → Nat → Nat → Prop
  | 0, _, v => v = 0
  | n + 1, S, v => ∃ d w, d < nd ∧ ok S d = true ∧ Con nd ok n (S ||| 2 ^ d) w ∧ v = (d + 1) * 10 ^ n + w
def v10 (_ d q : Nat) : Nat := q * 10 + d + 1
theorem Con_lt {nd : Nat} (hnd : nd ≤ 9) {ok : Nat → Nat → Bool} : ∀ n S v, Con nd ok n S v → v < 10 ^ n
  | 0, S, v, h => by rw [show v = 0 from h]; exact Nat.one_pos
  | n + 1, S, v, h => by
    obtain ⟨d, w, h1, -, h3, rfl⟩ := h
    have := Con_lt hnd n _ _ h3
    have e : (d + 1) * 10 ^ n ≤ 9 * 10 ^ n := Nat.mul_le_mul_right _ (by omega)
    rw [Nat.pow_succ]
    omega
theorem Con_pc {nd : Nat} (hnd : nd ≤ 9) {ok : Nat → Nat → Bool} (hok : ∀ T d, ok T d = true → T.testBit d = false) : ∀ n S v, Con nd ok n S v → n + pc9 S ≤ 9
  | 0, S, v, _ => by have := pc_le S; omega
  | n + 1, S, v, h => by
    obtain ⟨d, w, h1, h2, h3, -⟩ := h
    have := Con_pc hnd hok n _ _ h3
    rw [pc_or (hok S d h2) (by omega)] at this
    omega
theorem Con_ch {nd : Nat} {ok : Nat → Nat → Bool} : ∀ n k S r v, Chn nd ok v10 k S r → Con nd ok n S v → ∃ S2, Chn nd ok v10 (k + n) S2 (r * 10 ^ n + v)
  | 0, k, S, r, v, h1, h2 => ⟨S, by rw [show v = 0 from h2, Nat.pow_zero, Nat.mul_one]; exact h1⟩
  | n + 1, k, S, r, v, h1, h2 => by
    obtain ⟨d, w, d1, d2, d3, rfl⟩ := h2
    obtain ⟨S2, h⟩ := Con_ch n (k + 1) (S ||| 2 ^ d) (r * 10 + d + 1) w ⟨S, r, d, h1, d1, d2, rfl, rfl⟩ d3
    refine ⟨S2, ?_⟩
    have e : (r * 10 + d + 1) * 10 ^ n + w = r * 10 ^ (n + 1) + ((d + 1) * 10 ^ n + w) := by
      rw [Nat.pow_succ, Nat.add_assoc (r * 10), Nat.add_mul, Nat.mul_assoc, Nat.mul_comm 10, Nat.add_assoc]
    rw [e, Nat.add_assoc, Nat.add_comm 1] at h
    exact h
theorem Ch_con {nd : Nat} {ok : Nat → Nat → Bool} : ∀ n m S r v, Chn nd ok v10 n S r → Con nd ok m S v → Con nd ok (n + m) 0 (r * 10 ^ m + v)
  | 0, m, S, r, v, h1, h2 => by
    obtain ⟨rfl, rfl⟩ := h1
    rw [Nat.zero_mul, Nat.zero_add, Nat.zero_add]
    exact h2
  | n + 1, m, S, r, v, h1, h2 => by
    obtain ⟨T, q, d, a1, a2, a3, rfl, rfl⟩ := h1
    have h := Ch_con n (m + 1) T q ((d + 1) * 10 ^ m + v) a1 ⟨d, v, a2, a3, h2, rfl⟩
    have e : v10 T d q * 10 ^ m + v = q * 10 ^ (m + 1) + ((d + 1) * 10 ^ m + v) := by
      unfold v10
      rw [Nat.pow_succ, Nat.add_assoc (q * 10), Nat.add_mul, Nat.mul_assoc, Nat.mul_comm 10, Nat.add_assoc]
    rw [e, Nat.add_assoc, Nat.add_comm 1]
    exact h
/-- the most that can be paid, and the least row of so many -/
def BestN (nd : Nat) (ok : Nat → Nat → Bool) (m r : Nat) : Prop := Con nd ok m 0 r ∧ ∀ n v, Con nd ok n 0 v → n ≤ m ∧ (n = m → r ≤ v)
theorem Best_u {nd : Nat} {ok : Nat → Nat → Bool} {m r m2 r2 : Nat} (h : BestN nd ok m r) (h2 : BestN nd ok m2 r2) : m = m2 ∧ r = r2 := by
  have a := h.2 _ _ h2.1
  have b := h2.2 _ _ h.1
  have e : m = m2 := by omega
  subst e
  exact ⟨rfl, Nat.le_antisymm (a.2 rfl) (b.2 rfl)⟩
/-- a table of how many more -/
def maxC (nd : Nat) (ok : Nat → Nat → Bool) (s c : Nat) : Prop := c ≤ 9 ∧ (∃ v, Con nd ok c s v) ∧ ∀ n v, Con nd ok n s v → n ≤ c
/-- the row that takes the first debt each time which leaves the most -/
def firC (nd : Nat) (ok : Nat → Nat → Bool) (c : Nat → Nat) (s d : Nat) : Prop := d < nd ∧ ok s d = true ∧ c (s ||| 2 ^ d) + 1 = c s
theorem fir_ex {nd : Nat} {ok : Nat → Nat → Bool} {c : Nat → Nat} {s : Nat} (hs : s < 2 ^ nd) (hc : ∀ s, s < 2 ^ nd → maxC nd ok s (c s)) (h0 : 0 < c s) : ∃ d, firC nd ok c s d := by
  obtain ⟨-, ⟨v, hv⟩, hm⟩ := hc s hs
  obtain ⟨n, e⟩ : ∃ n, c s = n + 1 := ⟨c s - 1, by omega⟩
  rw [e] at hv
  obtain ⟨d, w, d1, d2, d3, -⟩ := hv
  have hs2 := or_in hs d1
  obtain ⟨-, ⟨v2, hv2⟩, hm2⟩ := hc _ hs2
  have a := hm2 _ _ d3
  have b := hm (c (s ||| 2 ^ d) + 1) ((d + 1) * 10 ^ c (s ||| 2 ^ d) + v2) ⟨d, v2, d1, d2, hv2, rfl⟩
  exact ⟨d, d1, d2, by omega⟩
/-- the least v: by the first debt each time -/
theorem fir_min {nd : Nat} (hnd : nd ≤ 9) {ok : Nat → Nat → Bool} {c : Nat → Nat} (hc : ∀ s, s < 2 ^ nd → maxC nd ok s (c s)) {s d w : Nat} (hs : s < 2 ^ nd) (hd : firC nd ok c s d) (hf : ∀ x, x < d → ¬ firC nd ok c s x) (hw : Con nd ok (c (s ||| 2 ^ d)) (s ||| 2 ^ d) w) (hm : ∀ v, Con nd ok (c (s ||| 2 ^ d)) (s ||| 2 ^ d) v → w ≤ v) :
    Con nd ok (c s) s ((d + 1) * 10 ^ c (s ||| 2 ^ d) + w) ∧ ∀ v, Con nd ok (c s) s v → (d + 1) * 10 ^ c (s ||| 2 ^ d) + w ≤ v := by
  obtain ⟨d1, d2, d3⟩ := hd
  rw [← d3]
  refine ⟨⟨d, w, d1, d2, hw, rfl⟩, fun v hv => ?_⟩
  obtain ⟨e, u, e1, e2, e3, rfl⟩ := hv
  obtain ⟨-, ⟨v2, hv2⟩, hm2⟩ := hc _ (or_in hs e1)
  have a := hm2 _ _ e3
  have b := (hc s hs).2.2 (c (s ||| 2 ^ e) + 1) ((e + 1) * 10 ^ c (s ||| 2 ^ e) + v2) ⟨e, v2, e1, e2, hv2, rfl⟩
  have ee : c (s ||| 2 ^ e) = c (s ||| 2 ^ d) := by omega
  have hl : d ≤ e := by
    rcases Nat.lt_or_ge e d with q | q
    · exact absurd ⟨e1, e2, by omega⟩ (hf e q)
    · exact q
  by_cases q : e = d
  · subst q
    have := hm u e3
    omega
  · have hwl := Con_lt hnd _ _ _ hw
    have : (d + 2) * 10 ^ c (s ||| 2 ^ d) ≤ (e + 1) * 10 ^ c (s ||| 2 ^ d) := Nat.mul_le_mul_right _ (by omega)
    rw [show d + 2 = d + 1 + 1 by omega, Nat.succ_mul (d + 1)] at this
    omega
