/-! rings of debts: both sides come to the least set that is closed -/
def ssB (s t : Nat) : Prop := ∀ i, s.testBit i = true → t.testBit i = true
theorem ss_rf {s : Nat} : ssB s s := fun _ h => h
theorem ss_tr {s t u : Nat} (h1 : ssB s t) (h2 : ssB t u) : ssB s u := fun i h => h2 i (h1 i h)
theorem ss_or {s t u : Nat} (h1 : ssB s u) (h2 : ssB t u) : ssB (s ||| t) u := fun i h => by
  rw [Nat.testBit_or, Bool.or_eq_true] at h
  rcases h with h | h
  · exact h1 i h
  · exact h2 i h
theorem ss_l {s t : Nat} : ssB s (s ||| t) := fun i h => by rw [Nat.testBit_or, h, Bool.true_or]
theorem ss_r {s t : Nat} : ssB t (s ||| t) := fun i h => by rw [Nat.testBit_or, h, Bool.or_true]
theorem ss_p {n t : Nat} (h : t.testBit n = true) : ssB (2 ^ n) t := fun i q => by
  rw [Nat.testBit_two_pow] at q
  have := of_decide_eq_true q
  subst this
  exact h
theorem ss_eq {s t : Nat} (h1 : ssB s t) (h2 : ssB t s) : s = t := by
  refine Nat.eq_of_testBit_eq (fun i => ?_)
  cases a : s.testBit i <;> cases b : t.testBit i
  · rfl
  · rw [h2 i b] at a; exact Bool.noConfusion a
  · rw [h1 i a] at b; exact Bool.noConfusion b
  · rfl
theorem p2_self (n : Nat) : (2 ^ n).testBit n = true := by rw [Nat.testBit_two_pow]; exact decide_eq_true rfl
/-- C is closed for p: what p or one of C owes goes to one of C -/
def clB (nd : Nat) (da dc : Nat → Nat) (lv : Nat → Bool) (p C : Nat) : Prop := ∀ d, d < nd → lv d = true → (da d = p ∨ C.testBit (da d) = true) → C.testBit (dc d) = true
def rgN (da dc : Nat → Nat) (lv : Nat → Bool) (p d s : Nat) : Nat := if lv d = true ∧ (da d = p ∨ s.testBit (da d) = true) then s ||| 2 ^ dc d else s
theorem rgN_ge {da dc : Nat → Nat} {lv : Nat → Bool} {p d s : Nat} : ssB s (rgN da dc lv p d s) := by
  unfold rgN
  split
  · exact ss_l
  · exact ss_rf
theorem rgL_ge {da dc : Nat → Nat} {lv : Nat → Bool} {p s : Nat} : ∀ n, ssB s (itn (rgN da dc lv p) n s)
  | 0 => ss_rf
  | n + 1 => ss_tr (rgL_ge n) rgN_ge
theorem rgL_le {nd : Nat} {da dc : Nat → Nat} {lv : Nat → Bool} {p s C : Nat} (hC : clB nd da dc lv p C) (hs : ssB s C) : ∀ n, n ≤ nd → ssB (itn (rgN da dc lv p) n s) C
  | 0, _ => hs
  | n + 1, hn => by
    have ih := rgL_le hC hs n (by omega)
    rw [itn_s]
    generalize itn (rgN da dc lv p) n s = t at ih
    unfold rgN
    split
    · rename_i h
      refine ss_or ih (ss_p (hC n (by omega) h.1 ?_))
      rcases h.2 with q | q
      · exact Or.inl q
      · exact Or.inr (ih _ q)
    · exact ih
theorem rgL_cl {nd : Nat} {da dc : Nat → Nat} {lv : Nat → Bool} {p s : Nat} : ∀ n, n ≤ nd → ∀ d, d < n → lv d = true → (da d = p ∨ s.testBit (da d) = true) → (itn (rgN da dc lv p) n s).testBit (dc d) = true
  | 0, _, d, h, _, _ => absurd h (Nat.not_lt_zero _)
  | n + 1, hn, d, h, hl, hc => by
    rw [itn_s]
    by_cases e : d = n
    · subst e
      have hg := rgL_ge (da := da) (dc := dc) (lv := lv) (p := p) (s := s) d
      generalize itn (rgN da dc lv p) d s = t at hg
      unfold rgN
      have hc2 : lv d = true ∧ (da d = p ∨ t.testBit (da d) = true) := ⟨hl, by rcases hc with q | q; exact Or.inl q; exact Or.inr (hg _ q)⟩
      rw [if_pos hc2]
      exact ss_r _ (p2_self _)
    · exact rgN_ge _ (rgL_cl (nd := nd) n (by omega) d (by omega) hl hc)
theorem rgL_fix {nd : Nat} {da dc : Nat → Nat} {lv : Nat → Bool} {p s : Nat} (h : itn (rgN da dc lv p) nd s = s) : clB nd da dc lv p s := fun d hd hl hc => by
  have := rgL_cl (nd := nd) (da := da) (dc := dc) (lv := lv) (p := p) (s := s) nd (Nat.le_refl _) d hd hl hc
  rw [h] at this
  exact this
theorem rgL_same {nd : Nat} {da dc : Nat → Nat} {lv : Nat → Bool} {p s : Nat} (h : clB nd da dc lv p s) : itn (rgN da dc lv p) nd s = s := ss_eq (rgL_le h ss_rf nd (Nat.le_refl _)) (rgL_ge nd)
def popN (s : Nat) : Nat := sN (fun i => if s.testBit i = true then 1 else 0) 7
theorem sN_le {f g : Nat → Nat} (h : ∀ i, f i ≤ g i) : ∀ n, sN f n ≤ sN g n
  | 0 => Nat.le_refl _
  | n + 1 => Nat.add_le_add (sN_le h n) (h n)
theorem sN_lt {f g : Nat → Nat} (h : ∀ i, f i ≤ g i) {k : Nat} (hk : f k < g k) : ∀ n, k < n → sN f n < sN g n
  | 0, q => absurd q (Nat.not_lt_zero _)
  | n + 1, q => by
    show sN f n + f n < sN g n + g n
    by_cases e : k = n
    · subst e
      have := sN_le h k
      omega
    · have := sN_lt h hk n (by omega)
      have := h n
      omega
theorem lt7 {s i : Nat} (hs : s < 128) (h : s.testBit i = true) : i < 7 := by
  rcases Nat.lt_or_ge i 7 with q | q
  · exact q
  · exfalso
    have : s < 2 ^ i := Nat.lt_of_lt_of_le (show s < 2 ^ 7 from hs) (Nat.pow_le_pow_right (by decide) q)
    rw [Nat.testBit_lt_two_pow this] at h
    exact Bool.noConfusion h
theorem pop_lt {s t : Nat} (ht : t < 128) (h : ssB s t) (hn : ¬ t = s) : popN s < popN t := by
  have hp : ∀ i, (fun i => if s.testBit i = true then 1 else 0) i ≤ (fun i => if t.testBit i = true then 1 else 0) i := fun i => by
    show (if s.testBit i = true then 1 else 0) ≤ (if t.testBit i = true then 1 else 0)
    by_cases q : s.testBit i = true
    · rw [if_pos q, if_pos (h i q)]; exact Nat.le_refl _
    · rw [if_neg q]; exact Nat.zero_le _
  have ex : ∃ i, t.testBit i = true ∧ ¬ s.testBit i = true := by
    by_cases q : ∃ i, t.testBit i = true ∧ ¬ s.testBit i = true
    · exact q
    · exfalso
      refine hn (ss_eq (fun i a => ?_) h)
      by_cases r : s.testBit i = true
      · exact r
      · exact absurd ⟨i, a, r⟩ q
  obtain ⟨i, a, b⟩ := ex
  refine sN_lt hp (k := i) ?_ 7 (lt7 ht a)
  show (if s.testBit i = true then 1 else 0) < (if t.testBit i = true then 1 else 0)
  rw [if_pos a, if_neg b]
  decide
theorem sN_7 {f : Nat → Nat} (h1 : ∀ i, f i ≤ 1) : ∀ n, sN f n ≤ n ∧ (n ≤ sN f n → ∀ i, i < n → f i = 1)
  | 0 => ⟨Nat.le_refl _, fun _ i hi => absurd hi (Nat.not_lt_zero _)⟩
  | n + 1 => by
    have ih := sN_7 h1 n
    have h := h1 n
    refine ⟨by show sN f n + f n ≤ n + 1; have := ih.1; omega, fun q i hi => ?_⟩
    replace q : n + 1 ≤ sN f n + f n := q
    have := ih.1
    by_cases e : i = n
    · subst e; omega
    · exact ih.2 (by omega) i (by omega)
theorem rgL_lt {nd : Nat} {da dc : Nat → Nat} {lv : Nat → Bool} {p s : Nat} (hdc : ∀ d, d < nd → dc d < 7) (hs : s < 128) : ∀ n, n ≤ nd → itn (rgN da dc lv p) n s < 128
  | 0, _ => hs
  | n + 1, hn => by
    have ih := rgL_lt (da := da) (lv := lv) (p := p) hdc hs n (by omega)
    rw [itn_s]
    generalize itn (rgN da dc lv p) n s = t at ih
    unfold rgN
    split
    · exact Nat.or_lt_two_pow (n := 7) ih (Nat.pow_lt_pow_right (by decide) (hdc n (by omega)))
    · exact ih
def cmN (nd : Nat) (da dc : Nat → Nat) (lv : Nat → Bool) (p k : Nat) : Nat := itn (fun _ s => itn (rgN da dc lv p) nd s) k 0
theorem cmN_lt {nd : Nat} {da dc : Nat → Nat} {lv : Nat → Bool} {p : Nat} (hdc : ∀ d, d < nd → dc d < 7) : ∀ k, cmN nd da dc lv p k < 128
  | 0 => (by decide : 0 < 128)
  | k + 1 => rgL_lt hdc (cmN_lt hdc k) nd (Nat.le_refl _)
theorem cmN_le {nd : Nat} {da dc : Nat → Nat} {lv : Nat → Bool} {p C : Nat} (hC : clB nd da dc lv p C) : ∀ k, ssB (cmN nd da dc lv p k) C
  | 0 => fun i h => by rw [show cmN nd da dc lv p 0 = 0 from rfl, Nat.zero_testBit] at h; exact Bool.noConfusion h
  | k + 1 => rgL_le hC (cmN_le hC k) nd (Nat.le_refl _)
theorem cmN_7 {nd : Nat} {da dc : Nat → Nat} {lv : Nat → Bool} {p : Nat} (hdc : ∀ d, d < nd → dc d < 7) : ∀ k, clB nd da dc lv p (cmN nd da dc lv p k) ∨ k ≤ popN (cmN nd da dc lv p k)
  | 0 => Or.inr (Nat.zero_le _)
  | k + 1 => by
    have e : cmN nd da dc lv p (k + 1) = itn (rgN da dc lv p) nd (cmN nd da dc lv p k) := rfl
    have hl := cmN_lt (da := da) (lv := lv) (p := p) hdc (k + 1)
    rcases cmN_7 (da := da) (lv := lv) (p := p) hdc k with h | h
    · left
      rw [e, rgL_same h]
      exact h
    · by_cases q : cmN nd da dc lv p (k + 1) = cmN nd da dc lv p k
      · left
        rw [q]
        exact rgL_fix (by rw [← e]; exact q)
      · right
        have := pop_lt hl (by rw [e]; exact rgL_ge nd) q
        omega
theorem cmN_cl {nd : Nat} {da dc : Nat → Nat} {lv : Nat → Bool} {p : Nat} (hdc : ∀ d, d < nd → dc d < 7) : clB nd da dc lv p (cmN nd da dc lv p 7) := by
  rcases cmN_7 (da := da) (lv := lv) (p := p) hdc 7 with h | h
  · exact h
  · intro d hd _ _
    have q := (sN_7 (f := fun i => if (cmN nd da dc lv p 7).testBit i = true then 1 else 0) (fun i => by show (if _ then 1 else 0) ≤ 1; split <;> decide) 7).2 h (dc d) (hdc d hd)
    by_cases r : (cmN nd da dc lv p 7).testBit (dc d) = true
    · exact r
    · have q2 : (if (cmN nd da dc lv p 7).testBit (dc d) = true then 1 else 0) = 1 := q
      rw [if_neg r] at q2
      exact absurd q2 (by decide)
/-! the other way: through each person in turn -/
def warN (v p : Nat) (A : Nat → Nat) : Nat → Nat := if (A p).testBit v = true then upN A p (A p ||| A v) else A
theorem warN_at {v : Nat} {A : Nat → Nat} : ∀ n p, itn (warN v) n A p = if p < n ∧ (A p).testBit v = true then A p ||| A v else A p
  | 0, p => (if_neg (fun q => absurd q.1 (Nat.not_lt_zero _))).symm
  | n + 1, p => by
    have ih := warN_at (v := v) (A := A) n
    rw [itn_s]
    generalize itn (warN v) n A = B at ih
    have eN : B n = A n := by rw [ih n, if_neg (fun q => Nat.lt_irrefl _ q.1)]
    have eV : B v = A v := by
      rw [ih v]
      split
      · exact Nat.or_self _
      · rfl
    unfold warN
    rw [eN, eV]
    by_cases c : (A n).testBit v = true
    · rw [if_pos c]
      by_cases e : p = n
      · subst e
        rw [upN_s, if_pos ⟨Nat.lt_succ_self _, c⟩]
      · rw [upN_n e, ih p]
        by_cases q : p < n ∧ (A p).testBit v = true
        · rw [if_pos q, if_pos ⟨by omega, q.2⟩]
        · rw [if_neg q, if_neg (fun r => q ⟨by omega, r.2⟩)]
    · rw [if_neg c, ih p]
      by_cases q : p < n ∧ (A p).testBit v = true
      · rw [if_pos q, if_pos ⟨by omega, q.2⟩]
      · rw [if_neg q, if_neg (fun r => q ⟨by
          rcases Nat.lt_or_ge p n with z | z
          · exact z
          · have : p = n := by omega
            subst this
            exact absurd r.2 c, r.2⟩)]
def warL (np k : Nat) (A : Nat → Nat) : Nat → Nat := itn (fun v g => itn (warN v) np g) k A
theorem warL_s {np k : Nat} {A : Nat → Nat} {p : Nat} (hp : p < np) : warL np (k + 1) A p = if (warL np k A p).testBit k = true then warL np k A p ||| warL np k A k else warL np k A p := by
  show itn (warN k) np (warL np k A) p = _
  rw [warN_at]
  by_cases q : (warL np k A p).testBit k = true
  · rw [if_pos ⟨hp, q⟩, if_pos q]
  · rw [if_neg (fun r => q r.2), if_neg q]
theorem warL_ge {np : Nat} {A : Nat → Nat} {p : Nat} (hp : p < np) : ∀ k, ssB (A p) (warL np k A p)
  | 0 => ss_rf
  | k + 1 => by
    rw [warL_s hp]
    split
    · exact ss_tr (warL_ge hp k) ss_l
    · exact warL_ge hp k
theorem warL_tr {np : Nat} {A : Nat → Nat} : ∀ k, k ≤ np → ∀ p v, p < np → v < k → (warL np k A p).testBit v = true → ssB (warL np k A v) (warL np k A p)
  | 0, _, p, v, _, h, _ => absurd h (Nat.not_lt_zero _)
  | k + 1, hk, p, v, hp, hv, h => by
    have ih := warL_tr (np := np) (A := A) k (by omega)
    have hkk : warL np (k + 1) A k = warL np k A k := by
      rw [warL_s (by omega)]
      split
      · exact Nat.or_self _
      · rfl
    have up : ∀ q, q < np → (warL np k A q).testBit k = true → ssB (warL np k A k) (warL np (k + 1) A q) := fun q hq hb => by
      rw [warL_s hq, if_pos hb]; exact ss_r
    have ge : ∀ q, q < np → ssB (warL np k A q) (warL np (k + 1) A q) := fun q hq => by
      rw [warL_s hq]
      split
      · exact ss_l
      · exact ss_rf
    by_cases e : v = k
    · subst e
      rw [hkk]
      by_cases c : (warL np v A p).testBit v = true
      · exact up p hp c
      · rw [warL_s hp, if_neg c] at h
        exact absurd h c
    · have hvk : v < k := by omega
      have hsub : ssB (warL np k A v) (warL np (k + 1) A p) ∧ ((warL np k A v).testBit k = true → (warL np k A p).testBit k = true) := by
        by_cases c : (warL np k A p).testBit v = true
        · have q := ih p v hp hvk c
          exact ⟨ss_tr q (ge p hp), fun r => q _ r⟩
        · rw [warL_s hp] at h
          by_cases c2 : (warL np k A p).testBit k = true
          · rw [if_pos c2, Nat.testBit_or, Bool.or_eq_true] at h
            rcases h with h | h
            · exact absurd h c
            · exact ⟨ss_tr (ih k v (by omega) hvk h) (up p hp c2), fun _ => c2⟩
          · rw [if_neg c2] at h
            exact absurd h c
      rw [warL_s (p := v) (by omega)]
      split
      · rename_i r
        exact ss_or hsub.1 (up p hp (hsub.2 r))
      · exact hsub.1
theorem warL_le {np nd : Nat} {da dc : Nat → Nat} {lv : Nat → Bool} {A : Nat → Nat} (hA : ∀ p, p < np → ∀ C, clB nd da dc lv p C → ssB (A p) C) : ∀ k, k ≤ np → ∀ p, p < np → ∀ C, clB nd da dc lv p C → ssB (warL np k A p) C
  | 0, _, p, hp, C, hC => hA p hp C hC
  | k + 1, hk, p, hp, C, hC => by
    have ih := warL_le hA k (by omega)
    have h1 := ih p hp C hC
    rw [warL_s hp]
    split
    · rename_i r
      refine ss_or h1 (ih k (by omega) C (fun d hd hl hc => hC d hd hl ?_))
      rcases hc with q | q
      · right; rw [q]; exact h1 _ r
      · exact Or.inr q
    · exact h1
def crN (da dc : Nat → Nat) (lv : Nat → Bool) (p d s : Nat) : Nat := if da d = p ∧ lv d = true then s ||| 2 ^ dc d else s
theorem crL_le {nd : Nat} {da dc : Nat → Nat} {lv : Nat → Bool} {p C : Nat} (hC : clB nd da dc lv p C) : ∀ n, n ≤ nd → ssB (itn (crN da dc lv p) n 0) C
  | 0, _ => fun i h => by rw [itn_0, Nat.zero_testBit] at h; exact Bool.noConfusion h
  | n + 1, hn => by
    have ih := crL_le hC n (by omega)
    rw [itn_s]
    generalize itn (crN da dc lv p) n 0 = t at ih
    unfold crN
    split
    · rename_i h
      exact ss_or ih (ss_p (hC n (by omega) h.2 (Or.inl h.1)))
    · exact ih
theorem crL_ge {da dc : Nat → Nat} {lv : Nat → Bool} {p : Nat} : ∀ n d, d < n → da d = p → lv d = true → (itn (crN da dc lv p) n 0).testBit (dc d) = true
  | 0, d, h, _, _ => absurd h (Nat.not_lt_zero _)
  | n + 1, d, h, h1, h2 => by
    rw [itn_s]
    by_cases e : d = n
    · subst e
      generalize itn (crN da dc lv p) d 0 = t
      unfold crN
      have hc : da d = p ∧ lv d = true := ⟨h1, h2⟩
      rw [if_pos hc]
      exact ss_r _ (p2_self _)
    · have ih := crL_ge (da := da) (dc := dc) (lv := lv) (p := p) n d (by omega) h1 h2
      generalize itn (crN da dc lv p) n 0 = t at ih
      unfold crN
      split
      · exact ss_l _ ih
      · exact ih
theorem crL_lt {nd : Nat} {da dc : Nat → Nat} {lv : Nat → Bool} {p : Nat} (hdc : ∀ d, d < nd → dc d < 7) : ∀ n, n ≤ nd → itn (crN da dc lv p) n 0 < 128
  | 0, _ => (by decide : 0 < 128)
  | n + 1, hn => by
    have ih := crL_lt (da := da) (lv := lv) (p := p) hdc n (by omega)
    rw [itn_s]
    generalize itn (crN da dc lv p) n 0 = t at ih
    unfold crN
    split
    · exact Nat.or_lt_two_pow (n := 7) ih (Nat.pow_lt_pow_right (by decide) (hdc n (by omega)))
    · exact ih
theorem warL_lt {np : Nat} {A : Nat → Nat} (hA : ∀ p, p < np → A p < 128) : ∀ k, k ≤ np → ∀ p, p < np → warL np k A p < 128
  | 0, _, p, hp => hA p hp
  | k + 1, hk, p, hp => by
    have ih := warL_lt hA k (by omega)
    rw [warL_s hp]
    split
    · exact Nat.or_lt_two_pow (n := 7) (ih p hp) (ih k (by omega))
    · exact ih p hp
/-- both come to one set -/
theorem war_cm {np nd : Nat} {da dc : Nat → Nat} {lv : Nat → Bool} (hnp : np ≤ 7) (hda : ∀ d, d < nd → da d < np) (hdc : ∀ d, d < nd → dc d < np) {A : Nat → Nat} (hA : ∀ p, p < np → A p = itn (crN da dc lv p) nd 0) {p : Nat} (hp : p < np) : warL np np A p = cmN nd da dc lv p 7 := by
  have h7 : ∀ d, d < nd → dc d < 7 := fun d hd => by have := hdc d hd; omega
  refine ss_eq (warL_le (da := da) (dc := dc) (lv := lv) (nd := nd) (fun q hq C hC => by rw [hA q hq]; exact crL_le hC nd (Nat.le_refl _)) np (Nat.le_refl _) p hp _ (cmN_cl h7)) (cmN_le (fun d hd hl hc => ?_) 7)
  have hb : (warL np np A (da d)).testBit (dc d) = true := warL_ge (hda d hd) np _ (by rw [hA _ (hda d hd)]; exact crL_ge nd d hd rfl hl)
  rcases hc with q | q
  · rw [← q]; exact hb
  · exact warL_tr np (Nat.le_refl _) p (da d) hp (hda d hd) q _ hb
