/-! rings, in ints -/
/-- who owes whom, on both sides -/
def dbL (np nd : Nat) (dt P : Fn) (k : Nat) : Prop := ∀ d, d < nd → ∃ a, a < np ∧ dt d = nI a ∧ P (k + d) = nI a
theorem dbL_e {np nd k : Nat} {dt P : Fn} (h : dbL np nd dt P k) {d : Nat} (hd : d < nd) : dt d = P (k + d) := by
  obtain ⟨a, -, e1, e2⟩ := h d hd
  rw [e1, e2]
def clp (f : Fn) (d : Nat) : Nat := (f d).toNatClampNeg
def lvB (o : Fn) (d : Nat) : Bool := decide (¬ o d ≤ 0)
theorem dbL_c {np nd k : Nat} (hnp : np ≤ 7) {dt P : Fn} (h : dbL np nd dt P k) {d : Nat} (hd : d < nd) : clp dt d < np ∧ dt d = nI (clp dt d) ∧ P (k + d) = nI (clp dt d) := by
  obtain ⟨a, a1, e1, e2⟩ := h d hd
  have e : clp dt d = a := by unfold clp; rw [e1, nI_clamp (by omega)]
  rw [e]
  exact ⟨a1, e1, e2⟩
theorem cred_n {np nd : Nat} (hnp : np ≤ 7) {dt cr o P : Fn} (hdt : dbL np nd dt P 25) (hcr : dbL np nd cr P 34) {p : Nat} (hp : p < np) : ∀ n, n ≤ nd → credI dt cr o (nI p) n = nI (itn (crN (clp dt) (clp cr) (lvB o) p) n 0)
  | 0, _ => rfl
  | n + 1, hn => by
    rw [credI_s, cred_n hnp hdt hcr hp n (by omega), itn_s]
    generalize itn (crN (clp dt) (clp cr) (lvB o) p) n 0 = t
    obtain ⟨a1, a2, -⟩ := dbL_c hnp hdt (d := n) (by omega)
    obtain ⟨c1, c2, -⟩ := dbL_c hnp hcr (d := n) (by omega)
    unfold crN
    by_cases c : clp dt n = p ∧ lvB o n = true
    · rw [if_pos c, if_pos ⟨by rw [a2, c.1], of_decide_eq_true c.2⟩, c2, shl1 (by omega), or_n]
    · rw [if_neg c, if_neg]
      rintro ⟨q1, q2⟩
      refine c ⟨?_, decide_eq_true q2⟩
      rw [a2, nI_eq (by omega) (by omega)] at q1
      exact q1
theorem ring0_at {dt cr o oo : Fn} {nd : Nat} : ∀ np p, p < np → ring0 dt cr o nd np oo p = credI dt cr o (nI p) nd
  | 0, p, h => absurd h (Nat.not_lt_zero _)
  | n + 1, p, h => by
    show upd (ring0 dt cr o nd n oo) n (credI dt cr o (nI n) nd) p = _
    by_cases e : p = n
    · subst e; rw [upd_self]
    · rw [upd_ne e, ring0_at n p (by omega)]
/-- a row of sets -/
def seL (np : Nat) (f : Fn) (A : Nat → Nat) : Prop := ∀ p, p < np → f p = nI (A p) ∧ A p < 128
theorem war_s {np : Nat} {f : Fn} {A : Nat → Nat} (hnp : np ≤ 7) (h : seL np f A) {v q : Nat} (hv : v < np) (hq : q < np) : seL np (st_war v q f) (warN v q A) := by
  obtain ⟨q1, q2⟩ := h q hq
  obtain ⟨v1, v2⟩ := h v hv
  unfold st_war warN
  rw [q1, v1, hasB_n (by omega) (by omega), or_n]
  intro p hp
  by_cases c : (A q).testBit v = true
  · rw [if_pos c, if_pos c]
    by_cases e : p = q
    · subst e
      rw [upd_self, upN_s]
      exact ⟨rfl, Nat.or_lt_two_pow (n := 7) q2 v2⟩
    · rw [upd_ne e, upN_n e]; exact h p hp
  · rw [if_neg c, if_neg c]; exact h p hp
theorem war_i {np : Nat} {f : Fn} {A : Nat → Nat} (hnp : np ≤ 7) (h : seL np f A) {v : Nat} (hv : v < np) : ∀ n, n ≤ np → seL np (itn (st_war v) n f) (itn (warN v) n A)
  | 0, _ => h
  | n + 1, hn => war_s hnp (war_i hnp h hv n (by omega)) hv (by omega)
theorem war_o {np : Nat} {f : Fn} {A : Nat → Nat} (hnp : np ≤ 7) (h : seL np f A) : ∀ k, k ≤ np → seL np (itn (fun v g => itn (st_war v) np g) k f) (warL np k A)
  | 0, _ => h
  | k + 1, hk => war_i hnp (war_o hnp h k (by omega)) (by omega) np (Nat.le_refl _)
theorem and_p2 {a p : Nat} : a &&& 2 ^ p = if a.testBit p = true then 2 ^ p else 0 := by
  refine Nat.eq_of_testBit_eq (fun i => ?_)
  rw [Nat.testBit_and, Nat.testBit_two_pow]
  by_cases e : p = i
  · subst e
    rw [decide_eq_true rfl, Bool.and_true]
    by_cases c : a.testBit p = true
    · rw [if_pos c, c, p2_self]
    · rw [if_neg c, Nat.zero_testBit]
      exact Bool.eq_false_iff.mpr c
  · rw [decide_eq_false e, Bool.and_false]
    split
    · rw [Nat.testBit_two_pow, decide_eq_false e]
    · rw [Nat.zero_testBit]
theorem cm_i {np nd : Nat} (hnp : np ≤ 7) {dt cr P W o : Fn} (hdt : dbL np nd dt P 25) (hcr : dbL np nd cr P 34) (hnd : nd ≤ 9) (hO : ORl o W) {p : Nat} (hp : p < np) {s : Nat} (hs : s < 128) : ∀ n, n ≤ nd → itn (st_rg P W (nI p)) n (nI s) = nI (itn (rgN (clp dt) (clp cr) (lvB o) p) n s)
  | 0, _ => rfl
  | n + 1, hn => by
    rw [itn_s, itn_s, cm_i hnp hdt hcr hnd hO hp hs n (by omega)]
    have hl := rgL_lt (nd := nd) (da := clp dt) (dc := clp cr) (lv := lvB o) (p := p) (fun d hd => by have := (dbL_c hnp hcr hd).1; omega) hs n (by omega)
    generalize itn (rgN (clp dt) (clp cr) (lvB o) p) n s = t at hl
    obtain ⟨a1, -, a2⟩ := dbL_c hnp hdt (d := n) (by omega)
    obtain ⟨c1, -, c2⟩ := dbL_c hnp hcr (d := n) (by omega)
    obtain ⟨w, -, w1, w2⟩ := hO n (by omega)
    have elv : lvB o n = true ↔ ¬ W (17 + n) ≤ 0 := by
      unfold lvB
      rw [w1, w2]
      exact decide_eq_true_iff
    unfold st_rg rgN
    have en : nI (clp dt n) = nI p ↔ clp dt n = p := nI_eq (by omega) (by omega)
    rw [a2, c2, hasB_n (by omega) (by omega), shl1 (by omega)]
    by_cases c : lvB o n = true ∧ (clp dt n = p ∨ t.testBit (clp dt n) = true)
    · rw [if_pos c, if_pos ⟨elv.mp c.1, c.2.imp en.mpr id⟩, or_n]
    · rw [if_neg c, if_neg (fun q => c ⟨elv.mpr q.1, q.2.imp en.mp id⟩), or_n, Nat.or_zero]
theorem cm_o {np nd : Nat} (hnp : np ≤ 7) {dt cr P W o : Fn} (hdt : dbL np nd dt P 25) (hcr : dbL np nd cr P 34) (hnd : nd ≤ 9) (hO : ORl o W) {p : Nat} (hp : p < np) : ∀ k, itn (fun _ s => itn (st_rg P W (nI p)) nd s) k (nI 0) = nI (cmN nd (clp dt) (clp cr) (lvB o) p k)
  | 0 => rfl
  | k + 1 => by
    rw [itn_s, cm_o hnp hdt hcr hnd hO hp k]
    exact cm_i hnp hdt hcr hnd hO hp (cmN_lt (fun d hd => by have := (dbL_c hnp hcr hd).1; omega) k) nd (Nat.le_refl _)
theorem rings_eq {np nd : Nat} (hnp : np ≤ 7) {dt cr P W o oo : Fn} (hdt : dbL np nd dt P 25) (hcr : dbL np nd cr P 34) (hnd : nd ≤ 9) (hO : ORl o W) : ringI np (ring1 np (ring0 dt cr o nd np oo)) = rgM P W np nd := by
  have h0 : seL np (ring0 dt cr o nd np oo) (fun p => itn (crN (clp dt) (clp cr) (lvB o) p) nd 0) := fun p hp => ⟨by rw [ring0_at np p hp, cred_n hnp hdt hcr hp nd (Nat.le_refl _)], crL_lt (fun d hd => by have := (dbL_c hnp hcr hd).1; omega) nd (Nat.le_refl _)⟩
  have h1 := war_o hnp h0 np (Nat.le_refl _)
  unfold ringI rgM
  refine itn_cg np (fun p hp s => ?_)
  have e1 : ring1 np (ring0 dt cr o nd np oo) p = nI (cmN nd (clp dt) (clp cr) (lvB o) p 7) := by
    rw [← war_cm hnp (fun d hd => (dbL_c hnp hdt hd).1) (fun d hd => (dbL_c hnp hcr hd).1) (A := fun p => itn (crN (clp dt) (clp cr) (lvB o) p) nd 0) (fun _ _ => rfl) hp]
    exact (h1 p hp).1
  have e2 : cmM P W (nI p) nd = nI (cmN nd (clp dt) (clp cr) (lvB o) p 7) := cm_o hnp hdt hcr hnd hO hp 7
  have hl := cmN_lt (nd := nd) (da := clp dt) (dc := clp cr) (lv := lvB o) (p := p) (fun d hd => by have := (dbL_c hnp hcr hd).1; omega) 7
  rw [e1, e2, shl1 (by omega), hasB_n (by omega) (by omega), and_n (by omega) (by
    have : 2 ^ p ≤ 2 ^ 7 := Nat.pow_le_pow_right (by decide) (by omega)
    omega), and_p2]
  congr 1
  split <;> rfl
