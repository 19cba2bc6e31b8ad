/-! clauses and the whole text, on both sides -/
theorem clause_sim {T : Fn} {L A m : Nat} {D : DV} {y : MZ} (hA : A < L) (hb : y.2.1 = A) (hn : inB (T A) (nI 48) (nI 57) = false → y.1 = A + 1 ∧ y.2.2.1 = T A) (hd : inB (T A) (nI 48) (nI 57) = true → y.2.2.1 = nI 48) (hD : DRl D y.2.2.2.2.2.2) : PRs L A (pClause T L (-1, 0, A, m) D) (mClause T L y D.2.2.2.1 D.2.2.2.2.1) := by
  have hsd := DRl_sd hD
  have hle : D.2.2.2.1 ≤ 7 ∧ D.2.2.2.2.1 ≤ 9 := by
    obtain ⟨Tr, Du, t1, t2, t3, t4, t5, t6, t7, t8, t9, t10, t11, -⟩ := hD
    exact ⟨t10, t11⟩
  have note : ∀ w, w ≠ 0 → fwN D.1 D.2.2.2.1 D.2.2.2.2.1 (T A) = w → pClause T L (-1, 0, A, m) D = ((nI A, w, A, m), D) := fun w hw e => by
    unfold pClause
    show (if fwN D.1 D.2.2.2.1 D.2.2.2.2.1 (T A) = 0 then _ else (pNote (-1, 0, A, m) (fwN D.1 D.2.2.2.1 D.2.2.2.2.1 (T A)) (nI A), D)) = _
    rw [e, if_neg hw]
    rfl
  have go : fwN D.1 D.2.2.2.1 D.2.2.2.2.1 (T A) = 0 → pClause T L (-1, 0, A, m) D = pClauseE T L (T A) (-1, 0, A + 1, m) D := fun e => by
    unfold pClause
    show (if fwN D.1 D.2.2.2.1 D.2.2.2.2.1 (T A) = 0 then pClauseE T L (T A) (-1, 0, A + 1, m) D else _) = _
    rw [if_pos e]
  unfold fwN at note go
  unfold mClause
  by_cases c1 : T A = nI 116
  · obtain ⟨y1, ys⟩ := hn (by rw [c1]; decide)
    rw [c1] at ys
    rw [if_pos ys]
    rw [if_pos c1] at go
    by_cases s0 : D.1 = 0
    · rw [go (by rw [if_pos s0])]
      unfold pClauseE
      rw [if_pos c1]
      exact tree_sim hA y1 hD s0
    · rw [note 3 (by decide) (by rw [if_pos c1, if_neg s0])]
      unfold mTree
      rw [if_neg (fun q => s0 (hsd.1.mpr (hsd.2.mp q)))]
      exact PRs_f (by decide) hb rfl
  · have ns : ¬ y.2.2.1 = nI 116 := fun q => by
      cases e : inB (T A) (nI 48) (nI 57)
      · exact c1 (by rw [← (hn e).2]; exact q)
      · rw [hd e] at q; revert q; decide
    rw [if_neg ns]
    rw [if_neg c1] at go
    by_cases s0 : D.1 = 0
    · rw [if_pos (hsd.1.mp s0)]
      have ef : (if T A = nI 116 then (if D.1 = 0 then 0 else 3) else if T A = nI 112 then (if D.1 = 0 then 1 else if D.2.2.2.1 < 7 then 0 else 3) else if T A = nI 100 then (if D.1 = 0 then 1 else if D.2.2.2.2.1 < 9 then 0 else 3) else 1) = 1 := by
        rw [if_neg c1, if_pos s0, if_pos s0]
        split
        · rfl
        · split <;> rfl
      rw [note 1 (by decide) ef]
      exact PRs_f (by decide) hb rfl
    · rw [if_neg (fun q => s0 (hsd.1.mpr q))]
      by_cases c2 : T A = nI 112
      · obtain ⟨y1, ys⟩ := hn (by rw [c2]; decide)
        rw [c2] at ys
        rw [if_pos ys]
        rw [if_pos c2, if_neg s0] at go
        unfold mPers
        by_cases h7 : D.2.2.2.1 = 7
        · rw [if_pos h7, note 3 (by decide) (by rw [if_neg c1, if_pos c2, if_neg s0, if_neg (by omega)])]
          exact PRs_f (by decide) hb rfl
        · rw [if_neg h7, go (by rw [if_pos (by omega)])]
          unfold pClauseE
          rw [if_neg c1, if_pos c2]
          exact pers_sim hA y1 hD s0 (by omega)
      · have ns2 : ¬ y.2.2.1 = nI 112 := fun q => by
          cases e : inB (T A) (nI 48) (nI 57)
          · exact c2 (by rw [← (hn e).2]; exact q)
          · rw [hd e] at q; revert q; decide
        rw [if_neg ns2]
        by_cases c3 : T A = nI 100
        · obtain ⟨y1, ys⟩ := hn (by rw [c3]; decide)
          rw [c3] at ys
          rw [if_pos ys]
          rw [if_neg c2, if_pos c3, if_neg s0] at go
          unfold mDebt
          by_cases h9 : D.2.2.2.2.1 = 9
          · rw [if_pos h9, note 3 (by decide) (by rw [if_neg c1, if_neg c2, if_pos c3, if_neg s0, if_neg (by omega)])]
            exact PRs_f (by decide) hb rfl
          · rw [if_neg h9, go (by rw [if_pos (by omega)])]
            unfold pClauseE
            rw [if_neg c1, if_neg c2]
            exact debt_sim hA y1 hD s0 (by omega)
        · have ns3 : ¬ y.2.2.1 = nI 100 := fun q => by
            cases e : inB (T A) (nI 48) (nI 57)
            · exact c3 (by rw [← (hn e).2]; exact q)
            · rw [hd e] at q; revert q; decide
          rw [if_neg ns3, note 1 (by decide) (by rw [if_neg c1, if_neg c2, if_neg c3])]
          exact PRs_f (by decide) hb rfl
theorem pClause_D {T : Fn} {L : Nat} {z : PZ} {D : DV} (h : (pClause T L z D).1.2.1 ≠ 0) : (pClause T L z D).2 = D := by
  have a1 : ∀ (n d : Int32) (Z : PZ), (pTreeE n d Z D).1.2.1 ≠ 0 → (pTreeE n d Z D).2 = D := fun n d Z q => if_neg q
  have a2 : ∀ (n d x : Int32) (Z : PZ), (pPersE n d x Z D).1.2.1 ≠ 0 → (pPersE n d x Z D).2 = D := fun n d x Z q => if_neg q
  have a3 : ∀ (n d x : Int32) (Z : PZ), (pDebtE n d x Z D).1.2.1 ≠ 0 → (pDebtE n d x Z D).2 = D := fun n d x Z q => if_neg q
  unfold pClause at h ⊢
  by_cases c : fwN D.1 D.2.2.2.1 D.2.2.2.2.1 (T z.2.2.1) = 0
  · rw [if_pos c] at h ⊢
    unfold pClauseE at h ⊢
    by_cases c1 : T z.2.2.1 = nI 116
    · rw [if_pos c1] at h ⊢
      exact a1 _ _ _ h
    · rw [if_neg c1] at h ⊢
      by_cases c2 : T z.2.2.1 = nI 112
      · rw [if_pos c2] at h ⊢
        exact a2 _ _ _ _ h
      · rw [if_neg c2] at h ⊢
        exact a3 _ _ _ _ h
  · rw [if_neg c]
/-- what reading comes to -/
def PFn (c : PZ × DV) (r : Bool × MZ) : Prop := (c.1.2.1 = 0 ∧ c.1.1 = -1 ∧ r.1 = true ∧ DRl c.2 r.2.2.2.2.2.2.2) ∨ (c.1.2.1 ≠ 0 ∧ r.1 = false ∧ c.1.1 = nI r.2.2.1 ∧ nI c.1.2.1 = r.2.2.2.2.2.2.1 ∧ ∃ R, DRl c.2 R)
theorem step_at {T : Fn} {L A : Nat} {y : MZ} (hA : sk T L y.1 = A) (hl : A < L) : (mStep T L y).2.1 = A ∧ (inB (T A) (nI 48) (nI 57) = false → ¬ T A < 0 → (mStep T L y).1 = A + 1 ∧ (mStep T L y).2.2.1 = T A) ∧ (inB (T A) (nI 48) (nI 57) = true → (mStep T L y).2.2.1 = nI 48) := by
  unfold mStep
  rw [hA, hr_t hl]
  refine ⟨?_, fun h h2 => ?_, fun h => ?_⟩
  · split <;> rfl
  · rw [if_pos h, if_neg h2]; exact ⟨rfl, rfl⟩
  · rw [if_neg (by rw [h]; exact fun q => Bool.noConfusion q)]
theorem step_end {T : Fn} {L : Nat} {y : MZ} (hA : sk T L y.1 = L) : (mStep T L y).2.2.1 = -1 := by
  unfold mStep
  rw [hA, hr_f (Nat.lt_irrefl _), if_pos (by decide)]
theorem loop_sim {T : Fn} {L : Nat} (hT : ∀ i, i < L → ∃ c, c ≤ 255 ∧ T i = nI c) : ∀ (k n f A m : Nat) (D : DV) (y : MZ), L - A ≤ k → k ≤ n → k ≤ f → sk T L y.1 = A → A ≤ L → y.1 ≤ L → DRl D y.2.2.2.2.2.2 → PFn (pLoop T L n ((-1, 0, A, m), D)) (mLp T L f (true, mStep T L y)) := by
  intro k
  induction k with
  | zero =>
    intro n f A m D y h1 h2 h3 hA hL hyL hD
    have e : A = L := by omega
    subst e
    rw [pLoop_f (lt := T) (L := A) (s := ((-1, 0, A, m), D)) n (fun q => absurd q.2 (Nat.lt_irrefl _)), mLp_e (T := T) (L := A) (f := f) (r := (true, mStep T A y)) (Or.inl (show (mStep T A y).2.2.1 < 0 by rw [step_end hA]; decide))]
    exact Or.inl ⟨rfl, rfl, rfl, by show DRl D (mStep T A y).2.2.2.2.2.2; rw [show (mStep T A y).2.2.2.2.2.2 = y.2.2.2.2.2.2 from congrArg Prod.snd (mStep_ok hyL).2.2.2]; exact hD⟩
  | succ k ih =>
    intro n f A m D y h1 h2 h3 hA hL hyL hD
    by_cases c : A < L
    · obtain ⟨n', rfl⟩ : ∃ n', n = n' + 1 := ⟨n - 1, by omega⟩
      obtain ⟨ch, hc1, hc2⟩ := hT A c
      obtain ⟨s1, s2, s3⟩ := step_at hA c
      have hpos : ¬ T A < 0 := by rw [hc2]; exact nI_pos (by omega)
      have eR : (mStep T L y).2.2.2.2.2.2 = y.2.2.2.2.2.2 := congrArg Prod.snd (mStep_ok hyL).2.2.2
      have hsg : ¬ (mStep T L y).2.2.1 < 0 := by
        cases e : inB (T A) (nI 48) (nI 57)
        · rw [(s2 e hpos).2]; exact hpos
        · rw [s3 e]; decide
      have hcl := clause_sim (m := m) (D := D) (y := mStep T L y) c s1 (fun e => s2 e hpos) s3 (by rw [eR]; exact hD)
      have hle : D.2.2.2.1 ≤ 7 ∧ D.2.2.2.2.1 ≤ 9 ∧ y.2.2.2.2.2.2 2 = nI D.2.2.2.1 ∧ y.2.2.2.2.2.2 3 = nI D.2.2.2.2.1 := by
        obtain ⟨Tr, Du, t1, t2, t3, t4, t5, t6, t7, t8, t9, t10, t11, -⟩ := hD
        exact ⟨t10, t11, t8, t9⟩
      have e1 : pLoop T L (n' + 1) ((-1, 0, A, m), D) = pLoop T L n' (pStep T L ((-1, 0, A, m), D)) := if_pos ⟨rfl, c⟩
      rw [e1, mLp_s (by omega) rfl hsg]
      unfold pStep
      show PFn (pLoop T L n' (((pClause T L (-1, 0, A, m) D).1.1, (pClause T L (-1, 0, A, m) D).1.2.1, sk T L (pClause T L (-1, 0, A, m) D).1.2.2.1, (pClause T L (-1, 0, A, m) D).1.2.2.2), (pClause T L (-1, 0, A, m) D).2)) _
      have hkeep := pClause_D (T := T) (L := L) (z := (-1, 0, A, m)) (D := D)
      generalize pClause T L (-1, 0, A, m) D = pc at hcl hkeep ⊢
      cases er : mClause T L (mStep T L y) D.2.2.2.1 D.2.2.2.2.1 with
      | mk b y2 =>
      rw [er] at hcl
      obtain ⟨⟨fa, w, a2, m2⟩, D2⟩ := pc
      rcases hcl with ⟨q1, q2, q3, q4, q5, q6, q7⟩ | ⟨q1, q2, q3, q4⟩
      · replace q1 : w = 0 := q1
        replace q2 : fa = -1 := q2
        replace q3 : b = true := q3
        replace q4 : a2 = y2.1 := q4
        replace q5 : A < y2.1 := q5
        replace q6 : y2.1 ≤ L := q6
        replace q7 : DRl D2 y2.2.2.2.2.2.2 := q7
        subst q1 q2 q3 q4
        rw [mNx_t (z := mStep T L y) (by rw [eR]; exact hle.2.2.1) (by rw [eR]; exact hle.2.2.2) hle.1 hle.2.1 er rfl rfl]
        have := sk_le T L y2.1
        exact ih n' (f - 1) (sk T L y2.1) m2 D2 y2 (by omega) (by omega) (by omega) rfl (sk_L q6) q6 q7
      · replace q1 : w ≠ 0 := q1
        replace q2 : b = false := q2
        subst q2
        rw [mNx_f (z := mStep T L y) (by rw [eR]; exact hle.2.2.1) (by rw [eR]; exact hle.2.2.2) hle.1 hle.2.1 er rfl, mLp_e (T := T) (L := L) (r := (false, y2)) (Or.inr rfl), pLoop_f (lt := T) (L := L) (s := ((fa, w, sk T L a2, m2), D2)) n' (fun q => absurd q.1 q1)]
        have hDD : D2 = D := hkeep q1
        exact Or.inr ⟨q1, rfl, q3, q4, y.2.2.2.2.2.2, by show DRl D2 _; rw [hDD]; exact hD⟩
    · exact ih n f A m D y (by omega) (by omega) (by omega) hA hL hyL hD
theorem mR0_at {R : Fn} : ∀ n k, k < n → itn (fun k f => upd f k (nI 0)) n R k = nI 0
  | 0, k, h => absurd h (Nat.not_lt_zero _)
  | n + 1, k, h => by
    rw [itn_s]
    by_cases e : k = n
    · subst e; rw [upd_self]
    · rw [upd_ne e, mR0_at n k (by omega)]
theorem parse_sim {T R : Fn} {L m bg fg : Nat} {sg vl wr : Int32} {D : DV} (hL : L ≤ 240) (hT : ∀ i, i < L → ∃ c, c ≤ 255 ∧ T i = nI c) : PFn (pAll T L m D) (mLp T L 500 (true, mStep T L (0, bg, sg, fg, vl, wr, mR0 R))) := by
  unfold pAll
  have z : ∀ k, k < 52 → mR0 R k = nI 0 := fun k hk => mR0_at 52 k hk
  generalize mR0 R = R0 at z ⊢
  refine loop_sim hT 240 240 500 (sk T L 0) m _ _ (by omega) (by omega) (by omega) rfl (sk_L (Nat.zero_le _)) (Nat.zero_le _) ?_
  exact ⟨0, 0, by omega, by omega, rfl, rfl, rfl, z 0 (by omega), z 1 (by omega), z 2 (by omega), z 3 (by omega), Nat.zero_le _, Nat.zero_le _, fun _ => ⟨rfl, rfl⟩, fun i hi => absurd hi (Nat.not_lt_zero _), fun i _ h => z _ (by omega), fun d hd => absurd hd (Nat.not_lt_zero _), fun d _ h => z _ (by omega)⟩
/-! a parish begins -/
theorem itn_add {α : Type} {f : Nat → α → α} {x : α} {a : Nat} : ∀ b, itn f (a + b) x = itn (fun i => f (a + i)) b (itn f a x)
  | 0 => rfl
  | b + 1 => by
    show f (a + b) (itn f (a + b) x) = f (a + b) (itn (fun i => f (a + i)) b (itn f a x))
    rw [itn_add b]
/-- who has the ringed one at first -/
def rrI (g : Fn) (n k : Nat) (d : Int32) : Int32 := itn (fun i x => if g (n - 1 - i) ≤ 0 then x else nI (n - 1 - i)) k d
theorem rr_0 {g : Fn} {np : Nat} {d : Int32} (hnp : np ≤ 7) (hz : ∀ i, np ≤ i → i < 7 → g i = nI 0) : rrI g 7 7 d = rrI g np np d := by
  have e1 : ∀ k, k ≤ 7 - np → rrI g 7 k d = d := by
    intro k
    induction k with
    | zero => intro _; rfl
    | succ k ih =>
      intro hk
      show (if g (7 - 1 - k) ≤ 0 then rrI g 7 k d else nI (7 - 1 - k)) = d
      rw [hz (7 - 1 - k) (by omega) (by omega), if_pos (by decide), ih (by omega)]
  have e2 : rrI g 7 7 d = itn (fun i x => if g (7 - 1 - (7 - np + i)) ≤ 0 then x else nI (7 - 1 - (7 - np + i))) np (rrI g 7 (7 - np) d) := by
    have q := itn_add (f := fun i x => if g (7 - 1 - i) ≤ 0 then x else nI (7 - 1 - i)) (x := d) (a := 7 - np) np
    rw [show 7 - np + np = 7 by omega] at q
    exact q
  rw [e2, e1 (7 - np) (Nat.le_refl _)]
  unfold rrI
  refine itn_cg np (fun i hi x => ?_)
  rw [show 7 - 1 - (7 - np + i) = np - 1 - i by omega]
theorem beg1_at {F : FlockV} {sd tr : Int32} {np : Nat} {bd : Fn} : ∀ n, n ≤ 7 → ∃ b c, itn (fun i => st_beg bd np (6 - i)) n (tr, nI 0, nI 0, if sd = 0 then -1 else -2, fE F, fB F, fK F, fO F, fP F) = (tr, nI 0, nI 0, rrI (fun r => if r < np then bd r else nI 0) 7 n (if sd = 0 then -1 else -2), fE F, b, c, fO F, fP F) ∧ ∀ r, 7 - n ≤ r → r < 7 → b r = (if r < np then bd r else nI 0) ∧ c r = nI 0
  | 0, _ => ⟨fB F, fK F, rfl, fun r h1 h2 => by omega⟩
  | n + 1, hn => by
    obtain ⟨b, c, e, h⟩ := beg1_at (F := F) (sd := sd) (tr := tr) (np := np) (bd := bd) n (by omega)
    rw [itn_s, e]
    refine ⟨upd b (6 - n) (if 6 - n < np then bd (6 - n) else nI 0), upd c (6 - n) (nI 0), ?_, fun r h1 h2 => ?_⟩
    · unfold st_beg
      show (tr, nI 0, nI 0, (if ¬ (if 6 - n < np then bd (6 - n) else nI 0) ≤ 0 then nI (6 - n) else rrI (fun r => if r < np then bd r else nI 0) 7 n (if sd = 0 then -1 else -2)), fE F, upd b (6 - n) (if 6 - n < np then bd (6 - n) else nI 0), upd c (6 - n) (nI 0), fO F, fP F) = _
      have er : rrI (fun r => if r < np then bd r else nI 0) 7 (n + 1) (if sd = 0 then -1 else -2) = (if ¬ (if 6 - n < np then bd (6 - n) else nI 0) ≤ 0 then nI (6 - n) else rrI (fun r => if r < np then bd r else nI 0) 7 n (if sd = 0 then -1 else -2)) := by
        show (if (if 7 - 1 - n < np then bd (7 - 1 - n) else nI 0) ≤ 0 then rrI (fun r => if r < np then bd r else nI 0) 7 n (if sd = 0 then -1 else -2) else nI (7 - 1 - n)) = _
        rw [show 7 - 1 - n = 6 - n by omega]
        by_cases q : (if 6 - n < np then bd (6 - n) else nI 0) ≤ 0
        · have nq : ¬ ¬ (if 6 - n < np then bd (6 - n) else nI 0) ≤ 0 := fun r => r q
          rw [if_pos q, if_neg nq]
        · rw [if_neg q, if_pos q]
      rw [er]
    · by_cases ei : r = 6 - n
      · subst ei; rw [upd_self, upd_self]; exact ⟨rfl, rfl⟩
      · rw [upd_ne ei, upd_ne ei]; exact h r (by omega) h2
theorem ow_at {ow g : Fn} {nd : Nat} : ∀ n d, d < n → itn (st_ow ow nd) n g d = if d < nd then ow d else nI 0
  | 0, d, h => absurd h (Nat.not_lt_zero _)
  | n + 1, d, h => by
    rw [itn_s]
    have ih := fun (q : d < n) => ow_at (ow := ow) (g := g) (nd := nd) n d q
    generalize itn (st_ow ow nd) n g = f at ih
    unfold st_ow
    by_cases e : d = n
    · subst e; rw [upd_self]
    · rw [upd_ne e]; exact ih (by omega)
theorem bg2_at {P W : Fn} {np : Nat} : ∀ n, (∀ i, i ≠ 26 → itn (st_bg P np) n (bgW1 P W) i = bgW1 P W i) ∧ itn (st_bg P np) n (bgW1 P W) 26 = rrI (fun r => P (11 + r)) np n (if P 1 = 0 then -1 else -2)
  | 0 => ⟨fun _ _ => rfl, by show bgW1 P W 26 = _; unfold bgW1; rw [upd_self]; rfl⟩
  | n + 1 => by
    obtain ⟨h1, h2⟩ := bg2_at (P := P) (W := W) (np := np) n
    rw [itn_s]
    generalize itn (st_bg P np) n (bgW1 P W) = f at h1 h2
    unfold st_bg
    refine ⟨fun i hi => by rw [upd_ne hi]; exact h1 i hi, ?_⟩
    rw [upd_self, h2]
    rfl
theorem sN_bd {f : Nat → Nat} {c : Nat} : ∀ n, (∀ i, i < n → f i ≤ c) → sN f n ≤ n * c
  | 0, _ => Nat.zero_le _
  | n + 1, h => by
    have := sN_bd n (fun i hi => h i (by omega))
    have := h n (by omega)
    show sN f n + f n ≤ (n + 1) * c
    rw [Nat.succ_mul]
    omega
theorem FR_begin {D : DV} {P W : Fn} {F : FlockV} (hD : DRl D P) : FR D.2.2.2.1 1 (fl_begin F D.1 D.2.2.1 D.2.2.2.1 D.2.2.2.2.1 D.2.2.2.2.2.2.1 D.2.2.2.2.2.2.2.2.2.2) (bgW P D.2.2.2.1 W) := by
  obtain ⟨sd, du, tr, np, nd, kd, bd, dr, dt, cr, ow⟩ := D
  have hsd := (DRl_sd hD).1
  obtain ⟨Tr, Du, t1, t2, t3, t4, t5, t6, t7, t8, t9, t10, t11, t12, t13, t14, t15, t16⟩ := hD
  simp only at hsd t3 t4 t5 t8 t9 t10 t11 t12 t13 t14 t15 t16 ⊢
  obtain ⟨b, c, e, h⟩ := beg1_at (F := F) (sd := sd) (tr := tr) (np := np) (bd := bd) 7 (Nat.le_refl _)
  -- the row
  obtain ⟨w1, w2⟩ := bg2_at (P := P) (W := W) (np := np) np
  have lo0 : ∀ i, i ≠ 26 → i ≠ 27 → i ≠ 28 → bgW P np W i = bgW0 P W i := fun i a1 a2 a3 => by
    unfold bgW bgW3
    rw [upd_ne a3, upd_ne a2]
    unfold bgW2
    rw [w1 i a1]
    unfold bgW1
    rw [upd_ne a1]
  have z48 : ∀ k, k < 48 → itn (fun k f => upd f k (nI 0)) 48 W k = nI 0 := fun k hk => mR0_at 48 k hk
  have h_hat : ∀ i, i < 7 → bgW0 P W i = P (11 + i) := fun i hi => by
    unfold bgW0
    rw [upd_ne (by omega), cpA_out (by omega)]
    have q := cpA_at (a := P) (b := itn (fun k f => upd f k (nI 0)) 48 W) (i := 11) (j := 0) (n := 7) (k := i) hi
    rw [Nat.zero_add] at q
    exact q
  have h_ow : ∀ d, d < 9 → bgW0 P W (17 + d) = P (43 + d) := fun d hd => by
    unfold bgW0
    rw [upd_ne (by omega)]
    exact cpA_at hd
  have h_z : ∀ i, i < 48 → 7 ≤ i → i ≠ 15 → (i < 17 ∨ 26 ≤ i) → bgW0 P W i = nI 0 := fun i a1 a2 a3 a4 => by
    unfold bgW0
    rw [upd_ne a3, cpA_out (by omega), cpA_out (by omega), z48 i a1]
  have h_tr : bgW0 P W 15 = P 0 := by unfold bgW0; rw [upd_self]
  have hring : rrI (fun r => if r < np then bd r else nI 0) 7 7 (if sd = 0 then -1 else -2) = bgW P np W 26 := by
    have e26 : bgW P np W 26 = rrI (fun r => P (11 + r)) np np (if P 1 = 0 then -1 else -2) := by
      unfold bgW bgW3
      rw [upd_ne (by decide), upd_ne (by decide)]
      exact w2
    rw [e26, rr_0 t10 (fun i a1 _ => if_neg (by omega))]
    have ed : (if sd = 0 then (-1 : Int32) else -2) = (if P 1 = 0 then -1 else -2) := by
      by_cases q : sd = 0
      · rw [if_pos q, if_pos (hsd.mp q)]
      · rw [if_neg q, if_neg (fun r => q (hsd.mpr r))]
    rw [ed]
    unfold rrI
    refine itn_cg np (fun i hi x => ?_)
    obtain ⟨k, n, x', -, -, -, -, -, n1, n2, -⟩ := t13 (np - 1 - i) (by omega)
    show (if (if np - 1 - i < np then bd (np - 1 - i) else nI 0) ≤ 0 then x else nI (np - 1 - i)) = (if P (11 + (np - 1 - i)) ≤ 0 then x else nI (np - 1 - i))
    rw [if_pos (show np - 1 - i < np by omega), n1, n2]
  have h27 : bgW P np W 27 = if sd = 0 then nI 0 else nI 1 := by
    unfold bgW
    rw [upd_ne (by decide)]
    unfold bgW3
    rw [upd_self]
    by_cases q : sd = 0
    · rw [if_pos q, if_pos (hsd.mp q)]
    · rw [if_neg q, if_neg (fun r => q (hsd.mpr r))]
  have h28 : bgW P np W 28 = bgW P np W 26 := by
    have a : bgW P np W 28 = bgW3 P np W 26 := by unfold bgW; rw [upd_self]
    have b : bgW P np W 26 = bgW3 P np W 26 := by unfold bgW; rw [upd_ne (by decide)]
    rw [a, b]
  -- the birds
  have hbn : ∀ i, i < 7 → ∃ n, n ≤ 99 ∧ (if i < np then bd i else nI 0) = nI n ∧ P (11 + i) = nI n ∧ (np ≤ i → n = 0) := fun i hi => by
    by_cases q : i < np
    · obtain ⟨k, n, x', -, n0, -, -, -, n1, n2, -⟩ := t13 i q
      rw [if_pos q]
      exact ⟨n, n0, n1, n2, fun r => by omega⟩
    · rw [if_neg q]
      exact ⟨0, by omega, rfl, t14 i (by omega) hi, fun _ => rfl⟩
  have hbc : ∀ i, i < 7 → (P (11 + i)).toNatClampNeg ≤ 99 ∧ (if i < np then bd i else nI 0) = nI (P (11 + i)).toNatClampNeg ∧ P (11 + i) = nI (P (11 + i)).toNatClampNeg ∧ (np ≤ i → (P (11 + i)).toNatClampNeg = 0) := fun i hi => by
    obtain ⟨n, n0, n1, n2, n3⟩ := hbn i hi
    rw [n2, nI_clamp (by omega)]
    exact ⟨n0, n1, rfl, n3⟩
  have key : ∀ (pe : Int32) (p : Fn), TRl 1 pe p (bgW P np W) → FR np 1 (tr, nI 0, nI 0, rrI (fun r => if r < np then bd r else nI 0) 7 7 (if sd = 0 then -1 else -2), pe, b, c, itn (st_ow ow nd) 9 (fO F), p) (bgW P np W) := fun pe p hp => by
    refine ⟨⟨fun j => if j = 7 then Tr else (P (11 + j)).toNatClampNeg, ?_, fun i a1 a2 => ?_, fun j hj => ?_⟩, fun i hi => ?_, ?_, ⟨0, by omega, rfl, ?_⟩, fun d hd => ?_, hring, hp⟩
    · have q := sN_bd (f := fun j => if j = 7 then Tr else (P (11 + j)).toNatClampNeg) (c := 99) 7 (fun i hi => by show (if i = 7 then Tr else (P (11 + i)).toNatClampNeg) ≤ 99; rw [if_neg (by omega)]; exact (hbc i hi).1)
      show sN _ 7 + (if 7 = 7 then Tr else _) ≤ 2000
      rw [if_pos rfl]
      omega
    · show (if i = 7 then Tr else _) = 0
      rw [if_neg (by omega)]
      exact (hbc i a2).2.2.2 a1
    · show (if j = 7 then tr else b j) = nI (if j = 7 then Tr else _) ∧ bgW P np W (rx j) = nI (if j = 7 then Tr else _)
      by_cases q : j = 7
      · subst q
        rw [if_pos rfl, if_pos rfl]
        refine ⟨t5, ?_⟩
        show bgW P np W 15 = _
        rw [lo0 15 (by omega) (by omega) (by omega), h_tr, t6]
      · rw [if_neg q, if_neg q, (h j (by omega) (by omega)).1, rx_lt (by omega), lo0 j (by omega) (by omega) (by omega), h_hat j (by omega)]
        exact ⟨(hbc j (by omega)).2.1, (hbc j (by omega)).2.2.1⟩
    · show c i = _ ∧ _
      rw [(h i (by omega) hi).2, lo0 _ (by omega) (by omega) (by omega), h_z _ (by omega) (by omega) (by omega) (by omega)]
      exact ⟨rfl, fun _ => rfl⟩
    · show nI 0 = _
      rw [lo0 _ (by omega) (by omega) (by omega), h_z _ (by omega) (by omega) (by omega) (by omega)]
    · rw [lo0 _ (by omega) (by omega) (by omega), h_z _ (by omega) (by omega) (by omega) (by omega)]
    · show ∃ w, w ≤ 99 ∧ itn (st_ow ow nd) 9 (fO F) d = nI w ∧ _
      rw [ow_at 9 d hd, lo0 _ (by omega) (by omega) (by omega), h_ow d hd]
      by_cases q : d < nd
      · obtain ⟨a, c', n, -, -, n0, -, -, -, -, n1, n2⟩ := t15 d q
        rw [if_pos q]
        exact ⟨n, n0, n1, n2⟩
      · rw [if_neg q]
        exact ⟨0, by omega, rfl, t16 d (by omega) hd⟩
  have e1 : fl_beg2 (fl_beg1 F sd tr np bd) nd ow = (tr, nI 0, nI 0, rrI (fun r => if r < np then bd r else nI 0) 7 7 (if sd = 0 then -1 else -2), nI 0, b, c, itn (st_ow ow nd) 9 (fO F), fP F) := by
    unfold fl_beg2 fl_beg1
    rw [e]
  unfold fl_begin
  rw [e1]
  by_cases q : sd = 0
  · rw [if_pos q]
    refine key (nI 0) (fP F) ⟨0, rfl, by omega, by rw [h27, if_pos q]; rfl, fun k hk => absurd hk (Nat.not_lt_zero _)⟩
  · rw [if_neg q]
    refine key (nI 0 + nI 1) (upd (fP F) (fmI (nI 0) (nI 20)).toNatClampNeg (rrI (fun r => if r < np then bd r else nI 0) 7 7 (if sd = 0 then -1 else -2))) ⟨1, by rw [nI_add], by omega, by rw [h27, if_neg q]; rfl, fun k hk => ?_⟩
    have hk0 : k = 0 := by have : k < 1 := hk; omega
    subst hk0
    rw [fm_n (by decide), nI_clamp (by decide)]
    show bgW P np W 28 = upd (fP F) 0 _ 0
    rw [upd_self, h28, hring]
