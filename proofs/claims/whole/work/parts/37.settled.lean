/-! rows of debts, in ints -/
theorem ti_add {x y : Int32} (h1 : -2147483648 ≤ x.toInt + y.toInt) (h2 : x.toInt + y.toInt < 2147483648) : (x + y).toInt = x.toInt + y.toInt := by
  rw [Int32.toInt_add]
  exact Int.bmod_eq_of_le (by omega) (by omega)
theorem ti_sub {x y : Int32} (h1 : -2147483648 ≤ x.toInt - y.toInt) (h2 : x.toInt - y.toInt < 2147483648) : (x - y).toInt = x.toInt - y.toInt := by
  rw [Int32.toInt_sub]
  exact Int.bmod_eq_of_le (by omega) (by omega)
/-- debts and hats of both sides -/
def DbR (np nd : Nat) (dt cr o b P W : Fn) : Prop := np ≤ 7 ∧ nd ≤ 9 ∧ dbL np nd dt P 25 ∧ dbL np nd cr P 34 ∧ ORl o W ∧ ∀ i, i < 7 → ∃ n, n ≤ 2000 ∧ b i = nI n ∧ W i = nI n
/-- what is in p's hat where S is paid -/
def hV (P W : Fn) (nd S p : Nat) : Int32 := itn (st_mp P W (nI p) S) nd (W p)
theorem fill_at {np nd : Nat} {dt cr o b P W h : Fn} (hD : DbR np nd dt cr o b P W) {p S : Nat} (hp : p < 7) : ∀ k, k ≤ nd → itn (st_fill dt cr o S) k (va_cpy b h 0 0 7) p = itn (st_mp P W (nI p) S) k (W p)
  | 0, _ => by
    obtain ⟨-, -, -, -, -, hb⟩ := hD
    obtain ⟨n, -, e1, e2⟩ := hb p hp
    rw [itn_0, itn_0, pk_cpy_in (by omega) (by omega), show 0 + (p - 0) = p by omega, e1, e2]
  | k + 1, hk => by
    have ih := fill_at hD (h := h) (S := S) hp k (by omega)
    obtain ⟨hnp, hnd, hdt, hcr, hO, -⟩ := hD
    obtain ⟨a, a1, a2, a3⟩ := hdt k (by omega)
    obtain ⟨c, c1, c2, c3⟩ := hcr k (by omega)
    obtain ⟨w, -, w1, w2⟩ := hO k (by omega)
    rw [itn_s, itn_s, ← ih]
    generalize itn (st_fill dt cr o S) k (va_cpy b h 0 0 7) = g
    unfold st_fill st_mp
    rw [a2, a3, c2, c3, w1, w2, nI_clamp (by omega), nI_clamp (by omega)]
    by_cases q : hasB (nI S) (nI k) = true
    · rw [if_pos q, if_pos q]
      by_cases pc : p = c
      · subst pc
        rw [upd_self, if_pos rfl]
        by_cases pa : p = a
        · subst pa
          rw [upd_self, if_pos rfl, Int32.sub_add_cancel, Int32.add_sub_cancel]
        · rw [upd_ne pa, if_neg (fun r => pa ((nI_eq (by omega) (by omega)).mp r).symm), nI_0, Int32.sub_zero]
      · rw [upd_ne pc, if_neg (fun r => pc ((nI_eq (by omega) (by omega)).mp r).symm)]
        by_cases pa : p = a
        · subst pa
          rw [upd_self, if_pos rfl, nI_0, Int32.add_zero]
        · rw [upd_ne pa, if_neg (fun r => pa ((nI_eq (by omega) (by omega)).mp r).symm), nI_0, Int32.add_zero, Int32.sub_zero]
    · rw [if_neg q, if_neg q]
theorem mp_b {np nd : Nat} {dt cr o b P W : Fn} (hD : DbR np nd dt cr o b P W) {S : Nat} (x p : Int32) (hx : -100000 ≤ x.toInt) (hx2 : x.toInt ≤ 100000) : ∀ k, k ≤ nd → x.toInt - 99 * k ≤ (itn (st_mp P W p S) k x).toInt ∧ (itn (st_mp P W p S) k x).toInt ≤ x.toInt + 99 * k
  | 0, _ => by rw [itn_0]; omega
  | k + 1, hk => by
    have ih := mp_b hD (S := S) x p hx hx2 k (by omega)
    obtain ⟨hnp, hnd, hdt, hcr, hO, -⟩ := hD
    obtain ⟨w, w0, -, w2⟩ := hO k (by omega)
    rw [itn_s]
    generalize itn (st_mp P W p S) k x = y at ih
    unfold st_mp
    rw [w2]
    have e0 : (nI 0).toInt = 0 := by decide
    have ew := nI_toInt (n := w) (by omega)
    have hu : ∀ c : Prop, [Decidable c] → 0 ≤ (if c then nI w else nI 0).toInt ∧ (if c then nI w else nI 0).toInt ≤ 99 := fun c _ => by
      split
      · rw [ew]; omega
      · rw [e0]; omega
    by_cases q : hasB (nI S) (nI k) = true
    · rw [if_pos q]
      have u1 := hu (P (34 + k) = p)
      have u2 := hu (P (25 + k) = p)
      generalize (if P (34 + k) = p then nI w else nI 0) = u at u1 ⊢
      generalize (if P (25 + k) = p then nI w else nI 0) = v at u2 ⊢
      have a1 := ti_add (x := y) (y := u) (by omega) (by omega)
      have a2 := ti_sub (x := y + u) (y := v) (by omega) (by omega)
      rw [a2, a1]
      omega
    · rw [if_neg q]; omega
theorem mp_sh {P W : Fn} {S : Nat} {x y p : Int32} : ∀ k, itn (st_mp P W p S) k (x + y) = itn (st_mp P W p S) k x + y
  | 0 => rfl
  | k + 1 => by
    rw [itn_s, itn_s, mp_sh k]
    generalize itn (st_mp P W p S) k x = z
    unfold st_mp
    split
    · rw [Int32.sub_eq_add_neg, Int32.sub_eq_add_neg]
      generalize (if P (34 + k) = p then W (17 + k) else nI 0) = u
      generalize -(if P (25 + k) = p then W (17 + k) else nI 0) = v
      rw [Int32.add_assoc z y u, Int32.add_comm y u, ← Int32.add_assoc z u y, Int32.add_assoc (z + u) y v, Int32.add_comm y v, ← Int32.add_assoc]
    · rfl
theorem hV_b {np nd : Nat} {dt cr o b P W : Fn} (hD : DbR np nd dt cr o b P W) {S p : Nat} (hp : p < 7) : -1000 ≤ (hV P W nd S p).toInt ∧ (hV P W nd S p).toInt ≤ 3000 := by
  obtain ⟨n, n1, -, n3⟩ := hD.2.2.2.2.2 p hp
  have e : (W p).toInt = n := by rw [n3]; exact nI_toInt (by omega)
  have h := mp_b hD (S := S) (W p) (nI p) (by omega) (by omega) nd (Nat.le_refl _)
  have := hD.2.1
  unfold hV
  omega
/-- what a debt lacks where S is paid -/
def lkZ (dt o P W : Fn) (nd S d : Nat) : Int := (o d).toInt - (hV P W nd S (clp dt d)).toInt
theorem lk_b {np nd : Nat} {dt cr o b P W : Fn} (hD : DbR np nd dt cr o b P W) {S d : Nat} (hd : d < nd) : (o d - hV P W nd S (clp dt d)).toInt = lkZ dt o P W nd S d ∧ lkZ dt o P W nd S d ≤ 2000 ∧ -4000 ≤ lkZ dt o P W nd S d := by
  have hc := (dbL_c hD.1 hD.2.2.1 hd).1
  have hb := hV_b hD (S := S) (p := clp dt d) (by have := hD.1; omega)
  obtain ⟨w, w0, w1, -⟩ := hD.2.2.2.2.1 d (by have := hD.2.1; omega)
  have e : (o d).toInt = w := by rw [w1]; exact nI_toInt (by omega)
  have q := ti_sub (x := o d) (y := hV P W nd S (clp dt d)) (by omega) (by omega)
  unfold lkZ
  omega
def okS (dt o P W : Fn) (nd S d : Nat) : Bool := !(S.testBit d) && (lvB o d && decide (lkZ dt o P W nd S d ≤ 0))
/-- with m birds more in a's hat -/
def okM (dt o P W : Fn) (nd a m S d : Nat) : Bool := !(S.testBit d) && (lvB o d && decide (lkZ dt o P W nd S d ≤ (if clp dt d = a then (m : Int) else 0)))
theorem ok_t {S d : Nat} {u : Bool} (h : (!(S.testBit d) && u) = true) : S.testBit d = false := by
  rw [Bool.and_eq_true, Bool.not_eq_true'] at h
  exact h.1
/-- what the other side asks of a debt -/
theorem mp_ok {np nd : Nat} {dt cr o b P W : Fn} (hD : DbR np nd dt cr o b P W) {S d m : Nat} {a : Int32} (hS : S < 512) (hd : d < nd) (hm : m ≤ 999) : (hasB (nI S) (nI d) = false ∧ oweB W d = true ∧ mpM P W S d a (nI m) nd = true) ↔ (!(S.testBit d) && (lvB o d && decide (lkZ dt o P W nd S d ≤ (if dt d = a then (m : Int) else 0)))) = true := by
  obtain ⟨c1, c2, c3⟩ := dbL_c hD.1 hD.2.2.1 hd
  have hnp := hD.1
  have hnd := hD.2.1
  obtain ⟨w, w0, w1, w2⟩ := hD.2.2.2.2.1 d (by omega)
  have hb := hV_b hD (S := S) (p := clp dt d) (by omega)
  rw [hasB_n (by omega) (by omega), Bool.and_eq_true, Bool.and_eq_true, Bool.not_eq_true', decide_eq_true_iff]
  have elv : oweB W d = lvB o d := by unfold oweB lvB; rw [w1, w2]
  rw [elv]
  have key : mpM P W S d a (nI m) nd = true ↔ lkZ dt o P W nd S d ≤ (if dt d = a then (m : Int) else 0) := by
    unfold mpM lkZ
    rw [decide_eq_true_iff, c3, nI_add, Nat.zero_add, nI_clamp (by omega), mp_sh, c2, w1, w2]
    change ¬ hV P W nd S (clp dt d) + _ < _ ↔ _
    have em := nI_toInt (n := m) (by omega)
    have e0 : (nI 0).toInt = 0 := by decide
    have ew := nI_toInt (n := w) (by omega)
    rw [Int32.lt_iff_toInt_lt]
    by_cases c : nI (clp dt d) = a
    · rw [if_pos c, if_pos c]
      have := ti_add (x := hV P W nd S (clp dt d)) (y := nI m) (by omega) (by omega)
      omega
    · rw [if_neg c, if_neg c, nI_0, Int32.add_zero]
      omega
  exact and_congr_right (fun _ => and_congr_right (fun _ => key))
theorem mp_okS {np nd : Nat} {dt cr o b P W : Fn} (hD : DbR np nd dt cr o b P W) {S d : Nat} (hS : S < 512) (hd : d < nd) : (hasB (nI S) (nI d) = false ∧ oweB W d = true ∧ mpM P W S d (-1) (nI 0) nd = true) ↔ okS dt o P W nd S d = true := by
  rw [mp_ok hD hS hd (by omega)]
  have e : (if dt d = -1 then ((0 : Nat) : Int) else 0) = 0 := by split <;> rfl
  rw [e]
  rfl
theorem mp_okM {np nd : Nat} {dt cr o b P W : Fn} (hD : DbR np nd dt cr o b P W) {S d a m : Nat} (hS : S < 512) (hd : d < nd) (hm : m ≤ 999) (ha : a < np) : (hasB (nI S) (nI d) = false ∧ oweB W d = true ∧ mpM P W S d (nI a) (nI m) nd = true) ↔ okM dt o P W nd a m S d = true := by
  obtain ⟨c1, c2, c3⟩ := dbL_c hD.1 hD.2.2.1 hd
  rw [mp_ok hD hS hd hm]
  have e : (dt d = nI a) ↔ clp dt d = a := by rw [c2, nI_eq (by have := hD.1; omega) (by have := hD.1; omega)]
  unfold okM
  by_cases c : clp dt d = a
  · rw [if_pos c, if_pos (e.mpr c)]
  · rw [if_neg c, if_neg (fun q => c (e.mp q))]
/-! the table of how many more, on the other side -/
theorem can_1 {nd : Nat} {ok : Nat → Nat → Bool} {C : Fn} {s : Nat} {g : Nat → Int32 → Int32} (hg : ∀ d, d < nd → ∀ v, g d v = if ok s d = true ∧ ¬ C (s ||| 2 ^ d) < v then C (s ||| 2 ^ d) + nI 1 else v) (hC : ∀ d, d < nd → ok s d = true → ∃ y, y ≤ 9 ∧ C (s ||| 2 ^ d) = nI y) : ∀ k, k ≤ nd → ∃ x, x ≤ 10 ∧ itn g k (nI 0) = nI x ∧ (x = 0 ∨ ∃ d y, d < k ∧ ok s d = true ∧ C (s ||| 2 ^ d) = nI y ∧ y ≤ 9 ∧ x = y + 1) ∧ ∀ d y, d < k → ok s d = true → y ≤ 9 → C (s ||| 2 ^ d) = nI y → y + 1 ≤ x
  | 0, _ => ⟨0, by omega, rfl, Or.inl rfl, fun d y h => absurd h (Nat.not_lt_zero _)⟩
  | k + 1, hk => by
    obtain ⟨x, x1, x2, x3, x4⟩ := can_1 hg hC k (by omega)
    rw [itn_s, x2, hg k (by omega)]
    by_cases c : ok s k = true
    · obtain ⟨y, y1, y2⟩ := hC k (by omega) c
      by_cases c2 : C (s ||| 2 ^ k) < nI x
      · rw [if_neg (fun q => q.2 c2)]
        rw [y2, nI_ltI (by omega) (by omega)] at c2
        refine ⟨x, x1, rfl, ?_, fun d z d1 d2 d3 d4 => ?_⟩
        · rcases x3 with q | ⟨d, z, d1, d2, d3, d4, d5⟩
          · exact Or.inl q
          · exact Or.inr ⟨d, z, by omega, d2, d3, d4, d5⟩
        · by_cases e : d = k
          · subst e
            rw [y2, nI_eq (by omega) (by omega)] at d4
            omega
          · exact x4 d z (by omega) d2 d3 d4
      · rw [if_pos ⟨c, c2⟩, y2, nI_add]
        rw [y2, nI_ltI (by omega) (by omega)] at c2
        refine ⟨y + 1, by omega, rfl, Or.inr ⟨k, y, by omega, c, y2, y1, rfl⟩, fun d z d1 d2 d3 d4 => ?_⟩
        by_cases e : d = k
        · subst e
          rw [y2, nI_eq (by omega) (by omega)] at d4
          omega
        · have := x4 d z (by omega) d2 d3 d4
          omega
    · rw [if_neg (fun q => c q.1)]
      refine ⟨x, x1, rfl, ?_, fun d z d1 d2 d3 d4 => ?_⟩
      · rcases x3 with q | ⟨d, z, d1, d2, d3, d4, d5⟩
        · exact Or.inl q
        · exact Or.inr ⟨d, z, by omega, d2, d3, d4, d5⟩
      · by_cases e : d = k
        · subst e; exact absurd d2 c
        · exact x4 d z (by omega) d2 d3 d4
theorem can_2 {nd : Nat} (hnd : nd ≤ 9) {ok : Nat → Nat → Bool} (hok : ∀ T d, ok T d = true → T.testBit d = false) {C : Fn} (G : Nat → Nat → Int32 → Int32) (hg : ∀ s, s < 2 ^ nd → ∀ d, d < nd → ∀ v, G s d v = if ok s d = true ∧ ¬ C (s ||| 2 ^ d) < v then C (s ||| 2 ^ d) + nI 1 else v) (hC : ∀ s, s < 2 ^ nd → C s = itn (G s) nd (nI 0)) : ∀ k s, s < 2 ^ nd → 2 ^ nd ≤ s + k → ∃ c, C s = nI c ∧ maxC nd ok s c
  | 0, s, h1, h2 => by omega
  | k + 1, s, h1, h2 => by
    have ih : ∀ d, d < nd → ok s d = true → ∃ c, C (s ||| 2 ^ d) = nI c ∧ maxC nd ok (s ||| 2 ^ d) c := fun d hd hk => by
      have := or_gt (hok s d hk)
      exact can_2 hnd hok G hg hC k _ (or_in h1 hd) (by omega)
    obtain ⟨x, x1, x2, x3, x4⟩ := can_1 (g := G s) (hg s h1) (fun d hd hk => by obtain ⟨c, a, b⟩ := ih d hd hk; exact ⟨c, b.1, a⟩) nd (Nat.le_refl _)
    have hx : ∃ v, Con nd ok x s v := by
      rcases x3 with q | ⟨d, y, d1, d2, d3, d4, d5⟩
      · subst q; exact ⟨0, rfl⟩
      · obtain ⟨c, a, b⟩ := ih d d1 d2
        have e : c = y := by rw [d3, nI_eq (by omega) (by have := b.1; omega)] at a; exact a.symm
        subst e
        obtain ⟨v, hv⟩ := b.2.1
        rw [d5]
        exact ⟨_, d, v, d1, d2, hv, rfl⟩
    refine ⟨x, by rw [hC s h1, x2], ?_, hx, fun n v hv => ?_⟩
    · obtain ⟨v, hv⟩ := hx
      have := Con_pc hnd hok x s v hv
      omega
    · cases n with
      | zero => omega
      | succ n =>
        obtain ⟨d, w, d1, d2, d3, -⟩ := hv
        obtain ⟨c, a, b⟩ := ih d d1 d2
        have := b.2.2 n w d3
        have := x4 d c d1 d2 b.1 a
        omega
/-- what stands in the other side's table -/
theorem can_S {np nd : Nat} {dt cr o b P W : Fn} (hD : DbR np nd dt cr o b P W) (xC : Fn) {s : Nat} (hs : s < 2 ^ nd) : ∃ c, ldM P W (-1) (nI 0) nd xC s = nI c ∧ maxC nd (okS dt o P W nd) s c := by
  refine can_2 (ok := okS dt o P W nd) hD.2.1 (fun T d h => ok_t h) (fun s => st_lv P W (ldM P W (-1) (nI 0) nd xC) s (-1) (nI 0) nd) (fun s hs d hd v => ?_) (fun s hs => ldM_eq hD.2.1 hs xC) (2 ^ nd) s hs (by omega)
  have q := mp_okS hD (S := s) (d := d) (Nat.lt_of_lt_of_le hs (pow9 hD.2.1)) hd
  unfold st_lv
  by_cases c : okS dt o P W nd s d = true ∧ ¬ ldM P W (-1) (nI 0) nd xC (s ||| 2 ^ d) < v
  · have r := q.mpr c.1
    rw [if_pos c, if_pos ⟨r.1, r.2.1, c.2, r.2.2⟩]
  · rw [if_neg c, if_neg (fun r => c ⟨q.mp ⟨r.1, r.2.1, r.2.2.2⟩, r.2.2.1⟩)]
theorem can_M {np nd : Nat} {dt cr o b P W : Fn} (hD : DbR np nd dt cr o b P W) (xC : Fn) {a m : Nat} (ha : a < np) (hm : m ≤ 999) {s : Nat} (hs : s < 2 ^ nd) : ∃ c, ldM P W (nI a) (nI m) nd xC s = nI c ∧ maxC nd (okM dt o P W nd a m) s c := by
  refine can_2 (ok := okM dt o P W nd a m) hD.2.1 (fun T d h => ok_t h) (fun s => st_lv P W (ldM P W (nI a) (nI m) nd xC) s (nI a) (nI m) nd) (fun s hs d hd v => ?_) (fun s hs => ldM_eq hD.2.1 hs xC) (2 ^ nd) s hs (by omega)
  have q := mp_okM hD (S := s) (d := d) (Nat.lt_of_lt_of_le hs (pow9 hD.2.1)) hd hm ha
  unfold st_lv
  by_cases c : okM dt o P W nd a m s d = true ∧ ¬ ldM P W (nI a) (nI m) nd xC (s ||| 2 ^ d) < v
  · have r := q.mpr c.1
    rw [if_pos c, if_pos ⟨r.1, r.2.1, c.2, r.2.2⟩]
  · rw [if_neg c, if_neg (fun r => c ⟨q.mp ⟨r.1, r.2.1, r.2.2.2⟩, r.2.2.1⟩)]
theorem fd_spec {ok : Nat → Bool} : ∀ f d, (∃ e, d ≤ e ∧ e < d + f ∧ ok e = true) → ok (fdN ok f d) = true ∧ d ≤ fdN ok f d ∧ ∀ x, d ≤ x → x < fdN ok f d → ¬ ok x = true
  | 0, d, h => by obtain ⟨e, h1, h2, -⟩ := h; omega
  | f + 1, d, h => by
    by_cases c : ok d = true
    · rw [fdN_t c]
      exact ⟨c, Nat.le_refl _, fun x h1 h2 => by omega⟩
    · rw [fdN_f c]
      obtain ⟨e, h1, h2, h3⟩ := h
      have hne : e ≠ d := fun q => c (by rw [← q]; exact h3)
      obtain ⟨a1, a2, a3⟩ := fd_spec (ok := ok) f (d + 1) ⟨e, by omega, by omega, h3⟩
      refine ⟨a1, by omega, fun x b1 b2 => ?_⟩
      by_cases q : x = d
      · subst q; exact c
      · exact a3 x (by omega) b2
/-- the other side's row is the least -/
theorem gr_min {np nd : Nat} {dt cr o b P W : Fn} (hD : DbR np nd dt cr o b P W) (xC : Fn) : ∀ f s c r, s < 2 ^ nd → c ≤ f → ldM P W (-1) (nI 0) nd xC s = nI c → maxC nd (okS dt o P W nd) s c → ∃ v, grN P W (ldM P W (-1) (nI 0) nd xC) nd f (nI r) s = nI (r * 10 ^ c + v) ∧ Con nd (okS dt o P W nd) c s v ∧ ∀ u, Con nd (okS dt o P W nd) c s u → v ≤ u
  | f, s, 0, r, hs, hf, h1, h2 => by
    refine ⟨0, ?_, rfl, fun u _ => Nat.zero_le _⟩
    rw [grN_0 (by rw [h1]; decide), Nat.pow_zero, Nat.mul_one]
    rfl
  | 0, s, c + 1, r, hs, hf, h1, h2 => by omega
  | f + 1, s, c + 1, r, hs, hf, h1, h2 => by
    have hcan := fun s (hs : s < 2 ^ nd) => can_S hD xC hs
    let cc : Nat → Nat := fun s => (ldM P W (-1) (nI 0) nd xC s).toNatClampNeg
    have hcc : ∀ s, s < 2 ^ nd → ldM P W (-1) (nI 0) nd xC s = nI (cc s) ∧ maxC nd (okS dt o P W nd) s (cc s) := fun s hs => by
      obtain ⟨x, x1, x2⟩ := hcan s hs
      have e : cc s = x := by show (ldM P W (-1) (nI 0) nd xC s).toNatClampNeg = x; rw [x1, nI_clamp (by have := x2.1; omega)]
      rw [e]
      exact ⟨x1, x2⟩
    have h512 := pow9 hD.2.1
    have es : cc s = c + 1 := by show (ldM P W (-1) (nI 0) nd xC s).toNatClampNeg = c + 1; rw [h1, nI_clamp (by have := h2.1; omega)]
    have hok : ∀ d, d < nd → (okG P W (ldM P W (-1) (nI 0) nd xC) nd s d = true ↔ firC nd (okS dt o P W nd) cc s d) := fun d hd => by
      have q := mp_okS hD (S := s) (d := d) (by omega) hd
      unfold okG firC
      rw [decide_eq_true_iff]
      constructor
      · rintro ⟨a1, a2, a3, a4⟩
        have k := q.mp ⟨a1, a2, a4⟩
        have hn := hcc (s ||| 2 ^ d) (or_in hs hd)
        have hb := hn.2.1
        refine ⟨hd, k, ?_⟩
        rw [hn.1, h1, nI_add, nI_eq (by omega) (by have := h2.1; omega)] at a3
        omega
      · rintro ⟨-, a2, a3⟩
        have k := q.mpr a2
        have hn := hcc (s ||| 2 ^ d) (or_in hs hd)
        exact ⟨k.1, k.2.1, by rw [hn.1, h1, nI_add]; congr 1; omega, k.2.2⟩
    obtain ⟨d0, hd0⟩ := fir_ex hs (fun s hs => (hcc s hs).2) (by omega)
    obtain ⟨f1, -, f3⟩ := fd_spec (ok := okG P W (ldM P W (-1) (nI 0) nd xC) nd s) 9 0 ⟨d0, Nat.zero_le _, by have := hd0.1; have := hD.2.1; omega, (hok d0 hd0.1).mpr hd0⟩
    have hle : fdN (okG P W (ldM P W (-1) (nI 0) nd xC) nd s) 9 0 ≤ d0 := by
      rcases Nat.lt_or_ge d0 (fdN (okG P W (ldM P W (-1) (nI 0) nd xC) nd s) 9 0) with q | q
      · exact absurd ((hok d0 hd0.1).mpr hd0) (f3 d0 (Nat.zero_le _) q)
      · exact q
    have hd0l := hd0.1
    show ∃ v, (if ldM P W (-1) (nI 0) nd xC s ≤ 0 then nI r else grN P W (ldM P W (-1) (nI 0) nd xC) nd f (nI 10 * nI r + nI (fdN (okG P W (ldM P W (-1) (nI 0) nd xC) nd s) 9 0) + nI 1) (s ||| 2 ^ fdN (okG P W (ldM P W (-1) (nI 0) nd xC) nd s) 9 0)) = nI (r * 10 ^ (c + 1) + v) ∧ _
    generalize fdN (okG P W (ldM P W (-1) (nI 0) nd xC) nd s) 9 0 = d at f1 f3 hle ⊢
    have hdn : d < nd := by omega
    have hfir := (hok d hdn).mp f1
    have hn := hcc (s ||| 2 ^ d) (or_in hs hdn)
    have ec : cc (s ||| 2 ^ d) = c := by have := hfir.2.2; omega
    rw [ec] at hn
    obtain ⟨w, w1, w2, w3⟩ := gr_min hD xC f (s ||| 2 ^ d) c (10 * r + d + 1) (or_in hs hdn) (by omega) hn.1 hn.2
    have hm := fir_min hD.2.1 (fun s hs => (hcc s hs).2) hs hfir (fun x hx => fun q => f3 x (Nat.zero_le _) hx ((hok x (by omega)).mpr q)) (w := w) (by rw [ec]; exact w2) (by rw [ec]; exact w3)
    rw [ec, es] at hm
    refine ⟨(d + 1) * 10 ^ c + w, ?_, hm.1, hm.2⟩
    rw [if_neg (by rw [h1]; exact nI_nle (by omega) (by have := h2.1; omega)), pk_mul, nI_add, nI_add, w1]
    congr 1
    rw [Nat.pow_succ, Nat.add_assoc (10 * r), Nat.add_mul, Nat.mul_comm 10 r, Nat.mul_assoc, Nat.mul_comm 10, Nat.add_assoc]
