/-! rows of debts and floats: the tables of sets -/
def encI : Nat → Int32
  | 0 => -1
  | n + 1 => nI n
def TbL (be : Fn) (t : Nat → Nat) : Prop := ∀ S, S < 512 → be S = encI (t S) ∧ t S < 2000000000
theorem offL {be : Fn} {t : Nat → Nat} {S v : Nat} (h : TbL be t) (hS : S < 512) (hv : v < 1999999999) : TbL (offerB be S (nI v)) (offN t S v) := by
  obtain ⟨h1, h2⟩ := h S hS
  have key : (be S = -1 ∨ nI v < be S) ↔ (t S = 0 ∨ v + 1 < t S) := by
    rw [h1]
    cases e : t S with
    | zero => exact ⟨fun _ => Or.inl rfl, fun _ => Or.inl rfl⟩
    | succ k =>
      rw [e] at h2
      show (nI k = -1 ∨ nI v < nI k) ↔ _
      rw [nI_ltI (by omega) (by omega)]
      refine ⟨fun q => ?_, fun q => ?_⟩
      · rcases q with q | q
        · exact absurd q (nI_m1 (by omega))
        · exact Or.inr (by omega)
      · rcases q with q | q
        · omega
        · exact Or.inr (by omega)
  unfold offerB offN
  intro X hX
  by_cases c : t S = 0 ∨ v + 1 < t S
  · rw [if_pos c, if_pos (key.mpr c)]
    by_cases e : X = S
    · subst e; rw [upd_self, upN_s]; exact ⟨rfl, by omega⟩
    · rw [upd_ne e, upN_n e]; exact h X hX
  · rw [if_neg c, if_neg (fun q => c (key.mp q))]; exact h X hX
theorem inL {nd p q : Nat} {ok : Nat → Nat → Bool} {val : Nat → Nat → Nat → Nat} {be : Fn} {t : Nat → Nat} {g : Nat → Fn → Fn} (hnd : nd ≤ 9) (hp : p < 2 ^ nd) (hg : ∀ d, d < nd → ∀ f, g d f = if ok p d = true then offerB f (p ||| 2 ^ d) (nI (val p d q)) else f) (hv : ∀ d, d < nd → ok p d = true → val p d q < 1999999999) (h : TbL be t) : ∀ n, n ≤ nd → TbL (itn g n be) (itn (dpD ok val p q) n t)
  | 0, _ => h
  | n + 1, hn => by
    have ih := inL hnd hp hg hv h n (by omega)
    rw [itn_s, itn_s, hg n (by omega)]
    unfold dpD at ih ⊢
    by_cases c : ok p n = true
    · rw [if_pos c, if_pos c]
      exact offL ih (orlt hp (by omega) hnd) (hv n (by omega) c)
    · rw [if_neg c, if_neg c]; exact ih
theorem fill_m1 {be : Fn} : ∀ n S, itn (fun i f => upd f i (-1)) n be S = if S < n then -1 else be S
  | 0, S => rfl
  | n + 1, S => by
    rw [itn_s]
    by_cases e : S = n
    · subst e; rw [upd_self, if_pos (by omega)]
    · rw [upd_ne e, fill_m1 n S]
      by_cases q : S < n
      · rw [if_pos q, if_pos (by omega)]
      · rw [if_neg q, if_neg (by omega)]
theorem setsL (be : Fn) : TbL (sets0 be) t0N := by
  intro S hS
  unfold sets0 t0N
  by_cases e : S = 0
  · subst e; rw [upd_self, if_pos rfl]; exact ⟨rfl, by decide⟩
  · rw [upd_ne e, if_neg e, fill_m1, if_pos hS]; exact ⟨rfl, by decide⟩
set_option maxRecDepth 100000 in
theorem bc_pc : ∀ i, i < 512 → bcI (nI i) = nI (pc9 i) := by decide +kernel
theorem Ch_lt {nd : Nat} (hnd : nd ≤ 9) {ok : Nat → Nat → Bool} : ∀ n S r, Chn nd ok v10 n S r → r < 10 ^ n
  | 0, S, r, h => by rw [h.2]; exact Nat.one_pos
  | n + 1, S, r, h => by
    obtain ⟨T, q, d, h1, h2, -, -, rfl⟩ := h
    have := Ch_lt hnd n T q h1
    unfold v10
    rw [Nat.pow_succ]
    omega
theorem Ch_lt9 {nd : Nat} (hnd : nd ≤ 9) {ok : Nat → Nat → Bool} (hok : ∀ T d, ok T d = true → T.testBit d = false) {n S r : Nat} (h : Chn nd ok v10 n S r) : n ≤ 9 ∧ r < 1000000000 := by
  have a := (Chn_pc hnd hok n S r h).1
  have b := pc_le S
  have c := Ch_lt hnd n S r h
  have d : 10 ^ n ≤ 10 ^ 9 := Nat.pow_le_pow_right (by decide) (by omega)
  exact ⟨by omega, by omega⟩
theorem okS_b {dt o P W : Fn} {nd T d : Nat} (h : okS dt o P W nd T d = true) : T.testBit d = false := ok_t h
theorem v10_m (T d q q2 : Nat) (h : q ≤ q2) : v10 T d q ≤ v10 T d q2 := by unfold v10; omega
/-- a condition that the class asks -/
theorem op_lk {np nd : Nat} {dt cr o b P W h : Fn} (hD : DbR np nd dt cr o b P W) {p d : Nat} (hp : p < 512) (hd : d < nd) : (opB o p d = true ↔ (p.testBit d = false ∧ lvB o d = true)) ∧ fillH dt cr o b p nd h (dt d).toNatClampNeg = hV P W nd p (clp dt d) ∧ (hV P W nd p (clp dt d) < o d ↔ ¬ lkZ dt o P W nd p d ≤ 0) := by
  have hnp := hD.1
  have hnd := hD.2.1
  obtain ⟨c1, c2, c3⟩ := dbL_c hD.1 hD.2.2.1 hd
  refine ⟨?_, ?_, ?_⟩
  · unfold opB
    rw [hasB_n (by omega) (by omega), Bool.and_eq_true, Bool.not_eq_true']
    exact And.comm
  · exact fill_at hD (p := clp dt d) (by omega) nd (Nat.le_refl _)
  · rw [Int32.lt_iff_toInt_lt]
    unfold lkZ
    omega
theorem long_sim {np nd : Nat} {dt cr o b P W : Fn} (hD : DbR np nd dt cr o b P W) (S0 : SettV) : ∀ k, k ≤ 2 ^ nd → ∃ mp row t,
    (itn (st_long dt cr o b nd) k (nI 0, nI 0, S0.1, sets0 S0.2)).1 = nI mp ∧ (itn (st_long dt cr o b nd) k (nI 0, nI 0, S0.1, sets0 S0.2)).2.1 = nI row ∧ TbL (itn (st_long dt cr o b nd) k (nI 0, nI 0, S0.1, sets0 S0.2)).2.2.2 t ∧ dpG nd (okS dt o P W nd) v10 k t ∧ (∃ S, Chn nd (okS dt o P W nd) v10 mp S row) ∧ ∀ n S r, S < k → Chn nd (okS dt o P W nd) v10 n S r → n ≤ mp ∧ (n = mp → row ≤ r)
  | 0, _ => ⟨0, 0, t0N, rfl, rfl, setsL _, dpG_0, ⟨0, rfl, rfl⟩, fun n S r h => absurd h (Nat.not_lt_zero _)⟩
  | p + 1, hk => by
    obtain ⟨mp, row, t, e1, e2, hT, hG, ⟨S1, hc1⟩, hb⟩ := long_sim hD S0 p (by omega)
    have hnd := hD.2.1
    have h512 := pow9 hnd
    rw [itn_s]
    generalize itn (st_long dt cr o b nd) p (nI 0, nI 0, S0.1, sets0 S0.2) = z at e1 e2 hT ⊢
    obtain ⟨v1, v2, h, be⟩ := z
    replace e1 : v1 = nI mp := e1
    replace e2 : v2 = nI row := e2
    replace hT : TbL be t := hT
    subst e1
    subst e2
    have hG2 := dpG_s (fun T d h => okS_b h) v10_m hG
    obtain ⟨hbe, hbt⟩ := hT p (by omega)
    have hm9 := Ch_lt9 hnd (fun T d h => okS_b h) hc1
    unfold st_long
    show ∃ mp2 row2 t2, (if be p = -1 then (nI mp, nI row, h, be) else ((pickR (bcI (nI p)) (nI mp) (be p) (nI row)).1, (pickR (bcI (nI p)) (nI mp) (be p) (nI row)).2, fillH dt cr o b p nd h, itn (st_offR dt o (fillH dt cr o b p nd h) p (be p)) nd be)).1 = nI mp2 ∧ (if be p = -1 then (nI mp, nI row, h, be) else ((pickR (bcI (nI p)) (nI mp) (be p) (nI row)).1, (pickR (bcI (nI p)) (nI mp) (be p) (nI row)).2, fillH dt cr o b p nd h, itn (st_offR dt o (fillH dt cr o b p nd h) p (be p)) nd be)).2.1 = nI row2 ∧ TbL (if be p = -1 then (nI mp, nI row, h, be) else ((pickR (bcI (nI p)) (nI mp) (be p) (nI row)).1, (pickR (bcI (nI p)) (nI mp) (be p) (nI row)).2, fillH dt cr o b p nd h, itn (st_offR dt o (fillH dt cr o b p nd h) p (be p)) nd be)).2.2.2 t2 ∧ dpG nd (okS dt o P W nd) v10 (p + 1) t2 ∧ (∃ S, Chn nd (okS dt o P W nd) v10 mp2 S row2) ∧ ∀ n S r, S < p + 1 → Chn nd (okS dt o P W nd) v10 n S r → n ≤ mp2 ∧ (n = mp2 → row2 ≤ r)
    cases et : t p with
    | zero =>
      rw [et] at hbe
      replace hbe : be p = -1 := hbe
      rw [if_pos hbe]
      refine ⟨mp, row, t, rfl, rfl, hT, ?_, ⟨S1, hc1⟩, fun n S r hS hc => ?_⟩
      · unfold dpS at hG2
        rw [if_pos et] at hG2
        exact hG2
      · by_cases e : S = p
        · subst e
          exact absurd et (dpG_f (fun T d h => okS_b h) hG (Nat.le_refl _) hc).1
        · exact hb n S r (by omega) hc
    | succ q =>
      rw [et] at hbe
      replace hbe : be p = nI q := hbe
      rw [if_neg (by rw [hbe]; exact nI_m1 (by omega)), hbe, bc_pc p (by omega)]
      obtain ⟨n0, hn0⟩ := hG.2.1 p (by omega)
      rw [et] at hn0
      replace hn0 : Chn nd (okS dt o P W nd) v10 n0 p q := hn0
      have hpc := (Chn_pc hnd (fun T d h => okS_b h) n0 p q hn0).1
      have hq9 := Ch_lt9 hnd (fun T d h => okS_b h) hn0
      have hT2 : TbL (itn (st_offR dt o (fillH dt cr o b p nd h) p (nI q)) nd be) (dpS nd (okS dt o P W nd) v10 p t) := by
        unfold dpS
        rw [if_neg (by omega), et]
        refine inL hnd (by omega) (fun d hd f => ?_) (fun d hd hk => ?_) hT nd (Nat.le_refl _)
        · obtain ⟨o1, o2, o3⟩ := op_lk (h := h) hD (p := p) (d := d) (by omega) hd
          unfold st_offR
          rw [o2, pk_mul, nI_add, nI_add]
          have ek : (opB o p d = true ∧ ¬ hV P W nd p (clp dt d) < o d) ↔ okS dt o P W nd p d = true := by
            unfold okS
            rw [Bool.and_eq_true, Bool.and_eq_true, Bool.not_eq_true', decide_eq_true_iff, o1, o3, Decidable.not_not, and_assoc]
          by_cases c : okS dt o P W nd p d = true
          · rw [if_pos c, if_pos (ek.mpr c)]
            rfl
          · rw [if_neg c, if_neg (fun r => c (ek.mp r))]
        · have h8 := pc_or (okS_b hk) (d := d) (by omega)
          have h9 := pc_le (p ||| 2 ^ d)
          have hlt := Ch_lt hnd n0 p q hn0
          have : 10 ^ n0 ≤ 10 ^ 8 := Nat.pow_le_pow_right (by decide) (by omega)
          unfold v10
          omega
      have hfin : ∀ n r, Chn nd (okS dt o P W nd) v10 n p r → n = n0 ∧ q ≤ r := fun n r hc => by
        have a := (Chn_pc hnd (fun T d h => okS_b h) n p r hc).1
        have b := dpG_f (fun T d h => okS_b h) hG (Nat.le_refl _) hc
        omega
      unfold pickR
      rw [hpc]
      by_cases c : mp < n0 ∨ (n0 = mp ∧ q < row)
      · have ci : nI mp < nI n0 ∨ (nI n0 = nI mp ∧ nI q < nI row) := by
          rcases c with c | ⟨c, c2⟩
          · exact Or.inl (nI_lt c (by omega))
          · exact Or.inr ⟨by rw [c], nI_lt c2 (by omega)⟩
        rw [if_pos ci]
        refine ⟨n0, q, _, rfl, rfl, hT2, hG2, ⟨p, hn0⟩, fun n S r hS hc => ?_⟩
        by_cases e : S = p
        · subst e
          have := hfin n r hc
          exact ⟨by omega, fun _ => this.2⟩
        · have := hb n S r (by omega) hc
          rcases c with c | ⟨c, c2⟩
          · exact ⟨by omega, fun q2 => by omega⟩
          · exact ⟨by omega, fun q2 => by have := this.2 (by omega); omega⟩
      · have ci : ¬ (nI mp < nI n0 ∨ (nI n0 = nI mp ∧ nI q < nI row)) := by
          rw [nI_ltI (by omega) (by omega), nI_eq (by omega) (by omega), nI_ltI (by omega) (by omega)]
          exact c
        rw [if_neg ci]
        refine ⟨mp, row, _, rfl, rfl, hT2, hG2, ⟨S1, hc1⟩, fun n S r hS hc => ?_⟩
        by_cases e : S = p
        · subst e
          have := hfin n r hc
          exact ⟨by omega, fun q2 => by omega⟩
        · exact hb n S r (by omega) hc
theorem figs_ch {nd : Nat} (hnd : nd ≤ 9) {ok : Nat → Nat → Bool} : ∀ n S r f, Chn nd ok v10 n S r → n ≤ f → figs f r = n
  | 0, S, r, f, h, _ => by rw [h.2]; exact figs_0 f
  | n + 1, S, r, 0, h, hf => by omega
  | n + 1, S, r, f + 1, h, hf => by
    obtain ⟨T, q, d, h1, h2, -, -, rfl⟩ := h
    have ih := figs_ch hnd n T q f h1 (by omega)
    show (if v10 T d q = 0 then 0 else figs f (v10 T d q / 10) + 1) = n + 1
    have e : v10 T d q / 10 = q := by unfold v10; omega
    rw [if_neg (by unfold v10; omega), e, ih]
/-- what both answer to settled() -/
theorem settled_eq {np nd : Nat} {dt cr o b P W : Fn} (hD : DbR np nd dt cr o b P W) (S0 : SettV) (xC : Fn) : nI (figs 10 (longR dt cr o b nd S0).2.1.toNatClampNeg) = ldM P W (-1) (nI 0) nd xC 0 ∧ (longR dt cr o b nd S0).2.1 = grN P W (ldM P W (-1) (nI 0) nd xC) nd 512 (nI 0) 0 := by
  have hnd := hD.2.1
  obtain ⟨mp, row, t, e1, e2, hT, hG, ⟨S1, hc1⟩, hb⟩ := long_sim hD S0 (2 ^ nd) (Nat.le_refl _)
  obtain ⟨c, c1, c2⟩ := can_S hD xC (s := 0) (Nat.two_pow_pos _)
  obtain ⟨v, v1, v2, v3⟩ := gr_min hD xC 512 0 c 0 (Nat.two_pow_pos _) (by have := c2.1; omega) c1 c2
  have hA : BestN nd (okS dt o P W nd) mp row := by
    refine ⟨?_, fun n u hu => ?_⟩
    · have q := Ch_con mp 0 S1 row 0 hc1 rfl
      rw [Nat.pow_zero, Nat.mul_one, Nat.add_zero, Nat.add_zero] at q
      exact q
    · obtain ⟨S2, h2⟩ := Con_ch n 0 0 0 u (show Chn nd (okS dt o P W nd) v10 0 0 0 from ⟨rfl, rfl⟩) hu
      rw [Nat.zero_mul, Nat.zero_add, Nat.zero_add] at h2
      exact hb n S2 u (Chn_pc hnd (fun T d h => okS_b h) n S2 u h2).2 h2
  have hB : BestN nd (okS dt o P W nd) c v := ⟨v2, fun n u hu => ⟨c2.2.2 n u hu, fun q => v3 u (by rw [← q]; exact hu)⟩⟩
  obtain ⟨q1, q2⟩ := Best_u hA hB
  have h9 := Ch_lt9 hnd (fun T d h => okS_b h) hc1
  have er : (longR dt cr o b nd S0).2.1 = nI row := e2
  rw [er, nI_clamp (by omega), figs_ch hnd mp S1 row 10 hc1 (by omega), c1, v1, Nat.zero_mul, Nat.zero_add, q1, q2]
  exact ⟨rfl, rfl⟩
/-- where something is left, a debt can be paid that leaves one less -/
theorem settled_ex {np nd : Nat} {dt cr o b P W : Fn} (hD : DbR np nd dt cr o b P W) (xC : Fn) : ∀ s, s < 2 ^ nd → ¬ ldM P W (-1) (nI 0) nd xC s ≤ 0 → ∃ d, d < nd ∧ okG P W (ldM P W (-1) (nI 0) nd xC) nd s d = true := by
  intro s hs h0
  have h512 := pow9 hD.2.1
  let cc : Nat → Nat := fun s => (ldM P W (-1) (nI 0) nd xC s).toNatClampNeg
  have hcc : ∀ s, s < 2 ^ nd → ldM P W (-1) (nI 0) nd xC s = nI (cc s) ∧ maxC nd (okS dt o P W nd) s (cc s) := fun s hs => by
    obtain ⟨x, x1, x2⟩ := can_S hD xC hs
    have e : cc s = x := by show (ldM P W (-1) (nI 0) nd xC s).toNatClampNeg = x; rw [x1, nI_clamp (by have := x2.1; omega)]
    rw [e]
    exact ⟨x1, x2⟩
  obtain ⟨a1, a2⟩ := hcc s hs
  have hpos : 0 < cc s := by
    rcases Nat.eq_zero_or_pos (cc s) with q | q
    · rw [a1, q] at h0; exact absurd (by decide) h0
    · exact q
  obtain ⟨d, d1, d2, d3⟩ := fir_ex hs (fun s hs => (hcc s hs).2) hpos
  have k := (mp_okS hD (S := s) (d := d) (by omega) d1).mpr d2
  have hn := hcc (s ||| 2 ^ d) (or_in hs d1)
  refine ⟨d, d1, decide_eq_true ⟨k.1, k.2.1, ?_, k.2.2⟩⟩
  rw [hn.1, a1, nI_add]
  congr 1
/-! floats -/
def okF (dt o P W : Fn) (nd a S d : Nat) : Bool := !(S.testBit d) && (lvB o d && decide (lkZ dt o P W nd S d ≤ 0 ∨ clp dt d = a))
def vaF (dt o P W : Fn) (nd T d q : Nat) : Nat := max q (lkZ dt o P W nd T d).toNat
theorem okF_b {dt o P W : Fn} {nd a T d : Nat} (h : okF dt o P W nd a T d = true) : T.testBit d = false := ok_t h
theorem vaF_m {dt o P W : Fn} {nd : Nat} (T d q q2 : Nat) (h : q ≤ q2) : vaF dt o P W nd T d q ≤ vaF dt o P W nd T d q2 := by unfold vaF; omega
theorem flo_sim {np nd : Nat} {dt cr o b P W : Fn} (hD : DbR np nd dt cr o b P W) (S0 : SettV) {a : Nat} (ha : a < np) : ∀ k, k ≤ 2 ^ nd → ∃ t, TbL (itn (st_flo dt cr o b nd (nI a)) k (S0.1, sets0 S0.2)).2 t ∧ dpG nd (okF dt o P W nd a) (vaF dt o P W nd) k t ∧ ∀ S, t S ≤ 2001
  | 0, _ => ⟨t0N, setsL _, dpG_0, fun S => by unfold t0N; split <;> omega⟩
  | p + 1, hk => by
    obtain ⟨t, hT, hG, hB⟩ := flo_sim hD S0 ha p (by omega)
    have hnd := hD.2.1
    have hnp := hD.1
    have h512 := pow9 hnd
    rw [itn_s]
    generalize itn (st_flo dt cr o b nd (nI a)) p (S0.1, sets0 S0.2) = z at hT ⊢
    obtain ⟨h, be⟩ := z
    replace hT : TbL be t := hT
    have hG2 := dpG_s (fun T d h => okF_b h) vaF_m hG
    have hv2 : ∀ d, d < nd → ∀ q, q ≤ 2000 → vaF dt o P W nd p d q ≤ 2000 := fun d hd q hq => by
      have := (lk_b hD (S := p) hd).2.1
      unfold vaF
      omega
    have hB2 : ∀ S, dpS nd (okF dt o P W nd a) (vaF dt o P W nd) p t S ≤ 2001 := fun S => by
      unfold dpS
      split
      · exact hB S
      · rcases (dpD_p (ok := okF dt o P W nd a) (val := vaF dt o P W nd) (p := p) (q := t p - 1) (t := t) nd).2.1 S with q | ⟨d, d1, -, -, d4⟩
        · rw [q]; exact hB S
        · rw [d4]
          have := hv2 d d1 (t p - 1) (by have := hB p; omega)
          omega
    obtain ⟨hbe, hbt⟩ := hT p (by omega)
    refine ⟨_, ?_, hG2, hB2⟩
    unfold st_flo
    show TbL (if be p = -1 then (h, be) else (fillH dt cr o b p nd h, itn (st_offF dt o (fillH dt cr o b p nd h) p (nI a) (be p)) nd be)).2 (dpS nd (okF dt o P W nd a) (vaF dt o P W nd) p t)
    unfold dpS
    cases et : t p with
    | zero =>
      rw [et] at hbe
      replace hbe : be p = -1 := hbe
      rw [if_pos hbe, if_pos rfl]
      exact hT
    | succ q =>
      rw [et] at hbe
      replace hbe : be p = nI q := hbe
      have hq := hB p
      rw [if_neg (by rw [hbe]; exact nI_m1 (by omega)), if_neg (by omega), hbe]
      refine inL hnd (by omega) (fun d hd f => ?_) (fun d hd hk => ?_) hT nd (Nat.le_refl _)
      · obtain ⟨o1, o2, o3⟩ := op_lk (h := h) hD (p := p) (d := d) (by omega) hd
        obtain ⟨c1, c2, c3⟩ := dbL_c hD.1 hD.2.2.1 hd
        obtain ⟨l1, l2, l3⟩ := lk_b hD (S := p) hd
        unfold st_offF
        rw [o2]
        have ek : (opB o p d = true ∧ (o d - hV P W nd p (clp dt d) ≤ 0 ∨ dt d = nI a)) ↔ okF dt o P W nd a p d = true := by
          unfold okF
          have e1 : (o d - hV P W nd p (clp dt d) ≤ 0) ↔ lkZ dt o P W nd p d ≤ 0 := by
            rw [Int32.le_iff_toInt_le, l1]
            exact Iff.rfl
          have e2 : (dt d = nI a) ↔ clp dt d = a := by rw [c2, nI_eq (by omega) (by omega)]
          rw [Bool.and_eq_true, Bool.and_eq_true, Bool.not_eq_true', decide_eq_true_iff, o1, e1, e2, and_assoc]
        have ev : mxI (nI q) (o d - hV P W nd p (clp dt d)) = nI (vaF dt o P W nd p d q) := by
          unfold mxI vaF
          have eq := nI_toInt (n := q) (by omega)
          by_cases r : nI q < o d - hV P W nd p (clp dt d)
          · rw [if_pos r]
            rw [Int32.lt_iff_toInt_lt, l1] at r
            refine Int32.toInt_inj.mp ?_
            rw [l1, nI_toInt (by omega)]
            omega
          · rw [if_neg r]
            rw [Int32.lt_iff_toInt_lt, l1] at r
            congr 1
            omega
        rw [ev]
        by_cases c : okF dt o P W nd a p d = true
        · rw [if_pos c, if_pos (ek.mpr c)]
          rfl
        · rw [if_neg c, if_neg (fun r => c (ek.mp r))]
      · have := hv2 d hd (q + 1 - 1) (by omega)
        omega
theorem ao_bit {o : Fn} : ∀ n i, (aoN o n).testBit i = (decide (i < n) && lvB o i)
  | 0, i => by rw [show aoN o 0 = 0 from rfl, Nat.zero_testBit]; rfl
  | n + 1, i => by
    show (aoN o n ||| (if o n ≤ 0 then 0 else 2 ^ n)).testBit i = _
    rw [Nat.testBit_or, ao_bit n i]
    by_cases e : i = n
    · subst e
      rw [decide_eq_false (Nat.lt_irrefl _), Bool.false_and, Bool.false_or, decide_eq_true (Nat.lt_succ_self _), Bool.true_and]
      unfold lvB
      by_cases c : o i ≤ 0
      · rw [if_pos c, Nat.zero_testBit]; exact (decide_eq_false (fun q => q c)).symm
      · rw [if_neg c, p2_self]; exact (decide_eq_true c).symm
    · have e0 : (if o n ≤ 0 then 0 else 2 ^ n).testBit i = false := by
        split
        · exact Nat.zero_testBit _
        · rw [Nat.testBit_two_pow, decide_eq_false (Ne.symm e)]
      rw [e0, Bool.or_false]
      congr 1
      exact decide_eq_decide.mpr (by omega)
theorem cnt_ao {np nd : Nat} {dt cr o b P W : Fn} (hD : DbR np nd dt cr o b P W) : cntD W nd = nI (pc9 (aoN o nd)) := by
  have hO := hD.2.2.2.2.1
  have hnd := hD.2.1
  have e1 : ∀ n, n ≤ nd → cntD W n = nI (sN (fun i => if (aoN o nd).testBit i = true then 1 else 0) n) := by
    intro n
    induction n with
    | zero => intro _; rfl
    | succ n ih =>
      intro hn
      show cntD W n + (if oweB W n = true then nI 1 else nI 0) = nI (sN _ n + (if (aoN o nd).testBit n = true then 1 else 0))
      rw [ih (by omega), ao_bit, decide_eq_true (by omega : n < nd), Bool.true_and]
      obtain ⟨w, -, w1, w2⟩ := hO n (by omega)
      have elv : oweB W n = lvB o n := by unfold oweB lvB; rw [w1, w2]
      rw [elv]
      by_cases c : lvB o n = true
      · rw [if_pos c, if_pos c, nI_add]
      · rw [if_neg c, if_neg c, nI_0, Int32.add_zero, Nat.add_zero]
  have e2 : ∀ k, nd + k ≤ 9 → sN (fun i => if (aoN o nd).testBit i = true then 1 else 0) (nd + k) = sN (fun i => if (aoN o nd).testBit i = true then 1 else 0) nd := by
    intro k
    induction k with
    | zero => intro _; rfl
    | succ k ih =>
      intro hk
      show sN _ (nd + k) + (if (aoN o nd).testBit (nd + k) = true then 1 else 0) = _
      rw [ih (by omega), ao_bit, decide_eq_false (by omega : ¬ nd + k < nd), Bool.false_and]
      rfl
  have e3 := e2 (9 - nd) (by omega)
  rw [show nd + (9 - nd) = 9 by omega] at e3
  unfold pc9
  rw [e1 nd (Nat.le_refl _), e3]
theorem Ch_ao {nd : Nat} {o : Fn} {ok : Nat → Nat → Bool} {val : Nat → Nat → Nat → Nat} (hl : ∀ T d, ok T d = true → lvB o d = true) : ∀ n S r, Chn nd ok val n S r → ssB S (aoN o nd)
  | 0, S, r, h => fun i q => by rw [h.1, Nat.zero_testBit] at q; exact Bool.noConfusion q
  | n + 1, S, r, h => by
    obtain ⟨T, q, d, h1, h2, h3, rfl, rfl⟩ := h
    exact ss_or (Ch_ao hl n T q h1) (ss_p (by rw [ao_bit, hl T d h3, decide_eq_true h2]; rfl))
theorem MF {np nd : Nat} {dt cr o b P W : Fn} (hD : DbR np nd dt cr o b P W) {a m : Nat} : ∀ n S r, Chn nd (okM dt o P W nd a m) v10 n S r → ∃ q, q ≤ m ∧ Chn nd (okF dt o P W nd a) (vaF dt o P W nd) n S q
  | 0, S, r, h => ⟨0, Nat.zero_le _, h.1, rfl⟩
  | n + 1, S, r, h => by
    obtain ⟨T, q, d, h1, h2, h3, rfl, rfl⟩ := h
    obtain ⟨q0, a1, a2⟩ := MF hD n T q h1
    unfold okM at h3
    rw [Bool.and_eq_true, Bool.and_eq_true, decide_eq_true_iff] at h3
    obtain ⟨k1, k2, k3⟩ := h3
    refine ⟨vaF dt o P W nd T d q0, ?_, T, q0, d, a2, h2, ?_, rfl, rfl⟩
    · unfold vaF
      by_cases c : clp dt d = a
      · rw [if_pos c] at k3; omega
      · rw [if_neg c] at k3; omega
    · unfold okF
      rw [Bool.and_eq_true, Bool.and_eq_true, decide_eq_true_iff]
      refine ⟨k1, k2, ?_⟩
      by_cases c : clp dt d = a
      · exact Or.inr c
      · rw [if_neg c] at k3; exact Or.inl k3
theorem FM {np nd : Nat} {dt cr o b P W : Fn} (hD : DbR np nd dt cr o b P W) {a m : Nat} : ∀ n S q, Chn nd (okF dt o P W nd a) (vaF dt o P W nd) n S q → q ≤ m → ∃ r, Chn nd (okM dt o P W nd a m) v10 n S r
  | 0, S, q, h, _ => ⟨0, h.1, rfl⟩
  | n + 1, S, q, h, hq => by
    obtain ⟨T, q0, d, h1, h2, h3, rfl, rfl⟩ := h
    unfold vaF at hq
    obtain ⟨r, hr⟩ := FM hD (m := m) n T q0 h1 (by omega)
    unfold okF at h3
    rw [Bool.and_eq_true, Bool.and_eq_true, decide_eq_true_iff] at h3
    obtain ⟨k1, k2, k3⟩ := h3
    refine ⟨v10 T d r, T, r, d, hr, h2, ?_, rfl, rfl⟩
    unfold okM
    rw [Bool.and_eq_true, Bool.and_eq_true, decide_eq_true_iff]
    refine ⟨k1, k2, ?_⟩
    by_cases c : clp dt d = a
    · rw [if_pos c]; omega
    · rw [if_neg c]
      rcases k3 with k3 | k3
      · exact k3
      · exact absurd k3 c
theorem bs_spec {p : Nat → Bool} {Q : Nat} : ∀ f lo hi, lo ≤ Q → Q ≤ hi → hi ≤ lo + f → (∀ m, lo ≤ m → m ≤ hi → (p m = true ↔ Q ≤ m)) → bsF p f lo hi = Q
  | 0, lo, hi, h1, h2, h3, _ => by show lo = Q; omega
  | f + 1, lo, hi, h1, h2, h3, h4 => by
    by_cases c : lo < hi
    · show (if lo < hi then (if p ((lo + hi) / 2) = true then bsF p f lo ((lo + hi) / 2) else bsF p f ((lo + hi) / 2 + 1) hi) else lo) = Q
      rw [if_pos c]
      have q := h4 ((lo + hi) / 2) (by omega) (by omega)
      by_cases c2 : p ((lo + hi) / 2) = true
      · rw [if_pos c2]
        exact bs_spec f lo _ h1 (q.mp c2) (by omega) (fun m a b => h4 m a (by omega))
      · rw [if_neg c2]
        have : ¬ Q ≤ (lo + hi) / 2 := fun r => c2 (q.mpr r)
        exact bs_spec f _ hi (by omega) h2 (by omega) (fun m a b => h4 m (by omega) b)
    · rw [bsF_e c]; omega
/-- with m birds more all can be paid, just where a row's most lack is m at most -/
theorem flo_m {np nd : Nat} {dt cr o b P W : Fn} (hD : DbR np nd dt cr o b P W) (xC : Fn) {a m : Nat} (ha : a < np) (hm : m ≤ 999) : ∃ c, ldM P W (nI a) (nI m) nd xC 0 = nI c ∧ c ≤ pc9 (aoN o nd) ∧ (c = pc9 (aoN o nd) ↔ ∃ n q, q ≤ m ∧ Chn nd (okF dt o P W nd a) (vaF dt o P W nd) n (aoN o nd) q) := by
  have hnd := hD.2.1
  have h512 := pow9 hnd
  obtain ⟨c, c1, c2⟩ := can_M hD xC ha hm (s := 0) (Nat.two_pow_pos _)
  have hlv : ∀ T d, okM dt o P W nd a m T d = true → lvB o d = true := fun T d h => by
    unfold okM at h
    rw [Bool.and_eq_true, Bool.and_eq_true] at h
    exact h.2.1
  obtain ⟨v, hv⟩ := c2.2.1
  obtain ⟨S2, h2⟩ := Con_ch c 0 0 0 v (show Chn nd (okM dt o P W nd a m) v10 0 0 0 from ⟨rfl, rfl⟩) hv
  rw [Nat.zero_mul, Nat.zero_add, Nat.zero_add] at h2
  have hss := Ch_ao hlv c S2 v h2
  have hpc := (Chn_pc hnd (fun T d h => ok_t h) c S2 v h2).1
  have hao : aoN o nd < 512 := Nat.lt_of_lt_of_le (aoN_lt o nd) h512
  refine ⟨c, c1, by rw [← hpc]; exact pc_mono hss, fun e => ?_, fun ⟨n, q, q1, q2⟩ => ?_⟩
  · have eS : aoN o nd = S2 := by
      by_cases r : aoN o nd = S2
      · exact r
      · have := pc_lt hao hss r; omega
    rw [← eS] at h2
    obtain ⟨q, q1, q2⟩ := MF hD c (aoN o nd) v h2
    exact ⟨c, q, q1, q2⟩
  · obtain ⟨r, hr⟩ := FM hD n (aoN o nd) q q2 q1
    have h3 := Ch_con n 0 (aoN o nd) r 0 hr rfl
    have h4 := c2.2.2 _ _ h3
    have h5 := (Chn_pc hnd (fun T d h => ok_t h) n (aoN o nd) r hr).1
    have h6 := pc_mono hss
    omega
theorem float_eq {np nd : Nat} {dt cr o b P W : Fn} (hD : DbR np nd dt cr o b P W) (S0 : SettV) (xC : Fn) {a : Nat} (ha : a < np) : floV o nd (floR dt cr o b nd (nI a) S0).2 = if ldM P W (nI a) (nI 999) nd xC 0 < cntD W nd then -1 else nI (bsF (flB P W xC (nI a) nd) 1000 0 999) := by
  have hnd := hD.2.1
  have h512 := pow9 hnd
  have hao := aoN_lt o nd
  obtain ⟨t, hT, hG, hB⟩ := flo_sim hD S0 ha (2 ^ nd) (Nat.le_refl _)
  have hT2 : TbL (floR dt cr o b nd (nI a) S0).2 t := hT
  obtain ⟨e1, -⟩ := hT2 (aoN o nd) (by omega)
  have h9 := pc_le (aoN o nd)
  unfold floV
  rw [e1, cnt_ao hD]
  obtain ⟨c, c1, c2, c3⟩ := flo_m hD xC ha (m := 999) (Nat.le_refl _)
  rw [c1]
  cases et : t (aoN o nd) with
  | zero =>
    have hno : ¬ c = pc9 (aoN o nd) := fun q => by
      obtain ⟨n, q2, -, hc⟩ := c3.mp q
      exact (dpG_f (fun T d h => okF_b h) hG (by omega) hc).1 et
    rw [if_pos (nI_lt (by omega) (by omega))]
    rfl
  | succ Q =>
    obtain ⟨n, hn⟩ := hG.2.1 (aoN o nd) (by omega)
    rw [et] at hn
    replace hn : Chn nd (okF dt o P W nd a) (vaF dt o P W nd) n (aoN o nd) Q := hn
    have hmin : ∀ n q, Chn nd (okF dt o P W nd a) (vaF dt o P W nd) n (aoN o nd) q → Q ≤ q := fun n q hc => by
      have := (dpG_f (fun T d h => okF_b h) hG (by omega) hc).2
      omega
    have hQ := hB (aoN o nd)
    show (if nI 999 < nI Q then -1 else nI Q) = _
    by_cases cQ : 999 < Q
    · have hno : ¬ c = pc9 (aoN o nd) := fun q => by
        obtain ⟨n, q2, q3, hc⟩ := c3.mp q
        have := hmin n q2 hc
        omega
      rw [if_pos (nI_lt cQ (by omega)), if_pos (nI_lt (by omega) (by omega))]
    · have hyes : c = pc9 (aoN o nd) := c3.mpr ⟨n, Q, by omega, hn⟩
      rw [if_neg (nI_nlt (by omega) (by omega)), if_neg (nI_nlt (by omega) (by omega))]
      rw [bs_spec (Q := Q) 1000 0 999 (by omega) (by omega) (by omega) (fun m _ hm => ?_)]
      obtain ⟨d, d1, d2, d3⟩ := flo_m hD xC ha (m := m) hm
      unfold flB
      rw [decide_eq_true_iff, d1, cnt_ao hD, nI_eq (by omega) (by omega), d3]
      exact ⟨fun ⟨n, q, q1, hc⟩ => Nat.le_trans (hmin n q hc) q1, fun q => ⟨n, Q, q, hn⟩⟩
