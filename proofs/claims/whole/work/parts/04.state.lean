/-! what a state of both systems is (tuples), and which cell lies at which offset; 146 cells in all -/
abbrev Fn : Type := Nat → Int32
/-- tree hours netted ringed placesEver; birds crumbs owed places -/
abbrev FlockV : Type := Int32 × Int32 × Int32 × Int32 × Int32 × Fn × Fn × Fn × Fn
/-- stands dusk tree persons debts; kind birds door debtor creditor owed -/
abbrev ParV : Type := Int32 × Int32 × Int32 × Int32 × Int32 × Fn × Fn × Fn × Fn × Fn × Fn
/-- letters; length faultAt faultNumber at numberAt -/
abbrev TextV : Type := Fn × Int32 × Int32 × Int32 × Int32 × Int32
/-- next size -/
abbrev PastV : Type := Int32 × Int32
/-- watched doorsOff wasFelt entryPerson entryBirds; watches feelings entries -/
abbrev SeenV : Type := Fn × Fn × Fn × Fn × Fn × Int32 × Int32 × Int32
/-- hats bestBySet -/
abbrev SettV : Type := Fn × Fn
/-- which parish is here, which the draft; theSeed; imageSeeds imageThere owedOnward -/
abbrev TopV : Type := Nat × Nat × Int32 × Fn × Fn × Fn
abbrev CSt : Type := (Nat → FlockV) × (Nat → ParV) × TextV × PastV × SeenV × SettV × TopV
/-- undos size fault watchedMany feltMany bookMany at begin sign figures value wrong -/
abbrev IntV : Type := Int32 × Int32 × Int32 × Int32 × Int32 × Int32 × Int32 × Int32 × Int32 × Int32 × Int32 × Int32
/-- rows: parish read now aside past images kept text watched felt book loss can; ints; seed -/
abbrev MSt : Type := (Nat → Fn) × IntV × Int64
abbrev Sg : Type := CSt × MSt
/-- flock 0 is now, 1 trial, 2 .. 17 the past, 18 and 19 the images -/
def adr (k : Nat) : Nat := if k < 2 then 17 + 5 * k else if k < 18 then 19 + 5 * k else 32 + 5 * k
def pad (k : Nat) : Nat := 3 + 7 * k
theorem adr_cases {k : Nat} (hk : k < 20) : (k < 2 ∧ adr k = 17 + 5 * k) ∨ (2 ≤ k ∧ k < 18 ∧ adr k = 19 + 5 * k) ∨ (18 ≤ k ∧ k < 20 ∧ adr k = 32 + 5 * k) := by
  unfold adr
  by_cases h : k < 2
  · rw [if_pos h]; omega
  · rw [if_neg h]
    by_cases h2 : k < 18
    · rw [if_pos h2]; omega
    · rw [if_neg h2]; omega
theorem adr_lt {k j : Nat} (hk : k < 20) (hj : j < 5) : adr k + j < 146 := by have := adr_cases hk; omega
theorem adr_lt0 {k : Nat} (hk : k < 20) : adr k < 146 := by have := adr_cases hk; omega
theorem pad_lt {k j : Nat} (hk : k < 2) (hj : j < 7) : pad k + j < 146 := by unfold pad; omega
theorem pad_lt0 {k : Nat} (hk : k < 2) : pad k < 146 := by unfold pad; omega
theorem adr_ne {k k2 j j2 : Nat} (hk : k < 20) (hk2 : k2 < 20) (hj : j < 5) (hj2 : j2 < 5) (h : k ≠ k2 ∨ j ≠ j2) : adr k + j ≠ adr k2 + j2 := by have := adr_cases hk; have := adr_cases hk2; omega
abbrev gF (σ : Sg) (k : Nat) : FlockV := σ.1.1 k
abbrev gP (σ : Sg) (k : Nat) : ParV := σ.1.2.1 k
abbrev gT (σ : Sg) : TextV := σ.1.2.2.1
abbrev gQ (σ : Sg) : PastV := σ.1.2.2.2.1
abbrev gS (σ : Sg) : SeenV := σ.1.2.2.2.2.1
abbrev gL (σ : Sg) : SettV := σ.1.2.2.2.2.2.1
abbrev gU (σ : Sg) : TopV := σ.1.2.2.2.2.2.2
abbrev sFl (σ : Sg) (k : Nat) (F : FlockV) : Sg := ((va_up σ.1.1 k F, σ.1.2), σ.2)
abbrev sPar (σ : Sg) (k : Nat) (F : ParV) : Sg := ((σ.1.1, va_up σ.1.2.1 k F, σ.1.2.2), σ.2)
abbrev sTx (σ : Sg) (F : TextV) : Sg := ((σ.1.1, σ.1.2.1, F, σ.1.2.2.2), σ.2)
abbrev sPa (σ : Sg) (F : PastV) : Sg := ((σ.1.1, σ.1.2.1, σ.1.2.2.1, F, σ.1.2.2.2.2), σ.2)
abbrev sSe (σ : Sg) (F : SeenV) : Sg := ((σ.1.1, σ.1.2.1, σ.1.2.2.1, σ.1.2.2.2.1, F, σ.1.2.2.2.2.2), σ.2)
abbrev sSt (σ : Sg) (F : SettV) : Sg := ((σ.1.1, σ.1.2.1, σ.1.2.2.1, σ.1.2.2.2.1, σ.1.2.2.2.2.1, F, σ.1.2.2.2.2.2.2), σ.2)
abbrev sU (σ : Sg) (F : TopV) : Sg := ((σ.1.1, σ.1.2.1, σ.1.2.2.1, σ.1.2.2.2.1, σ.1.2.2.2.2.1, σ.1.2.2.2.2.2.1, F), σ.2)
abbrev sM (σ : Sg) (μ : MSt) : Sg := (σ.1, μ)
theorem va_up_uu {α : Type} (f : Nat → α) (k : Nat) (v w : α) : va_up (va_up f k v) k w = va_up f k w := by
  funext j; by_cases h : j = k <;> simp [va_up, h]
theorem va_up_id {α : Type} (f : Nat → α) (k : Nat) : va_up f k (f k) = f := by
  funext j; by_cases h : j = k <;> simp [va_up, h]
theorem gF_s (σ : Sg) (k : Nat) (F : FlockV) : gF (sFl σ k F) k = F := va_up_self _ _ _
theorem gP_s (σ : Sg) (k : Nat) (F : ParV) : gP (sPar σ k F) k = F := va_up_self _ _ _
theorem sFl_id (σ : Sg) (k : Nat) : sFl σ k (gF σ k) = σ := by show ((va_up σ.1.1 k (σ.1.1 k), σ.1.2), σ.2) = σ; rw [va_up_id]
theorem sPar_id (σ : Sg) (k : Nat) : sPar σ k (gP σ k) = σ := by show ((σ.1.1, va_up σ.1.2.1 k (σ.1.2.1 k), σ.1.2.2), σ.2) = σ; rw [va_up_id]
theorem sFl_s (σ : Sg) (k : Nat) (F G : FlockV) : sFl (sFl σ k F) k G = sFl σ k G := by show ((va_up (va_up σ.1.1 k F) k G, σ.1.2), σ.2) = _; rw [va_up_uu]
theorem sPar_s (σ : Sg) (k : Nat) (F G : ParV) : sPar (sPar σ k F) k G = sPar σ k G := by show ((σ.1.1, va_up (va_up σ.1.2.1 k F) k G, σ.1.2.2), σ.2) = _; rw [va_up_uu]
theorem gF_ne (σ : Sg) {k k2 : Nat} (F : FlockV) (h : k2 ≠ k) : gF (sFl σ k F) k2 = gF σ k2 := va_up_ne _ _ h
theorem gP_ne (σ : Sg) {k k2 : Nat} (F : ParV) (h : k2 ≠ k) : gP (sPar σ k F) k2 = gP σ k2 := va_up_ne _ _ h
def fC (E : Ev) (a : Nat) : FlockV → Nat → va_E
  | (t, hr, nt, rg, pe, b, c, o, p), 0 => .inr (0, [.int t, .int hr, .int nt, .int rg, .int pe, .ref (Ez E + (a + 1)), .ref (Ez E + (a + 2)), .ref (Ez E + (a + 3)), .ref (Ez E + (a + 4))])
  | (t, hr, nt, rg, pe, b, c, o, p), 1 => .inl (EI E, 7, .inl b)
  | (t, hr, nt, rg, pe, b, c, o, p), 2 => .inl (EI E, 7, .inl c)
  | (t, hr, nt, rg, pe, b, c, o, p), 3 => .inl (EI E, 9, .inl o)
  | (t, hr, nt, rg, pe, b, c, o, p), _ => .inl (EI E, 20, .inl p)
def pC (E : Ev) (a : Nat) : ParV → Nat → va_E
  | (sd, du, tr, ps, db, kd, bd, dr, dt, cr, ow), 0 => .inr (1, [.int sd, .int du, .int tr, .int ps, .int db, .ref (Ez E + (a + 1)), .ref (Ez E + (a + 2)), .ref (Ez E + (a + 3)), .ref (Ez E + (a + 4)), .ref (Ez E + (a + 5)), .ref (Ez E + (a + 6))])
  | (sd, du, tr, ps, db, kd, bd, dr, dt, cr, ow), 1 => .inl (EI E, 7, .inl kd)
  | (sd, du, tr, ps, db, kd, bd, dr, dt, cr, ow), 2 => .inl (EI E, 7, .inl bd)
  | (sd, du, tr, ps, db, kd, bd, dr, dt, cr, ow), 3 => .inl (EI E, 7, .inl dr)
  | (sd, du, tr, ps, db, kd, bd, dr, dt, cr, ow), 4 => .inl (EI E, 9, .inl dt)
  | (sd, du, tr, ps, db, kd, bd, dr, dt, cr, ow), 5 => .inl (EI E, 9, .inl cr)
  | (sd, du, tr, ps, db, kd, bd, dr, dt, cr, ow), _ => .inl (EI E, 9, .inl ow)
def tC (E : Ev) (a : Nat) : TextV → Nat → va_E
  | (lt, ln, fa, fn, ap, na), 0 => .inr (5, [.ref (Ez E + (a + 1)), .int ln, .int fa, .int fn, .int ap, .int na])
  | (lt, ln, fa, fn, ap, na), _ => .inl (EI E, 240, .inl lt)
def sC (E : Ev) (a : Nat) : SeenV → Nat → va_E
  | (wa, df, wf, ep, eb, ws, fs, es), 0 => .inr (3, [.ref (Ez E + (a + 1)), .ref (Ez E + (a + 2)), .ref (Ez E + (a + 3)), .ref (Ez E + (a + 4)), .ref (Ez E + (a + 5)), .int ws, .int fs, .int es])
  | (wa, df, wf, ep, eb, ws, fs, es), 1 => .inl (EI E, 6, .inl wa)
  | (wa, df, wf, ep, eb, ws, fs, es), 2 => .inl (EI E, 6, .inl df)
  | (wa, df, wf, ep, eb, ws, fs, es), 3 => .inl (EZ E, 6, .inl wf)
  | (wa, df, wf, ep, eb, ws, fs, es), 4 => .inl (EI E, 15, .inl ep)
  | (wa, df, wf, ep, eb, ws, fs, es), _ => .inl (EI E, 15, .inl eb)
def lC (E : Ev) (a : Nat) : SettV → Nat → va_E
  | (ht, be), 0 => .inr (4, [.ref (Ez E + (a + 1)), .ref (Ez E + (a + 2))])
  | (ht, be), 1 => .inl (EI E, 7, .inl ht)
  | (ht, be), _ => .inl (EI E, 512, .inl be)
/-- the past: its row of flocks never changes -/
def qC (E : Ev) : PastV → Nat → va_E
  | (nx, sz), 0 => .inr (2, [.ref (Ez E + 28), .int nx, .int sz])
  | _, _ => .inl (EF E, 16, .inr (.inr (.inr (.inr (fun i => if i < 16 then some (Ez E + adr (2 + i)) else none)))))
def iC (E : Ev) : TopV → Nat → va_E
  | _, 0 => .inl (EF E, 2, .inr (.inr (.inr (.inr (fun i => if i < 2 then some (Ez E + adr (18 + i)) else none)))))
  | (hj, dj, se, is, it, oo), 1 => .inl (EI E, 2, .inl is)
  | (hj, dj, se, is, it, oo), _ => .inl (EZ E, 2, .inl it)
def uC (E : Ev) : TopV → va_E
  | (hj, dj, se, is, it, oo) => .inr (6, [.ref (Ez E + 1), .ref (Ez E + pad hj), .ref (Ez E + pad dj), .ref (Ez E + adr 0), .ref (Ez E + adr 1), .ref (Ez E + 27), .ref (Ez E + 109), .ref (Ez E + 110), .ref (Ez E + 111), .ref (Ez E + 112), .ref (Ez E + 115), .ref (Ez E + 121), .int se])
/-- how long the reference's rows are -/
def mL : Nat → Nat
  | 0 => 52 | 1 => 52 | 2 => 48 | 3 => 48 | 4 => 768 | 5 => 98 | 6 => 2 | 7 => 240 | 8 => 6 | 9 => 18 | 10 => 30 | 11 => 7 | _ => 512
def mK (E : Ev) : Nat → ClassId
  | 6 => EZ E | _ => EI E
def mC (E : Ev) : MSt → Nat → va_E
  | (A, (un, sz, ft, wm, fm, bm, at_, bg, sg, fg, vl, wr), sd), 0 => .inr (7, [.ref (Ez E + 133), .ref (Ez E + 134), .ref (Ez E + 135), .ref (Ez E + 136), .ref (Ez E + 137), .int un, .ref (Ez E + 138), .ref (Ez E + 139), .long sd, .ref (Ez E + 140), .int sz, .int ft, .ref (Ez E + 141), .int wm, .ref (Ez E + 142), .int fm, .ref (Ez E + 143), .int bm, .int at_, .int bg, .int sg, .int fg, .int vl, .int wr, .ref (Ez E + 144), .ref (Ez E + 145)])
  | (A, _, _), j + 1 => .inl (mK E j, mL j, .inl (A j))
def cellOf (E : Ev) (σ : Sg) (o : Nat) : va_E :=
  if o = 0 then uC E (gU σ)
  else if o < 3 then tC E 1 (gT σ) (o - 1)
  else if o < 17 then pC E (3 + 7 * ((o - 3) / 7)) (gP σ ((o - 3) / 7)) ((o - 3) % 7)
  else if o < 27 then fC E (17 + 5 * ((o - 17) / 5)) (gF σ ((o - 17) / 5)) ((o - 17) % 5)
  else if o < 29 then qC E (gQ σ) (o - 27)
  else if o < 109 then fC E (29 + 5 * ((o - 29) / 5)) (gF σ (2 + (o - 29) / 5)) ((o - 29) % 5)
  else if o < 112 then iC E (gU σ) (o - 109)
  else if o < 115 then lC E 112 (gL σ) (o - 112)
  else if o < 121 then sC E 115 (gS σ) (o - 115)
  else if o < 122 then .inl (EI E, 7, .inl (gU σ).2.2.2.2.2)
  else if o < 132 then fC E (122 + 5 * ((o - 122) / 5)) (gF σ (18 + (o - 122) / 5)) ((o - 122) % 5)
  else mC E σ.2 (o - 132)
theorem cF_at (E : Ev) (σ : Sg) {k j : Nat} (hk : k < 20) (hj : j < 5) : cellOf E σ (adr k + j) = fC E (adr k) (gF σ k) j := by
  unfold cellOf
  rcases adr_cases hk with ⟨h, ha⟩ | ⟨h, h2, ha⟩ | ⟨h, h2, ha⟩
  · rw [if_neg (by omega), if_neg (by omega), if_neg (by omega), if_pos (by omega), show (adr k + j - 17) / 5 = k by omega, show (adr k + j - 17) % 5 = j by omega, ← ha]
  · rw [if_neg (by omega), if_neg (by omega), if_neg (by omega), if_neg (by omega), if_neg (by omega), if_pos (by omega), show (adr k + j - 29) / 5 = k - 2 by omega, show (adr k + j - 29) % 5 = j by omega, show 29 + 5 * (k - 2) = adr k by omega, show 2 + (k - 2) = k by omega]
  · rw [if_neg (by omega), if_neg (by omega), if_neg (by omega), if_neg (by omega), if_neg (by omega), if_neg (by omega), if_neg (by omega), if_neg (by omega), if_neg (by omega), if_neg (by omega), if_pos (by omega), show (adr k + j - 122) / 5 = k - 18 by omega, show (adr k + j - 122) % 5 = j by omega, show 122 + 5 * (k - 18) = adr k by omega, show 18 + (k - 18) = k by omega]
theorem cP_at (E : Ev) (σ : Sg) {k j : Nat} (hk : k < 2) (hj : j < 7) : cellOf E σ (pad k + j) = pC E (pad k) (gP σ k) j := by
  unfold cellOf pad
  rw [if_neg (by omega), if_neg (by omega), if_pos (by omega), show (3 + 7 * k + j - 3) / 7 = k by omega, show (3 + 7 * k + j - 3) % 7 = j by omega]
theorem cT_at (E : Ev) (σ : Sg) {j : Nat} (hj : j < 2) : cellOf E σ (1 + j) = tC E 1 (gT σ) j := by
  unfold cellOf
  rw [if_neg (by omega), if_pos (by omega), show 1 + j - 1 = j by omega]
theorem cQ_at (E : Ev) (σ : Sg) {j : Nat} (hj : j < 2) : cellOf E σ (27 + j) = qC E (gQ σ) j := by
  unfold cellOf
  rw [if_neg (by omega), if_neg (by omega), if_neg (by omega), if_neg (by omega), if_pos (by omega), show 27 + j - 27 = j by omega]
theorem cL_at (E : Ev) (σ : Sg) {j : Nat} (hj : j < 3) : cellOf E σ (112 + j) = lC E 112 (gL σ) j := by
  unfold cellOf
  rw [if_neg (by omega), if_neg (by omega), if_neg (by omega), if_neg (by omega), if_neg (by omega), if_neg (by omega), if_neg (by omega), if_pos (by omega), show 112 + j - 112 = j by omega]
theorem cS_at (E : Ev) (σ : Sg) {j : Nat} (hj : j < 6) : cellOf E σ (115 + j) = sC E 115 (gS σ) j := by
  unfold cellOf
  rw [if_neg (by omega), if_neg (by omega), if_neg (by omega), if_neg (by omega), if_neg (by omega), if_neg (by omega), if_neg (by omega), if_neg (by omega), if_pos (by omega), show 115 + j - 115 = j by omega]
theorem cI_at (E : Ev) (σ : Sg) {j : Nat} (hj : j < 3) : cellOf E σ (109 + j) = iC E (gU σ) j := by
  unfold cellOf
  rw [if_neg (by omega), if_neg (by omega), if_neg (by omega), if_neg (by omega), if_neg (by omega), if_neg (by omega), if_pos (by omega), show 109 + j - 109 = j by omega]
theorem cU_at (E : Ev) (σ : Sg) : cellOf E σ 0 = uC E (gU σ) := by unfold cellOf; rw [if_pos rfl]
theorem cO_at (E : Ev) (σ : Sg) : cellOf E σ 121 = .inl (EI E, 7, .inl (gU σ).2.2.2.2.2) := by
  unfold cellOf
  rw [if_neg (by omega), if_neg (by omega), if_neg (by omega), if_neg (by omega), if_neg (by omega), if_neg (by omega), if_neg (by omega), if_neg (by omega), if_neg (by omega), if_pos (by omega)]
theorem cM_at (E : Ev) (σ : Sg) (j : Nat) : cellOf E σ (132 + j) = mC E σ.2 j := by
  unfold cellOf
  rw [if_neg (by omega), if_neg (by omega), if_neg (by omega), if_neg (by omega), if_neg (by omega), if_neg (by omega), if_neg (by omega), if_neg (by omega), if_neg (by omega), if_neg (by omega), if_neg (by omega), show 132 + j - 132 = j by omega]
/-- what a setter leaves -/
theorem cF_out (E : Ev) (σ : Sg) {k o : Nat} (F : FlockV) (hk : k < 20) (h : o < adr k ∨ adr k + 5 ≤ o) : cellOf E (sFl σ k F) o = cellOf E σ o := by
  have e : ∀ i, i ≠ k → gF (sFl σ k F) i = gF σ i := fun i hi => va_up_ne _ _ hi
  have ha := adr_cases hk
  unfold cellOf
  by_cases h0 : o = 0
  · rw [if_pos h0, if_pos h0]
  rw [if_neg h0, if_neg h0]
  by_cases h1 : o < 3
  · rw [if_pos h1, if_pos h1]
  rw [if_neg h1, if_neg h1]
  by_cases h2 : o < 17
  · rw [if_pos h2, if_pos h2]
  rw [if_neg h2, if_neg h2]
  by_cases h3 : o < 27
  · rw [if_pos h3, if_pos h3, e _ (by omega)]
  rw [if_neg h3, if_neg h3]
  by_cases h4 : o < 29
  · rw [if_pos h4, if_pos h4]
  rw [if_neg h4, if_neg h4]
  by_cases h5 : o < 109
  · rw [if_pos h5, if_pos h5, e _ (by omega)]
  rw [if_neg h5, if_neg h5]
  by_cases h6 : o < 112
  · rw [if_pos h6, if_pos h6]
  rw [if_neg h6, if_neg h6]
  by_cases h7 : o < 115
  · rw [if_pos h7, if_pos h7]
  rw [if_neg h7, if_neg h7]
  by_cases h8 : o < 121
  · rw [if_pos h8, if_pos h8]
  rw [if_neg h8, if_neg h8]
  by_cases h9 : o < 122
  · rw [if_pos h9, if_pos h9]
  rw [if_neg h9, if_neg h9]
  by_cases h10 : o < 132
  · rw [if_pos h10, if_pos h10, e _ (by omega)]
  rw [if_neg h10, if_neg h10]
theorem cP_out (E : Ev) (σ : Sg) {k o : Nat} (F : ParV) (h : o < pad k ∨ pad k + 7 ≤ o) : cellOf E (sPar σ k F) o = cellOf E σ o := by
  have e : ∀ i, i ≠ k → gP (sPar σ k F) i = gP σ i := fun i hi => va_up_ne _ _ hi
  unfold pad at h
  unfold cellOf
  by_cases h0 : o = 0
  · rw [if_pos h0, if_pos h0]
  rw [if_neg h0, if_neg h0]
  by_cases h1 : o < 3
  · rw [if_pos h1, if_pos h1]
  rw [if_neg h1, if_neg h1]
  by_cases h2 : o < 17
  · rw [if_pos h2, if_pos h2, e _ (by omega)]
  rw [if_neg h2, if_neg h2]
theorem cT_out (E : Ev) (σ : Sg) {o : Nat} (F : TextV) (h : o < 1 ∨ 3 ≤ o) : cellOf E (sTx σ F) o = cellOf E σ o := by
  unfold cellOf
  by_cases h0 : o = 0
  · rw [if_pos h0, if_pos h0]
  rw [if_neg h0, if_neg h0]
  by_cases h1 : o < 3
  · exact absurd h1 (by omega)
  rw [if_neg h1, if_neg h1]
theorem cQ_out (E : Ev) (σ : Sg) {o : Nat} (F : PastV) (h : o < 27 ∨ 29 ≤ o) : cellOf E (sPa σ F) o = cellOf E σ o := by
  unfold cellOf
  by_cases h0 : o = 0
  · rw [if_pos h0, if_pos h0]
  rw [if_neg h0, if_neg h0]
  by_cases h1 : o < 3
  · rw [if_pos h1, if_pos h1]
  rw [if_neg h1, if_neg h1]
  by_cases h2 : o < 17
  · rw [if_pos h2, if_pos h2]
  rw [if_neg h2, if_neg h2]
  by_cases h3 : o < 27
  · rw [if_pos h3, if_pos h3]
  rw [if_neg h3, if_neg h3]
  by_cases h4 : o < 29
  · exact absurd h4 (by omega)
  rw [if_neg h4, if_neg h4]
theorem cS_out (E : Ev) (σ : Sg) {o : Nat} (F : SeenV) (h : o < 115 ∨ 121 ≤ o) : cellOf E (sSe σ F) o = cellOf E σ o := by
  unfold cellOf
  by_cases h0 : o = 0
  · rw [if_pos h0, if_pos h0]
  rw [if_neg h0, if_neg h0]
  by_cases h1 : o < 3
  · rw [if_pos h1, if_pos h1]
  rw [if_neg h1, if_neg h1]
  by_cases h2 : o < 17
  · rw [if_pos h2, if_pos h2]
  rw [if_neg h2, if_neg h2]
  by_cases h3 : o < 27
  · rw [if_pos h3, if_pos h3]
  rw [if_neg h3, if_neg h3]
  by_cases h4 : o < 29
  · rw [if_pos h4, if_pos h4]
  rw [if_neg h4, if_neg h4]
  by_cases h5 : o < 109
  · rw [if_pos h5, if_pos h5]
  rw [if_neg h5, if_neg h5]
  by_cases h6 : o < 112
  · rw [if_pos h6, if_pos h6]
  rw [if_neg h6, if_neg h6]
  by_cases h7 : o < 115
  · rw [if_pos h7, if_pos h7]
  rw [if_neg h7, if_neg h7]
  by_cases h8 : o < 121
  · exact absurd h8 (by omega)
  rw [if_neg h8, if_neg h8]
theorem cL_out (E : Ev) (σ : Sg) {o : Nat} (F : SettV) (h : o < 112 ∨ 115 ≤ o) : cellOf E (sSt σ F) o = cellOf E σ o := by
  unfold cellOf
  by_cases h0 : o = 0
  · rw [if_pos h0, if_pos h0]
  rw [if_neg h0, if_neg h0]
  by_cases h1 : o < 3
  · rw [if_pos h1, if_pos h1]
  rw [if_neg h1, if_neg h1]
  by_cases h2 : o < 17
  · rw [if_pos h2, if_pos h2]
  rw [if_neg h2, if_neg h2]
  by_cases h3 : o < 27
  · rw [if_pos h3, if_pos h3]
  rw [if_neg h3, if_neg h3]
  by_cases h4 : o < 29
  · rw [if_pos h4, if_pos h4]
  rw [if_neg h4, if_neg h4]
  by_cases h5 : o < 109
  · rw [if_pos h5, if_pos h5]
  rw [if_neg h5, if_neg h5]
  by_cases h6 : o < 112
  · rw [if_pos h6, if_pos h6]
  rw [if_neg h6, if_neg h6]
  by_cases h7 : o < 115
  · exact absurd h7 (by omega)
  rw [if_neg h7, if_neg h7]
theorem cU_out (E : Ev) (σ : Sg) {o : Nat} (F : TopV) (h : o ≠ 0 ∧ (o < 109 ∨ 112 ≤ o) ∧ o ≠ 121) : cellOf E (sU σ F) o = cellOf E σ o := by
  unfold cellOf
  by_cases h0 : o = 0
  · exact absurd h0 (by omega)
  rw [if_neg h0, if_neg h0]
  by_cases h1 : o < 3
  · rw [if_pos h1, if_pos h1]
  rw [if_neg h1, if_neg h1]
  by_cases h2 : o < 17
  · rw [if_pos h2, if_pos h2]
  rw [if_neg h2, if_neg h2]
  by_cases h3 : o < 27
  · rw [if_pos h3, if_pos h3]
  rw [if_neg h3, if_neg h3]
  by_cases h4 : o < 29
  · rw [if_pos h4, if_pos h4]
  rw [if_neg h4, if_neg h4]
  by_cases h5 : o < 109
  · rw [if_pos h5, if_pos h5]
  rw [if_neg h5, if_neg h5]
  by_cases h6 : o < 112
  · exact absurd h6 (by omega)
  rw [if_neg h6, if_neg h6]
  by_cases h7 : o < 115
  · rw [if_pos h7, if_pos h7]
  rw [if_neg h7, if_neg h7]
  by_cases h8 : o < 121
  · rw [if_pos h8, if_pos h8]
  rw [if_neg h8, if_neg h8]
  by_cases h9 : o < 122
  · exact absurd h9 (by omega)
  rw [if_neg h9, if_neg h9]
theorem cM_out (E : Ev) (σ : Sg) {o : Nat} (μ : MSt) (h : o < 132) : cellOf E (sM σ μ) o = cellOf E σ o := by
  unfold cellOf
  by_cases h0 : o = 0
  · rw [if_pos h0, if_pos h0]
  rw [if_neg h0, if_neg h0]
  by_cases h1 : o < 3
  · rw [if_pos h1, if_pos h1]
  rw [if_neg h1, if_neg h1]
  by_cases h2 : o < 17
  · rw [if_pos h2, if_pos h2]
  rw [if_neg h2, if_neg h2]
  by_cases h3 : o < 27
  · rw [if_pos h3, if_pos h3]
  rw [if_neg h3, if_neg h3]
  by_cases h4 : o < 29
  · rw [if_pos h4, if_pos h4]
  rw [if_neg h4, if_neg h4]
  by_cases h5 : o < 109
  · rw [if_pos h5, if_pos h5]
  rw [if_neg h5, if_neg h5]
  by_cases h6 : o < 112
  · rw [if_pos h6, if_pos h6]
  rw [if_neg h6, if_neg h6]
  by_cases h7 : o < 115
  · rw [if_pos h7, if_pos h7]
  rw [if_neg h7, if_neg h7]
  by_cases h8 : o < 121
  · rw [if_pos h8, if_pos h8]
  rw [if_neg h8, if_neg h8]
  by_cases h9 : o < 122
  · rw [if_pos h9, if_pos h9]
  rw [if_neg h9, if_neg h9]
  rw [if_pos h, if_pos h]
theorem wF_g (E : Ev) (σ : Sg) {k : Nat} (j : Nat) (hk : k < 20) (hj : j < 5) {F F' : FlockV} (hs : ∀ i, i < 5 → i ≠ j → fC E (adr k) F' i = fC E (adr k) F i) (o' : Nat) : cellOf E (sFl σ k F') o' = va_up (cellOf E (sFl σ k F)) (adr k + j) (fC E (adr k) F' j) o' := by
  by_cases he : o' = adr k + j
  · subst he
    rw [va_up_self, cF_at E _ hk hj, gF_s]
  · rw [va_up_ne _ _ he]
    by_cases hb : adr k ≤ o' ∧ o' < adr k + 5
    · obtain ⟨i, hi, rfl⟩ : ∃ i, i < 5 ∧ o' = adr k + i := ⟨o' - adr k, by omega, by omega⟩
      rw [cF_at E _ hk hi, cF_at E _ hk hi, gF_s, gF_s]
      exact hs i hi (by omega)
    · rw [cF_out E σ F' hk (by omega), cF_out E σ F hk (by omega)]
theorem wP_g (E : Ev) (σ : Sg) {k : Nat} (j : Nat) (hk : k < 2) (hj : j < 7) {F F' : ParV} (hs : ∀ i, i < 7 → i ≠ j → pC E (pad k) F' i = pC E (pad k) F i) (o' : Nat) : cellOf E (sPar σ k F') o' = va_up (cellOf E (sPar σ k F)) (pad k + j) (pC E (pad k) F' j) o' := by
  by_cases he : o' = pad k + j
  · subst he
    rw [va_up_self, cP_at E _ hk hj, gP_s]
  · rw [va_up_ne _ _ he]
    by_cases hb : pad k ≤ o' ∧ o' < pad k + 7
    · obtain ⟨i, hi, rfl⟩ : ∃ i, i < 7 ∧ o' = pad k + i := ⟨o' - pad k, by omega, by omega⟩
      rw [cP_at E _ hk hi, cP_at E _ hk hi, gP_s, gP_s]
      exact hs i hi (by omega)
    · rw [cP_out E σ F' (by omega), cP_out E σ F (by omega)]
theorem wT_g (E : Ev) (σ : Sg) (j : Nat) (hj : j < 2) {F F' : TextV} (hs : ∀ i, i < 2 → i ≠ j → tC E (1) F' i = tC E (1) F i) (o' : Nat) : cellOf E (sTx σ F') o' = va_up (cellOf E (sTx σ F)) (1 + j) (tC E (1) F' j) o' := by
  by_cases he : o' = 1 + j
  · subst he
    rw [va_up_self, cT_at E _ hj]
  · rw [va_up_ne _ _ he]
    by_cases hb : 1 ≤ o' ∧ o' < 1 + 2
    · obtain ⟨i, hi, rfl⟩ : ∃ i, i < 2 ∧ o' = 1 + i := ⟨o' - 1, by omega, by omega⟩
      rw [cT_at E _ hi, cT_at E _ hi]
      exact hs i hi (by omega)
    · rw [cT_out E σ F' (by omega), cT_out E σ F (by omega)]
theorem wS_g (E : Ev) (σ : Sg) (j : Nat) (hj : j < 6) {F F' : SeenV} (hs : ∀ i, i < 6 → i ≠ j → sC E (115) F' i = sC E (115) F i) (o' : Nat) : cellOf E (sSe σ F') o' = va_up (cellOf E (sSe σ F)) (115 + j) (sC E (115) F' j) o' := by
  by_cases he : o' = 115 + j
  · subst he
    rw [va_up_self, cS_at E _ hj]
  · rw [va_up_ne _ _ he]
    by_cases hb : 115 ≤ o' ∧ o' < 115 + 6
    · obtain ⟨i, hi, rfl⟩ : ∃ i, i < 6 ∧ o' = 115 + i := ⟨o' - 115, by omega, by omega⟩
      rw [cS_at E _ hi, cS_at E _ hi]
      exact hs i hi (by omega)
    · rw [cS_out E σ F' (by omega), cS_out E σ F (by omega)]
theorem wL_g (E : Ev) (σ : Sg) (j : Nat) (hj : j < 3) {F F' : SettV} (hs : ∀ i, i < 3 → i ≠ j → lC E (112) F' i = lC E (112) F i) (o' : Nat) : cellOf E (sSt σ F') o' = va_up (cellOf E (sSt σ F)) (112 + j) (lC E (112) F' j) o' := by
  by_cases he : o' = 112 + j
  · subst he
    rw [va_up_self, cL_at E _ hj]
  · rw [va_up_ne _ _ he]
    by_cases hb : 112 ≤ o' ∧ o' < 112 + 3
    · obtain ⟨i, hi, rfl⟩ : ∃ i, i < 3 ∧ o' = 112 + i := ⟨o' - 112, by omega, by omega⟩
      rw [cL_at E _ hi, cL_at E _ hi]
      exact hs i hi (by omega)
    · rw [cL_out E σ F' (by omega), cL_out E σ F (by omega)]
