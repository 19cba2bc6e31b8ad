theorem cL_obj {E : Ev} {σ : Sg} : cellOf E σ 112 = .inr (4, [.ref (Ez E + (112 + 1)), .ref (Ez E + (112 + 2))]) := by
  have h := cL_at E σ (j := 0) (by decide)
  rcases hg : gL σ with ⟨ht, be⟩
  rw [hg] at h; exact h
theorem perB_in {a : Int32} {n : Nat} (h : perB a n = true) (hn : n ≤ 7) : vp_in a 7 := by
  have q := of_decide_eq_true h
  rcases pk_ix a (n := 7) (by decide) with h1 | h1 | ⟨j, hj, rfl⟩
  · exact absurd h1 q.1
  · exact (Int32.lt_irrefl (Int32.lt_of_lt_of_le q.2 (Int32.le_trans (nI_le hn (by decide)) h1))).elim
  · exact vp_in_nI hj (by decide)
theorem perB_in9 {a : Int32} {n : Nat} (h : perB a n = true) (hn : n ≤ 9) : vp_in a 9 := by
  have q := of_decide_eq_true h
  rcases pk_ix a (n := 9) (by decide) with h1 | h1 | ⟨j, hj, rfl⟩
  · exact absurd h1 q.1
  · exact (Int32.lt_irrefl (Int32.lt_of_lt_of_le q.2 (Int32.le_trans (nI_le hn (by decide)) h1))).elim
  · exact vp_in_nI hj (by decide)
theorem perB_nat {a : Int32} {n : Nat} (h : perB a n = true) (hn : n < 2147483648) : ∃ i, i < n ∧ a = nI i := by
  have q := of_decide_eq_true h
  obtain ⟨i, hi, rfl⟩ := nI_of q.1
  exact ⟨i, (nI_ltI hi hn).mp q.2, rfl⟩
theorem outB_nat {a : Int32} {lo hi : Nat} (hlo : lo < 2147483648) (hhi : hi < 2147483648) (h : outB a (nI lo) (nI hi) = false) : ∃ i, lo ≤ i ∧ i ≤ hi ∧ a = nI i := by
  have q := of_decide_eq_false h
  have h1 : ¬ a < nI lo := fun z => q (Or.inl z)
  have h2 : ¬ nI hi < a := fun z => q (Or.inr z)
  have h0 : ¬ a < 0 := fun z => h1 (Int32.lt_of_lt_of_le z (nI_pos' hlo))
  obtain ⟨i, hi', rfl⟩ := nI_of h0
  rw [nI_ltI hi' hlo] at h1
  rw [nI_ltI hhi hi'] at h2
  exact ⟨i, by omega, by omega, rfl⟩
abbrev nowF (σ : Sg) : FlockV := gF σ 0
abbrev hNp (σ : Sg) : Nat := parNp (hereP σ)
abbrev hNd (σ : Sg) : Nat := parNd (hereP σ)
def cs_feed (σ : Sg) (a : Int32) : Int32 × Sg := if outB a (nI 0) (nI 255) = true then (cOUT, σ) else if (gT σ).2.1.toNatClampNeg < 240 then (nI ((gT σ).2.1.toNatClampNeg + 1), sTx σ (upd (gT σ).1 (gT σ).2.1.toNatClampNeg a, nI ((gT σ).2.1.toNatClampNeg + 1), (gT σ).2.2)) else (cFUL, σ)
def cs_debt (σ : Sg) (d w : Int32) : Int32 := if perB d (hNd σ) = true then (if w = nI 0 then parDt (hereP σ) d.toNatClampNeg else if w = nI 1 then parCr (hereP σ) d.toNatClampNeg else if w = nI 2 then fO (nowF σ) d.toNatClampNeg else cOUT) else cUNK
def cs_person (σ : Sg) (a w : Int32) : Int32 := if perB a (hNp σ) = true then
  (if w = nI 0 then parKd (hereP σ) a.toNatClampNeg else if w = nI 1 then fB (nowF σ) a.toNatClampNeg else if w = nI 2 then parDr (hereP σ) a.toNatClampNeg else if w = nI 3 then fK (nowF σ) a.toNatClampNeg else if w = nI 4 then bI (hasB (fN (nowF σ)) a)
   else if w = nI 5 then fB (nowF σ) a.toNatClampNeg / nI 9 else if w = nI 6 then fB (nowF σ) a.toNatClampNeg - fB (nowF σ) a.toNatClampNeg / nI 9 * nI 9 else if w = nI 7 then owI (parDt (hereP σ)) (fO (nowF σ)) a (hNd σ) else if w = nI 8 then owI (parCr (hereP σ)) (fO (nowF σ)) a (hNd σ)
   else if w = nI 9 then fl_loss (nowF σ) (parKd (hereP σ)) a.toNatClampNeg (decide (¬ fK (nowF σ) a.toNatClampNeg ≤ 0)) else cOUT) else cUNK
def mv2 (σ : Sg) (a z n : Int32) : Sg := sFl (rem_ σ) 0 (fl_move (nowF σ) a z n)
def cs_count (σ : Sg) (a n : Int32) : Int32 × Sg := if perB a (hNp σ) = true then (if outB n (nI 1) (nI 999) = true then (cOUT, σ) else if fT (nowF σ) < n then (cNOT, σ) else (fB (fl_move (nowF σ) (-2) a n) a.toNatClampNeg, mv2 σ (-2) a n)) else (cUNK, σ)
def cs_pay (σ : Sg) (a z n : Int32) : Int32 × Sg := if perB a (hNp σ) = true ∧ perB z (hNp σ) = true ∧ ¬ a = z then (if outB n (nI 1) (nI 999) = true then (cOUT, σ) else if fB (nowF σ) a.toNatClampNeg < n then (cNOT, σ) else ((itn (st_less (parDt (hereP σ)) (parCr (hereP σ)) a z) (hNd σ) (n, nI 0, fO (fl_move (nowF σ) a z n))).2.1, sFl (rem_ σ) 0 (fl_less (fl_move (nowF σ) a z n) (parDt (hereP σ)) (parCr (hereP σ)) (hNd σ) a z n))) else (cUNK, σ)
def cs_strew (σ : Sg) (a n : Int32) : Int32 × Sg := if perB a (hNp σ) = true then (if outB n (nI 1) (nI 99) = true then (cOUT, σ) else (fK (fl_crumb (nowF σ) a n) a.toNatClampNeg, sFl (rem_ σ) 0 (fl_crumb (nowF σ) a n))) else (cUNK, σ)
def fl_net (F : FlockV) (v : Int32) : FlockV := (fT F, fH F, v, fR F, fE F, fB F, fK F, fO F, fP F)
def cs_net (σ : Sg) (a : Int32) (y : Bool) : Int32 × Sg := if perB a (hNp σ) = true then (bI (hasB (fN (nowF σ)) a), sFl (rem_ σ) 0 (fl_net (nowF σ) (if y = true then fN (nowF σ) ||| (nI 1 <<< (a &&& 31)) else fN (nowF σ) &&& ((nI 1 <<< (a &&& 31)) ^^^ (-1))))) else (cUNK, σ)
def cs_hawk (σ : Sg) (x n : Int32) : Int32 × Sg := if outB x (nI 0) (nI 50) = true ∨ outB n (nI 0) (nI 50) = true then (cOUT, σ) else if parSd (hereP σ) = 0 then (cNOT, σ) else ((itn (st_scare (parDr (hereP σ)) x n) (hNp σ) (nI 0, nowF σ)).1, sFl (rem_ σ) 0 (itn (st_scare (parDr (hereP σ)) x n) (hNp σ) (nI 0, nowF σ)).2)
def cs_undo (σ : Sg) : Int32 × Sg := if (gQ σ).2.toNatClampNeg = 0 then (cNOT, σ) else (nI ((gQ σ).2.toNatClampNeg - 1), rec_ σ)
def cs_watch (σ : Sg) (n : Int32) : Int32 × Sg := if outB n (nI 0) (nI 99) = true then (cOUT, σ) else if (gS σ).2.2.2.2.2.1.toNatClampNeg < 6 then (nI ((gS σ).2.2.2.2.2.1.toNatClampNeg + 1), sSe σ (upd (gS σ).1 (gS σ).2.2.2.2.2.1.toNatClampNeg n, (gS σ).2.1, (gS σ).2.2.1, (gS σ).2.2.2.1, (gS σ).2.2.2.2.1, nI ((gS σ).2.2.2.2.2.1.toNatClampNeg + 1), (gS σ).2.2.2.2.2.2)) else (cFUL, σ)
def cs_feel (σ : Sg) (x y : Int32) (w : Bool) : Int32 × Sg := if outB x (nI 0) (nI 50) = true ∨ outB y (nI 0) (nI 50) = true then (cOUT, σ) else if (gS σ).2.2.2.2.2.2.1.toNatClampNeg < 6 then (nI ((gS σ).2.2.2.2.2.2.1.toNatClampNeg + 1), sSe σ ((gS σ).1, upd (gS σ).2.1 (gS σ).2.2.2.2.2.2.1.toNatClampNeg (abI (x - y)), upd (gS σ).2.2.1 (gS σ).2.2.2.2.2.2.1.toNatClampNeg (bI w), (gS σ).2.2.2.1, (gS σ).2.2.2.2.1, (gS σ).2.2.2.2.2.1, nI ((gS σ).2.2.2.2.2.2.1.toNatClampNeg + 1), (gS σ).2.2.2.2.2.2.2)) else (cFUL, σ)
def cs_write (σ : Sg) (a n : Int32) : Int32 × Sg := if perB a (hNp σ) = true then (if outB n (nI 0) (nI 9999) = true then (cOUT, σ) else if (gS σ).2.2.2.2.2.2.2.toNatClampNeg < 15 then (nI ((gS σ).2.2.2.2.2.2.2.toNatClampNeg + 1), sSe σ ((gS σ).1, (gS σ).2.1, (gS σ).2.2.1, upd (gS σ).2.2.2.1 (gS σ).2.2.2.2.2.2.2.toNatClampNeg a, upd (gS σ).2.2.2.2.1 (gS σ).2.2.2.2.2.2.2.toNatClampNeg n, (gS σ).2.2.2.2.2.1, (gS σ).2.2.2.2.2.2.1, nI ((gS σ).2.2.2.2.2.2.2.toNatClampNeg + 1))) else (cFUL, σ)) else (cUNK, σ)
def cs_tear (σ : Sg) : Int32 × Sg := ((gS σ).2.2.2.2.2.1 + (gS σ).2.2.2.2.2.2.1 + (gS σ).2.2.2.2.2.2.2, sSe σ ((gS σ).1, (gS σ).2.1, (gS σ).2.2.1, (gS σ).2.2.2.1, (gS σ).2.2.2.2.1, nI 0, nI 0, nI 0))
def cs_judge (σ : Sg) : Int32 := fst_ (wrongB (fB (nowF σ)) (gS σ).2.2.2.1 (gS σ).2.2.2.2.1) (gS σ).2.2.2.2.2.2.2.toNatClampNeg 0
abbrev seeCan (σ : Sg) : Nat → Bool := fun r => canR (gS σ).2.1 (gS σ).2.2.1 (gS σ).2.2.2.2.2.2.1.toNatClampNeg (nI r)
def cs_reach (σ : Sg) (w : Int32) : Int32 := if w = nI 0 then cntR (seeCan σ) 51 else if w = nI 1 then fst_ (seeCan σ) 51 0 else if w = nI 2 then lst_ (seeCan σ) 51 else if w = nI 3 then partR (seeCan σ) (cntR (seeCan σ) 51) else cOUT
def cs_seed (σ : Sg) (v : Int32) : Int32 × Sg := if v < 0 then (cOUT, σ) else ((gU σ).2.2.1, sU σ ((gU σ).1, (gU σ).2.1, v, (gU σ).2.2.2))
def calmL (q : Int32) (n : Nat) : Int64 := itn (fun _ x => x * q.toInt64 / 100) n 1000000000
def cs_calm (n q : Int32) : Int32 := if outB n (nI 0) (nI 60) = true ∨ outB q (nI 0) (nI 100) = true then cOUT else (calmL q n.toNatClampNeg).toInt32
theorem uF_t {E : Ev} {σ : Sg} {k : Nat} {t : Int32} {hr : Int32} {nt : Int32} {rg : Int32} {pe : Int32} {b : Fn} {c : Fn} {o : Fn} {p : Fn} {v_ : Int32} (hk : k < 20) (hX : gF σ k = (t, hr, nt, rg, pe, b, c, o, p)) (o' : Nat) (ho : o' < 146) : cellOf E (sFl σ k (v_, hr, nt, rg, pe, b, c, o, p)) o' = va_up (cellOf E σ) (adr k) (.inr (0, [.int v_, .int hr, .int nt, .int rg, .int pe, .ref (Ez E + (adr k + 1)), .ref (Ez E + (adr k + 2)), .ref (Ez E + (adr k + 3)), .ref (Ez E + (adr k + 4))])) o' := by
  have e : sFl σ k (t, hr, nt, rg, pe, b, c, o, p) = σ := by rw [← hX]; exact sFl_id _ _
  have h := wF_t (E := E) (σ := σ) (t := t) (hr := hr) (nt := nt) (rg := rg) (pe := pe) (b := b) (c := c) (o := o) (p := p) (v_ := v_) hk o' ho
  rw [e] at h; exact h
theorem uF_hr {E : Ev} {σ : Sg} {k : Nat} {t : Int32} {hr : Int32} {nt : Int32} {rg : Int32} {pe : Int32} {b : Fn} {c : Fn} {o : Fn} {p : Fn} {v_ : Int32} (hk : k < 20) (hX : gF σ k = (t, hr, nt, rg, pe, b, c, o, p)) (o' : Nat) (ho : o' < 146) : cellOf E (sFl σ k (t, v_, nt, rg, pe, b, c, o, p)) o' = va_up (cellOf E σ) (adr k) (.inr (0, [.int t, .int v_, .int nt, .int rg, .int pe, .ref (Ez E + (adr k + 1)), .ref (Ez E + (adr k + 2)), .ref (Ez E + (adr k + 3)), .ref (Ez E + (adr k + 4))])) o' := by
  have e : sFl σ k (t, hr, nt, rg, pe, b, c, o, p) = σ := by rw [← hX]; exact sFl_id _ _
  have h := wF_hr (E := E) (σ := σ) (t := t) (hr := hr) (nt := nt) (rg := rg) (pe := pe) (b := b) (c := c) (o := o) (p := p) (v_ := v_) hk o' ho
  rw [e] at h; exact h
theorem uF_nt {E : Ev} {σ : Sg} {k : Nat} {t : Int32} {hr : Int32} {nt : Int32} {rg : Int32} {pe : Int32} {b : Fn} {c : Fn} {o : Fn} {p : Fn} {v_ : Int32} (hk : k < 20) (hX : gF σ k = (t, hr, nt, rg, pe, b, c, o, p)) (o' : Nat) (ho : o' < 146) : cellOf E (sFl σ k (t, hr, v_, rg, pe, b, c, o, p)) o' = va_up (cellOf E σ) (adr k) (.inr (0, [.int t, .int hr, .int v_, .int rg, .int pe, .ref (Ez E + (adr k + 1)), .ref (Ez E + (adr k + 2)), .ref (Ez E + (adr k + 3)), .ref (Ez E + (adr k + 4))])) o' := by
  have e : sFl σ k (t, hr, nt, rg, pe, b, c, o, p) = σ := by rw [← hX]; exact sFl_id _ _
  have h := wF_nt (E := E) (σ := σ) (t := t) (hr := hr) (nt := nt) (rg := rg) (pe := pe) (b := b) (c := c) (o := o) (p := p) (v_ := v_) hk o' ho
  rw [e] at h; exact h
theorem uF_rg {E : Ev} {σ : Sg} {k : Nat} {t : Int32} {hr : Int32} {nt : Int32} {rg : Int32} {pe : Int32} {b : Fn} {c : Fn} {o : Fn} {p : Fn} {v_ : Int32} (hk : k < 20) (hX : gF σ k = (t, hr, nt, rg, pe, b, c, o, p)) (o' : Nat) (ho : o' < 146) : cellOf E (sFl σ k (t, hr, nt, v_, pe, b, c, o, p)) o' = va_up (cellOf E σ) (adr k) (.inr (0, [.int t, .int hr, .int nt, .int v_, .int pe, .ref (Ez E + (adr k + 1)), .ref (Ez E + (adr k + 2)), .ref (Ez E + (adr k + 3)), .ref (Ez E + (adr k + 4))])) o' := by
  have e : sFl σ k (t, hr, nt, rg, pe, b, c, o, p) = σ := by rw [← hX]; exact sFl_id _ _
  have h := wF_rg (E := E) (σ := σ) (t := t) (hr := hr) (nt := nt) (rg := rg) (pe := pe) (b := b) (c := c) (o := o) (p := p) (v_ := v_) hk o' ho
  rw [e] at h; exact h
theorem uF_pe {E : Ev} {σ : Sg} {k : Nat} {t : Int32} {hr : Int32} {nt : Int32} {rg : Int32} {pe : Int32} {b : Fn} {c : Fn} {o : Fn} {p : Fn} {v_ : Int32} (hk : k < 20) (hX : gF σ k = (t, hr, nt, rg, pe, b, c, o, p)) (o' : Nat) (ho : o' < 146) : cellOf E (sFl σ k (t, hr, nt, rg, v_, b, c, o, p)) o' = va_up (cellOf E σ) (adr k) (.inr (0, [.int t, .int hr, .int nt, .int rg, .int v_, .ref (Ez E + (adr k + 1)), .ref (Ez E + (adr k + 2)), .ref (Ez E + (adr k + 3)), .ref (Ez E + (adr k + 4))])) o' := by
  have e : sFl σ k (t, hr, nt, rg, pe, b, c, o, p) = σ := by rw [← hX]; exact sFl_id _ _
  have h := wF_pe (E := E) (σ := σ) (t := t) (hr := hr) (nt := nt) (rg := rg) (pe := pe) (b := b) (c := c) (o := o) (p := p) (v_ := v_) hk o' ho
  rw [e] at h; exact h
theorem uF_b {E : Ev} {σ : Sg} {k : Nat} {t : Int32} {hr : Int32} {nt : Int32} {rg : Int32} {pe : Int32} {b : Fn} {c : Fn} {o : Fn} {p : Fn} {v_ : Fn} (hk : k < 20) (hX : gF σ k = (t, hr, nt, rg, pe, b, c, o, p)) (o' : Nat) (ho : o' < 146) : cellOf E (sFl σ k (t, hr, nt, rg, pe, v_, c, o, p)) o' = va_up (cellOf E σ) (adr k + 1) (.inl (EI E, 7, .inl v_)) o' := by
  have e : sFl σ k (t, hr, nt, rg, pe, b, c, o, p) = σ := by rw [← hX]; exact sFl_id _ _
  have h := wF_b (E := E) (σ := σ) (t := t) (hr := hr) (nt := nt) (rg := rg) (pe := pe) (b := b) (c := c) (o := o) (p := p) (v_ := v_) hk o' ho
  rw [e] at h; exact h
theorem uF_c {E : Ev} {σ : Sg} {k : Nat} {t : Int32} {hr : Int32} {nt : Int32} {rg : Int32} {pe : Int32} {b : Fn} {c : Fn} {o : Fn} {p : Fn} {v_ : Fn} (hk : k < 20) (hX : gF σ k = (t, hr, nt, rg, pe, b, c, o, p)) (o' : Nat) (ho : o' < 146) : cellOf E (sFl σ k (t, hr, nt, rg, pe, b, v_, o, p)) o' = va_up (cellOf E σ) (adr k + 2) (.inl (EI E, 7, .inl v_)) o' := by
  have e : sFl σ k (t, hr, nt, rg, pe, b, c, o, p) = σ := by rw [← hX]; exact sFl_id _ _
  have h := wF_c (E := E) (σ := σ) (t := t) (hr := hr) (nt := nt) (rg := rg) (pe := pe) (b := b) (c := c) (o := o) (p := p) (v_ := v_) hk o' ho
  rw [e] at h; exact h
theorem uF_o {E : Ev} {σ : Sg} {k : Nat} {t : Int32} {hr : Int32} {nt : Int32} {rg : Int32} {pe : Int32} {b : Fn} {c : Fn} {o : Fn} {p : Fn} {v_ : Fn} (hk : k < 20) (hX : gF σ k = (t, hr, nt, rg, pe, b, c, o, p)) (o' : Nat) (ho : o' < 146) : cellOf E (sFl σ k (t, hr, nt, rg, pe, b, c, v_, p)) o' = va_up (cellOf E σ) (adr k + 3) (.inl (EI E, 9, .inl v_)) o' := by
  have e : sFl σ k (t, hr, nt, rg, pe, b, c, o, p) = σ := by rw [← hX]; exact sFl_id _ _
  have h := wF_o (E := E) (σ := σ) (t := t) (hr := hr) (nt := nt) (rg := rg) (pe := pe) (b := b) (c := c) (o := o) (p := p) (v_ := v_) hk o' ho
  rw [e] at h; exact h
theorem uF_p {E : Ev} {σ : Sg} {k : Nat} {t : Int32} {hr : Int32} {nt : Int32} {rg : Int32} {pe : Int32} {b : Fn} {c : Fn} {o : Fn} {p : Fn} {v_ : Fn} (hk : k < 20) (hX : gF σ k = (t, hr, nt, rg, pe, b, c, o, p)) (o' : Nat) (ho : o' < 146) : cellOf E (sFl σ k (t, hr, nt, rg, pe, b, c, o, v_)) o' = va_up (cellOf E σ) (adr k + 4) (.inl (EI E, 20, .inl v_)) o' := by
  have e : sFl σ k (t, hr, nt, rg, pe, b, c, o, p) = σ := by rw [← hX]; exact sFl_id _ _
  have h := wF_p (E := E) (σ := σ) (t := t) (hr := hr) (nt := nt) (rg := rg) (pe := pe) (b := b) (c := c) (o := o) (p := p) (v_ := v_) hk o' ho
  rw [e] at h; exact h
theorem uU_hj {E : Ev} {σ : Sg} {hj dj : Nat} {se : Int32} {is it oo : Fn} {v_ : Nat} (hX : gU σ = (hj, dj, se, is, it, oo)) (o' : Nat) (ho : o' < 146) : cellOf E (sU σ (v_, dj, se, is, it, oo)) o' = va_up (cellOf E σ) 0 (.inr (6, [.ref (Ez E + 1), .ref (Ez E + pad v_), .ref (Ez E + pad dj), .ref (Ez E + adr 0), .ref (Ez E + adr 1), .ref (Ez E + 27), .ref (Ez E + 109), .ref (Ez E + 110), .ref (Ez E + 111), .ref (Ez E + 112), .ref (Ez E + 115), .ref (Ez E + 121), .int se])) o' := by
  have e : sU σ (hj, dj, se, is, it, oo) = σ := by rw [← hX]
  have h := wU_hj (E := E) (σ := σ) (hj := hj) (dj := dj) (se := se) (is := is) (it := it) (oo := oo) (v_ := v_) o' ho
  rw [e] at h; exact h
theorem uU_dj {E : Ev} {σ : Sg} {hj dj : Nat} {se : Int32} {is it oo : Fn} {v_ : Nat} (hX : gU σ = (hj, dj, se, is, it, oo)) (o' : Nat) (ho : o' < 146) : cellOf E (sU σ (hj, v_, se, is, it, oo)) o' = va_up (cellOf E σ) 0 (.inr (6, [.ref (Ez E + 1), .ref (Ez E + pad hj), .ref (Ez E + pad v_), .ref (Ez E + adr 0), .ref (Ez E + adr 1), .ref (Ez E + 27), .ref (Ez E + 109), .ref (Ez E + 110), .ref (Ez E + 111), .ref (Ez E + 112), .ref (Ez E + 115), .ref (Ez E + 121), .int se])) o' := by
  have e : sU σ (hj, dj, se, is, it, oo) = σ := by rw [← hX]
  have h := wU_dj (E := E) (σ := σ) (hj := hj) (dj := dj) (se := se) (is := is) (it := it) (oo := oo) (v_ := v_) o' ho
  rw [e] at h; exact h
theorem uU_se {E : Ev} {σ : Sg} {hj dj : Nat} {se : Int32} {is it oo : Fn} {v_ : Int32} (hX : gU σ = (hj, dj, se, is, it, oo)) (o' : Nat) (ho : o' < 146) : cellOf E (sU σ (hj, dj, v_, is, it, oo)) o' = va_up (cellOf E σ) 0 (.inr (6, [.ref (Ez E + 1), .ref (Ez E + pad hj), .ref (Ez E + pad dj), .ref (Ez E + adr 0), .ref (Ez E + adr 1), .ref (Ez E + 27), .ref (Ez E + 109), .ref (Ez E + 110), .ref (Ez E + 111), .ref (Ez E + 112), .ref (Ez E + 115), .ref (Ez E + 121), .int v_])) o' := by
  have e : sU σ (hj, dj, se, is, it, oo) = σ := by rw [← hX]
  have h := wU_se (E := E) (σ := σ) (hj := hj) (dj := dj) (se := se) (is := is) (it := it) (oo := oo) (v_ := v_) o' ho
  rw [e] at h; exact h
theorem uU_is {E : Ev} {σ : Sg} {hj dj : Nat} {se : Int32} {is it oo : Fn} {v_ : Fn} (hX : gU σ = (hj, dj, se, is, it, oo)) (o' : Nat) (ho : o' < 146) : cellOf E (sU σ (hj, dj, se, v_, it, oo)) o' = va_up (cellOf E σ) 110 (.inl (EI E, 2, .inl v_)) o' := by
  have e : sU σ (hj, dj, se, is, it, oo) = σ := by rw [← hX]
  have h := wU_is (E := E) (σ := σ) (hj := hj) (dj := dj) (se := se) (is := is) (it := it) (oo := oo) (v_ := v_) o' ho
  rw [e] at h; exact h
theorem uU_it {E : Ev} {σ : Sg} {hj dj : Nat} {se : Int32} {is it oo : Fn} {v_ : Fn} (hX : gU σ = (hj, dj, se, is, it, oo)) (o' : Nat) (ho : o' < 146) : cellOf E (sU σ (hj, dj, se, is, v_, oo)) o' = va_up (cellOf E σ) 111 (.inl (EZ E, 2, .inl v_)) o' := by
  have e : sU σ (hj, dj, se, is, it, oo) = σ := by rw [← hX]
  have h := wU_it (E := E) (σ := σ) (hj := hj) (dj := dj) (se := se) (is := is) (it := it) (oo := oo) (v_ := v_) o' ho
  rw [e] at h; exact h
theorem uU_oo {E : Ev} {σ : Sg} {hj dj : Nat} {se : Int32} {is it oo : Fn} {v_ : Fn} (hX : gU σ = (hj, dj, se, is, it, oo)) (o' : Nat) (ho : o' < 146) : cellOf E (sU σ (hj, dj, se, is, it, v_)) o' = va_up (cellOf E σ) 121 (.inl (EI E, 7, .inl v_)) o' := by
  have e : sU σ (hj, dj, se, is, it, oo) = σ := by rw [← hX]
  have h := wU_oo (E := E) (σ := σ) (hj := hj) (dj := dj) (se := se) (is := is) (it := it) (oo := oo) (v_ := v_) o' ho
  rw [e] at h; exact h
theorem outB_in {i lo hi : Nat} (h1 : lo ≤ i) (h2 : i ≤ hi) (hh : hi < 2147483648) : outB (nI i) (nI lo) (nI hi) = false := by
  refine decide_eq_false ?_
  rintro (q | q)
  · rw [nI_ltI (by omega) (by omega)] at q; omega
  · rw [nI_ltI (by omega) (by omega)] at q; omega
theorem nI_add3 {a b c : Nat} : nI (a + b + c) = nI a + nI b + nI c := by rw [nI_add, nI_add]
set_option maxHeartbeats 4000000 in
set_option maxRecDepth 100000 in
theorem s_debt {E : Ev} {σ : Sg} (hW : WC σ) (d w : Int32) : Ct E yX6_debt cX6_debt 3 (some .int) ({ frames := 1, cells := 0, slots := 0, locals := 21 } : Room) false 146 [.ref (Ez E + 0), .int d, .int w] (cellOf E σ) 146 0 0 (Ff (some (.int (cs_debt σ d w))) (cellOf E σ)) := by
  obtain ⟨⟨hj, hdj, hjd⟩, hPs, ⟨x_, s_, hQ, hx, hs⟩, ⟨wa, df, wf, ep, eb, ws, fs, es, hS, hws, hfs, hes, hep⟩, ⟨lt, L, m, fa, fn, ap, hT, hL, hm⟩⟩ := hW
  rcases hU : gU σ with ⟨j, dj, se, is, it, oo⟩
  rw [hU] at hj hdj hjd
  simp only at hj hdj hjd
  obtain ⟨np, nd, sd, du, tr, kd, bd, dr, dt, cr, ow, hP, hnp, hnd, hdt, hcr⟩ := hPs j hj
  have eH : hereP σ = (sd, du, tr, nI np, nI nd, kd, bd, dr, dt, cr, ow) := by show gP σ (gU σ).1 = _; rw [hU]; exact hP
  have eNp : hNp σ = np := by show parNp (hereP σ) = np; rw [eH]; exact nI_clamp (by omega)
  have eNd : hNd σ = nd := by show parNd (hereP σ) = nd; rw [eH]; exact nI_clamp (by omega)
  refine Ct.ofV (by decide) (Nat.le_of_ble_eq_true rfl) (fun X hnm => ?_)
  show V E X _ RX6 _ _ _ _ _ _ false 146 0 [(0, .ref (Ez E + 0)), (1, .int d), (2, .int w)] [] _
  refine v_aload_n (pc := 0) 0 dX6_debt_0 rfl rfl ?_
  refine g_X6_19 (pc := 1) (cUr_obj hU) (by decide) rfl dX6_debt_1 ?_
  refine v_iload_n (pc := 4) 1 dX6_debt_4 rfl rfl ?_
  refine v_callV (pc := 5) _ _ k_X6_186 (cPr_obj hj hP) rfl (pad_lt0 hj) (c_hasDebt hj hP hnp hnd _) ⟨rfl, rfl, by decide⟩ rfl rfl (Nat.le_of_ble_eq_true rfl) ⟨Nat.le_of_ble_eq_true rfl, Nat.le_of_ble_eq_true rfl⟩ dX6_debt_5 (unS ?_)
  show V E X _ RX6 _ _ _ 0 0 _ false 146 8 _ [_] _
  refine v_if_neB (pc := 8) (tgt := 14) dX6_debt_8 rfl (fun c_8 => ?_) (fun c_8 => ?_)
  · refine v_iload_n (pc := 14) 2 dX6_debt_14 rfl rfl ?_
    rcases sw_0_2 w with s_15 | s_15 | s_15 | s_15
    · refine v_tabIn (pc := 15) (off := 25) (tgt := 40) dX6_debt_15 (by rw [s_15]; decide) (by rw [s_15]; decide) (by rw [s_15]; rfl) rfl ?_
      refine v_aload_n (pc := 40) 0 dX6_debt_40 rfl rfl ?_
      refine g_X6_19 (pc := 41) (cUr_obj hU) (by decide) rfl dX6_debt_41 ?_
      refine g_X6_189 (pc := 44) (cPr_obj hj hP) (pad_lt0 hj) rfl dX6_debt_44 ?_
      refine v_iload_n (pc := 47) 1 dX6_debt_47 rfl rfl ?_
      refine v_iald (pc := 48) (cPr_dt hj hP) (pad_lt hj (by decide)) (perB_in9 c_8 hnd) dX6_debt_48 ?_
      exact v_iret (pc := 49) dX6_debt_49 (⟨by unfold cs_debt; rw [eNd, if_pos c_8, if_pos s_15] <;> first | rfl | (rw [eH]) , rfl⟩)
    · refine v_tabIn (pc := 15) (off := 35) (tgt := 50) dX6_debt_15 (by rw [s_15]; decide) (by rw [s_15]; decide) (by rw [s_15]; rfl) rfl ?_
      refine v_aload_n (pc := 50) 0 dX6_debt_50 rfl rfl ?_
      refine g_X6_19 (pc := 51) (cUr_obj hU) (by decide) rfl dX6_debt_51 ?_
      refine g_X6_192 (pc := 54) (cPr_obj hj hP) (pad_lt0 hj) rfl dX6_debt_54 ?_
      refine v_iload_n (pc := 57) 1 dX6_debt_57 rfl rfl ?_
      refine v_iald (pc := 58) (cPr_cr hj hP) (pad_lt hj (by decide)) (perB_in9 c_8 hnd) dX6_debt_58 ?_
      exact v_iret (pc := 59) dX6_debt_59 (⟨by unfold cs_debt; rw [eNd, if_pos c_8, if_neg (show ¬ w = nI 0 from fun e => by rw [e] at s_15; revert s_15; decide), if_pos s_15] <;> first | rfl | (rw [eH]) , rfl⟩)
    · refine v_tabIn (pc := 15) (off := 45) (tgt := 60) dX6_debt_15 (by rw [s_15]; decide) (by rw [s_15]; decide) (by rw [s_15]; rfl) rfl ?_
      refine v_aload_n (pc := 60) 0 dX6_debt_60 rfl rfl ?_
      refine g_X6_29 (pc := 61) (cUr_obj hU) (by decide) rfl dX6_debt_61 ?_
      refine g_X6_195 (pc := 64) (cF_obj 0 (by decide)) (adr_lt0 (by decide)) rfl dX6_debt_64 ?_
      refine v_iload_n (pc := 67) 1 dX6_debt_67 rfl rfl ?_
      refine v_iald (pc := 68) (cF_o 0 (by decide)) (adr_lt (by decide) (by decide)) (perB_in9 c_8 hnd) dX6_debt_68 ?_
      exact v_iret (pc := 69) dX6_debt_69 (⟨by unfold cs_debt; rw [eNd, if_pos c_8, if_neg (show ¬ w = nI 0 from fun e => by rw [e] at s_15; revert s_15; decide), if_neg (show ¬ w = nI 1 from fun e => by rw [e] at s_15; revert s_15; decide), if_pos s_15] <;> first | rfl | (rw [eH]) , rfl⟩)
    · refine v_tabOut (pc := 15) (tgt := 70) dX6_debt_15 s_15 rfl ?_
      refine v_ldc (pc := 70) _ kc_X6_80 dX6_debt_70 rfl ?_
      exact v_iret (pc := 72) dX6_debt_72 (⟨by unfold cs_debt; rw [eNd, if_pos c_8, if_neg (show ¬ w = nI 0 from fun e => by rw [e] at s_15; revert s_15; decide), if_neg (show ¬ w = nI 1 from fun e => by rw [e] at s_15; revert s_15; decide), if_neg (show ¬ w = nI 2 from fun e => by rw [e] at s_15; revert s_15; decide)] <;> first | rfl | (rw [eH]) , rfl⟩)
  · refine v_ldc (pc := 11) _ kc_X6_160 dX6_debt_11 rfl ?_
    exact v_iret (pc := 13) dX6_debt_13 (⟨by unfold cs_debt; rw [eNd, if_neg (by rw [c_8]; decide)]; rfl, rfl⟩)
theorem k_lossP {E : Ev} {σ : Sg} {k : Nat} {F : FlockV} (hk : k < 20) (hF : gF σ k = F) {j np nd : Nat} {sd du tr : Int32} {kd bd dr dt cr ow : Fn} (hj : j < 2) (hP : gP σ j = (sd, du, tr, nI np, nI nd, kd, bd, dr, dt, cr, ow)) (hnp : np ≤ 7) (hnd : nd ≤ 9) {a : Int32} (ha : vp_in a 7) (w : Bool) : Ct E yX0_loss cX0_loss 6 (some .int) ({ frames := 2, cells := 0, slots := 0, locals := 42 } : Room) false 146 [.ref (Ez E + adr k), .ref (Ez E + pad j), .int a, .int (bI w)] (cellOf E σ) 146 0 0 (Ff (some (.int (fl_loss F kd a.toNatClampNeg w))) (cellOf E σ)) := by
  obtain ⟨i, hi, rfl⟩ := vp_in_of ha (by decide)
  rw [nI_clamp (by omega)]
  exact k_loss hk hF hj hP hnp hnd hi w
set_option maxHeartbeats 4000000 in
set_option maxRecDepth 100000 in
theorem s_person {E : Ev} {σ : Sg} (hW : WC σ) (a w : Int32) : Ct E yX6_person cX6_person 3 (some .int) ({ frames := 3, cells := 0, slots := 0, locals := 67 } : Room) false 146 [.ref (Ez E + 0), .int a, .int w] (cellOf E σ) 146 0 0 (Ff (some (.int (cs_person σ a w))) (cellOf E σ)) := by
  obtain ⟨⟨hj, hdj, hjd⟩, hPs, ⟨x_, s_, hQ, hx, hs⟩, ⟨wa, df, wf, ep, eb, ws, fs, es, hS, hws, hfs, hes, hep⟩, ⟨lt, L, m, fa, fn, ap, hT, hL, hm⟩⟩ := hW
  rcases hU : gU σ with ⟨j, dj, se, is, it, oo⟩
  rw [hU] at hj hdj hjd
  simp only at hj hdj hjd
  obtain ⟨np, nd, sd, du, tr, kd, bd, dr, dt, cr, ow, hP, hnp, hnd, hdt, hcr⟩ := hPs j hj
  have eH : hereP σ = (sd, du, tr, nI np, nI nd, kd, bd, dr, dt, cr, ow) := by show gP σ (gU σ).1 = _; rw [hU]; exact hP
  have eNp : hNp σ = np := by show parNp (hereP σ) = np; rw [eH]; exact nI_clamp (by omega)
  have eNd : hNd σ = nd := by show parNd (hereP σ) = nd; rw [eH]; exact nI_clamp (by omega)
  rcases hG : gF σ 0 with ⟨t, hr, nt, rg, pe, b, c, o, p⟩
  refine Ct.ofV (by decide) (Nat.le_of_ble_eq_true rfl) (fun X hnm => ?_)
  show V E X _ RX6 _ _ _ _ _ _ false 146 0 [(0, .ref (Ez E + 0)), (1, .int a), (2, .int w)] [] _
  refine v_aload_n (pc := 0) 0 dX6_person_0 rfl rfl ?_
  refine g_X6_19 (pc := 1) (cUr_obj hU) (by decide) rfl dX6_person_1 ?_
  refine v_iload_n (pc := 4) 1 dX6_person_4 rfl rfl ?_
  refine v_callV (pc := 5) _ _ k_X6_156 (cPr_obj hj hP) rfl (pad_lt0 hj) (c_hasPerson hj hP hnp hnd _) ⟨rfl, rfl, by decide⟩ rfl rfl (Nat.le_of_ble_eq_true rfl) ⟨Nat.le_of_ble_eq_true rfl, Nat.le_of_ble_eq_true rfl⟩ dX6_person_5 (unS ?_)
  show V E X _ RX6 _ _ _ 0 0 _ false 146 8 _ [_] _
  refine v_if_neB (pc := 8) (tgt := 14) dX6_person_8 rfl (fun c_8 => ?_) (fun c_8 => ?_)
  · refine v_iload_n (pc := 14) 2 dX6_person_14 rfl rfl ?_
    rcases sw_0_9 w with s_15 | s_15 | s_15 | s_15 | s_15 | s_15 | s_15 | s_15 | s_15 | s_15 | s_15
    · refine v_tabIn (pc := 15) (off := 53) (tgt := 68) dX6_person_15 (by rw [s_15]; decide) (by rw [s_15]; decide) (by rw [s_15]; rfl) rfl ?_
      refine v_aload_n (pc := 68) 0 dX6_person_68 rfl rfl ?_
      refine g_X6_19 (pc := 69) (cUr_obj hU) (by decide) rfl dX6_person_69 ?_
      refine g_X6_161 (pc := 72) (cPr_obj hj hP) (pad_lt0 hj) rfl dX6_person_72 ?_
      refine v_iload_n (pc := 75) 1 dX6_person_75 rfl rfl ?_
      refine v_iald (pc := 76) (cPr_kd hj hP) (pad_lt hj (by decide)) (perB_in c_8 hnp) dX6_person_76 ?_
      exact v_iret (pc := 77) dX6_person_77 (⟨by unfold cs_person; rw [eNp, if_pos c_8, if_pos s_15]; rw [eH], rfl⟩)
    · refine v_tabIn (pc := 15) (off := 63) (tgt := 78) dX6_person_15 (by rw [s_15]; decide) (by rw [s_15]; decide) (by rw [s_15]; rfl) rfl ?_
      refine v_aload_n (pc := 78) 0 dX6_person_78 rfl rfl ?_
      refine g_X6_29 (pc := 79) (cUr_obj hU) (by decide) rfl dX6_person_79 ?_
      refine g_X6_164 (pc := 82) (cF_obj 0 (by decide)) (adr_lt0 (by decide)) rfl dX6_person_82 ?_
      refine v_iload_n (pc := 85) 1 dX6_person_85 rfl rfl ?_
      refine v_iald (pc := 86) (cF_b 0 (by decide)) (adr_lt (by decide) (by decide)) (perB_in c_8 hnp) dX6_person_86 ?_
      exact v_iret (pc := 87) dX6_person_87 (⟨by unfold cs_person; rw [eNp, if_pos c_8, if_neg (show ¬ w = nI 0 from fun e => by rw [e] at s_15; revert s_15; decide), if_pos s_15], rfl⟩)
    · refine v_tabIn (pc := 15) (off := 73) (tgt := 88) dX6_person_15 (by rw [s_15]; decide) (by rw [s_15]; decide) (by rw [s_15]; rfl) rfl ?_
      refine v_aload_n (pc := 88) 0 dX6_person_88 rfl rfl ?_
      refine g_X6_19 (pc := 89) (cUr_obj hU) (by decide) rfl dX6_person_89 ?_
      refine g_X6_167 (pc := 92) (cPr_obj hj hP) (pad_lt0 hj) rfl dX6_person_92 ?_
      refine v_iload_n (pc := 95) 1 dX6_person_95 rfl rfl ?_
      refine v_iald (pc := 96) (cPr_dr hj hP) (pad_lt hj (by decide)) (perB_in c_8 hnp) dX6_person_96 ?_
      exact v_iret (pc := 97) dX6_person_97 (⟨by unfold cs_person; rw [eNp, if_pos c_8, if_neg (show ¬ w = nI 0 from fun e => by rw [e] at s_15; revert s_15; decide), if_neg (show ¬ w = nI 1 from fun e => by rw [e] at s_15; revert s_15; decide), if_pos s_15]; rw [eH], rfl⟩)
    · refine v_tabIn (pc := 15) (off := 83) (tgt := 98) dX6_person_15 (by rw [s_15]; decide) (by rw [s_15]; decide) (by rw [s_15]; rfl) rfl ?_
      refine v_aload_n (pc := 98) 0 dX6_person_98 rfl rfl ?_
      refine g_X6_29 (pc := 99) (cUr_obj hU) (by decide) rfl dX6_person_99 ?_
      refine g_X6_170 (pc := 102) (cF_obj 0 (by decide)) (adr_lt0 (by decide)) rfl dX6_person_102 ?_
      refine v_iload_n (pc := 105) 1 dX6_person_105 rfl rfl ?_
      refine v_iald (pc := 106) (cF_c 0 (by decide)) (adr_lt (by decide) (by decide)) (perB_in c_8 hnp) dX6_person_106 ?_
      exact v_iret (pc := 107) dX6_person_107 (⟨by unfold cs_person; rw [eNp, if_pos c_8, if_neg (show ¬ w = nI 0 from fun e => by rw [e] at s_15; revert s_15; decide), if_neg (show ¬ w = nI 1 from fun e => by rw [e] at s_15; revert s_15; decide), if_neg (show ¬ w = nI 2 from fun e => by rw [e] at s_15; revert s_15; decide), if_pos s_15], rfl⟩)
    · refine v_tabIn (pc := 15) (off := 93) (tgt := 108) dX6_person_15 (by rw [s_15]; decide) (by rw [s_15]; decide) (by rw [s_15]; rfl) rfl ?_
      refine v_aload_n (pc := 108) 0 dX6_person_108 rfl rfl ?_
      refine g_X6_29 (pc := 109) (cUr_obj hU) (by decide) rfl dX6_person_109 ?_
      refine v_iload_n (pc := 112) 1 dX6_person_112 rfl rfl ?_
      refine v_callV (pc := 113) _ _ k_X6_173 (cF_obj 0 (by decide)) rfl (adr_lt0 (by decide)) (k_hasNet (by decide) rfl _) ⟨rfl, rfl, by decide⟩ rfl rfl (Nat.le_of_ble_eq_true rfl) ⟨Nat.le_of_ble_eq_true rfl, Nat.le_of_ble_eq_true rfl⟩ dX6_person_113 (unS ?_)
      show V E X _ RX6 _ _ _ 0 0 _ false 146 116 _ [_] _
      refine v_if_eqB (pc := 116) (tgt := 123) dX6_person_116 rfl (fun c_116 => ?_) (fun c_116 => ?_)
      · refine v_iconst (pc := 123) (nI 0) dX6_person_123 kI_0 ?_
        exact v_iret (pc := 124) dX6_person_124 (⟨by unfold cs_person; rw [eNp, if_pos c_8, if_neg (show ¬ w = nI 0 from fun e => by rw [e] at s_15; revert s_15; decide), if_neg (show ¬ w = nI 1 from fun e => by rw [e] at s_15; revert s_15; decide), if_neg (show ¬ w = nI 2 from fun e => by rw [e] at s_15; revert s_15; decide), if_neg (show ¬ w = nI 3 from fun e => by rw [e] at s_15; revert s_15; decide), if_pos s_15]; first | (rw [show hasB (fN (nowF σ)) a = true by assumption]; rfl) | (rw [show hasB (fN (nowF σ)) a = false by assumption]; rfl), rfl⟩)
      · refine v_iconst (pc := 119) (nI 1) dX6_person_119 kI_1 ?_
        refine v_goto (pc := 120) (tgt := 124) dX6_person_120 rfl ?_
        exact v_iret (pc := 124) dX6_person_124 (⟨by unfold cs_person; rw [eNp, if_pos c_8, if_neg (show ¬ w = nI 0 from fun e => by rw [e] at s_15; revert s_15; decide), if_neg (show ¬ w = nI 1 from fun e => by rw [e] at s_15; revert s_15; decide), if_neg (show ¬ w = nI 2 from fun e => by rw [e] at s_15; revert s_15; decide), if_neg (show ¬ w = nI 3 from fun e => by rw [e] at s_15; revert s_15; decide), if_pos s_15]; first | (rw [show hasB (fN (nowF σ)) a = true by assumption]; rfl) | (rw [show hasB (fN (nowF σ)) a = false by assumption]; rfl), rfl⟩)
    · refine v_tabIn (pc := 15) (off := 110) (tgt := 125) dX6_person_15 (by rw [s_15]; decide) (by rw [s_15]; decide) (by rw [s_15]; rfl) rfl ?_
      refine v_aload_n (pc := 125) 0 dX6_person_125 rfl rfl ?_
      refine g_X6_29 (pc := 126) (cUr_obj hU) (by decide) rfl dX6_person_126 ?_
      refine g_X6_164 (pc := 129) (cF_obj 0 (by decide)) (adr_lt0 (by decide)) rfl dX6_person_129 ?_
      refine v_iload_n (pc := 132) 1 dX6_person_132 rfl rfl ?_
      refine v_iald (pc := 133) (cF_b 0 (by decide)) (adr_lt (by decide) (by decide)) (perB_in c_8 hnp) dX6_person_133 ?_
      refine v_bipush (pc := 134) (nI 9) dX6_person_134 kB_9 ?_
      refine v_idiv (pc := 136) dX6_person_136 (by decide) ?_
      exact v_iret (pc := 137) dX6_person_137 (⟨by unfold cs_person; rw [eNp, if_pos c_8, if_neg (show ¬ w = nI 0 from fun e => by rw [e] at s_15; revert s_15; decide), if_neg (show ¬ w = nI 1 from fun e => by rw [e] at s_15; revert s_15; decide), if_neg (show ¬ w = nI 2 from fun e => by rw [e] at s_15; revert s_15; decide), if_neg (show ¬ w = nI 3 from fun e => by rw [e] at s_15; revert s_15; decide), if_neg (show ¬ w = nI 4 from fun e => by rw [e] at s_15; revert s_15; decide), if_pos s_15], rfl⟩)
    · refine v_tabIn (pc := 15) (off := 123) (tgt := 138) dX6_person_15 (by rw [s_15]; decide) (by rw [s_15]; decide) (by rw [s_15]; rfl) rfl ?_
      refine v_aload_n (pc := 138) 0 dX6_person_138 rfl rfl ?_
      refine g_X6_29 (pc := 139) (cUr_obj hU) (by decide) rfl dX6_person_139 ?_
      refine g_X6_164 (pc := 142) (cF_obj 0 (by decide)) (adr_lt0 (by decide)) rfl dX6_person_142 ?_
      refine v_iload_n (pc := 145) 1 dX6_person_145 rfl rfl ?_
      refine v_iald (pc := 146) (cF_b 0 (by decide)) (adr_lt (by decide) (by decide)) (perB_in c_8 hnp) dX6_person_146 ?_
      refine v_bipush (pc := 147) (nI 9) dX6_person_147 kB_9 ?_
      refine v_irem (pc := 149) dX6_person_149 (by decide) ?_
      exact v_iret (pc := 150) dX6_person_150 (⟨by unfold cs_person; rw [eNp, if_pos c_8, if_neg (show ¬ w = nI 0 from fun e => by rw [e] at s_15; revert s_15; decide), if_neg (show ¬ w = nI 1 from fun e => by rw [e] at s_15; revert s_15; decide), if_neg (show ¬ w = nI 2 from fun e => by rw [e] at s_15; revert s_15; decide), if_neg (show ¬ w = nI 3 from fun e => by rw [e] at s_15; revert s_15; decide), if_neg (show ¬ w = nI 4 from fun e => by rw [e] at s_15; revert s_15; decide), if_neg (show ¬ w = nI 5 from fun e => by rw [e] at s_15; revert s_15; decide), if_pos s_15], rfl⟩)
    · refine v_tabIn (pc := 15) (off := 136) (tgt := 151) dX6_person_15 (by rw [s_15]; decide) (by rw [s_15]; decide) (by rw [s_15]; rfl) rfl ?_
      refine v_aload_n (pc := 151) 0 dX6_person_151 rfl rfl ?_
      refine v_iload_n (pc := 152) 1 dX6_person_152 rfl rfl ?_
      refine v_callV (pc := 153) _ _ k_X6_176 (cUr_obj hU) rfl (by decide) (c_owBy hj hP hnp hnd hU hG _) ⟨rfl, rfl, by decide⟩ rfl rfl (Nat.le_of_ble_eq_true rfl) ⟨Nat.le_of_ble_eq_true rfl, Nat.le_of_ble_eq_true rfl⟩ dX6_person_153 (unS ?_)
      show V E X _ RX6 _ _ _ 0 0 _ false 146 156 _ [_] _
      exact v_iret (pc := 156) dX6_person_156 (⟨by unfold cs_person; rw [eNp, if_pos c_8, if_neg (show ¬ w = nI 0 from fun e => by rw [e] at s_15; revert s_15; decide), if_neg (show ¬ w = nI 1 from fun e => by rw [e] at s_15; revert s_15; decide), if_neg (show ¬ w = nI 2 from fun e => by rw [e] at s_15; revert s_15; decide), if_neg (show ¬ w = nI 3 from fun e => by rw [e] at s_15; revert s_15; decide), if_neg (show ¬ w = nI 4 from fun e => by rw [e] at s_15; revert s_15; decide), if_neg (show ¬ w = nI 5 from fun e => by rw [e] at s_15; revert s_15; decide), if_neg (show ¬ w = nI 6 from fun e => by rw [e] at s_15; revert s_15; decide), if_pos s_15]; rw [eNd, eH, show nowF σ = _ from hG], rfl⟩)
    · refine v_tabIn (pc := 15) (off := 142) (tgt := 157) dX6_person_15 (by rw [s_15]; decide) (by rw [s_15]; decide) (by rw [s_15]; rfl) rfl ?_
      refine v_aload_n (pc := 157) 0 dX6_person_157 rfl rfl ?_
      refine v_iload_n (pc := 158) 1 dX6_person_158 rfl rfl ?_
      refine v_callV (pc := 159) _ _ k_X6_179 (cUr_obj hU) rfl (by decide) (c_owTo hj hP hnp hnd hU hG _) ⟨rfl, rfl, by decide⟩ rfl rfl (Nat.le_of_ble_eq_true rfl) ⟨Nat.le_of_ble_eq_true rfl, Nat.le_of_ble_eq_true rfl⟩ dX6_person_159 (unS ?_)
      show V E X _ RX6 _ _ _ 0 0 _ false 146 162 _ [_] _
      exact v_iret (pc := 162) dX6_person_162 (⟨by unfold cs_person; rw [eNp, if_pos c_8, if_neg (show ¬ w = nI 0 from fun e => by rw [e] at s_15; revert s_15; decide), if_neg (show ¬ w = nI 1 from fun e => by rw [e] at s_15; revert s_15; decide), if_neg (show ¬ w = nI 2 from fun e => by rw [e] at s_15; revert s_15; decide), if_neg (show ¬ w = nI 3 from fun e => by rw [e] at s_15; revert s_15; decide), if_neg (show ¬ w = nI 4 from fun e => by rw [e] at s_15; revert s_15; decide), if_neg (show ¬ w = nI 5 from fun e => by rw [e] at s_15; revert s_15; decide), if_neg (show ¬ w = nI 6 from fun e => by rw [e] at s_15; revert s_15; decide), if_neg (show ¬ w = nI 7 from fun e => by rw [e] at s_15; revert s_15; decide), if_pos s_15]; rw [eNd, eH, show nowF σ = _ from hG], rfl⟩)
    · refine v_tabIn (pc := 15) (off := 148) (tgt := 163) dX6_person_15 (by rw [s_15]; decide) (by rw [s_15]; decide) (by rw [s_15]; rfl) rfl ?_
      refine v_aload_n (pc := 163) 0 dX6_person_163 rfl rfl ?_
      refine g_X6_29 (pc := 164) (cUr_obj hU) (by decide) rfl dX6_person_164 ?_
      refine v_aload_n (pc := 167) 0 dX6_person_167 rfl rfl ?_
      refine g_X6_19 (pc := 168) (cUr_obj hU) (by decide) rfl dX6_person_168 ?_
      refine v_iload_n (pc := 171) 1 dX6_person_171 rfl rfl ?_
      refine v_aload_n (pc := 172) 0 dX6_person_172 rfl rfl ?_
      refine g_X6_29 (pc := 173) (cUr_obj hU) (by decide) rfl dX6_person_173 ?_
      refine g_X6_170 (pc := 176) (cF_obj 0 (by decide)) (adr_lt0 (by decide)) rfl dX6_person_176 ?_
      refine v_iload_n (pc := 179) 1 dX6_person_179 rfl rfl ?_
      refine v_iald (pc := 180) (cF_c 0 (by decide)) (adr_lt (by decide) (by decide)) (perB_in c_8 hnp) dX6_person_180 ?_
      refine v_if_le (pc := 181) (tgt := 188) dX6_person_181 rfl (fun c_181 => ?_) (fun c_181 => ?_)
      · refine v_iconst (pc := 188) (nI 0) dX6_person_188 kI_0 ?_
        refine v_callV (pc := 189) _ _ k_X6_182 (cF_obj 0 (by decide)) rfl (adr_lt0 (by decide)) (k_lossP (by decide) rfl hj hP hnp hnd (perB_in c_8 hnp) false) ⟨rfl, rfl, by decide⟩ rfl rfl (Nat.le_of_ble_eq_true rfl) ⟨Nat.le_of_ble_eq_true rfl, Nat.le_of_ble_eq_true rfl⟩ dX6_person_189 (unS ?_)
        show V E X _ RX6 _ _ _ 0 0 _ false 146 192 _ [_] _
        exact v_iret (pc := 192) dX6_person_192 (⟨by unfold cs_person; rw [eNp, if_pos c_8, if_neg (show ¬ w = nI 0 from fun e => by rw [e] at s_15; revert s_15; decide), if_neg (show ¬ w = nI 1 from fun e => by rw [e] at s_15; revert s_15; decide), if_neg (show ¬ w = nI 2 from fun e => by rw [e] at s_15; revert s_15; decide), if_neg (show ¬ w = nI 3 from fun e => by rw [e] at s_15; revert s_15; decide), if_neg (show ¬ w = nI 4 from fun e => by rw [e] at s_15; revert s_15; decide), if_neg (show ¬ w = nI 5 from fun e => by rw [e] at s_15; revert s_15; decide), if_neg (show ¬ w = nI 6 from fun e => by rw [e] at s_15; revert s_15; decide), if_neg (show ¬ w = nI 7 from fun e => by rw [e] at s_15; revert s_15; decide), if_neg (show ¬ w = nI 8 from fun e => by rw [e] at s_15; revert s_15; decide), if_pos s_15]; rw [eH]; first | (rw [show decide (¬ fK (nowF σ) a.toNatClampNeg ≤ 0) = true from decide_eq_true (by first | exact c_181 | exact Int32.not_le.mpr c_181)] <;> rfl) | (rw [show decide (¬ fK (nowF σ) a.toNatClampNeg ≤ 0) = false from decide_eq_false (fun q => q c_181)] <;> rfl), rfl⟩)
      · refine v_iconst (pc := 184) (nI 1) dX6_person_184 kI_1 ?_
        refine v_goto (pc := 185) (tgt := 189) dX6_person_185 rfl ?_
        refine v_callV (pc := 189) _ _ k_X6_182 (cF_obj 0 (by decide)) rfl (adr_lt0 (by decide)) (k_lossP (by decide) rfl hj hP hnp hnd (perB_in c_8 hnp) true) ⟨rfl, rfl, by decide⟩ rfl rfl (Nat.le_of_ble_eq_true rfl) ⟨Nat.le_of_ble_eq_true rfl, Nat.le_of_ble_eq_true rfl⟩ dX6_person_189 (unS ?_)
        show V E X _ RX6 _ _ _ 0 0 _ false 146 192 _ [_] _
        exact v_iret (pc := 192) dX6_person_192 (⟨by unfold cs_person; rw [eNp, if_pos c_8, if_neg (show ¬ w = nI 0 from fun e => by rw [e] at s_15; revert s_15; decide), if_neg (show ¬ w = nI 1 from fun e => by rw [e] at s_15; revert s_15; decide), if_neg (show ¬ w = nI 2 from fun e => by rw [e] at s_15; revert s_15; decide), if_neg (show ¬ w = nI 3 from fun e => by rw [e] at s_15; revert s_15; decide), if_neg (show ¬ w = nI 4 from fun e => by rw [e] at s_15; revert s_15; decide), if_neg (show ¬ w = nI 5 from fun e => by rw [e] at s_15; revert s_15; decide), if_neg (show ¬ w = nI 6 from fun e => by rw [e] at s_15; revert s_15; decide), if_neg (show ¬ w = nI 7 from fun e => by rw [e] at s_15; revert s_15; decide), if_neg (show ¬ w = nI 8 from fun e => by rw [e] at s_15; revert s_15; decide), if_pos s_15]; rw [eH]; first | (rw [show decide (¬ fK (nowF σ) a.toNatClampNeg ≤ 0) = true from decide_eq_true (by first | exact c_181 | exact Int32.not_le.mpr c_181)] <;> rfl) | (rw [show decide (¬ fK (nowF σ) a.toNatClampNeg ≤ 0) = false from decide_eq_false (fun q => q c_181)] <;> rfl), rfl⟩)
    · refine v_tabOut (pc := 15) (tgt := 193) dX6_person_15 s_15 rfl ?_
      refine v_ldc (pc := 193) _ kc_X6_80 dX6_person_193 rfl ?_
      exact v_iret (pc := 195) dX6_person_195 (⟨by unfold cs_person; rw [eNp, if_pos c_8, if_neg (show ¬ w = nI 0 from fun e => by rw [e] at s_15; revert s_15; decide), if_neg (show ¬ w = nI 1 from fun e => by rw [e] at s_15; revert s_15; decide), if_neg (show ¬ w = nI 2 from fun e => by rw [e] at s_15; revert s_15; decide), if_neg (show ¬ w = nI 3 from fun e => by rw [e] at s_15; revert s_15; decide), if_neg (show ¬ w = nI 4 from fun e => by rw [e] at s_15; revert s_15; decide), if_neg (show ¬ w = nI 5 from fun e => by rw [e] at s_15; revert s_15; decide), if_neg (show ¬ w = nI 6 from fun e => by rw [e] at s_15; revert s_15; decide), if_neg (show ¬ w = nI 7 from fun e => by rw [e] at s_15; revert s_15; decide), if_neg (show ¬ w = nI 8 from fun e => by rw [e] at s_15; revert s_15; decide), if_neg (show ¬ w = nI 9 from fun e => by rw [e] at s_15; revert s_15; decide)]; rfl, rfl⟩)
  · refine v_ldc (pc := 11) _ kc_X6_160 dX6_person_11 rfl ?_
    exact v_iret (pc := 13) dX6_person_13 (⟨by unfold cs_person; rw [eNp, if_neg (by rw [c_8]; decide)]; rfl, rfl⟩)
def cs_trace (σ : Sg) (i : Int32) : Int32 := fl_back (nowF σ) i
set_option maxHeartbeats 4000000 in
set_option maxRecDepth 100000 in
theorem s_trace {E : Ev} {σ : Sg} (hW : WC σ) (i : Int32) : Ct E yX6_trace cX6_trace 2 (some .int) ({ frames := 3, cells := 0, slots := 0, locals := 62 } : Room) false 146 [.ref (Ez E + 0), .int i] (cellOf E σ) 146 0 0 (Ff (some (.int (cs_trace σ i))) (cellOf E σ)) := by
  obtain ⟨⟨hj, hdj, hjd⟩, hPs, ⟨x_, s_, hQ, hx, hs⟩, ⟨wa, df, wf, ep, eb, ws, fs, es, hS, hws, hfs, hes, hep⟩, ⟨lt, L, m, fa, fn, ap, hT, hL, hm⟩⟩ := hW
  rcases hU : gU σ with ⟨j, dj, se, is, it, oo⟩
  rw [hU] at hj hdj hjd
  simp only at hj hdj hjd
  obtain ⟨np, nd, sd, du, tr, kd, bd, dr, dt, cr, ow, hP, hnp, hnd, hdt, hcr⟩ := hPs j hj
  have eH : hereP σ = (sd, du, tr, nI np, nI nd, kd, bd, dr, dt, cr, ow) := by show gP σ (gU σ).1 = _; rw [hU]; exact hP
  have eNp : hNp σ = np := by show parNp (hereP σ) = np; rw [eH]; exact nI_clamp (by omega)
  have eNd : hNd σ = nd := by show parNd (hereP σ) = nd; rw [eH]; exact nI_clamp (by omega)
  refine Ct.ofV (by decide) (Nat.le_of_ble_eq_true rfl) (fun X hnm => ?_)
  show V E X _ RX6 _ _ _ _ _ _ false 146 0 [(0, .ref (Ez E + 0)), (1, .int i)] [] _
  refine v_aload_n (pc := 0) 0 dX6_trace_0 rfl rfl ?_
  refine g_X6_29 (pc := 1) (cUr_obj hU) (by decide) rfl dX6_trace_1 ?_
  refine v_iload_n (pc := 4) 1 dX6_trace_4 rfl rfl ?_
  refine v_callV (pc := 5) _ _ k_X6_198 (cF_obj 0 (by decide)) rfl (adr_lt0 (by decide)) (k_back (by decide) rfl _) ⟨rfl, rfl, by decide⟩ rfl rfl (Nat.le_of_ble_eq_true rfl) ⟨Nat.le_of_ble_eq_true rfl, Nat.le_of_ble_eq_true rfl⟩ dX6_trace_5 (unS ?_)
  show V E X _ RX6 _ _ _ 0 0 _ false 146 8 _ [_] _
  exact v_iret (pc := 8) dX6_trace_8 (⟨rfl, rfl⟩)
set_option maxHeartbeats 4000000 in
set_option maxRecDepth 100000 in
theorem s_fault {E : Ev} {σ : Sg} (hW : WC σ)  : Ct E yX6_fault cX6_fault 1 (some .int) ({ frames := 0, cells := 0, slots := 0, locals := 0 } : Room) false 146 [.ref (Ez E + 0)] (cellOf E σ) 146 0 0 (Ff (some (.int ((fun σ : Sg => (gT σ).2.2.1) σ))) (cellOf E σ)) := by
  obtain ⟨⟨hj, hdj, hjd⟩, hPs, ⟨x_, s_, hQ, hx, hs⟩, ⟨wa, df, wf, ep, eb, ws, fs, es, hS, hws, hfs, hes, hep⟩, ⟨lt, L, m, fa, fn, ap, hT, hL, hm⟩⟩ := hW
  rcases hU : gU σ with ⟨j, dj, se, is, it, oo⟩
  rw [hU] at hj hdj hjd
  simp only at hj hdj hjd
  obtain ⟨np, nd, sd, du, tr, kd, bd, dr, dt, cr, ow, hP, hnp, hnd, hdt, hcr⟩ := hPs j hj
  have eH : hereP σ = (sd, du, tr, nI np, nI nd, kd, bd, dr, dt, cr, ow) := by show gP σ (gU σ).1 = _; rw [hU]; exact hP
  have eNp : hNp σ = np := by show parNp (hereP σ) = np; rw [eH]; exact nI_clamp (by omega)
  have eNd : hNd σ = nd := by show parNd (hereP σ) = nd; rw [eH]; exact nI_clamp (by omega)
  refine Ct.ofV (by decide) (Nat.le_of_ble_eq_true rfl) (fun X hnm => ?_)
  show V E X _ RX6 _ _ _ _ _ _ false 146 0 [(0, .ref (Ez E + 0))] [] _
  refine v_aload_n (pc := 0) 0 dX6_fault_0 rfl rfl ?_
  refine g_X6_10 (pc := 1) (cUr_obj hU) (by decide) rfl dX6_fault_1 ?_
  refine g_X6_104 (pc := 4) (cTr_obj hT) (by decide) rfl dX6_fault_4 ?_
  exact v_iret (pc := 7) dX6_fault_7 (⟨by show _ = some (Value.int (gT σ).2.2.1); rw [hT], rfl⟩)
set_option maxHeartbeats 4000000 in
set_option maxRecDepth 100000 in
theorem s_count {E : Ev} {σ : Sg} (hW : WC σ) (a n : Int32) : Ct E yX6_count cX6_count 3 (some .int) ({ frames := 3, cells := 0, slots := 0, locals := 82 } : Room) false 146 [.ref (Ez E + 0), .int a, .int n] (cellOf E σ) 146 0 0 (Ff (some (.int (cs_count σ a n).1)) (cellOf E (cs_count σ a n).2)) := by
  obtain ⟨⟨hj, hdj, hjd⟩, hPs, ⟨x_, s_, hQ, hx, hs⟩, ⟨wa, df, wf, ep, eb, ws, fs, es, hS, hws, hfs, hes, hep⟩, ⟨lt, L, m, fa, fn, ap, hT, hL, hm⟩⟩ := hW
  rcases hU : gU σ with ⟨j, dj, se, is, it, oo⟩
  rw [hU] at hj hdj hjd
  simp only at hj hdj hjd
  obtain ⟨np, nd, sd, du, tr, kd, bd, dr, dt, cr, ow, hP, hnp, hnd, hdt, hcr⟩ := hPs j hj
  have eH : hereP σ = (sd, du, tr, nI np, nI nd, kd, bd, dr, dt, cr, ow) := by show gP σ (gU σ).1 = _; rw [hU]; exact hP
  have eNp : hNp σ = np := by show parNp (hereP σ) = np; rw [eH]; exact nI_clamp (by omega)
  have eNd : hNd σ = nd := by show parNd (hereP σ) = nd; rw [eH]; exact nI_clamp (by omega)
  refine Ct.ofV (by decide) (Nat.le_of_ble_eq_true rfl) (fun X hnm => ?_)
  show V E X _ RX6 _ _ _ _ _ _ false 146 0 [(0, .ref (Ez E + 0)), (1, .int a), (2, .int n)] [] _
  refine v_aload_n (pc := 0) 0 dX6_count_0 rfl rfl ?_
  refine g_X6_19 (pc := 1) (cUr_obj hU) (by decide) rfl dX6_count_1 ?_
  refine v_iload_n (pc := 4) 1 dX6_count_4 rfl rfl ?_
  refine v_callV (pc := 5) _ _ k_X6_156 (cPr_obj hj hP) rfl (pad_lt0 hj) (c_hasPerson hj hP hnp hnd _) ⟨rfl, rfl, by decide⟩ rfl rfl (Nat.le_of_ble_eq_true rfl) ⟨Nat.le_of_ble_eq_true rfl, Nat.le_of_ble_eq_true rfl⟩ dX6_count_5 (unS ?_)
  show V E X _ RX6 _ _ _ 0 0 _ false 146 8 _ [_] _
  refine v_if_neB (pc := 8) (tgt := 14) dX6_count_8 rfl (fun c_8 => ?_) (fun c_8 => ?_)
  · refine v_iload_n (pc := 14) 2 dX6_count_14 rfl rfl ?_
    refine v_iconst (pc := 15) (nI 1) dX6_count_15 kI_1 ?_
    refine v_sipush (pc := 16) (nI 999) dX6_count_16 kS_999 ?_
    refine v_callS (pc := 19) _ _ k_X6_76 (c_isOutside _ _ _) ⟨rfl, rfl, by decide⟩ rfl rfl (Nat.le_of_ble_eq_true rfl) ⟨Nat.le_of_ble_eq_true rfl, Nat.le_of_ble_eq_true rfl⟩ dX6_count_19 (unS ?_)
    show V E X _ RX6 _ _ _ 0 0 _ false 146 22 _ [_] _
    refine v_if_eqB (pc := 22) (tgt := 28) dX6_count_22 rfl (fun c_22 => ?_) (fun c_22 => ?_)
    · refine v_aload_n (pc := 28) 0 dX6_count_28 rfl rfl ?_
      refine g_X6_29 (pc := 29) (cUr_obj hU) (by decide) rfl dX6_count_29 ?_
      refine g_X6_116 (pc := 32) (cF_obj 0 (by decide)) (adr_lt0 (by decide)) rfl dX6_count_32 ?_
      refine v_iload_n (pc := 35) 2 dX6_count_35 rfl rfl ?_
      refine v_icmp_ge (pc := 36) (tgt := 42) dX6_count_36 rfl (fun c_36 => ?_) (fun c_36 => ?_)
      · refine v_aload_n (pc := 42) 0 dX6_count_42 rfl rfl ?_
        refine g_X6_39 (pc := 43) (cUr_obj hU) (by decide) rfl dX6_count_43 ?_
        refine v_aload_n (pc := 46) 0 dX6_count_46 rfl rfl ?_
        refine g_X6_29 (pc := 47) (cUr_obj hU) (by decide) rfl dX6_count_47 ?_
        refine v_callV (pc := 50) _ _ k_X6_202 (cQr_obj hQ) rfl (by decide) (k_remember hQ hx hs) ⟨rfl, rfl, by decide⟩ rfl rfl (Nat.le_of_ble_eq_true rfl) ⟨Nat.le_of_ble_eq_true rfl, Nat.le_of_ble_eq_true rfl⟩ dX6_count_50 (unS ?_)
        show V E X _ RX6 _ _ _ 0 0 _ false 146 53 _ [] _
        refine v_aload_n (pc := 53) 0 dX6_count_53 rfl rfl ?_
        refine g_X6_29 (pc := 54) (cUr_obj hU) (by decide) rfl dX6_count_54 ?_
        refine v_bipush (pc := 57) (-2) dX6_count_57 kB_m2 ?_
        refine v_iload_n (pc := 59) 1 dX6_count_59 rfl rfl ?_
        refine v_iload_n (pc := 60) 2 dX6_count_60 rfl rfl ?_
        refine v_callV (pc := 61) _ _ k_X6_206 (cF_obj 0 (by decide)) rfl (adr_lt0 (by decide)) (k_move (by decide) rem_0 _ _ _) ⟨rfl, rfl, by decide⟩ rfl rfl (Nat.le_of_ble_eq_true rfl) ⟨Nat.le_of_ble_eq_true rfl, Nat.le_of_ble_eq_true rfl⟩ dX6_count_61 (unS ?_)
        show V E X _ RX6 _ _ _ 0 0 _ false 146 64 _ [] _
        refine v_aload_n (pc := 64) 0 dX6_count_64 rfl rfl ?_
        refine g_X6_29 (pc := 65) (cUr_obj hU) (by decide) rfl dX6_count_65 ?_
        refine g_X6_164 (pc := 68) (cF_obj 0 (by decide)) (adr_lt0 (by decide)) rfl dX6_count_68 ?_
        refine v_iload_n (pc := 71) 1 dX6_count_71 rfl rfl ?_
        refine v_iald (pc := 72) (cF_b 0 (by decide)) (adr_lt (by decide) (by decide)) (perB_in c_8 hnp) dX6_count_72 ?_
        exact v_iret (pc := 73) dX6_count_73 (by unfold cs_count; rw [eNp, if_pos c_8, if_neg (by rw [c_22]; decide), if_neg (by first | exact c_36 | exact Int32.not_lt.mpr c_36)]; exact ⟨by rw [gF_s], rfl⟩)
      · refine v_ldc (pc := 39) _ kc_X6_201 dX6_count_39 rfl ?_
        exact v_iret (pc := 41) dX6_count_41 (by unfold cs_count; rw [eNp, if_pos c_8, if_neg (by rw [c_22]; decide), if_pos (by first | exact c_36 | exact Int32.not_le.mp c_36)]; exact ⟨rfl, rfl⟩)
    · refine v_ldc (pc := 25) _ kc_X6_80 dX6_count_25 rfl ?_
      exact v_iret (pc := 27) dX6_count_27 (by unfold cs_count; rw [eNp, if_pos c_8, if_pos c_22]; exact ⟨rfl, rfl⟩)
  · refine v_ldc (pc := 11) _ kc_X6_160 dX6_count_11 rfl ?_
    exact v_iret (pc := 13) dX6_count_13 (by unfold cs_count; rw [eNp, if_neg (by rw [c_8]; decide)]; exact ⟨rfl, rfl⟩)
set_option maxHeartbeats 4000000 in
set_option maxRecDepth 100000 in
theorem s_pay {E : Ev} {σ : Sg} (hW : WC σ) (a z n : Int32) : Ct E yX6_pay cX6_pay 4 (some .int) ({ frames := 3, cells := 0, slots := 0, locals := 82 } : Room) false 146 [.ref (Ez E + 0), .int a, .int z, .int n] (cellOf E σ) 146 0 0 (Ff (some (.int (cs_pay σ a z n).1)) (cellOf E (cs_pay σ a z n).2)) := by
  obtain ⟨⟨hj, hdj, hjd⟩, hPs, ⟨x_, s_, hQ, hx, hs⟩, ⟨wa, df, wf, ep, eb, ws, fs, es, hS, hws, hfs, hes, hep⟩, ⟨lt, L, m, fa, fn, ap, hT, hL, hm⟩⟩ := hW
  rcases hU : gU σ with ⟨j, dj, se, is, it, oo⟩
  rw [hU] at hj hdj hjd
  simp only at hj hdj hjd
  obtain ⟨np, nd, sd, du, tr, kd, bd, dr, dt, cr, ow, hP, hnp, hnd, hdt, hcr⟩ := hPs j hj
  have eH : hereP σ = (sd, du, tr, nI np, nI nd, kd, bd, dr, dt, cr, ow) := by show gP σ (gU σ).1 = _; rw [hU]; exact hP
  have eNp : hNp σ = np := by show parNp (hereP σ) = np; rw [eH]; exact nI_clamp (by omega)
  have eNd : hNd σ = nd := by show parNd (hereP σ) = nd; rw [eH]; exact nI_clamp (by omega)
  refine Ct.ofV (by decide) (Nat.le_of_ble_eq_true rfl) (fun X hnm => ?_)
  show V E X _ RX6 _ _ _ _ _ _ false 146 0 [(0, .ref (Ez E + 0)), (1, .int a), (2, .int z), (3, .int n)] [] _
  refine v_aload_n (pc := 0) 0 dX6_pay_0 rfl rfl ?_
  refine g_X6_19 (pc := 1) (cUr_obj hU) (by decide) rfl dX6_pay_1 ?_
  refine v_iload_n (pc := 4) 1 dX6_pay_4 rfl rfl ?_
  refine v_callV (pc := 5) _ _ k_X6_156 (cPr_obj hj hP) rfl (pad_lt0 hj) (c_hasPerson hj hP hnp hnd _) ⟨rfl, rfl, by decide⟩ rfl rfl (Nat.le_of_ble_eq_true rfl) ⟨Nat.le_of_ble_eq_true rfl, Nat.le_of_ble_eq_true rfl⟩ dX6_pay_5 (unS ?_)
  show V E X _ RX6 _ _ _ 0 0 _ false 146 8 _ [_] _
  refine v_if_eqB (pc := 8) (tgt := 27) dX6_pay_8 rfl (fun c_8 => ?_) (fun c_8 => ?_)
  · refine v_ldc (pc := 27) _ kc_X6_160 dX6_pay_27 rfl ?_
    exact v_iret (pc := 29) dX6_pay_29 (by unfold cs_pay; rw [eNp, if_neg (by rintro ⟨q, -⟩; rw [c_8] at q; exact Bool.noConfusion q)]; exact ⟨rfl, rfl⟩)
  · refine v_aload_n (pc := 11) 0 dX6_pay_11 rfl rfl ?_
    refine g_X6_19 (pc := 12) (cUr_obj hU) (by decide) rfl dX6_pay_12 ?_
    refine v_iload_n (pc := 15) 2 dX6_pay_15 rfl rfl ?_
    refine v_callV (pc := 16) _ _ k_X6_156 (cPr_obj hj hP) rfl (pad_lt0 hj) (c_hasPerson hj hP hnp hnd _) ⟨rfl, rfl, by decide⟩ rfl rfl (Nat.le_of_ble_eq_true rfl) ⟨Nat.le_of_ble_eq_true rfl, Nat.le_of_ble_eq_true rfl⟩ dX6_pay_16 (unS ?_)
    show V E X _ RX6 _ _ _ 0 0 _ false 146 19 _ [_] _
    refine v_if_eqB (pc := 19) (tgt := 27) dX6_pay_19 rfl (fun c_19 => ?_) (fun c_19 => ?_)
    · refine v_ldc (pc := 27) _ kc_X6_160 dX6_pay_27 rfl ?_
      exact v_iret (pc := 29) dX6_pay_29 (by unfold cs_pay; rw [eNp, if_neg (by rintro ⟨-, q, -⟩; rw [c_19] at q; exact Bool.noConfusion q)]; exact ⟨rfl, rfl⟩)
    · refine v_iload_n (pc := 22) 1 dX6_pay_22 rfl rfl ?_
      refine v_iload_n (pc := 23) 2 dX6_pay_23 rfl rfl ?_
      refine v_icmp_ne (pc := 24) (tgt := 30) dX6_pay_24 rfl (fun c_24 => ?_) (fun c_24 => ?_)
      · refine v_iload_n (pc := 30) 3 dX6_pay_30 rfl rfl ?_
        refine v_iconst (pc := 31) (nI 1) dX6_pay_31 kI_1 ?_
        refine v_sipush (pc := 32) (nI 999) dX6_pay_32 kS_999 ?_
        refine v_callS (pc := 35) _ _ k_X6_76 (c_isOutside _ _ _) ⟨rfl, rfl, by decide⟩ rfl rfl (Nat.le_of_ble_eq_true rfl) ⟨Nat.le_of_ble_eq_true rfl, Nat.le_of_ble_eq_true rfl⟩ dX6_pay_35 (unS ?_)
        show V E X _ RX6 _ _ _ 0 0 _ false 146 38 _ [_] _
        refine v_if_eqB (pc := 38) (tgt := 44) dX6_pay_38 rfl (fun c_38 => ?_) (fun c_38 => ?_)
        · refine v_aload_n (pc := 44) 0 dX6_pay_44 rfl rfl ?_
          refine g_X6_29 (pc := 45) (cUr_obj hU) (by decide) rfl dX6_pay_45 ?_
          refine g_X6_164 (pc := 48) (cF_obj 0 (by decide)) (adr_lt0 (by decide)) rfl dX6_pay_48 ?_
          refine v_iload_n (pc := 51) 1 dX6_pay_51 rfl rfl ?_
          refine v_iald (pc := 52) (cF_b 0 (by decide)) (adr_lt (by decide) (by decide)) (perB_in c_8 hnp) dX6_pay_52 ?_
          refine v_iload_n (pc := 53) 3 dX6_pay_53 rfl rfl ?_
          refine v_icmp_ge (pc := 54) (tgt := 60) dX6_pay_54 rfl (fun c_54 => ?_) (fun c_54 => ?_)
          · refine v_aload_n (pc := 60) 0 dX6_pay_60 rfl rfl ?_
            refine g_X6_39 (pc := 61) (cUr_obj hU) (by decide) rfl dX6_pay_61 ?_
            refine v_aload_n (pc := 64) 0 dX6_pay_64 rfl rfl ?_
            refine g_X6_29 (pc := 65) (cUr_obj hU) (by decide) rfl dX6_pay_65 ?_
            refine v_callV (pc := 68) _ _ k_X6_202 (cQr_obj hQ) rfl (by decide) (k_remember hQ hx hs) ⟨rfl, rfl, by decide⟩ rfl rfl (Nat.le_of_ble_eq_true rfl) ⟨Nat.le_of_ble_eq_true rfl, Nat.le_of_ble_eq_true rfl⟩ dX6_pay_68 (unS ?_)
            show V E X _ RX6 _ _ _ 0 0 _ false 146 71 _ [] _
            refine v_aload_n (pc := 71) 0 dX6_pay_71 rfl rfl ?_
            refine g_X6_29 (pc := 72) (cUr_obj hU) (by decide) rfl dX6_pay_72 ?_
            refine v_iload_n (pc := 75) 1 dX6_pay_75 rfl rfl ?_
            refine v_iload_n (pc := 76) 2 dX6_pay_76 rfl rfl ?_
            refine v_iload_n (pc := 77) 3 dX6_pay_77 rfl rfl ?_
            refine v_callV (pc := 78) _ _ k_X6_206 (cF_obj 0 (by decide)) rfl (adr_lt0 (by decide)) (k_move (by decide) rem_0 _ _ _) ⟨rfl, rfl, by decide⟩ rfl rfl (Nat.le_of_ble_eq_true rfl) ⟨Nat.le_of_ble_eq_true rfl, Nat.le_of_ble_eq_true rfl⟩ dX6_pay_78 (unS ?_)
            show V E X _ RX6 _ _ _ 0 0 _ false 146 81 _ [] _
            refine v_aload_n (pc := 81) 0 dX6_pay_81 rfl rfl ?_
            refine g_X6_29 (pc := 82) (cUr_obj hU) (by decide) rfl dX6_pay_82 ?_
            refine v_aload_n (pc := 85) 0 dX6_pay_85 rfl rfl ?_
            refine g_X6_19 (pc := 86) (cUr_obj hU) (by decide) rfl dX6_pay_86 ?_
            refine v_iload_n (pc := 89) 1 dX6_pay_89 rfl rfl ?_
            refine v_iload_n (pc := 90) 2 dX6_pay_90 rfl rfl ?_
            refine v_iload_n (pc := 91) 3 dX6_pay_91 rfl rfl ?_
            refine v_callV (pc := 92) _ _ k_X6_210 (cF_obj 0 (by decide)) rfl (adr_lt0 (by decide)) (k_less (σ := sFl (rem_ σ) 0 (fl_move (nowF σ) a z n)) (k := 0) (by decide) (gF_s _ _ _) hj (show gP (rem_ σ) j = _ from hP) hnp hnd _ _ _) ⟨rfl, rfl, by decide⟩ rfl rfl (Nat.le_of_ble_eq_true rfl) ⟨Nat.le_of_ble_eq_true rfl, Nat.le_of_ble_eq_true rfl⟩ dX6_pay_92 (unS ?_)
            show V E X _ RX6 _ _ _ 0 0 _ false 146 95 _ [_] _
            exact v_iret (pc := 95) dX6_pay_95 (by unfold cs_pay; rw [eNp, eNd, eH, if_pos ⟨c_8, c_19, c_24⟩, if_neg (by rw [c_38]; decide), if_neg (by first | exact c_54 | exact Int32.not_lt.mpr c_54)]; exact ⟨rfl, by rw [sFl_s]⟩)
          · refine v_ldc (pc := 57) _ kc_X6_201 dX6_pay_57 rfl ?_
            exact v_iret (pc := 59) dX6_pay_59 (by unfold cs_pay; rw [eNp, if_pos ⟨c_8, c_19, c_24⟩, if_neg (by rw [c_38]; decide), if_pos (by first | exact c_54 | exact Int32.not_le.mp c_54)]; exact ⟨rfl, rfl⟩)
        · refine v_ldc (pc := 41) _ kc_X6_80 dX6_pay_41 rfl ?_
          exact v_iret (pc := 43) dX6_pay_43 (by unfold cs_pay; rw [eNp, if_pos ⟨c_8, c_19, c_24⟩, if_pos c_38]; exact ⟨rfl, rfl⟩)
      · refine v_ldc (pc := 27) _ kc_X6_160 dX6_pay_27 rfl ?_
        exact v_iret (pc := 29) dX6_pay_29 (by unfold cs_pay; rw [eNp, if_neg (by rintro ⟨-, -, q⟩; exact q c_24)]; exact ⟨rfl, rfl⟩)
set_option maxHeartbeats 4000000 in
set_option maxRecDepth 100000 in
theorem s_strew {E : Ev} {σ : Sg} (hW : WC σ) (a n : Int32) : Ct E yX6_strew cX6_strew 3 (some .int) ({ frames := 3, cells := 0, slots := 0, locals := 82 } : Room) false 146 [.ref (Ez E + 0), .int a, .int n] (cellOf E σ) 146 0 0 (Ff (some (.int (cs_strew σ a n).1)) (cellOf E (cs_strew σ a n).2)) := by
  obtain ⟨⟨hj, hdj, hjd⟩, hPs, ⟨x_, s_, hQ, hx, hs⟩, ⟨wa, df, wf, ep, eb, ws, fs, es, hS, hws, hfs, hes, hep⟩, ⟨lt, L, m, fa, fn, ap, hT, hL, hm⟩⟩ := hW
  rcases hU : gU σ with ⟨j, dj, se, is, it, oo⟩
  rw [hU] at hj hdj hjd
  simp only at hj hdj hjd
  obtain ⟨np, nd, sd, du, tr, kd, bd, dr, dt, cr, ow, hP, hnp, hnd, hdt, hcr⟩ := hPs j hj
  have eH : hereP σ = (sd, du, tr, nI np, nI nd, kd, bd, dr, dt, cr, ow) := by show gP σ (gU σ).1 = _; rw [hU]; exact hP
  have eNp : hNp σ = np := by show parNp (hereP σ) = np; rw [eH]; exact nI_clamp (by omega)
  have eNd : hNd σ = nd := by show parNd (hereP σ) = nd; rw [eH]; exact nI_clamp (by omega)
  refine Ct.ofV (by decide) (Nat.le_of_ble_eq_true rfl) (fun X hnm => ?_)
  show V E X _ RX6 _ _ _ _ _ _ false 146 0 [(0, .ref (Ez E + 0)), (1, .int a), (2, .int n)] [] _
  refine v_aload_n (pc := 0) 0 dX6_strew_0 rfl rfl ?_
  refine g_X6_19 (pc := 1) (cUr_obj hU) (by decide) rfl dX6_strew_1 ?_
  refine v_iload_n (pc := 4) 1 dX6_strew_4 rfl rfl ?_
  refine v_callV (pc := 5) _ _ k_X6_156 (cPr_obj hj hP) rfl (pad_lt0 hj) (c_hasPerson hj hP hnp hnd _) ⟨rfl, rfl, by decide⟩ rfl rfl (Nat.le_of_ble_eq_true rfl) ⟨Nat.le_of_ble_eq_true rfl, Nat.le_of_ble_eq_true rfl⟩ dX6_strew_5 (unS ?_)
  show V E X _ RX6 _ _ _ 0 0 _ false 146 8 _ [_] _
  refine v_if_neB (pc := 8) (tgt := 14) dX6_strew_8 rfl (fun c_8 => ?_) (fun c_8 => ?_)
  · refine v_iload_n (pc := 14) 2 dX6_strew_14 rfl rfl ?_
    refine v_iconst (pc := 15) (nI 1) dX6_strew_15 kI_1 ?_
    refine v_bipush (pc := 16) (nI 99) dX6_strew_16 kB_99 ?_
    refine v_callS (pc := 18) _ _ k_X6_76 (c_isOutside _ _ _) ⟨rfl, rfl, by decide⟩ rfl rfl (Nat.le_of_ble_eq_true rfl) ⟨Nat.le_of_ble_eq_true rfl, Nat.le_of_ble_eq_true rfl⟩ dX6_strew_18 (unS ?_)
    show V E X _ RX6 _ _ _ 0 0 _ false 146 21 _ [_] _
    refine v_if_eqB (pc := 21) (tgt := 27) dX6_strew_21 rfl (fun c_21 => ?_) (fun c_21 => ?_)
    · refine v_aload_n (pc := 27) 0 dX6_strew_27 rfl rfl ?_
      refine g_X6_39 (pc := 28) (cUr_obj hU) (by decide) rfl dX6_strew_28 ?_
      refine v_aload_n (pc := 31) 0 dX6_strew_31 rfl rfl ?_
      refine g_X6_29 (pc := 32) (cUr_obj hU) (by decide) rfl dX6_strew_32 ?_
      refine v_callV (pc := 35) _ _ k_X6_202 (cQr_obj hQ) rfl (by decide) (k_remember hQ hx hs) ⟨rfl, rfl, by decide⟩ rfl rfl (Nat.le_of_ble_eq_true rfl) ⟨Nat.le_of_ble_eq_true rfl, Nat.le_of_ble_eq_true rfl⟩ dX6_strew_35 (unS ?_)
      show V E X _ RX6 _ _ _ 0 0 _ false 146 38 _ [] _
      refine v_aload_n (pc := 38) 0 dX6_strew_38 rfl rfl ?_
      refine g_X6_29 (pc := 39) (cUr_obj hU) (by decide) rfl dX6_strew_39 ?_
      refine v_iload_n (pc := 42) 1 dX6_strew_42 rfl rfl ?_
      refine v_iload_n (pc := 43) 2 dX6_strew_43 rfl rfl ?_
      refine v_callV (pc := 44) _ _ k_X6_214 (cF_obj 0 (by decide)) rfl (adr_lt0 (by decide)) (k_crumb (by decide) rem_0 _ _) ⟨rfl, rfl, by decide⟩ rfl rfl (Nat.le_of_ble_eq_true rfl) ⟨Nat.le_of_ble_eq_true rfl, Nat.le_of_ble_eq_true rfl⟩ dX6_strew_44 (unS ?_)
      show V E X _ RX6 _ _ _ 0 0 _ false 146 47 _ [] _
      refine v_aload_n (pc := 47) 0 dX6_strew_47 rfl rfl ?_
      refine g_X6_29 (pc := 48) (cUr_obj hU) (by decide) rfl dX6_strew_48 ?_
      refine g_X6_170 (pc := 51) (cF_obj 0 (by decide)) (adr_lt0 (by decide)) rfl dX6_strew_51 ?_
      refine v_iload_n (pc := 54) 1 dX6_strew_54 rfl rfl ?_
      refine v_iald (pc := 55) (cF_c 0 (by decide)) (adr_lt (by decide) (by decide)) (perB_in c_8 hnp) dX6_strew_55 ?_
      exact v_iret (pc := 56) dX6_strew_56 (by unfold cs_strew; rw [eNp, if_pos c_8, if_neg (by rw [c_21]; decide)]; exact ⟨by rw [gF_s], rfl⟩)
    · refine v_ldc (pc := 24) _ kc_X6_80 dX6_strew_24 rfl ?_
      exact v_iret (pc := 26) dX6_strew_26 (by unfold cs_strew; rw [eNp, if_pos c_8, if_pos c_21]; exact ⟨rfl, rfl⟩)
  · refine v_ldc (pc := 11) _ kc_X6_160 dX6_strew_11 rfl ?_
    exact v_iret (pc := 13) dX6_strew_13 (by unfold cs_strew; rw [eNp, if_neg (by rw [c_8]; decide)]; exact ⟨rfl, rfl⟩)
set_option maxHeartbeats 4000000 in
set_option maxRecDepth 100000 in
theorem s_hawk {E : Ev} {σ : Sg} (hW : WC σ) (x n : Int32) : Ct E yX6_hawk cX6_hawk 3 (some .int) ({ frames := 4, cells := 0, slots := 0, locals := 90 } : Room) false 146 [.ref (Ez E + 0), .int x, .int n] (cellOf E σ) 146 0 0 (Ff (some (.int (cs_hawk σ x n).1)) (cellOf E (cs_hawk σ x n).2)) := by
  obtain ⟨⟨hj, hdj, hjd⟩, hPs, ⟨x_, s_, hQ, hx, hs⟩, ⟨wa, df, wf, ep, eb, ws, fs, es, hS, hws, hfs, hes, hep⟩, ⟨lt, L, m, fa, fn, ap, hT, hL, hm⟩⟩ := hW
  rcases hU : gU σ with ⟨j, dj, se, is, it, oo⟩
  rw [hU] at hj hdj hjd
  simp only at hj hdj hjd
  obtain ⟨np, nd, sd, du, tr, kd, bd, dr, dt, cr, ow, hP, hnp, hnd, hdt, hcr⟩ := hPs j hj
  have eH : hereP σ = (sd, du, tr, nI np, nI nd, kd, bd, dr, dt, cr, ow) := by show gP σ (gU σ).1 = _; rw [hU]; exact hP
  have eNp : hNp σ = np := by show parNp (hereP σ) = np; rw [eH]; exact nI_clamp (by omega)
  have eNd : hNd σ = nd := by show parNd (hereP σ) = nd; rw [eH]; exact nI_clamp (by omega)
  refine Ct.ofV (by decide) (Nat.le_of_ble_eq_true rfl) (fun X hnm => ?_)
  show V E X _ RX6 _ _ _ _ _ _ false 146 0 [(0, .ref (Ez E + 0)), (1, .int x), (2, .int n)] [] _
  refine v_iload_n (pc := 0) 1 dX6_hawk_0 rfl rfl ?_
  refine v_iconst (pc := 1) (nI 0) dX6_hawk_1 kI_0 ?_
  refine v_bipush (pc := 2) (nI 50) dX6_hawk_2 kB_50 ?_
  refine v_callS (pc := 4) _ _ k_X6_76 (c_isOutside _ _ _) ⟨rfl, rfl, by decide⟩ rfl rfl (Nat.le_of_ble_eq_true rfl) ⟨Nat.le_of_ble_eq_true rfl, Nat.le_of_ble_eq_true rfl⟩ dX6_hawk_4 (unS ?_)
  show V E X _ RX6 _ _ _ 0 0 _ false 146 7 _ [_] _
  refine v_if_neB (pc := 7) (tgt := 20) dX6_hawk_7 rfl (fun c_7 => ?_) (fun c_7 => ?_)
  · refine v_ldc (pc := 20) _ kc_X6_80 dX6_hawk_20 rfl ?_
    exact v_iret (pc := 22) dX6_hawk_22 (by unfold cs_hawk; rw [if_pos (Or.inl c_7)]; exact ⟨rfl, rfl⟩)
  · refine v_iload_n (pc := 10) 2 dX6_hawk_10 rfl rfl ?_
    refine v_iconst (pc := 11) (nI 0) dX6_hawk_11 kI_0 ?_
    refine v_bipush (pc := 12) (nI 50) dX6_hawk_12 kB_50 ?_
    refine v_callS (pc := 14) _ _ k_X6_76 (c_isOutside _ _ _) ⟨rfl, rfl, by decide⟩ rfl rfl (Nat.le_of_ble_eq_true rfl) ⟨Nat.le_of_ble_eq_true rfl, Nat.le_of_ble_eq_true rfl⟩ dX6_hawk_14 (unS ?_)
    show V E X _ RX6 _ _ _ 0 0 _ false 146 17 _ [_] _
    refine v_if_eqB (pc := 17) (tgt := 23) dX6_hawk_17 rfl (fun c_17 => ?_) (fun c_17 => ?_)
    · refine v_aload_n (pc := 23) 0 dX6_hawk_23 rfl rfl ?_
      refine g_X6_19 (pc := 24) (cUr_obj hU) (by decide) rfl dX6_hawk_24 ?_
      refine g_X6_218 (pc := 27) (cPr_obj hj hP) (pad_lt0 hj) rfl dX6_hawk_27 ?_
      refine v_if_ne (pc := 30) (tgt := 36) dX6_hawk_30 rfl (fun c_30 => ?_) (fun c_30 => ?_)
      · refine v_aload_n (pc := 36) 0 dX6_hawk_36 rfl rfl ?_
        refine g_X6_39 (pc := 37) (cUr_obj hU) (by decide) rfl dX6_hawk_37 ?_
        refine v_aload_n (pc := 40) 0 dX6_hawk_40 rfl rfl ?_
        refine g_X6_29 (pc := 41) (cUr_obj hU) (by decide) rfl dX6_hawk_41 ?_
        refine v_callV (pc := 44) _ _ k_X6_202 (cQr_obj hQ) rfl (by decide) (k_remember hQ hx hs) ⟨rfl, rfl, by decide⟩ rfl rfl (Nat.le_of_ble_eq_true rfl) ⟨Nat.le_of_ble_eq_true rfl, Nat.le_of_ble_eq_true rfl⟩ dX6_hawk_44 (unS ?_)
        show V E X _ RX6 _ _ _ 0 0 _ false 146 47 _ [] _
        refine v_aload_n (pc := 47) 0 dX6_hawk_47 rfl rfl ?_
        refine g_X6_29 (pc := 48) (cUr_obj hU) (by decide) rfl dX6_hawk_48 ?_
        refine v_aload_n (pc := 51) 0 dX6_hawk_51 rfl rfl ?_
        refine g_X6_19 (pc := 52) (cUr_obj hU) (by decide) rfl dX6_hawk_52 ?_
        refine v_iload_n (pc := 55) 1 dX6_hawk_55 rfl rfl ?_
        refine v_iload_n (pc := 56) 2 dX6_hawk_56 rfl rfl ?_
        refine v_callV (pc := 57) _ _ k_X6_222 (cF_obj 0 (by decide)) rfl (adr_lt0 (by decide)) (k_scare (σ := rem_ σ) (k := 0) (by decide) rem_0 hj (show gP (rem_ σ) j = _ from hP) hnp hnd _ _) ⟨rfl, rfl, by decide⟩ rfl rfl (Nat.le_of_ble_eq_true rfl) ⟨Nat.le_of_ble_eq_true rfl, Nat.le_of_ble_eq_true rfl⟩ dX6_hawk_57 (unS ?_)
        show V E X _ RX6 _ _ _ 0 0 _ false 146 60 _ [_] _
        exact v_iret (pc := 60) dX6_hawk_60 (by unfold cs_hawk; rw [if_neg (by rintro (q | q); rw [c_7] at q; exact Bool.noConfusion q; rw [c_17] at q; exact Bool.noConfusion q), eH, if_neg c_30, eNp]; exact ⟨rfl, rfl⟩)
      · refine v_ldc (pc := 33) _ kc_X6_201 dX6_hawk_33 rfl ?_
        exact v_iret (pc := 35) dX6_hawk_35 (by unfold cs_hawk; rw [if_neg (by rintro (q | q); rw [c_7] at q; exact Bool.noConfusion q; rw [c_17] at q; exact Bool.noConfusion q), eH, if_pos c_30]; exact ⟨rfl, rfl⟩)
    · refine v_ldc (pc := 20) _ kc_X6_80 dX6_hawk_20 rfl ?_
      exact v_iret (pc := 22) dX6_hawk_22 (by unfold cs_hawk; rw [if_pos (Or.inr c_17)]; exact ⟨rfl, rfl⟩)
set_option maxHeartbeats 4000000 in
set_option maxRecDepth 100000 in
theorem s_undo {E : Ev} {σ : Sg} (hW : WC σ)  : Ct E yX6_undo cX6_undo 1 (some .int) ({ frames := 3, cells := 0, slots := 0, locals := 82 } : Room) false 146 [.ref (Ez E + 0)] (cellOf E σ) 146 0 0 (Ff (some (.int (cs_undo σ).1)) (cellOf E (cs_undo σ).2)) := by
  obtain ⟨⟨hj, hdj, hjd⟩, hPs, ⟨x_, s_, hQ, hx, hs⟩, ⟨wa, df, wf, ep, eb, ws, fs, es, hS, hws, hfs, hes, hep⟩, ⟨lt, L, m, fa, fn, ap, hT, hL, hm⟩⟩ := hW
  rcases hU : gU σ with ⟨j, dj, se, is, it, oo⟩
  rw [hU] at hj hdj hjd
  simp only at hj hdj hjd
  obtain ⟨np, nd, sd, du, tr, kd, bd, dr, dt, cr, ow, hP, hnp, hnd, hdt, hcr⟩ := hPs j hj
  have eH : hereP σ = (sd, du, tr, nI np, nI nd, kd, bd, dr, dt, cr, ow) := by show gP σ (gU σ).1 = _; rw [hU]; exact hP
  have eNp : hNp σ = np := by show parNp (hereP σ) = np; rw [eH]; exact nI_clamp (by omega)
  have eNd : hNd σ = nd := by show parNd (hereP σ) = nd; rw [eH]; exact nI_clamp (by omega)
  refine Ct.ofV (by decide) (Nat.le_of_ble_eq_true rfl) (fun X hnm => ?_)
  show V E X _ RX6 _ _ _ _ _ _ false 146 0 [(0, .ref (Ez E + 0))] [] _
  refine v_aload_n (pc := 0) 0 dX6_undo_0 rfl rfl ?_
  refine g_X6_39 (pc := 1) (cUr_obj hU) (by decide) rfl dX6_undo_1 ?_
  refine g_X6_153 (pc := 4) (cQr_obj hQ) (by decide) rfl dX6_undo_4 ?_
  refine v_if_neN (pc := 7) (by omega) (tgt := 13) dX6_undo_7 rfl (fun c_7 => ?_) (fun c_7 => ?_)
  · refine v_aload_n (pc := 13) 0 dX6_undo_13 rfl rfl ?_
    refine g_X6_39 (pc := 14) (cUr_obj hU) (by decide) rfl dX6_undo_14 ?_
    refine v_aload_n (pc := 17) 0 dX6_undo_17 rfl rfl ?_
    refine g_X6_29 (pc := 18) (cUr_obj hU) (by decide) rfl dX6_undo_18 ?_
    refine v_callV (pc := 21) _ _ k_X6_235 (cQr_obj hQ) rfl (by decide) (k_recall hQ hx hs (by omega)) ⟨rfl, rfl, by decide⟩ rfl rfl (Nat.le_of_ble_eq_true rfl) ⟨Nat.le_of_ble_eq_true rfl, Nat.le_of_ble_eq_true rfl⟩ dX6_undo_21 (unS ?_)
    show V E X _ RX6 _ _ _ 0 0 _ false 146 24 _ [] _
    refine v_aload_n (pc := 24) 0 dX6_undo_24 rfl rfl ?_
    refine g_X6_39 (pc := 25) (cUr_obj hU) (by decide) rfl dX6_undo_25 ?_
    refine g_X6_153 (pc := 28) (cQr_obj (show gQ (rec_ σ) = (nI ((x_ + 15) % 16), nI (s_ - 1)) by unfold rec_; rw [hQ]; show (nI (((nI x_).toNatClampNeg + 15) % 16), nI ((nI s_).toNatClampNeg - 1)) = _; rw [nI_clamp (by omega), nI_clamp (by omega)])) (by decide) rfl dX6_undo_28 ?_
    exact v_iret (pc := 31) dX6_undo_31 (by unfold cs_undo; rw [hQ, show (nI s_).toNatClampNeg = s_ from nI_clamp (by omega), if_neg (by omega)]; exact ⟨rfl, rfl⟩)
  · refine v_ldc (pc := 10) _ kc_X6_201 dX6_undo_10 rfl ?_
    exact v_iret (pc := 12) dX6_undo_12 (by unfold cs_undo; rw [hQ, show (nI s_).toNatClampNeg = s_ from nI_clamp (by omega), if_pos (by omega)]; exact ⟨rfl, rfl⟩)
theorem k_append {E : Ev} {σ : Sg} {lt : Fn} {L : Nat} {fa fn ap na : Int32} (hT : gT σ = (lt, nI L, fa, fn, ap, na)) (hL : L < 240) (x : Int32) : Ct E yX5_append cX5_append 2 (some .int) ({ frames := 0, cells := 0, slots := 0, locals := 0 } : Room) false 146 [.ref (Ez E + 1), .int x] (cellOf E σ) 146 0 0 (Ff (some (.int (nI (L + 1)))) (cellOf E (sTx σ (upd lt L x, nI (L + 1), fa, fn, ap, na)))) := by
  have h := c_append (E := E) (σ := σ) (lt := lt) (L := L) (fa := fa) (fn := fn) (ap := ap) (na := na) (by omega) x
  have e : sTx σ (lt, nI L, fa, fn, ap, na) = σ := by rw [← hT]
  rw [e, if_pos hL, if_pos hL] at h; exact h
set_option maxHeartbeats 4000000 in
set_option maxRecDepth 100000 in
theorem s_feed {E : Ev} {σ : Sg} (hW : WC σ) (a : Int32) : Ct E yX6_feed cX6_feed 2 (some .int) ({ frames := 1, cells := 0, slots := 0, locals := 22 } : Room) false 146 [.ref (Ez E + 0), .int a] (cellOf E σ) 146 0 0 (Ff (some (.int (cs_feed σ a).1)) (cellOf E (cs_feed σ a).2)) := by
  obtain ⟨⟨hj, hdj, hjd⟩, hPs, ⟨x_, s_, hQ, hx, hs⟩, ⟨wa, df, wf, ep, eb, ws, fs, es, hS, hws, hfs, hes, hep⟩, ⟨lt, L, m, fa, fn, ap, hT, hL, hm⟩⟩ := hW
  rcases hU : gU σ with ⟨j, dj, se, is, it, oo⟩
  rw [hU] at hj hdj hjd
  simp only at hj hdj hjd
  obtain ⟨np, nd, sd, du, tr, kd, bd, dr, dt, cr, ow, hP, hnp, hnd, hdt, hcr⟩ := hPs j hj
  have eH : hereP σ = (sd, du, tr, nI np, nI nd, kd, bd, dr, dt, cr, ow) := by show gP σ (gU σ).1 = _; rw [hU]; exact hP
  have eNp : hNp σ = np := by show parNp (hereP σ) = np; rw [eH]; exact nI_clamp (by omega)
  have eNd : hNd σ = nd := by show parNd (hereP σ) = nd; rw [eH]; exact nI_clamp (by omega)
  refine Ct.ofV (by decide) (Nat.le_of_ble_eq_true rfl) (fun X hnm => ?_)
  show V E X _ RX6 _ _ _ _ _ _ false 146 0 [(0, .ref (Ez E + 0)), (1, .int a)] [] _
  refine v_iload_n (pc := 0) 1 dX6_feed_0 rfl rfl ?_
  refine v_iconst (pc := 1) (nI 0) dX6_feed_1 kI_0 ?_
  refine v_sipush (pc := 2) (nI 255) dX6_feed_2 kS_255 ?_
  refine v_callS (pc := 5) _ _ k_X6_76 (c_isOutside _ _ _) ⟨rfl, rfl, by decide⟩ rfl rfl (Nat.le_of_ble_eq_true rfl) ⟨Nat.le_of_ble_eq_true rfl, Nat.le_of_ble_eq_true rfl⟩ dX6_feed_5 (unS ?_)
  show V E X _ RX6 _ _ _ 0 0 _ false 146 8 _ [_] _
  refine v_if_eqB (pc := 8) (tgt := 14) dX6_feed_8 rfl (fun c_8 => ?_) (fun c_8 => ?_)
  · refine v_aload_n (pc := 14) 0 dX6_feed_14 rfl rfl ?_
    refine g_X6_10 (pc := 15) (cUr_obj hU) (by decide) rfl dX6_feed_15 ?_
    refine g_X6_81 (pc := 18) (cTr_obj hT) (by decide) rfl dX6_feed_18 ?_
    refine v_sipush (pc := 21) (nI 240) dX6_feed_21 kS_240 ?_
    refine v_icmp_ltN (pc := 24) (by omega) (by omega) (tgt := 30) dX6_feed_24 rfl (fun c_24 => ?_) (fun c_24 => ?_)
    · refine v_aload_n (pc := 30) 0 dX6_feed_30 rfl rfl ?_
      refine g_X6_10 (pc := 31) (cUr_obj hU) (by decide) rfl dX6_feed_31 ?_
      refine v_iload_n (pc := 34) 1 dX6_feed_34 rfl rfl ?_
      refine v_callV (pc := 35) _ _ k_X6_85 (cTr_obj hT) rfl (by decide) (k_append hT (by omega) _) ⟨rfl, rfl, by decide⟩ rfl rfl (Nat.le_of_ble_eq_true rfl) ⟨Nat.le_of_ble_eq_true rfl, Nat.le_of_ble_eq_true rfl⟩ dX6_feed_35 (unS ?_)
      show V E X _ RX6 _ _ _ 0 0 _ false 146 38 _ [_] _
      exact v_iret (pc := 38) dX6_feed_38 (by unfold cs_feed; rw [if_neg (by rw [c_8]; decide), hT, show (nI L).toNatClampNeg = L from nI_clamp (by omega), if_pos (by omega)]; exact ⟨rfl, rfl⟩)
    · refine v_ldc (pc := 27) _ kc_X6_84 dX6_feed_27 rfl ?_
      exact v_iret (pc := 29) dX6_feed_29 (by unfold cs_feed; rw [if_neg (by rw [c_8]; decide), hT, show (nI L).toNatClampNeg = L from nI_clamp (by omega), if_neg (by omega)]; exact ⟨rfl, rfl⟩)
  · refine v_ldc (pc := 11) _ kc_X6_80 dX6_feed_11 rfl ?_
    exact v_iret (pc := 13) dX6_feed_13 (by unfold cs_feed; rw [if_pos c_8]; exact ⟨rfl, rfl⟩)
set_option maxHeartbeats 4000000 in
set_option maxRecDepth 100000 in
theorem s_watch {E : Ev} {σ : Sg} (hW : WC σ) (a : Int32) : Ct E yX6_watch cX6_watch 2 (some .int) ({ frames := 1, cells := 0, slots := 0, locals := 22 } : Room) false 146 [.ref (Ez E + 0), .int a] (cellOf E σ) 146 0 0 (Ff (some (.int (cs_watch σ a).1)) (cellOf E (cs_watch σ a).2)) := by
  obtain ⟨⟨hj, hdj, hjd⟩, hPs, ⟨x_, s_, hQ, hx, hs⟩, ⟨wa, df, wf, ep, eb, ws, fs, es, hS, hws, hfs, hes, hep⟩, ⟨lt, L, m, fa, fn, ap, hT, hL, hm⟩⟩ := hW
  rcases hU : gU σ with ⟨j, dj, se, is, it, oo⟩
  rw [hU] at hj hdj hjd
  simp only at hj hdj hjd
  obtain ⟨np, nd, sd, du, tr, kd, bd, dr, dt, cr, ow, hP, hnp, hnd, hdt, hcr⟩ := hPs j hj
  have eH : hereP σ = (sd, du, tr, nI np, nI nd, kd, bd, dr, dt, cr, ow) := by show gP σ (gU σ).1 = _; rw [hU]; exact hP
  have eNp : hNp σ = np := by show parNp (hereP σ) = np; rw [eH]; exact nI_clamp (by omega)
  have eNd : hNd σ = nd := by show parNd (hereP σ) = nd; rw [eH]; exact nI_clamp (by omega)
  refine Ct.ofV (by decide) (Nat.le_of_ble_eq_true rfl) (fun X hnm => ?_)
  show V E X _ RX6 _ _ _ _ _ _ false 146 0 [(0, .ref (Ez E + 0)), (1, .int a)] [] _
  refine v_iload_n (pc := 0) 1 dX6_watch_0 rfl rfl ?_
  refine v_iconst (pc := 1) (nI 0) dX6_watch_1 kI_0 ?_
  refine v_bipush (pc := 2) (nI 99) dX6_watch_2 kB_99 ?_
  refine v_callS (pc := 4) _ _ k_X6_76 (c_isOutside _ _ _) ⟨rfl, rfl, by decide⟩ rfl rfl (Nat.le_of_ble_eq_true rfl) ⟨Nat.le_of_ble_eq_true rfl, Nat.le_of_ble_eq_true rfl⟩ dX6_watch_4 (unS ?_)
  show V E X _ RX6 _ _ _ 0 0 _ false 146 7 _ [_] _
  refine v_if_eqB (pc := 7) (tgt := 13) dX6_watch_7 rfl (fun c_7 => ?_) (fun c_7 => ?_)
  · refine v_aload_n (pc := 13) 0 dX6_watch_13 rfl rfl ?_
    refine g_X6_65 (pc := 14) (cUr_obj hU) (by decide) rfl dX6_watch_14 ?_
    refine g_X6_144 (pc := 17) (cSr_obj hS) (by decide) rfl dX6_watch_17 ?_
    refine v_bipush (pc := 20) (nI 6) dX6_watch_20 kB_6 ?_
    refine v_icmp_ltN (pc := 22) (by omega) (by omega) (tgt := 28) dX6_watch_22 rfl (fun c_22 => ?_) (fun c_22 => ?_)
    · refine v_aload_n (pc := 28) 0 dX6_watch_28 rfl rfl ?_
      refine g_X6_65 (pc := 29) (cUr_obj hU) (by decide) rfl dX6_watch_29 ?_
      refine v_iload_n (pc := 32) 1 dX6_watch_32 rfl rfl ?_
      refine v_callV (pc := 33) _ _ k_X6_272 (cSr_obj hS) rfl (by decide) (k_addW hws hfs hes hS _ (by omega)) ⟨rfl, rfl, by decide⟩ rfl rfl (Nat.le_of_ble_eq_true rfl) ⟨Nat.le_of_ble_eq_true rfl, Nat.le_of_ble_eq_true rfl⟩ dX6_watch_33 (unS ?_)
      show V E X _ RX6 _ _ _ 0 0 _ false 146 36 _ [_] _
      exact v_iret (pc := 36) dX6_watch_36 (by unfold cs_watch; rw [if_neg (by rw [c_7]; decide), hS, show (nI ws).toNatClampNeg = ws from nI_clamp (by omega), if_pos (by omega)]; exact ⟨rfl, rfl⟩)
    · refine v_ldc (pc := 25) _ kc_X6_84 dX6_watch_25 rfl ?_
      exact v_iret (pc := 27) dX6_watch_27 (by unfold cs_watch; rw [if_neg (by rw [c_7]; decide), hS, show (nI ws).toNatClampNeg = ws from nI_clamp (by omega), if_neg (by omega)]; exact ⟨rfl, rfl⟩)
  · refine v_ldc (pc := 10) _ kc_X6_80 dX6_watch_10 rfl ?_
    exact v_iret (pc := 12) dX6_watch_12 (by unfold cs_watch; rw [if_pos c_7]; exact ⟨rfl, rfl⟩)
set_option maxHeartbeats 4000000 in
set_option maxRecDepth 100000 in
theorem s_feel {E : Ev} {σ : Sg} (hW : WC σ) (x y : Int32) (w : Bool) : Ct E yX6_feel cX6_feel 4 (some .int) ({ frames := 1, cells := 0, slots := 0, locals := 22 } : Room) false 146 [.ref (Ez E + 0), .int x, .int y, .int (bI w)] (cellOf E σ) 146 0 0 (Ff (some (.int (cs_feel σ x y w).1)) (cellOf E (cs_feel σ x y w).2)) := by
  obtain ⟨⟨hj, hdj, hjd⟩, hPs, ⟨x_, s_, hQ, hx, hs⟩, ⟨wa, df, wf, ep, eb, ws, fs, es, hS, hws, hfs, hes, hep⟩, ⟨lt, L, m, fa, fn, ap, hT, hL, hm⟩⟩ := hW
  rcases hU : gU σ with ⟨j, dj, se, is, it, oo⟩
  rw [hU] at hj hdj hjd
  simp only at hj hdj hjd
  obtain ⟨np, nd, sd, du, tr, kd, bd, dr, dt, cr, ow, hP, hnp, hnd, hdt, hcr⟩ := hPs j hj
  have eH : hereP σ = (sd, du, tr, nI np, nI nd, kd, bd, dr, dt, cr, ow) := by show gP σ (gU σ).1 = _; rw [hU]; exact hP
  have eNp : hNp σ = np := by show parNp (hereP σ) = np; rw [eH]; exact nI_clamp (by omega)
  have eNd : hNd σ = nd := by show parNd (hereP σ) = nd; rw [eH]; exact nI_clamp (by omega)
  refine Ct.ofV (by decide) (Nat.le_of_ble_eq_true rfl) (fun X hnm => ?_)
  show V E X _ RX6 _ _ _ _ _ _ false 146 0 [(0, .ref (Ez E + 0)), (1, .int x), (2, .int y), (3, .int (bI w))] [] _
  refine v_iload_n (pc := 0) 1 dX6_feel_0 rfl rfl ?_
  refine v_iconst (pc := 1) (nI 0) dX6_feel_1 kI_0 ?_
  refine v_bipush (pc := 2) (nI 50) dX6_feel_2 kB_50 ?_
  refine v_callS (pc := 4) _ _ k_X6_76 (c_isOutside _ _ _) ⟨rfl, rfl, by decide⟩ rfl rfl (Nat.le_of_ble_eq_true rfl) ⟨Nat.le_of_ble_eq_true rfl, Nat.le_of_ble_eq_true rfl⟩ dX6_feel_4 (unS ?_)
  show V E X _ RX6 _ _ _ 0 0 _ false 146 7 _ [_] _
  refine v_if_neB (pc := 7) (tgt := 20) dX6_feel_7 rfl (fun c_7 => ?_) (fun c_7 => ?_)
  · refine v_ldc (pc := 20) _ kc_X6_80 dX6_feel_20 rfl ?_
    exact v_iret (pc := 22) dX6_feel_22 (by unfold cs_feel; rw [if_pos (Or.inl c_7)]; exact ⟨rfl, rfl⟩)
  · refine v_iload_n (pc := 10) 2 dX6_feel_10 rfl rfl ?_
    refine v_iconst (pc := 11) (nI 0) dX6_feel_11 kI_0 ?_
    refine v_bipush (pc := 12) (nI 50) dX6_feel_12 kB_50 ?_
    refine v_callS (pc := 14) _ _ k_X6_76 (c_isOutside _ _ _) ⟨rfl, rfl, by decide⟩ rfl rfl (Nat.le_of_ble_eq_true rfl) ⟨Nat.le_of_ble_eq_true rfl, Nat.le_of_ble_eq_true rfl⟩ dX6_feel_14 (unS ?_)
    show V E X _ RX6 _ _ _ 0 0 _ false 146 17 _ [_] _
    refine v_if_eqB (pc := 17) (tgt := 23) dX6_feel_17 rfl (fun c_17 => ?_) (fun c_17 => ?_)
    · refine v_aload_n (pc := 23) 0 dX6_feel_23 rfl rfl ?_
      refine g_X6_65 (pc := 24) (cUr_obj hU) (by decide) rfl dX6_feel_24 ?_
      refine g_X6_147 (pc := 27) (cSr_obj hS) (by decide) rfl dX6_feel_27 ?_
      refine v_bipush (pc := 30) (nI 6) dX6_feel_30 kB_6 ?_
      refine v_icmp_ltN (pc := 32) (by omega) (by omega) (tgt := 38) dX6_feel_32 rfl (fun c_32 => ?_) (fun c_32 => ?_)
      · refine v_aload_n (pc := 38) 0 dX6_feel_38 rfl rfl ?_
        refine g_X6_65 (pc := 39) (cUr_obj hU) (by decide) rfl dX6_feel_39 ?_
        refine v_iload_n (pc := 42) 1 dX6_feel_42 rfl rfl ?_
        refine v_iload_n (pc := 43) 2 dX6_feel_43 rfl rfl ?_
        refine v_isub (pc := 44) dX6_feel_44 ?_
        refine v_callS (pc := 45) _ _ k_X6_275 (c_abs _) ⟨rfl, rfl, by decide⟩ rfl rfl (Nat.le_of_ble_eq_true rfl) ⟨Nat.le_of_ble_eq_true rfl, Nat.le_of_ble_eq_true rfl⟩ dX6_feel_45 (unS ?_)
        show V E X _ RX6 _ _ _ 0 0 _ false 146 48 _ [_, _] _
        refine v_iload_n (pc := 48) 3 dX6_feel_48 rfl rfl ?_
        refine v_callV (pc := 49) _ _ k_X6_280 (cSr_obj hS) rfl (by decide) (k_addF hws hfs hes hS _ _ (by omega)) ⟨rfl, rfl, by decide⟩ rfl rfl (Nat.le_of_ble_eq_true rfl) ⟨Nat.le_of_ble_eq_true rfl, Nat.le_of_ble_eq_true rfl⟩ dX6_feel_49 (unS ?_)
        show V E X _ RX6 _ _ _ 0 0 _ false 146 52 _ [_] _
        exact v_iret (pc := 52) dX6_feel_52 (by unfold cs_feel; rw [if_neg (by rintro (q | q); rw [c_7] at q; exact Bool.noConfusion q; rw [c_17] at q; exact Bool.noConfusion q), hS, show (nI fs).toNatClampNeg = fs from nI_clamp (by omega), if_pos (by omega)]; exact ⟨rfl, rfl⟩)
      · refine v_ldc (pc := 35) _ kc_X6_84 dX6_feel_35 rfl ?_
        exact v_iret (pc := 37) dX6_feel_37 (by unfold cs_feel; rw [if_neg (by rintro (q | q); rw [c_7] at q; exact Bool.noConfusion q; rw [c_17] at q; exact Bool.noConfusion q), hS, show (nI fs).toNatClampNeg = fs from nI_clamp (by omega), if_neg (by omega)]; exact ⟨rfl, rfl⟩)
    · refine v_ldc (pc := 20) _ kc_X6_80 dX6_feel_20 rfl ?_
      exact v_iret (pc := 22) dX6_feel_22 (by unfold cs_feel; rw [if_pos (Or.inr c_17)]; exact ⟨rfl, rfl⟩)
set_option maxHeartbeats 4000000 in
set_option maxRecDepth 100000 in
theorem s_write {E : Ev} {σ : Sg} (hW : WC σ) (a n : Int32) : Ct E yX6_write cX6_write 3 (some .int) ({ frames := 1, cells := 0, slots := 0, locals := 22 } : Room) false 146 [.ref (Ez E + 0), .int a, .int n] (cellOf E σ) 146 0 0 (Ff (some (.int (cs_write σ a n).1)) (cellOf E (cs_write σ a n).2)) := by
  obtain ⟨⟨hj, hdj, hjd⟩, hPs, ⟨x_, s_, hQ, hx, hs⟩, ⟨wa, df, wf, ep, eb, ws, fs, es, hS, hws, hfs, hes, hep⟩, ⟨lt, L, m, fa, fn, ap, hT, hL, hm⟩⟩ := hW
  rcases hU : gU σ with ⟨j, dj, se, is, it, oo⟩
  rw [hU] at hj hdj hjd
  simp only at hj hdj hjd
  obtain ⟨np, nd, sd, du, tr, kd, bd, dr, dt, cr, ow, hP, hnp, hnd, hdt, hcr⟩ := hPs j hj
  have eH : hereP σ = (sd, du, tr, nI np, nI nd, kd, bd, dr, dt, cr, ow) := by show gP σ (gU σ).1 = _; rw [hU]; exact hP
  have eNp : hNp σ = np := by show parNp (hereP σ) = np; rw [eH]; exact nI_clamp (by omega)
  have eNd : hNd σ = nd := by show parNd (hereP σ) = nd; rw [eH]; exact nI_clamp (by omega)
  refine Ct.ofV (by decide) (Nat.le_of_ble_eq_true rfl) (fun X hnm => ?_)
  show V E X _ RX6 _ _ _ _ _ _ false 146 0 [(0, .ref (Ez E + 0)), (1, .int a), (2, .int n)] [] _
  refine v_aload_n (pc := 0) 0 dX6_write_0 rfl rfl ?_
  refine g_X6_19 (pc := 1) (cUr_obj hU) (by decide) rfl dX6_write_1 ?_
  refine v_iload_n (pc := 4) 1 dX6_write_4 rfl rfl ?_
  refine v_callV (pc := 5) _ _ k_X6_156 (cPr_obj hj hP) rfl (pad_lt0 hj) (c_hasPerson hj hP hnp hnd _) ⟨rfl, rfl, by decide⟩ rfl rfl (Nat.le_of_ble_eq_true rfl) ⟨Nat.le_of_ble_eq_true rfl, Nat.le_of_ble_eq_true rfl⟩ dX6_write_5 (unS ?_)
  show V E X _ RX6 _ _ _ 0 0 _ false 146 8 _ [_] _
  refine v_if_neB (pc := 8) (tgt := 14) dX6_write_8 rfl (fun c_8 => ?_) (fun c_8 => ?_)
  · refine v_iload_n (pc := 14) 2 dX6_write_14 rfl rfl ?_
    refine v_iconst (pc := 15) (nI 0) dX6_write_15 kI_0 ?_
    refine v_sipush (pc := 16) (nI 9999) dX6_write_16 kS_9999 ?_
    refine v_callS (pc := 19) _ _ k_X6_76 (c_isOutside _ _ _) ⟨rfl, rfl, by decide⟩ rfl rfl (Nat.le_of_ble_eq_true rfl) ⟨Nat.le_of_ble_eq_true rfl, Nat.le_of_ble_eq_true rfl⟩ dX6_write_19 (unS ?_)
    show V E X _ RX6 _ _ _ 0 0 _ false 146 22 _ [_] _
    refine v_if_eqB (pc := 22) (tgt := 28) dX6_write_22 rfl (fun c_22 => ?_) (fun c_22 => ?_)
    · refine v_aload_n (pc := 28) 0 dX6_write_28 rfl rfl ?_
      refine g_X6_65 (pc := 29) (cUr_obj hU) (by decide) rfl dX6_write_29 ?_
      refine g_X6_150 (pc := 32) (cSr_obj hS) (by decide) rfl dX6_write_32 ?_
      refine v_bipush (pc := 35) (nI 15) dX6_write_35 kB_15 ?_
      refine v_icmp_ltN (pc := 37) (by omega) (by omega) (tgt := 43) dX6_write_37 rfl (fun c_37 => ?_) (fun c_37 => ?_)
      · refine v_aload_n (pc := 43) 0 dX6_write_43 rfl rfl ?_
        refine g_X6_65 (pc := 44) (cUr_obj hU) (by decide) rfl dX6_write_44 ?_
        refine v_iload_n (pc := 47) 1 dX6_write_47 rfl rfl ?_
        refine v_iload_n (pc := 48) 2 dX6_write_48 rfl rfl ?_
        refine v_callV (pc := 49) _ _ k_X6_296 (cSr_obj hS) rfl (by decide) (k_addE hws hfs hes hS _ _ (by omega)) ⟨rfl, rfl, by decide⟩ rfl rfl (Nat.le_of_ble_eq_true rfl) ⟨Nat.le_of_ble_eq_true rfl, Nat.le_of_ble_eq_true rfl⟩ dX6_write_49 (unS ?_)
        show V E X _ RX6 _ _ _ 0 0 _ false 146 52 _ [_] _
        exact v_iret (pc := 52) dX6_write_52 (by unfold cs_write; rw [eNp, if_pos c_8, if_neg (by rw [c_22]; decide), hS, show (nI es).toNatClampNeg = es from nI_clamp (by omega), if_pos (by omega)]; exact ⟨rfl, rfl⟩)
      · refine v_ldc (pc := 40) _ kc_X6_84 dX6_write_40 rfl ?_
        exact v_iret (pc := 42) dX6_write_42 (by unfold cs_write; rw [eNp, if_pos c_8, if_neg (by rw [c_22]; decide), hS, show (nI es).toNatClampNeg = es from nI_clamp (by omega), if_neg (by omega)]; exact ⟨rfl, rfl⟩)
    · refine v_ldc (pc := 25) _ kc_X6_80 dX6_write_25 rfl ?_
      exact v_iret (pc := 27) dX6_write_27 (by unfold cs_write; rw [eNp, if_pos c_8, if_pos c_22]; exact ⟨rfl, rfl⟩)
  · refine v_ldc (pc := 11) _ kc_X6_160 dX6_write_11 rfl ?_
    exact v_iret (pc := 13) dX6_write_13 (by unfold cs_write; rw [eNp, if_neg (by rw [c_8]; decide)]; exact ⟨rfl, rfl⟩)
set_option maxHeartbeats 4000000 in
set_option maxRecDepth 100000 in
theorem s_tear {E : Ev} {σ : Sg} (hW : WC σ)  : Ct E yX6_tear cX6_tear 2 (some .int) ({ frames := 1, cells := 0, slots := 0, locals := 20 } : Room) false 146 [.ref (Ez E + 0)] (cellOf E σ) 146 0 0 (Ff (some (.int (cs_tear σ).1)) (cellOf E (cs_tear σ).2)) := by
  obtain ⟨⟨hj, hdj, hjd⟩, hPs, ⟨x_, s_, hQ, hx, hs⟩, ⟨wa, df, wf, ep, eb, ws, fs, es, hS, hws, hfs, hes, hep⟩, ⟨lt, L, m, fa, fn, ap, hT, hL, hm⟩⟩ := hW
  rcases hU : gU σ with ⟨j, dj, se, is, it, oo⟩
  rw [hU] at hj hdj hjd
  simp only at hj hdj hjd
  obtain ⟨np, nd, sd, du, tr, kd, bd, dr, dt, cr, ow, hP, hnp, hnd, hdt, hcr⟩ := hPs j hj
  have eH : hereP σ = (sd, du, tr, nI np, nI nd, kd, bd, dr, dt, cr, ow) := by show gP σ (gU σ).1 = _; rw [hU]; exact hP
  have eNp : hNp σ = np := by show parNp (hereP σ) = np; rw [eH]; exact nI_clamp (by omega)
  have eNd : hNd σ = nd := by show parNd (hereP σ) = nd; rw [eH]; exact nI_clamp (by omega)
  refine Ct.ofV (by decide) (Nat.le_of_ble_eq_true rfl) (fun X hnm => ?_)
  show V E X _ RX6 _ _ _ _ _ _ false 146 0 [(0, .ref (Ez E + 0))] [] _
  refine v_aload_n (pc := 0) 0 dX6_tear_0 rfl rfl ?_
  refine g_X6_65 (pc := 1) (cUr_obj hU) (by decide) rfl dX6_tear_1 ?_
  refine g_X6_144 (pc := 4) (cSr_obj hS) (by decide) rfl dX6_tear_4 ?_
  refine v_aload_n (pc := 7) 0 dX6_tear_7 rfl rfl ?_
  refine g_X6_65 (pc := 8) (cUr_obj hU) (by decide) rfl dX6_tear_8 ?_
  refine g_X6_147 (pc := 11) (cSr_obj hS) (by decide) rfl dX6_tear_11 ?_
  refine v_iaddN (pc := 14) dX6_tear_14 ?_
  refine v_aload_n (pc := 15) 0 dX6_tear_15 rfl rfl ?_
  refine g_X6_65 (pc := 16) (cUr_obj hU) (by decide) rfl dX6_tear_16 ?_
  refine g_X6_150 (pc := 19) (cSr_obj hS) (by decide) rfl dX6_tear_19 ?_
  refine v_iaddN (pc := 22) dX6_tear_22 ?_
  refine v_istore_n (pc := 23) [1, 0] [(0, _), (1, _)] dX6_tear_23 rfl (by decide) rfl ?_
  refine v_aload_n (pc := 24) 0 dX6_tear_24 rfl rfl ?_
  refine g_X6_65 (pc := 25) (cUr_obj hU) (by decide) rfl dX6_tear_25 ?_
  refine v_callV (pc := 28) _ _ k_X6_100 (cSr_obj hS) rfl (by decide) (k_sforget hws hfs hes hS) ⟨rfl, rfl, by decide⟩ rfl rfl (Nat.le_of_ble_eq_true rfl) ⟨Nat.le_of_ble_eq_true rfl, Nat.le_of_ble_eq_true rfl⟩ dX6_tear_28 (unS ?_)
  show V E X _ RX6 _ _ _ 0 0 _ false 146 31 _ [] _
  refine v_iload_n (pc := 31) 1 dX6_tear_31 rfl rfl ?_
  exact v_iret (pc := 32) dX6_tear_32 (by unfold cs_tear; rw [hS]; exact ⟨by rw [nI_add3], rfl⟩)
set_option maxHeartbeats 4000000 in
set_option maxRecDepth 100000 in
theorem s_judge {E : Ev} {σ : Sg} (hW : WC σ)  : Ct E yX6_judge cX6_judge 1 (some .int) ({ frames := 1, cells := 0, slots := 0, locals := 22 } : Room) false 146 [.ref (Ez E + 0)] (cellOf E σ) 146 0 0 (Ff (some (.int (cs_judge σ))) (cellOf E σ)) := by
  obtain ⟨⟨hj, hdj, hjd⟩, hPs, ⟨x_, s_, hQ, hx, hs⟩, ⟨wa, df, wf, ep, eb, ws, fs, es, hS, hws, hfs, hes, hep⟩, ⟨lt, L, m, fa, fn, ap, hT, hL, hm⟩⟩ := hW
  rcases hU : gU σ with ⟨j, dj, se, is, it, oo⟩
  rw [hU] at hj hdj hjd
  simp only at hj hdj hjd
  obtain ⟨np, nd, sd, du, tr, kd, bd, dr, dt, cr, ow, hP, hnp, hnd, hdt, hcr⟩ := hPs j hj
  have eH : hereP σ = (sd, du, tr, nI np, nI nd, kd, bd, dr, dt, cr, ow) := by show gP σ (gU σ).1 = _; rw [hU]; exact hP
  have eNp : hNp σ = np := by show parNp (hereP σ) = np; rw [eH]; exact nI_clamp (by omega)
  have eNd : hNd σ = nd := by show parNd (hereP σ) = nd; rw [eH]; exact nI_clamp (by omega)
  refine Ct.ofV (by decide) (Nat.le_of_ble_eq_true rfl) (fun X hnm => ?_)
  show V E X _ RX6 _ _ _ _ _ _ false 146 0 [(0, .ref (Ez E + 0))] [] _
  refine v_aload_n (pc := 0) 0 dX6_judge_0 rfl rfl ?_
  refine g_X6_65 (pc := 1) (cUr_obj hU) (by decide) rfl dX6_judge_1 ?_
  refine v_aload_n (pc := 4) 0 dX6_judge_4 rfl rfl ?_
  refine g_X6_29 (pc := 5) (cUr_obj hU) (by decide) rfl dX6_judge_5 ?_
  refine v_callV (pc := 8) _ _ k_X6_299 (cSr_obj hS) rfl (by decide) (k_fwrong hws hfs hes hS rfl hep) ⟨rfl, rfl, by decide⟩ rfl rfl (Nat.le_of_ble_eq_true rfl) ⟨Nat.le_of_ble_eq_true rfl, Nat.le_of_ble_eq_true rfl⟩ dX6_judge_8 (unS ?_)
  show V E X _ RX6 _ _ _ 0 0 _ false 146 11 _ [_] _
  exact v_iret (pc := 11) dX6_judge_11 (⟨by unfold cs_judge; rw [hS]; show _ = some (Value.int (fst_ _ (nI es).toNatClampNeg 0)); rw [nI_clamp (by omega)], rfl⟩)
set_option maxHeartbeats 4000000 in
set_option maxRecDepth 100000 in
theorem s_reach {E : Ev} {σ : Sg} (hW : WC σ) (w : Int32) : Ct E yX6_reach cX6_reach 2 (some .int) ({ frames := 3, cells := 0, slots := 0, locals := 71 } : Room) false 146 [.ref (Ez E + 0), .int w] (cellOf E σ) 146 0 0 (Ff (some (.int (cs_reach σ w))) (cellOf E σ)) := by
  obtain ⟨⟨hj, hdj, hjd⟩, hPs, ⟨x_, s_, hQ, hx, hs⟩, ⟨wa, df, wf, ep, eb, ws, fs, es, hS, hws, hfs, hes, hep⟩, ⟨lt, L, m, fa, fn, ap, hT, hL, hm⟩⟩ := hW
  rcases hU : gU σ with ⟨j, dj, se, is, it, oo⟩
  rw [hU] at hj hdj hjd
  simp only at hj hdj hjd
  obtain ⟨np, nd, sd, du, tr, kd, bd, dr, dt, cr, ow, hP, hnp, hnd, hdt, hcr⟩ := hPs j hj
  have eH : hereP σ = (sd, du, tr, nI np, nI nd, kd, bd, dr, dt, cr, ow) := by show gP σ (gU σ).1 = _; rw [hU]; exact hP
  have eNp : hNp σ = np := by show parNp (hereP σ) = np; rw [eH]; exact nI_clamp (by omega)
  have eNd : hNd σ = nd := by show parNd (hereP σ) = nd; rw [eH]; exact nI_clamp (by omega)
  refine Ct.ofV (by decide) (Nat.le_of_ble_eq_true rfl) (fun X hnm => ?_)
  show V E X _ RX6 _ _ _ _ _ _ false 146 0 [(0, .ref (Ez E + 0)), (1, .int w)] [] _
  refine v_iload_n (pc := 0) 1 dX6_reach_0 rfl rfl ?_
  rcases sw_0_3 w with s_1 | s_1 | s_1 | s_1 | s_1
  · refine v_tabIn (pc := 1) (off := 31) (tgt := 32) dX6_reach_1 (by rw [s_1]; decide) (by rw [s_1]; decide) (by rw [s_1]; rfl) rfl ?_
    refine v_aload_n (pc := 32) 0 dX6_reach_32 rfl rfl ?_
    refine g_X6_65 (pc := 33) (cUr_obj hU) (by decide) rfl dX6_reach_33 ?_
    refine v_bipush (pc := 36) (nI 51) dX6_reach_36 kB_51 ?_
    refine v_callV (pc := 38) _ _ k_X6_284 (cSr_obj hS) rfl (by decide) (k_below hws hfs hes hS (by omega)) ⟨rfl, rfl, by decide⟩ rfl rfl (Nat.le_of_ble_eq_true rfl) ⟨Nat.le_of_ble_eq_true rfl, Nat.le_of_ble_eq_true rfl⟩ dX6_reach_38 (unS ?_)
    show V E X _ RX6 _ _ _ 0 0 _ false 146 41 _ [_] _
    exact v_iret (pc := 41) dX6_reach_41 (⟨by unfold cs_reach; rw [if_pos s_1]; unfold seeCan; rw [hS]; show _ = some (Value.int (_)); rw [show (nI fs).toNatClampNeg = fs from nI_clamp (by omega)], rfl⟩)
  · refine v_tabIn (pc := 1) (off := 41) (tgt := 42) dX6_reach_1 (by rw [s_1]; decide) (by rw [s_1]; decide) (by rw [s_1]; rfl) rfl ?_
    refine v_aload_n (pc := 42) 0 dX6_reach_42 rfl rfl ?_
    refine g_X6_65 (pc := 43) (cUr_obj hU) (by decide) rfl dX6_reach_43 ?_
    refine v_callV (pc := 46) _ _ k_X6_287 (cSr_obj hS) rfl (by decide) (k_least hws hfs hes hS) ⟨rfl, rfl, by decide⟩ rfl rfl (Nat.le_of_ble_eq_true rfl) ⟨Nat.le_of_ble_eq_true rfl, Nat.le_of_ble_eq_true rfl⟩ dX6_reach_46 (unS ?_)
    show V E X _ RX6 _ _ _ 0 0 _ false 146 49 _ [_] _
    exact v_iret (pc := 49) dX6_reach_49 (⟨by unfold cs_reach; rw [if_neg (show ¬ w = nI 0 from fun e => by rw [e] at s_1; revert s_1; decide), if_pos s_1]; unfold seeCan; rw [hS]; show _ = some (Value.int (_)); rw [show (nI fs).toNatClampNeg = fs from nI_clamp (by omega)], rfl⟩)
  · refine v_tabIn (pc := 1) (off := 49) (tgt := 50) dX6_reach_1 (by rw [s_1]; decide) (by rw [s_1]; decide) (by rw [s_1]; rfl) rfl ?_
    refine v_aload_n (pc := 50) 0 dX6_reach_50 rfl rfl ?_
    refine g_X6_65 (pc := 51) (cUr_obj hU) (by decide) rfl dX6_reach_51 ?_
    refine v_callV (pc := 54) _ _ k_X6_290 (cSr_obj hS) rfl (by decide) (k_great hws hfs hes hS) ⟨rfl, rfl, by decide⟩ rfl rfl (Nat.le_of_ble_eq_true rfl) ⟨Nat.le_of_ble_eq_true rfl, Nat.le_of_ble_eq_true rfl⟩ dX6_reach_54 (unS ?_)
    show V E X _ RX6 _ _ _ 0 0 _ false 146 57 _ [_] _
    exact v_iret (pc := 57) dX6_reach_57 (⟨by unfold cs_reach; rw [if_neg (show ¬ w = nI 0 from fun e => by rw [e] at s_1; revert s_1; decide), if_neg (show ¬ w = nI 1 from fun e => by rw [e] at s_1; revert s_1; decide), if_pos s_1]; unfold seeCan; rw [hS]; show _ = some (Value.int (_)); rw [show (nI fs).toNatClampNeg = fs from nI_clamp (by omega)], rfl⟩)
  · refine v_tabIn (pc := 1) (off := 57) (tgt := 58) dX6_reach_1 (by rw [s_1]; decide) (by rw [s_1]; decide) (by rw [s_1]; rfl) rfl ?_
    refine v_aload_n (pc := 58) 0 dX6_reach_58 rfl rfl ?_
    refine g_X6_65 (pc := 59) (cUr_obj hU) (by decide) rfl dX6_reach_59 ?_
    refine v_callV (pc := 62) _ _ k_X6_293 (cSr_obj hS) rfl (by decide) (k_part hws hfs hes hS) ⟨rfl, rfl, by decide⟩ rfl rfl (Nat.le_of_ble_eq_true rfl) ⟨Nat.le_of_ble_eq_true rfl, Nat.le_of_ble_eq_true rfl⟩ dX6_reach_62 (unS ?_)
    show V E X _ RX6 _ _ _ 0 0 _ false 146 65 _ [_] _
    exact v_iret (pc := 65) dX6_reach_65 (⟨by unfold cs_reach; rw [if_neg (show ¬ w = nI 0 from fun e => by rw [e] at s_1; revert s_1; decide), if_neg (show ¬ w = nI 1 from fun e => by rw [e] at s_1; revert s_1; decide), if_neg (show ¬ w = nI 2 from fun e => by rw [e] at s_1; revert s_1; decide), if_pos s_1]; unfold seeCan; rw [hS]; show _ = some (Value.int (_)); rw [show (nI fs).toNatClampNeg = fs from nI_clamp (by omega)], rfl⟩)
  · refine v_tabOut (pc := 1) (tgt := 66) dX6_reach_1 s_1 rfl ?_
    refine v_ldc (pc := 66) _ kc_X6_80 dX6_reach_66 rfl ?_
    exact v_iret (pc := 68) dX6_reach_68 (⟨by unfold cs_reach; rw [if_neg (show ¬ w = nI 0 from fun e => by rw [e] at s_1; revert s_1; decide), if_neg (show ¬ w = nI 1 from fun e => by rw [e] at s_1; revert s_1; decide), if_neg (show ¬ w = nI 2 from fun e => by rw [e] at s_1; revert s_1; decide), if_neg (show ¬ w = nI 3 from fun e => by rw [e] at s_1; revert s_1; decide)]; rfl, rfl⟩)
set_option maxHeartbeats 4000000 in
set_option maxRecDepth 100000 in
theorem s_seed {E : Ev} {σ : Sg} (hW : WC σ) (v : Int32) : Ct E yX6_seed cX6_seed 3 (some .int) ({ frames := 0, cells := 0, slots := 0, locals := 0 } : Room) false 146 [.ref (Ez E + 0), .int v] (cellOf E σ) 146 0 0 (Ff (some (.int (cs_seed σ v).1)) (cellOf E (cs_seed σ v).2)) := by
  obtain ⟨⟨hj, hdj, hjd⟩, hPs, ⟨x_, s_, hQ, hx, hs⟩, ⟨wa, df, wf, ep, eb, ws, fs, es, hS, hws, hfs, hes, hep⟩, ⟨lt, L, m, fa, fn, ap, hT, hL, hm⟩⟩ := hW
  rcases hU : gU σ with ⟨j, dj, se, is, it, oo⟩
  rw [hU] at hj hdj hjd
  simp only at hj hdj hjd
  obtain ⟨np, nd, sd, du, tr, kd, bd, dr, dt, cr, ow, hP, hnp, hnd, hdt, hcr⟩ := hPs j hj
  have eH : hereP σ = (sd, du, tr, nI np, nI nd, kd, bd, dr, dt, cr, ow) := by show gP σ (gU σ).1 = _; rw [hU]; exact hP
  have eNp : hNp σ = np := by show parNp (hereP σ) = np; rw [eH]; exact nI_clamp (by omega)
  have eNd : hNd σ = nd := by show parNd (hereP σ) = nd; rw [eH]; exact nI_clamp (by omega)
  refine Ct.ofV (by decide) (Nat.le_of_ble_eq_true rfl) (fun X hnm => ?_)
  show V E X _ RX6 _ _ _ _ _ _ false 146 0 [(0, .ref (Ez E + 0)), (1, .int v)] [] _
  refine v_iload_n (pc := 0) 1 dX6_seed_0 rfl rfl ?_
  refine v_if_ge (pc := 1) (tgt := 7) dX6_seed_1 rfl (fun c_1 => ?_) (fun c_1 => ?_)
  · refine v_aload_n (pc := 7) 0 dX6_seed_7 rfl rfl ?_
    refine g_X6_72 (pc := 8) (cUr_obj hU) (by decide) rfl dX6_seed_8 ?_
    refine v_istore_n (pc := 11) [1, 2, 0] [(0, _), (1, _), (2, _)] dX6_seed_11 rfl (by decide) rfl ?_
    refine v_aload_n (pc := 12) 0 dX6_seed_12 rfl rfl ?_
    refine v_iload_n (pc := 13) 1 dX6_seed_13 rfl rfl ?_
    refine p_X6_72 (pc := 14) (cUr_obj hU) (by decide) rfl rfl (Nat.le_of_ble_eq_true rfl) dX6_seed_14 (uU_se hU) ?_
    refine v_iload_n (pc := 17) 2 dX6_seed_17 rfl rfl ?_
    exact v_iret (pc := 18) dX6_seed_18 (by unfold cs_seed; rw [if_neg (by first | exact c_1 | exact Int32.not_lt.mpr c_1), hU]; exact ⟨rfl, rfl⟩)
  · refine v_ldc (pc := 4) _ kc_X6_80 dX6_seed_4 rfl ?_
    exact v_iret (pc := 6) dX6_seed_6 (by unfold cs_seed; rw [if_pos (by first | exact c_1 | exact Int32.not_le.mp c_1)]; exact ⟨rfl, rfl⟩)
set_option maxHeartbeats 4000000 in
set_option maxRecDepth 100000 in
theorem c_calmI {E : Ev} {σ : Sg} {n : Nat} (hn : n ≤ 60) {q : Int32} (hq : outB q (nI 0) (nI 100) = false) : Ct E yX6_calm cX6_calm 6 (some .int) ({ frames := 1, cells := 0, slots := 0, locals := 22 } : Room) false 146 [.ref (Ez E + 0), .int (nI n), .int q] (cellOf E σ) 146 0 0 (Ff (some (.int (calmL q n).toInt32)) (cellOf E σ)) := by
  refine Ct.ofV (by decide) (Nat.le_of_ble_eq_true rfl) (fun X hnm => ?_)
  show V E X _ RX6 _ _ _ _ _ _ false 146 0 [(0, .ref (Ez E + 0)), (1, .int (nI n)), (2, .int q)] [] _
  refine v_iload_n (pc := 0) 1 dX6_calm_0 rfl rfl ?_
  refine v_iconst (pc := 1) (nI 0) dX6_calm_1 kI_0 ?_
  refine v_bipush (pc := 2) (nI 60) dX6_calm_2 kB_60 ?_
  refine v_callS (pc := 4) _ _ k_X6_76 (c_isOutside _ _ _) ⟨rfl, rfl, by decide⟩ rfl rfl (Nat.le_of_ble_eq_true rfl) ⟨Nat.le_of_ble_eq_true rfl, Nat.le_of_ble_eq_true rfl⟩ dX6_calm_4 (unS ?_)
  show V E X _ RX6 _ _ _ 0 0 _ false 146 7 _ [_] _
  refine v_if_neB (pc := 7) (tgt := 20) dX6_calm_7 rfl (fun c_7 => False.elim ((fun z => by rw [outB_in (by omega) (by omega) (by omega)] at z; exact Bool.noConfusion z) c_7)) (fun c_7 => ?_)
  refine v_iload_n (pc := 10) 2 dX6_calm_10 rfl rfl ?_
  refine v_iconst (pc := 11) (nI 0) dX6_calm_11 kI_0 ?_
  refine v_bipush (pc := 12) (nI 100) dX6_calm_12 kB_100 ?_
  refine v_callS (pc := 14) _ _ k_X6_76 (c_isOutside _ _ _) ⟨rfl, rfl, by decide⟩ rfl rfl (Nat.le_of_ble_eq_true rfl) ⟨Nat.le_of_ble_eq_true rfl, Nat.le_of_ble_eq_true rfl⟩ dX6_calm_14 (unS ?_)
  show V E X _ RX6 _ _ _ 0 0 _ false 146 17 _ [_] _
  refine v_if_eqB (pc := 17) (tgt := 23) dX6_calm_17 rfl (fun c_17 => ?_) (fun c_17 => False.elim ((fun z => by rw [hq] at z; exact Bool.noConfusion z) c_17))
  refine v_ldc2 (pc := 23) _ kl_X6_268 dX6_calm_23 rfl ?_
  refine v_lstore_n (pc := 26) [1, 2, 3, 0] [(0, _), (1, _), (2, _), (3, _)] dX6_calm_26 rfl (by decide) rfl ?_
  refine v_iconst (pc := 27) (nI 0) dX6_calm_27 kI_0 ?_
  refine v_istore (pc := 28) [1, 2, 3, 4, 0] [(0, _), (1, _), (2, _), (3, _), (5, _)] dX6_calm_28 (by decide) rfl ?_
  refine dn (P := fun i => V E X ({ frames := 1, cells := 0, slots := 0, locals := 22 } : Room) RX6 cX6_calm 6 (some .int) 0 0 (QX E X false 146 (Ff (some (.int (calmL q n).toInt32)) (cellOf E σ)) 0 0) false 146 30 [(0, .ref (Ez E + 0)), (1, .int (nI n)), (2, .int q), (3, .long (calmL q i)), (5, .int (nI i))] [] (cellOf E σ)) (N := n) ?_ ?_
  · refine v_iload (pc := 30) 4 dX6_calm_30 rfl ?_
    refine v_iload_n (pc := 32) 1 dX6_calm_32 rfl rfl ?_
    refine v_icmp_geN (pc := 33) (by omega) (by omega) (tgt := 51) dX6_calm_33 rfl (fun c_33 => ?_) (fun c_33 => False.elim ((fun c => by omega) c_33))
    refine v_lload_n (pc := 51) 3 dX6_calm_51 rfl rfl ?_
    refine v_l2i (pc := 52) dX6_calm_52 ?_
    exact v_iret (pc := 53) dX6_calm_53 (⟨rfl, rfl⟩)
  · intro i hi ih
    refine v_iload (pc := 30) 4 dX6_calm_30 rfl ?_
    refine v_iload_n (pc := 32) 1 dX6_calm_32 rfl rfl ?_
    refine v_icmp_geN (pc := 33) (by omega) (by omega) (tgt := 51) dX6_calm_33 rfl (fun c_33 => False.elim ((fun c => by omega) c_33)) (fun c_33 => ?_)
    refine v_lload_n (pc := 36) 3 dX6_calm_36 rfl rfl ?_
    refine v_iload_n (pc := 37) 2 dX6_calm_37 rfl rfl ?_
    refine v_i2l (pc := 38) dX6_calm_38 ?_
    refine v_lmul (pc := 39) dX6_calm_39 ?_
    refine v_ldc2 (pc := 40) _ kl_X6_270 dX6_calm_40 rfl ?_
    refine v_ldiv (pc := 43) dX6_calm_43 (by decide) ?_
    refine v_lstore_n (pc := 44) [1, 2, 3, 0, 4] [(0, _), (1, _), (2, _), (3, _), (5, _)] dX6_calm_44 rfl (by decide) rfl ?_
    refine v_iincN (pc := 45) 4 [1, 2, 3, 4, 0] [(0, _), (1, _), (2, _), (3, _), (5, _)] kI_1 dX6_calm_45 rfl (by decide) rfl ?_
    refine v_goto (pc := 48) (tgt := 30) dX6_calm_48 rfl ?_
    exact ih
set_option maxHeartbeats 4000000 in
set_option maxRecDepth 100000 in
theorem c_calmO {E : Ev} {σ : Sg} {n q : Int32} (ho : outB n (nI 0) (nI 60) = true ∨ outB q (nI 0) (nI 100) = true) : Ct E yX6_calm cX6_calm 6 (some .int) ({ frames := 1, cells := 0, slots := 0, locals := 22 } : Room) false 146 [.ref (Ez E + 0), .int n, .int q] (cellOf E σ) 146 0 0 (Ff (some (.int cOUT)) (cellOf E σ)) := by
  refine Ct.ofV (by decide) (Nat.le_of_ble_eq_true rfl) (fun X hnm => ?_)
  show V E X _ RX6 _ _ _ _ _ _ false 146 0 [(0, .ref (Ez E + 0)), (1, .int n), (2, .int q)] [] _
  refine v_iload_n (pc := 0) 1 dX6_calm_0 rfl rfl ?_
  refine v_iconst (pc := 1) (nI 0) dX6_calm_1 kI_0 ?_
  refine v_bipush (pc := 2) (nI 60) dX6_calm_2 kB_60 ?_
  refine v_callS (pc := 4) _ _ k_X6_76 (c_isOutside _ _ _) ⟨rfl, rfl, by decide⟩ rfl rfl (Nat.le_of_ble_eq_true rfl) ⟨Nat.le_of_ble_eq_true rfl, Nat.le_of_ble_eq_true rfl⟩ dX6_calm_4 (unS ?_)
  show V E X _ RX6 _ _ _ 0 0 _ false 146 7 _ [_] _
  refine v_if_neB (pc := 7) (tgt := 20) dX6_calm_7 rfl (fun c_7 => ?_) (fun c_7 => ?_)
  · refine v_ldc (pc := 20) _ kc_X6_80 dX6_calm_20 rfl ?_
    exact v_iret (pc := 22) dX6_calm_22 (⟨rfl, rfl⟩)
  · refine v_iload_n (pc := 10) 2 dX6_calm_10 rfl rfl ?_
    refine v_iconst (pc := 11) (nI 0) dX6_calm_11 kI_0 ?_
    refine v_bipush (pc := 12) (nI 100) dX6_calm_12 kB_100 ?_
    refine v_callS (pc := 14) _ _ k_X6_76 (c_isOutside _ _ _) ⟨rfl, rfl, by decide⟩ rfl rfl (Nat.le_of_ble_eq_true rfl) ⟨Nat.le_of_ble_eq_true rfl, Nat.le_of_ble_eq_true rfl⟩ dX6_calm_14 (unS ?_)
    show V E X _ RX6 _ _ _ 0 0 _ false 146 17 _ [_] _
    refine v_if_eqB (pc := 17) (tgt := 23) dX6_calm_17 rfl (fun c_17 => False.elim ((fun z => by rcases ho with q | q; rw [c_7] at q; exact Bool.noConfusion q; rw [z] at q; exact Bool.noConfusion q) c_17)) (fun c_17 => ?_)
    refine v_ldc (pc := 20) _ kc_X6_80 dX6_calm_20 rfl ?_
    exact v_iret (pc := 22) dX6_calm_22 (⟨rfl, rfl⟩)
theorem s_calm {E : Ev} {σ : Sg} (n q : Int32) : Ct E yX6_calm cX6_calm 6 (some .int) ({ frames := 1, cells := 0, slots := 0, locals := 22 } : Room) false 146 [.ref (Ez E + 0), .int n, .int q] (cellOf E σ) 146 0 0 (Ff (some (.int (cs_calm n q))) (cellOf E σ)) := by
  unfold cs_calm
  by_cases h : outB n (nI 0) (nI 60) = true ∨ outB q (nI 0) (nI 100) = true
  · rw [if_pos h]; exact c_calmO h
  · rw [if_neg h]
    have h1 : outB n (nI 0) (nI 60) = false := Bool.eq_false_iff.mpr (fun z => h (Or.inl z))
    have h2 : outB q (nI 0) (nI 100) = false := Bool.eq_false_iff.mpr (fun z => h (Or.inr z))
    obtain ⟨i, _, hi, rfl⟩ := outB_nat (by omega) (by omega) h1
    rw [nI_clamp (by omega)]
    exact c_calmI hi h2
set_option maxHeartbeats 4000000 in
set_option maxRecDepth 100000 in
theorem s_net {E : Ev} {σ : Sg} (hW : WC σ) (a : Int32) (y : Bool) : Ct E yX6_net cX6_net 5 (some .int) ({ frames := 3, cells := 0, slots := 0, locals := 82 } : Room) false 146 [.ref (Ez E + 0), .int a, .int (bI y)] (cellOf E σ) 146 0 0 (Ff (some (.int (cs_net σ a y).1)) (cellOf E (cs_net σ a y).2)) := by
  obtain ⟨⟨hj, hdj, hjd⟩, hPs, ⟨x_, s_, hQ, hx, hs⟩, ⟨wa, df, wf, ep, eb, ws, fs, es, hS, hws, hfs, hes, hep⟩, ⟨lt, L, m, fa, fn, ap, hT, hL, hm⟩⟩ := hW
  rcases hU : gU σ with ⟨j, dj, se, is, it, oo⟩
  rw [hU] at hj hdj hjd
  simp only at hj hdj hjd
  obtain ⟨np, nd, sd, du, tr, kd, bd, dr, dt, cr, ow, hP, hnp, hnd, hdt, hcr⟩ := hPs j hj
  have eH : hereP σ = (sd, du, tr, nI np, nI nd, kd, bd, dr, dt, cr, ow) := by show gP σ (gU σ).1 = _; rw [hU]; exact hP
  have eNp : hNp σ = np := by show parNp (hereP σ) = np; rw [eH]; exact nI_clamp (by omega)
  have eNd : hNd σ = nd := by show parNd (hereP σ) = nd; rw [eH]; exact nI_clamp (by omega)
  rcases hG : gF σ 0 with ⟨t, hr, nt, rg, pe, b, c, o, p⟩
  refine Ct.ofV (by decide) (Nat.le_of_ble_eq_true rfl) (fun X hnm => ?_)
  show V E X _ RX6 _ _ _ _ _ _ false 146 0 [(0, .ref (Ez E + 0)), (1, .int a), (2, .int (bI y))] [] _
  refine v_aload_n (pc := 0) 0 dX6_net_0 rfl rfl ?_
  refine g_X6_19 (pc := 1) (cUr_obj hU) (by decide) rfl dX6_net_1 ?_
  refine v_iload_n (pc := 4) 1 dX6_net_4 rfl rfl ?_
  refine v_callV (pc := 5) _ _ k_X6_156 (cPr_obj hj hP) rfl (pad_lt0 hj) (c_hasPerson hj hP hnp hnd _) ⟨rfl, rfl, by decide⟩ rfl rfl (Nat.le_of_ble_eq_true rfl) ⟨Nat.le_of_ble_eq_true rfl, Nat.le_of_ble_eq_true rfl⟩ dX6_net_5 (unS ?_)
  show V E X _ RX6 _ _ _ 0 0 _ false 146 8 _ [_] _
  refine v_if_neB (pc := 8) (tgt := 14) dX6_net_8 rfl (fun c_8 => ?_) (fun c_8 => ?_)
  · refine v_aload_n (pc := 14) 0 dX6_net_14 rfl rfl ?_
    refine g_X6_29 (pc := 15) (cUr_obj hU) (by decide) rfl dX6_net_15 ?_
    refine v_iload_n (pc := 18) 1 dX6_net_18 rfl rfl ?_
    refine v_callV (pc := 19) _ _ k_X6_173 (cF_obj 0 (by decide)) rfl (adr_lt0 (by decide)) (k_hasNet (by decide) rfl _) ⟨rfl, rfl, by decide⟩ rfl rfl (Nat.le_of_ble_eq_true rfl) ⟨Nat.le_of_ble_eq_true rfl, Nat.le_of_ble_eq_true rfl⟩ dX6_net_19 (unS ?_)
    show V E X _ RX6 _ _ _ 0 0 _ false 146 22 _ [_] _
    refine v_if_eqB (pc := 22) (tgt := 29) dX6_net_22 rfl (fun c_22 => ?_) (fun c_22 => ?_)
    · refine v_iconst (pc := 29) (nI 0) dX6_net_29 kI_0 ?_
      refine v_istore_n (pc := 30) [1, 2, 3, 0] [(0, _), (1, _), (2, _), (3, _)] dX6_net_30 rfl (by decide) rfl ?_
      refine v_aload_n (pc := 31) 0 dX6_net_31 rfl rfl ?_
      refine g_X6_39 (pc := 32) (cUr_obj hU) (by decide) rfl dX6_net_32 ?_
      refine v_aload_n (pc := 35) 0 dX6_net_35 rfl rfl ?_
      refine g_X6_29 (pc := 36) (cUr_obj hU) (by decide) rfl dX6_net_36 ?_
      refine v_callV (pc := 39) _ _ k_X6_202 (cQr_obj hQ) rfl (by decide) (k_remember hQ hx hs) ⟨rfl, rfl, by decide⟩ rfl rfl (Nat.le_of_ble_eq_true rfl) ⟨Nat.le_of_ble_eq_true rfl, Nat.le_of_ble_eq_true rfl⟩ dX6_net_39 (unS ?_)
      show V E X _ RX6 _ _ _ 0 0 _ false 146 42 _ [] _
      refine v_iconst (pc := 42) (nI 1) dX6_net_42 kI_1 ?_
      refine v_iload_n (pc := 43) 1 dX6_net_43 rfl rfl ?_
      refine v_ishl (pc := 44) dX6_net_44 ?_
      refine v_istore (pc := 45) [1, 2, 3, 4, 0] [(0, _), (1, _), (2, _), (3, _), (4, _)] dX6_net_45 (by decide) rfl ?_
      refine v_aload_n (pc := 47) 0 dX6_net_47 rfl rfl ?_
      refine g_X6_29 (pc := 48) (cUr_obj hU) (by decide) rfl dX6_net_48 ?_
      refine v_iload_n (pc := 51) 2 dX6_net_51 rfl rfl ?_
      refine v_if_eqB (pc := 52) (tgt := 68) dX6_net_52 rfl (fun c_52 => ?_) (fun c_52 => ?_)
      · refine v_aload_n (pc := 68) 0 dX6_net_68 rfl rfl ?_
        refine g_X6_29 (pc := 69) (cUr_obj hU) (by decide) rfl dX6_net_69 ?_
        refine g_X6_123 (pc := 72) (cFr_obj (by decide) (rem_0.trans hG)) (adr_lt0 (by decide)) rfl dX6_net_72 ?_
        refine v_iload (pc := 75) 4 dX6_net_75 rfl ?_
        refine v_iconst (pc := 77) (-1) dX6_net_77 kI_m1 ?_
        refine v_ixor (pc := 78) dX6_net_78 ?_
        refine v_iand (pc := 79) dX6_net_79 ?_
        refine p_X6_123 (pc := 80) (cFr_obj (by decide) (rem_0.trans hG)) (adr_lt0 (by decide)) rfl rfl (Nat.le_of_ble_eq_true rfl) dX6_net_80 (uF_nt (by decide) (rem_0.trans hG)) ?_
        refine v_iload_n (pc := 83) 3 dX6_net_83 rfl rfl ?_
        exact v_iret (pc := 84) dX6_net_84 (by unfold cs_net; rw [eNp, if_pos c_8, show hasB (fN (nowF σ)) a = false from c_22, show y = false from c_52]; show Ff _ (cellOf E (sFl (rem_ σ) 0 (fl_net (nowF σ) _))) _ _; rw [show nowF σ = _ from hG]; exact ⟨rfl, rfl⟩)
      · refine v_aload_n (pc := 55) 0 dX6_net_55 rfl rfl ?_
        refine g_X6_29 (pc := 56) (cUr_obj hU) (by decide) rfl dX6_net_56 ?_
        refine g_X6_123 (pc := 59) (cFr_obj (by decide) (rem_0.trans hG)) (adr_lt0 (by decide)) rfl dX6_net_59 ?_
        refine v_iload (pc := 62) 4 dX6_net_62 rfl ?_
        refine v_ior (pc := 64) dX6_net_64 ?_
        refine v_goto (pc := 65) (tgt := 80) dX6_net_65 rfl ?_
        refine p_X6_123 (pc := 80) (cFr_obj (by decide) (rem_0.trans hG)) (adr_lt0 (by decide)) rfl rfl (Nat.le_of_ble_eq_true rfl) dX6_net_80 (uF_nt (by decide) (rem_0.trans hG)) ?_
        refine v_iload_n (pc := 83) 3 dX6_net_83 rfl rfl ?_
        exact v_iret (pc := 84) dX6_net_84 (by unfold cs_net; rw [eNp, if_pos c_8, show hasB (fN (nowF σ)) a = false from c_22, show y = true from c_52]; show Ff _ (cellOf E (sFl (rem_ σ) 0 (fl_net (nowF σ) _))) _ _; rw [show nowF σ = _ from hG]; exact ⟨rfl, rfl⟩)
    · refine v_iconst (pc := 25) (nI 1) dX6_net_25 kI_1 ?_
      refine v_goto (pc := 26) (tgt := 30) dX6_net_26 rfl ?_
      refine v_istore_n (pc := 30) [1, 2, 3, 0] [(0, _), (1, _), (2, _), (3, _)] dX6_net_30 rfl (by decide) rfl ?_
      refine v_aload_n (pc := 31) 0 dX6_net_31 rfl rfl ?_
      refine g_X6_39 (pc := 32) (cUr_obj hU) (by decide) rfl dX6_net_32 ?_
      refine v_aload_n (pc := 35) 0 dX6_net_35 rfl rfl ?_
      refine g_X6_29 (pc := 36) (cUr_obj hU) (by decide) rfl dX6_net_36 ?_
      refine v_callV (pc := 39) _ _ k_X6_202 (cQr_obj hQ) rfl (by decide) (k_remember hQ hx hs) ⟨rfl, rfl, by decide⟩ rfl rfl (Nat.le_of_ble_eq_true rfl) ⟨Nat.le_of_ble_eq_true rfl, Nat.le_of_ble_eq_true rfl⟩ dX6_net_39 (unS ?_)
      show V E X _ RX6 _ _ _ 0 0 _ false 146 42 _ [] _
      refine v_iconst (pc := 42) (nI 1) dX6_net_42 kI_1 ?_
      refine v_iload_n (pc := 43) 1 dX6_net_43 rfl rfl ?_
      refine v_ishl (pc := 44) dX6_net_44 ?_
      refine v_istore (pc := 45) [1, 2, 3, 4, 0] [(0, _), (1, _), (2, _), (3, _), (4, _)] dX6_net_45 (by decide) rfl ?_
      refine v_aload_n (pc := 47) 0 dX6_net_47 rfl rfl ?_
      refine g_X6_29 (pc := 48) (cUr_obj hU) (by decide) rfl dX6_net_48 ?_
      refine v_iload_n (pc := 51) 2 dX6_net_51 rfl rfl ?_
      refine v_if_eqB (pc := 52) (tgt := 68) dX6_net_52 rfl (fun c_52 => ?_) (fun c_52 => ?_)
      · refine v_aload_n (pc := 68) 0 dX6_net_68 rfl rfl ?_
        refine g_X6_29 (pc := 69) (cUr_obj hU) (by decide) rfl dX6_net_69 ?_
        refine g_X6_123 (pc := 72) (cFr_obj (by decide) (rem_0.trans hG)) (adr_lt0 (by decide)) rfl dX6_net_72 ?_
        refine v_iload (pc := 75) 4 dX6_net_75 rfl ?_
        refine v_iconst (pc := 77) (-1) dX6_net_77 kI_m1 ?_
        refine v_ixor (pc := 78) dX6_net_78 ?_
        refine v_iand (pc := 79) dX6_net_79 ?_
        refine p_X6_123 (pc := 80) (cFr_obj (by decide) (rem_0.trans hG)) (adr_lt0 (by decide)) rfl rfl (Nat.le_of_ble_eq_true rfl) dX6_net_80 (uF_nt (by decide) (rem_0.trans hG)) ?_
        refine v_iload_n (pc := 83) 3 dX6_net_83 rfl rfl ?_
        exact v_iret (pc := 84) dX6_net_84 (by unfold cs_net; rw [eNp, if_pos c_8, show hasB (fN (nowF σ)) a = true from c_22, show y = false from c_52]; show Ff _ (cellOf E (sFl (rem_ σ) 0 (fl_net (nowF σ) _))) _ _; rw [show nowF σ = _ from hG]; exact ⟨rfl, rfl⟩)
      · refine v_aload_n (pc := 55) 0 dX6_net_55 rfl rfl ?_
        refine g_X6_29 (pc := 56) (cUr_obj hU) (by decide) rfl dX6_net_56 ?_
        refine g_X6_123 (pc := 59) (cFr_obj (by decide) (rem_0.trans hG)) (adr_lt0 (by decide)) rfl dX6_net_59 ?_
        refine v_iload (pc := 62) 4 dX6_net_62 rfl ?_
        refine v_ior (pc := 64) dX6_net_64 ?_
        refine v_goto (pc := 65) (tgt := 80) dX6_net_65 rfl ?_
        refine p_X6_123 (pc := 80) (cFr_obj (by decide) (rem_0.trans hG)) (adr_lt0 (by decide)) rfl rfl (Nat.le_of_ble_eq_true rfl) dX6_net_80 (uF_nt (by decide) (rem_0.trans hG)) ?_
        refine v_iload_n (pc := 83) 3 dX6_net_83 rfl rfl ?_
        exact v_iret (pc := 84) dX6_net_84 (by unfold cs_net; rw [eNp, if_pos c_8, show hasB (fN (nowF σ)) a = true from c_22, show y = true from c_52]; show Ff _ (cellOf E (sFl (rem_ σ) 0 (fl_net (nowF σ) _))) _ _; rw [show nowF σ = _ from hG]; exact ⟨rfl, rfl⟩)
  · refine v_ldc (pc := 11) _ kc_X6_160 dX6_net_11 rfl ?_
    exact v_iret (pc := 13) dX6_net_13 (by unfold cs_net; rw [eNp, if_neg (by rw [c_8]; decide)]; exact ⟨rfl, rfl⟩)
