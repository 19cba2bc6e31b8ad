/-! what was watched, felt and written -/
theorem itn_cg {α : Type} {f g : Nat → α → α} {a : α} : ∀ n, (∀ i, i < n → ∀ x, f i x = g i x) → itn f n a = itn g n a
  | 0, _ => rfl
  | n + 1, h => by rw [itn_s, itn_s, itn_cg n (fun i hi => h i (by omega)), h n (by omega)]
theorem fst_c {p q : Nat → Bool} : ∀ k i, (∀ j, i ≤ j → j < i + k → p j = q j) → fst_ p k i = fst_ q k i
  | 0, _, _ => rfl
  | k + 1, i, h => by
    show (if p i = true then nI i else fst_ p k (i + 1)) = (if q i = true then nI i else fst_ q k (i + 1))
    rw [h i (Nat.le_refl _) (by omega), fst_c k (i + 1) (fun j h1 h2 => h j (by omega) (by omega))]
theorem lst_c {p q : Nat → Bool} : ∀ k, (∀ j, j < k → p j = q j) → lst_ p k = lst_ q k
  | 0, _ => rfl
  | k + 1, h => by
    show (if p k = true then nI k else lst_ p k) = (if q k = true then nI k else lst_ q k)
    rw [h k (by omega), lst_c k (fun j h1 => h j (by omega))]
theorem fst_s {p : Nat → Bool} : ∀ k i, i + k < 2147483648 → fst_ p (k + 1) i = if fst_ p k i = -1 then (if p (i + k) = true then nI (i + k) else -1) else fst_ p k i
  | 0, i, _ => by
    show (if p i = true then nI i else -1) = (if (-1 : Int32) = -1 then (if p (i + 0) = true then nI (i + 0) else -1) else -1)
    rw [if_pos rfl]; rfl
  | k + 1, i, h => by
    have ih := fst_s (p := p) k (i + 1) (by omega)
    show (if p i = true then nI i else fst_ p (k + 1) (i + 1)) = (if (if p i = true then nI i else fst_ p k (i + 1)) = -1 then (if p (i + (k + 1)) = true then nI (i + (k + 1)) else -1) else (if p i = true then nI i else fst_ p k (i + 1)))
    by_cases c : p i = true
    · rw [if_pos c, if_pos c, if_neg (nI_m1 (by omega))]
    · rw [if_neg c, if_neg c, ih, show i + 1 + k = i + (k + 1) by omega]
theorem re_eq {p : Nat → Bool} : ∀ n, n < 100 → reN p n = (cntR p n, fst_ p n 0, lst_ p n)
  | 0, _ => rfl
  | n + 1, h => by
    have e : reN p (n + 1) = st_re p n (reN p n) := rfl
    rw [e, re_eq n (by omega)]
    unfold st_re
    show (cntR p n + (if p n = true then nI 1 else nI 0), (if p n = true ∧ fst_ p n 0 = -1 then nI n else fst_ p n 0), (if p n = true then nI n else lst_ p n)) = (cntR p n + (if p n = true then nI 1 else nI 0), fst_ p (n + 1) 0, (if p n = true then nI n else lst_ p n))
    rw [fst_s n 0 (by omega), Nat.zero_add]
    by_cases c : fst_ p n 0 = -1
    · rw [if_pos c]
      by_cases c2 : p n = true
      · have hc : p n = true ∧ fst_ p n 0 = -1 := ⟨c2, c⟩
        rw [if_pos hc, if_pos c2, if_pos c2, if_pos c2]
      · have hc : ¬ (p n = true ∧ fst_ p n 0 = -1) := fun q => c2 q.1
        rw [if_neg hc, if_neg c2, if_neg c2, if_neg c2, c]
    · have hc : ¬ (p n = true ∧ fst_ p n 0 = -1) := fun q => c q.2
      rw [if_neg hc, if_neg c]
theorem cnt_fe {p : Nat → Bool} {y : Nat} : ∀ n, cntR p (y + n) = cntR p y + feN p y n
  | 0 => by show cntR p y = cntR p y + nI 0; rw [nI_0, Int32.add_zero]
  | n + 1 => by
    show cntR p (y + n) + _ = cntR p y + (feN p y n + _)
    rw [cnt_fe n, Int32.add_assoc]
    rfl
theorem mx_gr (a b : Int32) : mxI a b = grI b a := by
  unfold mxI grI
  by_cases c : a < b
  · rw [if_pos c, if_neg]
    rw [Int32.lt_iff_toInt_lt] at c
    rw [Int32.le_iff_toInt_le]
    omega
  · rw [if_neg c, if_pos]
    rw [Int32.lt_iff_toInt_lt] at c
    rw [Int32.le_iff_toInt_le]
    omega
theorem part_eq {p : Nat → Bool} : ∀ n, n ≤ 51 → itn (st_part p (cntR p 51)) n (cntR p 51, -1, nI 0) = ((itn (st_re2 p (cntR p 51)) n (cntR p 51, -1)).1, (itn (st_re2 p (cntR p 51)) n (cntR p 51, -1)).2, cntR p n)
  | 0, _ => rfl
  | n + 1, h => by
    rw [itn_s, part_eq n (by omega), itn_s]
    have e := cnt_fe (p := p) (y := n) (51 - n)
    rw [show n + (51 - n) = 51 by omega] at e
    generalize itn (st_re2 p (cntR p 51)) n (cntR p 51, -1) = z
    have e1 : cntR p 51 - feN p n (51 - n) = cntR p n := by rw [e, Int32.add_sub_cancel]
    have e2 : cntR p 51 - cntR p n = feN p n (51 - n) := by rw [e, Int32.add_comm, Int32.add_sub_cancel]
    unfold st_part st_re2
    show ((if mxI (cntR p n) (cntR p 51 - cntR p n) < z.1 then mxI (cntR p n) (cntR p 51 - cntR p n) else z.1), (if mxI (cntR p n) (cntR p 51 - cntR p n) < z.1 then nI n else z.2), cntR p n + (if p n = true then nI 1 else nI 0)) = (lsI (grI (feN p n (51 - n)) (cntR p 51 - feN p n (51 - n))) z.1, (if grI (feN p n (51 - n)) (cntR p 51 - feN p n (51 - n)) < z.1 then nI n else z.2), cntR p (n + 1))
    rw [e1, e2, mx_gr]
    rfl
/-- what both sides hold as seen: wm watched, fm felt, bm entries -/
def SeR (wa df wf ep eb Q Fx Bk : Fn) (wm fm bm : Nat) : Prop := (∀ i, i < wm → wa i = Q i) ∧ (∀ i, i < fm → ∃ x y w, x ≤ 50 ∧ y ≤ 50 ∧ Fx (3 * i) = nI x ∧ Fx (3 * i + 1) = nI y ∧ Fx (3 * i + 2) = bI w ∧ df i = abI (nI x - nI y) ∧ wf i = bI w) ∧ (∀ i, i < bm → ∃ a, a < 7 ∧ ep i = nI a ∧ Bk (2 * i) = nI a ∧ eb i = Bk (2 * i + 1))
theorem can_eq {df wf Fx : Fn} {r : Nat} (hr : r ≤ 50) : ∀ n, (∀ i, i < n → ∃ x y w, x ≤ 50 ∧ y ≤ 50 ∧ Fx (3 * i) = nI x ∧ Fx (3 * i + 1) = nI y ∧ Fx (3 * i + 2) = bI w ∧ df i = abI (nI x - nI y) ∧ wf i = bI w) → canR df wf n (nI r) = isM Fx (nI r) n
  | 0, _ => rfl
  | n + 1, h => by
    show canR df wf (n + 1) (nI r) = (isM Fx (nI r) n && decide (bI (inB (Fx (3 * n) - Fx (3 * n + 1)) (-(nI r)) (nI r)) = bI (decide (Fx (3 * n + 2) = nI 1))))
    rw [← can_eq hr n (fun i hi => h i (by omega))]
    obtain ⟨x, y, w, hx, hy, e1, e2, e3, e4, e5⟩ := h n (by omega)
    have hn := near_eq hx hy hr
    unfold canR
    rw [← Bool.decide_and]
    have key : ((if nI r < df n then nI 0 else nI 1) = wf n) ↔ bI (inB (Fx (3 * n) - Fx (3 * n + 1)) (-(nI r)) (nI r)) = bI (decide (Fx (3 * n + 2) = nI 1)) := by
      rw [e1, e2, e3, e4, e5]
      have eb1 : decide (bI w = nI 1) = w := by cases w <;> decide
      rw [eb1]
      by_cases c : nI r < abI (nI x - nI y)
      · have ci : inB (nI x - nI y) (-(nI r)) (nI r) = false := by
          cases q : inB (nI x - nI y) (-(nI r)) (nI r)
          · rfl
          · exact absurd c (hn.mpr q)
        rw [if_pos c, ci]
        rfl
      · rw [if_neg c, hn.mp c]
        rfl
    refine decide_eq_decide.mpr ⟨fun q => ⟨fun i hi => q i (by omega), key.mp (q n (by omega))⟩, fun q i hi => ?_⟩
    by_cases e : i = n
    · subst e; exact key.mpr q.2
    · exact q.1 i (by omega)
theorem reach_eq {df wf Fx : Fn} {fm : Nat} (h : ∀ i, i < fm → ∃ x y w, x ≤ 50 ∧ y ≤ 50 ∧ Fx (3 * i) = nI x ∧ Fx (3 * i + 1) = nI y ∧ Fx (3 * i + 2) = bI w ∧ df i = abI (nI x - nI y) ∧ wf i = bI w) :
    cntR (fun r => canR df wf fm (nI r)) 51 = reM (fun r => isM Fx (nI r) fm) 0 ∧ fst_ (fun r => canR df wf fm (nI r)) 51 0 = reM (fun r => isM Fx (nI r) fm) 1 ∧ lst_ (fun r => canR df wf fm (nI r)) 51 = reM (fun r => isM Fx (nI r) fm) 2 ∧ partR (fun r => canR df wf fm (nI r)) (cntR (fun r => canR df wf fm (nI r)) 51) = reM (fun r => isM Fx (nI r) fm) 3 := by
  have hp : ∀ r, r < 51 → (fun r => canR df wf fm (nI r)) r = (fun r => isM Fx (nI r) fm) r := fun r hr => can_eq (by omega) fm h
  generalize (fun r => canR df wf fm (nI r)) = p at hp ⊢
  generalize (fun r => isM Fx (nI r) fm) = q at hp ⊢
  have e1 : cntR p 51 = cntR q 51 := itn_cg 51 (fun i hi x => by rw [hp i hi])
  have e4 : partR p (cntR q 51) = partR q (cntR q 51) := by
    unfold partR
    rw [itn_cg (f := st_part p (cntR q 51)) (g := st_part q (cntR q 51)) 51 (fun i hi x => by unfold st_part; rw [hp i hi])]
  unfold reM
  rw [re_eq 51 (by decide)]
  refine ⟨e1, ?_, ?_, ?_⟩
  · exact fst_c 51 0 (fun j _ hj => hp j (by omega))
  · exact lst_c 51 (fun j hj => hp j hj)
  · rw [e1, e4]
    show (itn (st_part q (cntR q 51)) 51 (cntR q 51, -1, nI 0)).2.1 = (if 3 < 3 then _ else (itn (st_re2 q (cntR q 51)) 51 (cntR q 51, -1)).2)
    rw [part_eq 51 (Nat.le_refl _), if_neg (by decide)]
theorem judge_eq {np K : Nat} {F : FlockV} {s ep eb Bk : Fn} {bm : Nat} (h : FR np K F s) (hb : ∀ i, i < bm → ∃ a, a < 7 ∧ ep i = nI a ∧ Bk (2 * i) = nI a ∧ eb i = Bk (2 * i + 1)) : fst_ (wrongB (fB F) ep eb) bm 0 = fst_ (wrM s Bk) bm 0 := by
  refine fst_c bm 0 (fun j _ hj => ?_)
  obtain ⟨a, a1, a2, a3, a4⟩ := hb j (by omega)
  obtain ⟨b, -, b1, b2, -, -⟩ := FR_b h a1
  unfold wrongB wrM
  rw [a2, a3, a4, nI_add, nI_clamp (by omega), nI_clamp (by omega), Nat.zero_add, b1, b2]
