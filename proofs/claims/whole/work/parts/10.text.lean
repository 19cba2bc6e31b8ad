/-! the text and how it is read, with natural numbers: lt the letters, L how many; a state of the reader: faultAt, fault's number, at, numberAt -/
def isDg (x : Int32) : Prop := ¬ x < nI 48 ∧ ¬ nI 57 < x
def skF (lt : Fn) (L : Nat) : Nat → Nat → Nat
  | 0, a => a
  | n + 1, a => if a < L ∧ lt a = nI 32 then skF lt L n (a + 1) else a
def sk (lt : Fn) (L a : Nat) : Nat := skF lt L (L - a) a
theorem sk_t {lt : Fn} {L a : Nat} (h : a < L) (h2 : lt a = nI 32) : sk lt L (a + 1) = sk lt L a := by
  unfold sk
  rw [show L - a = (L - (a + 1)) + 1 by omega]
  show _ = if a < L ∧ lt a = nI 32 then _ else _
  rw [if_pos ⟨h, h2⟩]
theorem sk_f {lt : Fn} {L a : Nat} (h : ¬ (a < L ∧ lt a = nI 32)) : sk lt L a = a := by
  unfold sk
  cases L - a with
  | zero => rfl
  | succ n => show (if a < L ∧ lt a = nI 32 then _ else _) = _; rw [if_neg h]
theorem skF_le (lt : Fn) (L : Nat) : ∀ n a, a ≤ skF lt L n a ∧ (a ≤ L → skF lt L n a ≤ L)
  | 0, a => ⟨Nat.le_refl _, fun h => h⟩
  | n + 1, a => by
    show a ≤ (if a < L ∧ lt a = nI 32 then _ else _) ∧ (a ≤ L → (if a < L ∧ lt a = nI 32 then _ else _) ≤ L)
    by_cases h : a < L ∧ lt a = nI 32
    · rw [if_pos h]; have := skF_le lt L n (a + 1); omega
    · rw [if_neg h]; omega
theorem sk_le (lt : Fn) (L a : Nat) : a ≤ sk lt L a := (skF_le lt L _ a).1
theorem sk_L {lt : Fn} {L a : Nat} (h : a ≤ L) : sk lt L a ≤ L := (skF_le lt L _ a).2 h
def dgF (lt : Fn) (L : Nat) : Nat → Nat → Nat
  | 0, a => a
  | n + 1, a => if a < L ∧ ¬ lt a < nI 48 ∧ ¬ nI 57 < lt a then dgF lt L n (a + 1) else a
def dg (lt : Fn) (L a : Nat) : Nat := dgF lt L (L - a) a
def dvF (lt : Fn) (L s : Nat) : Nat → Nat → Int32 → Int32
  | 0, _, v => v
  | n + 1, a, v => if a < L ∧ ¬ lt a < nI 48 ∧ ¬ nI 57 < lt a then dvF lt L s n (a + 1) (if a - s < 3 then v * nI 10 + lt a - nI 48 else v) else v
def dv (lt : Fn) (L s a : Nat) (v : Int32) : Int32 := dvF lt L s (L - a) a v
theorem dg_t {lt : Fn} {L a : Nat} (h : a < L ∧ ¬ lt a < nI 48 ∧ ¬ nI 57 < lt a) : dg lt L (a + 1) = dg lt L a := by
  unfold dg
  rw [show L - a = (L - (a + 1)) + 1 by omega]
  show _ = if a < L ∧ ¬ lt a < nI 48 ∧ ¬ nI 57 < lt a then _ else _
  rw [if_pos h]
theorem dg_f {lt : Fn} {L a : Nat} (h : ¬ (a < L ∧ ¬ lt a < nI 48 ∧ ¬ nI 57 < lt a)) : dg lt L a = a := by
  unfold dg
  cases L - a with
  | zero => rfl
  | succ n => show (if a < L ∧ ¬ lt a < nI 48 ∧ ¬ nI 57 < lt a then _ else _) = _; rw [if_neg h]
theorem dv_t {lt : Fn} {L s a : Nat} {v : Int32} (h : a < L ∧ ¬ lt a < nI 48 ∧ ¬ nI 57 < lt a) : dv lt L s (a + 1) (if a - s < 3 then v * nI 10 + lt a - nI 48 else v) = dv lt L s a v := by
  unfold dv
  rw [show L - a = (L - (a + 1)) + 1 by omega]
  show _ = if a < L ∧ ¬ lt a < nI 48 ∧ ¬ nI 57 < lt a then _ else _
  rw [if_pos h]
theorem dv_f {lt : Fn} {L s a : Nat} {v : Int32} (h : ¬ (a < L ∧ ¬ lt a < nI 48 ∧ ¬ nI 57 < lt a)) : dv lt L s a v = v := by
  unfold dv
  cases L - a with
  | zero => rfl
  | succ n => show (if a < L ∧ ¬ lt a < nI 48 ∧ ¬ nI 57 < lt a then _ else _) = _; rw [if_neg h]
theorem dgF_le (lt : Fn) (L : Nat) : ∀ n a, a ≤ dgF lt L n a ∧ (a ≤ L → dgF lt L n a ≤ L)
  | 0, a => ⟨Nat.le_refl _, fun h => h⟩
  | n + 1, a => by
    show a ≤ (if a < L ∧ ¬ lt a < nI 48 ∧ ¬ nI 57 < lt a then _ else _) ∧ (a ≤ L → (if a < L ∧ ¬ lt a < nI 48 ∧ ¬ nI 57 < lt a then _ else _) ≤ L)
    by_cases h : a < L ∧ ¬ lt a < nI 48 ∧ ¬ nI 57 < lt a
    · rw [if_pos h]; have := dgF_le lt L n (a + 1); omega
    · rw [if_neg h]; omega
theorem dg_le (lt : Fn) (L a : Nat) : a ≤ dg lt L a := (dgF_le lt L _ a).1
theorem dg_L {lt : Fn} {L a : Nat} (h : a ≤ L) : dg lt L a ≤ L := (dgF_le lt L _ a).2 h
/-- a state of the reader -/
abbrev PZ : Type := Int32 × Nat × Nat × Nat
def pNote (z : PZ) (q : Nat) (w : Int32) : PZ := if z.2.1 = 0 then (w, q, z.2.2.1, z.2.2.2) else z
def pNumB (fa : Int32) (f s e : Nat) (v lo hi : Int32) : Int32 × PZ := (v, if e = s then pNote (fa, f, e, s) 1 (nI e) else if 3 < e - s ∨ outB v lo hi = true then pNote (fa, f, e, s) 2 (nI s) else (fa, f, e, s))
def pNum (lt : Fn) (L : Nat) (lo hi : Int32) (z : PZ) : Int32 × PZ :=
  if z.2.1 = 0 then pNumB z.1 z.2.1 (sk lt L z.2.2.1) (dg lt L (sk lt L z.2.2.1)) (dv lt L (sk lt L z.2.2.1) (sk lt L z.2.2.1) (nI 0)) lo hi else (-1, z)
def pEnd (lt : Fn) (L : Nat) (z : PZ) : PZ :=
  if z.2.1 = 0 then
    if sk lt L z.2.2.1 < L ∧ lt (sk lt L z.2.2.1) = nI 59 then (z.1, z.2.1, sk lt L z.2.2.1 + 1, z.2.2.2) else pNote (z.1, z.2.1, sk lt L z.2.2.1, z.2.2.2) 1 (nI (sk lt L z.2.2.1))
  else z
abbrev zT (lt : Fn) (L : Nat) (z : PZ) : TextV := (lt, nI L, z.1, nI z.2.1, nI z.2.2.1, nI z.2.2.2)
/-- a reader's state is within the text -/
def zOk (L : Nat) (z : PZ) : Prop := z.2.1 ≤ 4 ∧ z.2.2.1 ≤ L ∧ z.2.2.2 ≤ 240
theorem pNote_ok {L : Nat} {z : PZ} {q : Nat} {w : Int32} (h : zOk L z) (hq : q ≤ 4) : zOk L (pNote z q w) := by
  unfold pNote; by_cases e : z.2.1 = 0
  · rw [if_pos e]; exact ⟨hq, h.2⟩
  · rw [if_neg e]; exact h
theorem pNumB_ok {L f s e : Nat} {fa v lo hi : Int32} (hL : L ≤ 240) (hf : f ≤ 4) (hs : s ≤ L) (he : e ≤ L) : zOk L (pNumB fa f s e v lo hi).2 := by
  unfold pNumB
  have hb : zOk L (fa, f, e, s) := ⟨hf, he, Nat.le_trans hs hL⟩
  show zOk L (if _ then _ else _)
  by_cases e2 : e = s
  · rw [if_pos e2]; exact pNote_ok hb (by decide)
  · rw [if_neg e2]
    by_cases e3 : 3 < e - s ∨ outB v lo hi = true
    · rw [if_pos e3]; exact pNote_ok hb (by decide)
    · rw [if_neg e3]; exact hb
theorem pNum_ok {lt : Fn} {L : Nat} {lo hi : Int32} {z : PZ} (hL : L ≤ 240) (h : zOk L z) : zOk L (pNum lt L lo hi z).2 := by
  have h1 := sk_L (lt := lt) h.2.1
  have h2 := dg_L (lt := lt) h1
  unfold pNum
  by_cases e : z.2.1 = 0
  · rw [if_pos e]; exact pNumB_ok hL h.1 h1 h2
  · rw [if_neg e]; exact h
theorem pEnd_ok {lt : Fn} {L : Nat} {z : PZ} (h : zOk L z) : zOk L (pEnd lt L z) := by
  have h1 := sk_L (lt := lt) h.2.1
  unfold pEnd
  by_cases e : z.2.1 = 0
  · rw [if_pos e]
    by_cases e2 : sk lt L z.2.2.1 < L ∧ lt (sk lt L z.2.2.1) = nI 59
    · rw [if_pos e2]; exact ⟨h.1, e2.1, h.2.2⟩
    · rw [if_neg e2]; exact pNote_ok ⟨h.1, h1, h.2.2⟩ (by decide)
  · rw [if_neg e]; exact h
set_option maxHeartbeats 4000000 in
set_option maxRecDepth 100000 in
theorem c_append {E : Ev} {σ : Sg} {lt : Fn} {L : Nat} {fa fn ap na : Int32} (hL : L ≤ 240) (x : Int32) : Ct E yX5_append cX5_append 2 (some .int) ({ frames := 0, cells := 0, slots := 0, locals := 0 } : Room) false 146 [.ref (Ez E + 1), .int x] (cellOf E (sTx σ (lt, nI L, fa, fn, ap, na))) 146 0 0 (Ff (some (.int (nI (if L < 240 then L + 1 else L)))) (cellOf E (sTx σ (if L < 240 then upd lt L x else lt, nI (if L < 240 then L + 1 else L), fa, fn, ap, na)))) := by
  refine Ct.ofV (by decide) (Nat.le_of_ble_eq_true rfl) (fun X hnm => ?_)
  show V E X _ RX5 _ _ _ _ _ _ false 146 0 [(0, .ref (Ez E + 1)), (1, .int x)] [] _
  refine v_aload_n (pc := 0) 0 dX5_append_0 rfl rfl ?_
  refine g_X5_15 (pc := 1) (cTr_obj rfl) (by decide) rfl dX5_append_1 ?_
  refine v_sipush (pc := 4) (nI 240) dX5_append_4 kS_240 ?_
  refine v_icmp_geN (pc := 7) (by omega) (by omega) (tgt := 30) dX5_append_7 rfl (fun c_7 => ?_) (fun c_7 => ?_)
  · refine v_aload_n (pc := 30) 0 dX5_append_30 rfl rfl ?_
    refine g_X5_15 (pc := 31) (cTr_obj rfl) (by decide) rfl dX5_append_31 ?_
    exact v_iret (pc := 34) dX5_append_34 (⟨by first | (rw [if_pos (by omega)]) | (rw [if_neg (by omega)]), by first | (rw [if_pos (by omega), if_pos (by omega)]) | (rw [if_neg (by omega), if_neg (by omega)])⟩)
  · refine v_aload_n (pc := 10) 0 dX5_append_10 rfl rfl ?_
    refine g_X5_9 (pc := 11) (cTr_obj rfl) (by decide) rfl dX5_append_11 ?_
    refine v_aload_n (pc := 14) 0 dX5_append_14 rfl rfl ?_
    refine g_X5_15 (pc := 15) (cTr_obj rfl) (by decide) rfl dX5_append_15 ?_
    refine v_iload_n (pc := 18) 1 dX5_append_18 rfl rfl ?_
    refine v_iastN (pc := 19) (cTr_lt rfl) (by decide) (by omega) (by decide) dX5_append_19 (wT_lt) ?_
    refine v_aload_n (pc := 20) 0 dX5_append_20 rfl rfl ?_
    refine v_dup (pc := 21) dX5_append_21 rfl ?_
    refine g_X5_15 (pc := 22) (cTr_obj rfl) (by decide) rfl dX5_append_22 ?_
    refine v_iconst (pc := 25) (nI 1) dX5_append_25 kI_1 ?_
    refine v_iaddN (pc := 26) dX5_append_26 ?_
    refine p_X5_15 (pc := 27) (cTr_obj rfl) (by decide) rfl rfl (Nat.le_of_ble_eq_true rfl) dX5_append_27 (wT_ln) ?_
    refine v_aload_n (pc := 30) 0 dX5_append_30 rfl rfl ?_
    refine g_X5_15 (pc := 31) (cTr_obj rfl) (by decide) rfl dX5_append_31 ?_
    exact v_iret (pc := 34) dX5_append_34 (⟨by first | (rw [if_pos (by omega)]) | (rw [if_neg (by omega)]), by first | (rw [if_pos (by omega), if_pos (by omega)]) | (rw [if_neg (by omega), if_neg (by omega)])⟩)
set_option maxHeartbeats 4000000 in
set_option maxRecDepth 100000 in
theorem c_noteF {E : Ev} {σ : Sg} {lt : Fn} {L f a m : Nat} {fa : Int32} (hL : L ≤ 240) (hf : f ≤ 4) (ha : a ≤ L) (hm_ : m ≤ 240) {q : Nat} (hq : q ≤ 4) (w : Int32) : Ct E yX5_noteFault cX5_noteFault 3 none ({ frames := 0, cells := 0, slots := 0, locals := 0 } : Room) false 146 [.ref (Ez E + 1), .int (nI q), .int w] (cellOf E (sTx σ (lt, nI L, fa, nI f, nI a, nI m))) 146 0 0 (Ff none (cellOf E (sTx σ (zT lt L (pNote (fa, f, a, m) q w))))) := by
  refine Ct.ofV (by decide) (Nat.le_of_ble_eq_true rfl) (fun X hnm => ?_)
  show V E X _ RX5 _ _ _ _ _ _ false 146 0 [(0, .ref (Ez E + 1)), (1, .int (nI q)), (2, .int w)] [] _
  refine v_aload_n (pc := 0) 0 dX5_noteFault_0 rfl rfl ?_
  refine g_X5_22 (pc := 1) (cTr_obj rfl) (by decide) rfl dX5_noteFault_1 ?_
  refine v_if_neN (pc := 4) (by omega) (tgt := 17) dX5_noteFault_4 rfl (fun c_4 => ?_) (fun c_4 => ?_)
  · exact v_vret (pc := 17) dX5_noteFault_17 (⟨rfl, by first | (rw [show pNote (fa, f, a, m) q w = _ from if_pos (by omega)]) | (rw [show pNote (fa, f, a, m) q w = _ from if_neg (by omega)])⟩)
  · refine v_aload_n (pc := 7) 0 dX5_noteFault_7 rfl rfl ?_
    refine v_iload_n (pc := 8) 1 dX5_noteFault_8 rfl rfl ?_
    refine p_X5_22 (pc := 9) (cTr_obj rfl) (by decide) rfl rfl (Nat.le_of_ble_eq_true rfl) dX5_noteFault_9 (wT_fn) ?_
    refine v_aload_n (pc := 12) 0 dX5_noteFault_12 rfl rfl ?_
    refine v_iload_n (pc := 13) 2 dX5_noteFault_13 rfl rfl ?_
    refine p_X5_19 (pc := 14) (cTr_obj rfl) (by decide) rfl rfl (Nat.le_of_ble_eq_true rfl) dX5_noteFault_14 (wT_fa) ?_
    exact v_vret (pc := 17) dX5_noteFault_17 (⟨rfl, by first | (rw [show pNote (fa, f, a, m) q w = _ from if_pos (by omega)]) | (rw [show pNote (fa, f, a, m) q w = _ from if_neg (by omega)])⟩)
set_option maxHeartbeats 4000000 in
set_option maxRecDepth 100000 in
theorem c_skip {E : Ev} {σ : Sg} {lt : Fn} {L f a m : Nat} {fa : Int32} (hL : L ≤ 240) (hf : f ≤ 4) (ha : a ≤ L) (hm_ : m ≤ 240)  : Ct E yX5_skipBlanks cX5_skipBlanks 1 none ({ frames := 0, cells := 0, slots := 0, locals := 0 } : Room) false 146 [.ref (Ez E + 1)] (cellOf E (sTx σ (lt, nI L, fa, nI f, nI a, nI m))) 146 0 0 (Ff none (cellOf E (sTx σ (lt, nI L, fa, nI f, nI (sk lt L a), nI m)))) := by
  refine Ct.ofV (by decide) (Nat.le_of_ble_eq_true rfl) (fun X hnm => ?_)
  show V E X _ RX5 _ _ _ _ _ _ false 146 0 [(0, .ref (Ez E + 1))] [] _
  have hl_0 : ∀ (m_ : Nat) (x : Nat), L - x < m_ → (x ≤ L) → (sk lt L x = sk lt L a) → V E X ({ frames := 0, cells := 0, slots := 0, locals := 0 } : Room) RX5 cX5_skipBlanks 1 none 0 0 (QX E X false 146 (Ff none (cellOf E (sTx σ (lt, nI L, fa, nI f, nI (sk lt L a), nI m)))) 0 0) false 146 0 [(0, .ref (Ez E + 1))] [] (cellOf E (sTx σ (lt, nI L, fa, nI f, nI x, nI m))) := by
    intro m_
    induction m_ with
    | zero => intro x hm; exact absurd hm (Nat.not_lt_zero _)
    | succ m_ ihm =>
      intro x hm hx hs
      refine v_aload_n (pc := 0) 0 dX5_skipBlanks_0 rfl rfl ?_
      refine g_X5_25 (pc := 1) (cTr_obj rfl) (by decide) rfl dX5_skipBlanks_1 ?_
      refine v_aload_n (pc := 4) 0 dX5_skipBlanks_4 rfl rfl ?_
      refine g_X5_15 (pc := 5) (cTr_obj rfl) (by decide) rfl dX5_skipBlanks_5 ?_
      refine v_icmp_geN (pc := 8) (by omega) (by omega) (tgt := 38) dX5_skipBlanks_8 rfl (fun c_8 => ?_) (fun c_8 => ?_)
      · exact v_vret (pc := 38) dX5_skipBlanks_38 (⟨rfl, by rw [← hs, sk_f (by rintro ⟨q1, q2⟩; first | omega | exact absurd q2 (by assumption))]⟩)
      · refine v_aload_n (pc := 11) 0 dX5_skipBlanks_11 rfl rfl ?_
        refine g_X5_9 (pc := 12) (cTr_obj rfl) (by decide) rfl dX5_skipBlanks_12 ?_
        refine v_aload_n (pc := 15) 0 dX5_skipBlanks_15 rfl rfl ?_
        refine g_X5_25 (pc := 16) (cTr_obj rfl) (by decide) rfl dX5_skipBlanks_16 ?_
        refine v_ialdN (pc := 19) (cTr_lt rfl) (by decide) (by omega) (by decide) dX5_skipBlanks_19 ?_
        refine v_bipush (pc := 20) (nI 32) dX5_skipBlanks_20 kB_32 ?_
        refine v_icmp_ne (pc := 22) (tgt := 38) dX5_skipBlanks_22 rfl (fun c_22 => ?_) (fun c_22 => ?_)
        · exact v_vret (pc := 38) dX5_skipBlanks_38 (⟨rfl, by rw [← hs, sk_f (by rintro ⟨q1, q2⟩; first | omega | exact absurd q2 (by assumption))]⟩)
        · refine v_aload_n (pc := 25) 0 dX5_skipBlanks_25 rfl rfl ?_
          refine v_dup (pc := 26) dX5_skipBlanks_26 rfl ?_
          refine g_X5_25 (pc := 27) (cTr_obj rfl) (by decide) rfl dX5_skipBlanks_27 ?_
          refine v_iconst (pc := 30) (nI 1) dX5_skipBlanks_30 kI_1 ?_
          refine v_iaddN (pc := 31) dX5_skipBlanks_31 ?_
          refine p_X5_25 (pc := 32) (cTr_obj rfl) (by decide) rfl rfl (Nat.le_of_ble_eq_true rfl) dX5_skipBlanks_32 (wT_ap) ?_
          refine v_goto (pc := 35) (tgt := 0) dX5_skipBlanks_35 rfl ?_
          exact ihm (x + 1) (by omega) (by omega) ((sk_t (by omega) c_22).trans hs)
  exact hl_0 (L - a + 1) a (by omega) ha rfl
set_option maxHeartbeats 4000000 in
set_option maxRecDepth 100000 in
theorem c_num {E : Ev} {σ : Sg} {lt : Fn} {L f a m : Nat} {fa : Int32} (hL : L ≤ 240) (hf : f ≤ 4) (ha : a ≤ L) (hm_ : m ≤ 240) (lo hi : Int32) : Ct E yX5_readNumber cX5_readNumber 4 (some .int) ({ frames := 1, cells := 0, slots := 0, locals := 22 } : Room) false 146 [.ref (Ez E + 1), .int lo, .int hi] (cellOf E (sTx σ (lt, nI L, fa, nI f, nI a, nI m))) 146 0 0 (Ff (some (.int (pNum lt L lo hi (fa, f, a, m)).1)) (cellOf E (sTx σ (zT lt L (pNum lt L lo hi (fa, f, a, m)).2)))) := by
  have hsL := sk_L (lt := lt) ha
  refine Ct.ofV (by decide) (Nat.le_of_ble_eq_true rfl) (fun X hnm => ?_)
  show V E X _ RX5 _ _ _ _ _ _ false 146 0 [(0, .ref (Ez E + 1)), (1, .int lo), (2, .int hi)] [] _
  refine v_aload_n (pc := 0) 0 dX5_readNumber_0 rfl rfl ?_
  refine g_X5_22 (pc := 1) (cTr_obj rfl) (by decide) rfl dX5_readNumber_1 ?_
  refine v_if_eqN (pc := 4) (by omega) (tgt := 9) dX5_readNumber_4 rfl (fun c_4 => ?_) (fun c_4 => ?_)
  · refine v_aload_n (pc := 9) 0 dX5_readNumber_9 rfl rfl ?_
    refine v_callV (pc := 10) _ _ k_X5_36 (cTr_obj rfl) rfl (by decide) (c_skip hL hf (by omega) (by omega)) ⟨rfl, rfl, by decide⟩ rfl rfl (Nat.le_of_ble_eq_true rfl) ⟨Nat.le_of_ble_eq_true rfl, Nat.le_of_ble_eq_true rfl⟩ dX5_readNumber_10 (unS ?_)
    show V E X _ RX5 _ _ _ 0 0 _ false 146 13 _ [] _
    refine v_aload_n (pc := 13) 0 dX5_readNumber_13 rfl rfl ?_
    refine v_aload_n (pc := 14) 0 dX5_readNumber_14 rfl rfl ?_
    refine g_X5_25 (pc := 15) (cTr_obj rfl) (by decide) rfl dX5_readNumber_15 ?_
    refine p_X5_28 (pc := 18) (cTr_obj rfl) (by decide) rfl rfl (Nat.le_of_ble_eq_true rfl) dX5_readNumber_18 (wT_na) ?_
    refine v_iconst (pc := 21) (nI 0) dX5_readNumber_21 kI_0 ?_
    refine v_istore_n (pc := 22) [1, 2, 3, 0] [(0, _), (1, _), (2, _), (3, _)] dX5_readNumber_22 rfl (by decide) rfl ?_
    have hl_23 : ∀ (m_ : Nat) (x : Nat) (v : Int32), L - x < m_ → (x ≤ L) → (sk lt L a ≤ x) → (dg lt L x = dg lt L (sk lt L a)) → (dv lt L (sk lt L a) x v = dv lt L (sk lt L a) (sk lt L a) (nI 0)) → V E X ({ frames := 1, cells := 0, slots := 0, locals := 22 } : Room) RX5 cX5_readNumber 4 (some .int) 0 0 (QX E X false 146 (Ff (some (.int (pNum lt L lo hi (fa, f, a, m)).1)) (cellOf E (sTx σ (zT lt L (pNum lt L lo hi (fa, f, a, m)).2)))) 0 0) false 146 23 [(0, .ref (Ez E + 1)), (1, .int lo), (2, .int hi), (3, .int v)] [] (cellOf E (sTx σ (lt, nI L, fa, nI f, nI x, nI (sk lt L a)))) := by
      intro m_
      induction m_ with
      | zero => intro x v hm; exact absurd hm (Nat.not_lt_zero _)
      | succ m_ ihm =>
        intro x v hm hx hsx hg hv
        refine v_aload_n (pc := 23) 0 dX5_readNumber_23 rfl rfl ?_
        refine g_X5_25 (pc := 24) (cTr_obj rfl) (by decide) rfl dX5_readNumber_24 ?_
        refine v_aload_n (pc := 27) 0 dX5_readNumber_27 rfl rfl ?_
        refine g_X5_15 (pc := 28) (cTr_obj rfl) (by decide) rfl dX5_readNumber_28 ?_
        refine v_icmp_geN (pc := 31) (by omega) (by omega) (tgt := 106) dX5_readNumber_31 rfl (fun c_31 => ?_) (fun c_31 => ?_)
        · have eg : x = dg lt L (sk lt L a) := (dg_f (by rintro ⟨q1, q2, q3⟩; first | omega | exact q2 (by first | assumption | exact Int32.not_le.mp (by assumption)) | exact q3 (by first | assumption | exact Int32.not_le.mp (by assumption)))).symm.trans hg
          have ev : v = dv lt L (sk lt L a) (sk lt L a) (nI 0) := (dv_f (by rintro ⟨q1, q2, q3⟩; first | omega | exact q2 (by first | assumption | exact Int32.not_le.mp (by assumption)) | exact q3 (by first | assumption | exact Int32.not_le.mp (by assumption)))).symm.trans hv
          clear hg hv
          have ePN : pNum lt L lo hi (fa, f, a, m) = pNumB fa f (sk lt L a) x v lo hi := by rw [eg, ev]; exact if_pos c_4
          refine v_aload_n (pc := 106) 0 dX5_readNumber_106 rfl rfl ?_
          refine g_X5_25 (pc := 107) (cTr_obj rfl) (by decide) rfl dX5_readNumber_107 ?_
          refine v_aload_n (pc := 110) 0 dX5_readNumber_110 rfl rfl ?_
          refine g_X5_28 (pc := 111) (cTr_obj rfl) (by decide) rfl dX5_readNumber_111 ?_
          refine v_icmp_neN (pc := 114) (by omega) (by omega) (tgt := 129) dX5_readNumber_114 rfl (fun c_114 => ?_) (fun c_114 => ?_)
          · refine v_aload_n (pc := 129) 0 dX5_readNumber_129 rfl rfl ?_
            refine g_X5_25 (pc := 130) (cTr_obj rfl) (by decide) rfl dX5_readNumber_130 ?_
            refine v_aload_n (pc := 133) 0 dX5_readNumber_133 rfl rfl ?_
            refine g_X5_28 (pc := 134) (cTr_obj rfl) (by decide) rfl dX5_readNumber_134 ?_
            refine v_isubN (pc := 137) (by omega) dX5_readNumber_137 ?_
            refine v_iconst (pc := 138) (nI 3) dX5_readNumber_138 kI_3 ?_
            refine v_icmp_gtN (pc := 139) (by omega) (by omega) (tgt := 151) dX5_readNumber_139 rfl (fun c_139 => ?_) (fun c_139 => ?_)
            · refine v_aload_n (pc := 151) 0 dX5_readNumber_151 rfl rfl ?_
              refine v_iconst (pc := 152) (nI 2) dX5_readNumber_152 kI_2 ?_
              refine v_aload_n (pc := 153) 0 dX5_readNumber_153 rfl rfl ?_
              refine g_X5_28 (pc := 154) (cTr_obj rfl) (by decide) rfl dX5_readNumber_154 ?_
              refine v_callV (pc := 157) _ _ k_X5_47 (cTr_obj rfl) rfl (by decide) (c_noteF hL hf (by omega) (by omega) (by omega) _) ⟨rfl, rfl, by decide⟩ rfl rfl (Nat.le_of_ble_eq_true rfl) ⟨Nat.le_of_ble_eq_true rfl, Nat.le_of_ble_eq_true rfl⟩ dX5_readNumber_157 (unS ?_)
              show V E X _ RX5 _ _ _ 0 0 _ false 146 160 _ [] _
              refine v_iload_n (pc := 160) 3 dX5_readNumber_160 rfl rfl ?_
              exact v_iret (pc := 161) dX5_readNumber_161 (⟨by rw [ePN] <;> rfl, by rw [ePN]; show _ = cellOf E (sTx σ (zT lt L (if x = sk lt L a then _ else _))); rw [if_neg (by omega)]; first | (rw [if_pos (Or.inl (by omega))]; done) | (rw [if_pos (Or.inr (by assumption))]; done) | (rw [if_neg (by rintro (q | q); omega; exact Bool.noConfusion (q.symm.trans c_148))])⟩)
            · refine v_iload_n (pc := 142) 3 dX5_readNumber_142 rfl rfl ?_
              refine v_iload_n (pc := 143) 1 dX5_readNumber_143 rfl rfl ?_
              refine v_iload_n (pc := 144) 2 dX5_readNumber_144 rfl rfl ?_
              refine v_callSN (pc := 145) _ _ k_X5_87 (c_isOutside _ _ _) ⟨rfl, rfl, by decide⟩ rfl rfl (Nat.le_of_ble_eq_true rfl) ⟨Nat.le_of_ble_eq_true rfl, Nat.le_of_ble_eq_true rfl⟩ dX5_readNumber_145 (unS ?_)
              show V E X _ RX5 _ _ _ 0 0 _ false 146 148 _ [_] _
              refine v_if_eqB (pc := 148) (tgt := 160) dX5_readNumber_148 rfl (fun c_148 => ?_) (fun c_148 => ?_)
              · refine v_iload_n (pc := 160) 3 dX5_readNumber_160 rfl rfl ?_
                exact v_iret (pc := 161) dX5_readNumber_161 (⟨by rw [ePN] <;> rfl, by rw [ePN]; show _ = cellOf E (sTx σ (zT lt L (if x = sk lt L a then _ else _))); rw [if_neg (by omega)]; first | (rw [if_pos (Or.inl (by omega))]; done) | (rw [if_pos (Or.inr (by assumption))]; done) | (rw [if_neg (by rintro (q | q); omega; exact Bool.noConfusion (q.symm.trans c_148))])⟩)
              · refine v_aload_n (pc := 151) 0 dX5_readNumber_151 rfl rfl ?_
                refine v_iconst (pc := 152) (nI 2) dX5_readNumber_152 kI_2 ?_
                refine v_aload_n (pc := 153) 0 dX5_readNumber_153 rfl rfl ?_
                refine g_X5_28 (pc := 154) (cTr_obj rfl) (by decide) rfl dX5_readNumber_154 ?_
                refine v_callV (pc := 157) _ _ k_X5_47 (cTr_obj rfl) rfl (by decide) (c_noteF hL hf (by omega) (by omega) (by omega) _) ⟨rfl, rfl, by decide⟩ rfl rfl (Nat.le_of_ble_eq_true rfl) ⟨Nat.le_of_ble_eq_true rfl, Nat.le_of_ble_eq_true rfl⟩ dX5_readNumber_157 (unS ?_)
                show V E X _ RX5 _ _ _ 0 0 _ false 146 160 _ [] _
                refine v_iload_n (pc := 160) 3 dX5_readNumber_160 rfl rfl ?_
                exact v_iret (pc := 161) dX5_readNumber_161 (⟨by rw [ePN] <;> rfl, by rw [ePN]; show _ = cellOf E (sTx σ (zT lt L (if x = sk lt L a then _ else _))); rw [if_neg (by omega)]; first | (rw [if_pos (Or.inl (by omega))]; done) | (rw [if_pos (Or.inr (by assumption))]; done) | (rw [if_neg (by rintro (q | q); omega; exact Bool.noConfusion (q.symm.trans c_148))])⟩)
          · refine v_aload_n (pc := 117) 0 dX5_readNumber_117 rfl rfl ?_
            refine v_iconst (pc := 118) (nI 1) dX5_readNumber_118 kI_1 ?_
            refine v_aload_n (pc := 119) 0 dX5_readNumber_119 rfl rfl ?_
            refine g_X5_25 (pc := 120) (cTr_obj rfl) (by decide) rfl dX5_readNumber_120 ?_
            refine v_callV (pc := 123) _ _ k_X5_47 (cTr_obj rfl) rfl (by decide) (c_noteF hL hf (by omega) (by omega) (by omega) _) ⟨rfl, rfl, by decide⟩ rfl rfl (Nat.le_of_ble_eq_true rfl) ⟨Nat.le_of_ble_eq_true rfl, Nat.le_of_ble_eq_true rfl⟩ dX5_readNumber_123 (unS ?_)
            show V E X _ RX5 _ _ _ 0 0 _ false 146 126 _ [] _
            refine v_goto (pc := 126) (tgt := 160) dX5_readNumber_126 rfl ?_
            refine v_iload_n (pc := 160) 3 dX5_readNumber_160 rfl rfl ?_
            exact v_iret (pc := 161) dX5_readNumber_161 (⟨by rw [ePN] <;> rfl, by rw [ePN]; show _ = cellOf E (sTx σ (zT lt L (if x = sk lt L a then _ else _))); rw [if_pos (by omega)]⟩)
        · refine v_aload_n (pc := 34) 0 dX5_readNumber_34 rfl rfl ?_
          refine g_X5_9 (pc := 35) (cTr_obj rfl) (by decide) rfl dX5_readNumber_35 ?_
          refine v_aload_n (pc := 38) 0 dX5_readNumber_38 rfl rfl ?_
          refine g_X5_25 (pc := 39) (cTr_obj rfl) (by decide) rfl dX5_readNumber_39 ?_
          refine v_ialdN (pc := 42) (cTr_lt rfl) (by decide) (by omega) (by decide) dX5_readNumber_42 ?_
          refine v_bipush (pc := 43) (nI 48) dX5_readNumber_43 kB_48 ?_
          refine v_icmp_lt (pc := 45) (tgt := 106) dX5_readNumber_45 rfl (fun c_45 => ?_) (fun c_45 => ?_)
          · have eg : x = dg lt L (sk lt L a) := (dg_f (by rintro ⟨q1, q2, q3⟩; first | omega | exact q2 (by first | assumption | exact Int32.not_le.mp (by assumption)) | exact q3 (by first | assumption | exact Int32.not_le.mp (by assumption)))).symm.trans hg
            have ev : v = dv lt L (sk lt L a) (sk lt L a) (nI 0) := (dv_f (by rintro ⟨q1, q2, q3⟩; first | omega | exact q2 (by first | assumption | exact Int32.not_le.mp (by assumption)) | exact q3 (by first | assumption | exact Int32.not_le.mp (by assumption)))).symm.trans hv
            clear hg hv
            have ePN : pNum lt L lo hi (fa, f, a, m) = pNumB fa f (sk lt L a) x v lo hi := by rw [eg, ev]; exact if_pos c_4
            refine v_aload_n (pc := 106) 0 dX5_readNumber_106 rfl rfl ?_
            refine g_X5_25 (pc := 107) (cTr_obj rfl) (by decide) rfl dX5_readNumber_107 ?_
            refine v_aload_n (pc := 110) 0 dX5_readNumber_110 rfl rfl ?_
            refine g_X5_28 (pc := 111) (cTr_obj rfl) (by decide) rfl dX5_readNumber_111 ?_
            refine v_icmp_neN (pc := 114) (by omega) (by omega) (tgt := 129) dX5_readNumber_114 rfl (fun c_114 => ?_) (fun c_114 => ?_)
            · refine v_aload_n (pc := 129) 0 dX5_readNumber_129 rfl rfl ?_
              refine g_X5_25 (pc := 130) (cTr_obj rfl) (by decide) rfl dX5_readNumber_130 ?_
              refine v_aload_n (pc := 133) 0 dX5_readNumber_133 rfl rfl ?_
              refine g_X5_28 (pc := 134) (cTr_obj rfl) (by decide) rfl dX5_readNumber_134 ?_
              refine v_isubN (pc := 137) (by omega) dX5_readNumber_137 ?_
              refine v_iconst (pc := 138) (nI 3) dX5_readNumber_138 kI_3 ?_
              refine v_icmp_gtN (pc := 139) (by omega) (by omega) (tgt := 151) dX5_readNumber_139 rfl (fun c_139 => ?_) (fun c_139 => ?_)
              · refine v_aload_n (pc := 151) 0 dX5_readNumber_151 rfl rfl ?_
                refine v_iconst (pc := 152) (nI 2) dX5_readNumber_152 kI_2 ?_
                refine v_aload_n (pc := 153) 0 dX5_readNumber_153 rfl rfl ?_
                refine g_X5_28 (pc := 154) (cTr_obj rfl) (by decide) rfl dX5_readNumber_154 ?_
                refine v_callV (pc := 157) _ _ k_X5_47 (cTr_obj rfl) rfl (by decide) (c_noteF hL hf (by omega) (by omega) (by omega) _) ⟨rfl, rfl, by decide⟩ rfl rfl (Nat.le_of_ble_eq_true rfl) ⟨Nat.le_of_ble_eq_true rfl, Nat.le_of_ble_eq_true rfl⟩ dX5_readNumber_157 (unS ?_)
                show V E X _ RX5 _ _ _ 0 0 _ false 146 160 _ [] _
                refine v_iload_n (pc := 160) 3 dX5_readNumber_160 rfl rfl ?_
                exact v_iret (pc := 161) dX5_readNumber_161 (⟨by rw [ePN] <;> rfl, by rw [ePN]; show _ = cellOf E (sTx σ (zT lt L (if x = sk lt L a then _ else _))); rw [if_neg (by omega)]; first | (rw [if_pos (Or.inl (by omega))]; done) | (rw [if_pos (Or.inr (by assumption))]; done) | (rw [if_neg (by rintro (q | q); omega; exact Bool.noConfusion (q.symm.trans c_148))])⟩)
              · refine v_iload_n (pc := 142) 3 dX5_readNumber_142 rfl rfl ?_
                refine v_iload_n (pc := 143) 1 dX5_readNumber_143 rfl rfl ?_
                refine v_iload_n (pc := 144) 2 dX5_readNumber_144 rfl rfl ?_
                refine v_callSN (pc := 145) _ _ k_X5_87 (c_isOutside _ _ _) ⟨rfl, rfl, by decide⟩ rfl rfl (Nat.le_of_ble_eq_true rfl) ⟨Nat.le_of_ble_eq_true rfl, Nat.le_of_ble_eq_true rfl⟩ dX5_readNumber_145 (unS ?_)
                show V E X _ RX5 _ _ _ 0 0 _ false 146 148 _ [_] _
                refine v_if_eqB (pc := 148) (tgt := 160) dX5_readNumber_148 rfl (fun c_148 => ?_) (fun c_148 => ?_)
                · refine v_iload_n (pc := 160) 3 dX5_readNumber_160 rfl rfl ?_
                  exact v_iret (pc := 161) dX5_readNumber_161 (⟨by rw [ePN] <;> rfl, by rw [ePN]; show _ = cellOf E (sTx σ (zT lt L (if x = sk lt L a then _ else _))); rw [if_neg (by omega)]; first | (rw [if_pos (Or.inl (by omega))]; done) | (rw [if_pos (Or.inr (by assumption))]; done) | (rw [if_neg (by rintro (q | q); omega; exact Bool.noConfusion (q.symm.trans c_148))])⟩)
                · refine v_aload_n (pc := 151) 0 dX5_readNumber_151 rfl rfl ?_
                  refine v_iconst (pc := 152) (nI 2) dX5_readNumber_152 kI_2 ?_
                  refine v_aload_n (pc := 153) 0 dX5_readNumber_153 rfl rfl ?_
                  refine g_X5_28 (pc := 154) (cTr_obj rfl) (by decide) rfl dX5_readNumber_154 ?_
                  refine v_callV (pc := 157) _ _ k_X5_47 (cTr_obj rfl) rfl (by decide) (c_noteF hL hf (by omega) (by omega) (by omega) _) ⟨rfl, rfl, by decide⟩ rfl rfl (Nat.le_of_ble_eq_true rfl) ⟨Nat.le_of_ble_eq_true rfl, Nat.le_of_ble_eq_true rfl⟩ dX5_readNumber_157 (unS ?_)
                  show V E X _ RX5 _ _ _ 0 0 _ false 146 160 _ [] _
                  refine v_iload_n (pc := 160) 3 dX5_readNumber_160 rfl rfl ?_
                  exact v_iret (pc := 161) dX5_readNumber_161 (⟨by rw [ePN] <;> rfl, by rw [ePN]; show _ = cellOf E (sTx σ (zT lt L (if x = sk lt L a then _ else _))); rw [if_neg (by omega)]; first | (rw [if_pos (Or.inl (by omega))]; done) | (rw [if_pos (Or.inr (by assumption))]; done) | (rw [if_neg (by rintro (q | q); omega; exact Bool.noConfusion (q.symm.trans c_148))])⟩)
            · refine v_aload_n (pc := 117) 0 dX5_readNumber_117 rfl rfl ?_
              refine v_iconst (pc := 118) (nI 1) dX5_readNumber_118 kI_1 ?_
              refine v_aload_n (pc := 119) 0 dX5_readNumber_119 rfl rfl ?_
              refine g_X5_25 (pc := 120) (cTr_obj rfl) (by decide) rfl dX5_readNumber_120 ?_
              refine v_callV (pc := 123) _ _ k_X5_47 (cTr_obj rfl) rfl (by decide) (c_noteF hL hf (by omega) (by omega) (by omega) _) ⟨rfl, rfl, by decide⟩ rfl rfl (Nat.le_of_ble_eq_true rfl) ⟨Nat.le_of_ble_eq_true rfl, Nat.le_of_ble_eq_true rfl⟩ dX5_readNumber_123 (unS ?_)
              show V E X _ RX5 _ _ _ 0 0 _ false 146 126 _ [] _
              refine v_goto (pc := 126) (tgt := 160) dX5_readNumber_126 rfl ?_
              refine v_iload_n (pc := 160) 3 dX5_readNumber_160 rfl rfl ?_
              exact v_iret (pc := 161) dX5_readNumber_161 (⟨by rw [ePN] <;> rfl, by rw [ePN]; show _ = cellOf E (sTx σ (zT lt L (if x = sk lt L a then _ else _))); rw [if_pos (by omega)]⟩)
          · refine v_aload_n (pc := 48) 0 dX5_readNumber_48 rfl rfl ?_
            refine g_X5_9 (pc := 49) (cTr_obj rfl) (by decide) rfl dX5_readNumber_49 ?_
            refine v_aload_n (pc := 52) 0 dX5_readNumber_52 rfl rfl ?_
            refine g_X5_25 (pc := 53) (cTr_obj rfl) (by decide) rfl dX5_readNumber_53 ?_
            refine v_ialdN (pc := 56) (cTr_lt rfl) (by decide) (by omega) (by decide) dX5_readNumber_56 ?_
            refine v_bipush (pc := 57) (nI 57) dX5_readNumber_57 kB_57 ?_
            refine v_icmp_gt (pc := 59) (tgt := 106) dX5_readNumber_59 rfl (fun c_59 => ?_) (fun c_59 => ?_)
            · have eg : x = dg lt L (sk lt L a) := (dg_f (by rintro ⟨q1, q2, q3⟩; first | omega | exact q2 (by first | assumption | exact Int32.not_le.mp (by assumption)) | exact q3 (by first | assumption | exact Int32.not_le.mp (by assumption)))).symm.trans hg
              have ev : v = dv lt L (sk lt L a) (sk lt L a) (nI 0) := (dv_f (by rintro ⟨q1, q2, q3⟩; first | omega | exact q2 (by first | assumption | exact Int32.not_le.mp (by assumption)) | exact q3 (by first | assumption | exact Int32.not_le.mp (by assumption)))).symm.trans hv
              clear hg hv
              have ePN : pNum lt L lo hi (fa, f, a, m) = pNumB fa f (sk lt L a) x v lo hi := by rw [eg, ev]; exact if_pos c_4
              refine v_aload_n (pc := 106) 0 dX5_readNumber_106 rfl rfl ?_
              refine g_X5_25 (pc := 107) (cTr_obj rfl) (by decide) rfl dX5_readNumber_107 ?_
              refine v_aload_n (pc := 110) 0 dX5_readNumber_110 rfl rfl ?_
              refine g_X5_28 (pc := 111) (cTr_obj rfl) (by decide) rfl dX5_readNumber_111 ?_
              refine v_icmp_neN (pc := 114) (by omega) (by omega) (tgt := 129) dX5_readNumber_114 rfl (fun c_114 => ?_) (fun c_114 => ?_)
              · refine v_aload_n (pc := 129) 0 dX5_readNumber_129 rfl rfl ?_
                refine g_X5_25 (pc := 130) (cTr_obj rfl) (by decide) rfl dX5_readNumber_130 ?_
                refine v_aload_n (pc := 133) 0 dX5_readNumber_133 rfl rfl ?_
                refine g_X5_28 (pc := 134) (cTr_obj rfl) (by decide) rfl dX5_readNumber_134 ?_
                refine v_isubN (pc := 137) (by omega) dX5_readNumber_137 ?_
                refine v_iconst (pc := 138) (nI 3) dX5_readNumber_138 kI_3 ?_
                refine v_icmp_gtN (pc := 139) (by omega) (by omega) (tgt := 151) dX5_readNumber_139 rfl (fun c_139 => ?_) (fun c_139 => ?_)
                · refine v_aload_n (pc := 151) 0 dX5_readNumber_151 rfl rfl ?_
                  refine v_iconst (pc := 152) (nI 2) dX5_readNumber_152 kI_2 ?_
                  refine v_aload_n (pc := 153) 0 dX5_readNumber_153 rfl rfl ?_
                  refine g_X5_28 (pc := 154) (cTr_obj rfl) (by decide) rfl dX5_readNumber_154 ?_
                  refine v_callV (pc := 157) _ _ k_X5_47 (cTr_obj rfl) rfl (by decide) (c_noteF hL hf (by omega) (by omega) (by omega) _) ⟨rfl, rfl, by decide⟩ rfl rfl (Nat.le_of_ble_eq_true rfl) ⟨Nat.le_of_ble_eq_true rfl, Nat.le_of_ble_eq_true rfl⟩ dX5_readNumber_157 (unS ?_)
                  show V E X _ RX5 _ _ _ 0 0 _ false 146 160 _ [] _
                  refine v_iload_n (pc := 160) 3 dX5_readNumber_160 rfl rfl ?_
                  exact v_iret (pc := 161) dX5_readNumber_161 (⟨by rw [ePN] <;> rfl, by rw [ePN]; show _ = cellOf E (sTx σ (zT lt L (if x = sk lt L a then _ else _))); rw [if_neg (by omega)]; first | (rw [if_pos (Or.inl (by omega))]; done) | (rw [if_pos (Or.inr (by assumption))]; done) | (rw [if_neg (by rintro (q | q); omega; exact Bool.noConfusion (q.symm.trans c_148))])⟩)
                · refine v_iload_n (pc := 142) 3 dX5_readNumber_142 rfl rfl ?_
                  refine v_iload_n (pc := 143) 1 dX5_readNumber_143 rfl rfl ?_
                  refine v_iload_n (pc := 144) 2 dX5_readNumber_144 rfl rfl ?_
                  refine v_callSN (pc := 145) _ _ k_X5_87 (c_isOutside _ _ _) ⟨rfl, rfl, by decide⟩ rfl rfl (Nat.le_of_ble_eq_true rfl) ⟨Nat.le_of_ble_eq_true rfl, Nat.le_of_ble_eq_true rfl⟩ dX5_readNumber_145 (unS ?_)
                  show V E X _ RX5 _ _ _ 0 0 _ false 146 148 _ [_] _
                  refine v_if_eqB (pc := 148) (tgt := 160) dX5_readNumber_148 rfl (fun c_148 => ?_) (fun c_148 => ?_)
                  · refine v_iload_n (pc := 160) 3 dX5_readNumber_160 rfl rfl ?_
                    exact v_iret (pc := 161) dX5_readNumber_161 (⟨by rw [ePN] <;> rfl, by rw [ePN]; show _ = cellOf E (sTx σ (zT lt L (if x = sk lt L a then _ else _))); rw [if_neg (by omega)]; first | (rw [if_pos (Or.inl (by omega))]; done) | (rw [if_pos (Or.inr (by assumption))]; done) | (rw [if_neg (by rintro (q | q); omega; exact Bool.noConfusion (q.symm.trans c_148))])⟩)
                  · refine v_aload_n (pc := 151) 0 dX5_readNumber_151 rfl rfl ?_
                    refine v_iconst (pc := 152) (nI 2) dX5_readNumber_152 kI_2 ?_
                    refine v_aload_n (pc := 153) 0 dX5_readNumber_153 rfl rfl ?_
                    refine g_X5_28 (pc := 154) (cTr_obj rfl) (by decide) rfl dX5_readNumber_154 ?_
                    refine v_callV (pc := 157) _ _ k_X5_47 (cTr_obj rfl) rfl (by decide) (c_noteF hL hf (by omega) (by omega) (by omega) _) ⟨rfl, rfl, by decide⟩ rfl rfl (Nat.le_of_ble_eq_true rfl) ⟨Nat.le_of_ble_eq_true rfl, Nat.le_of_ble_eq_true rfl⟩ dX5_readNumber_157 (unS ?_)
                    show V E X _ RX5 _ _ _ 0 0 _ false 146 160 _ [] _
                    refine v_iload_n (pc := 160) 3 dX5_readNumber_160 rfl rfl ?_
                    exact v_iret (pc := 161) dX5_readNumber_161 (⟨by rw [ePN] <;> rfl, by rw [ePN]; show _ = cellOf E (sTx σ (zT lt L (if x = sk lt L a then _ else _))); rw [if_neg (by omega)]; first | (rw [if_pos (Or.inl (by omega))]; done) | (rw [if_pos (Or.inr (by assumption))]; done) | (rw [if_neg (by rintro (q | q); omega; exact Bool.noConfusion (q.symm.trans c_148))])⟩)
              · refine v_aload_n (pc := 117) 0 dX5_readNumber_117 rfl rfl ?_
                refine v_iconst (pc := 118) (nI 1) dX5_readNumber_118 kI_1 ?_
                refine v_aload_n (pc := 119) 0 dX5_readNumber_119 rfl rfl ?_
                refine g_X5_25 (pc := 120) (cTr_obj rfl) (by decide) rfl dX5_readNumber_120 ?_
                refine v_callV (pc := 123) _ _ k_X5_47 (cTr_obj rfl) rfl (by decide) (c_noteF hL hf (by omega) (by omega) (by omega) _) ⟨rfl, rfl, by decide⟩ rfl rfl (Nat.le_of_ble_eq_true rfl) ⟨Nat.le_of_ble_eq_true rfl, Nat.le_of_ble_eq_true rfl⟩ dX5_readNumber_123 (unS ?_)
                show V E X _ RX5 _ _ _ 0 0 _ false 146 126 _ [] _
                refine v_goto (pc := 126) (tgt := 160) dX5_readNumber_126 rfl ?_
                refine v_iload_n (pc := 160) 3 dX5_readNumber_160 rfl rfl ?_
                exact v_iret (pc := 161) dX5_readNumber_161 (⟨by rw [ePN] <;> rfl, by rw [ePN]; show _ = cellOf E (sTx σ (zT lt L (if x = sk lt L a then _ else _))); rw [if_pos (by omega)]⟩)
            · refine v_aload_n (pc := 62) 0 dX5_readNumber_62 rfl rfl ?_
              refine g_X5_25 (pc := 63) (cTr_obj rfl) (by decide) rfl dX5_readNumber_63 ?_
              refine v_aload_n (pc := 66) 0 dX5_readNumber_66 rfl rfl ?_
              refine g_X5_28 (pc := 67) (cTr_obj rfl) (by decide) rfl dX5_readNumber_67 ?_
              refine v_isubN (pc := 70) (by omega) dX5_readNumber_70 ?_
              refine v_iconst (pc := 71) (nI 3) dX5_readNumber_71 kI_3 ?_
              refine v_icmp_geN (pc := 72) (by omega) (by omega) (tgt := 93) dX5_readNumber_72 rfl (fun c_72 => ?_) (fun c_72 => ?_)
              · refine v_aload_n (pc := 93) 0 dX5_readNumber_93 rfl rfl ?_
                refine v_dup (pc := 94) dX5_readNumber_94 rfl ?_
                refine g_X5_25 (pc := 95) (cTr_obj rfl) (by decide) rfl dX5_readNumber_95 ?_
                refine v_iconst (pc := 98) (nI 1) dX5_readNumber_98 kI_1 ?_
                refine v_iaddN (pc := 99) dX5_readNumber_99 ?_
                refine p_X5_25 (pc := 100) (cTr_obj rfl) (by decide) rfl rfl (Nat.le_of_ble_eq_true rfl) dX5_readNumber_100 (wT_ap) ?_
                refine v_goto (pc := 103) (tgt := 23) dX5_readNumber_103 rfl ?_
                exact ihm (x + 1) _ (by omega) (by omega) (by omega) ((dg_t ⟨by omega, by first | assumption | exact Int32.not_lt.mpr (by assumption), by first | assumption | exact Int32.not_lt.mpr (by assumption)⟩).trans hg) ((by first | (rw [← dv_t (v := v) ⟨by omega, by first | exact c_45 | exact Int32.not_lt.mpr c_45, by first | exact c_59 | exact Int32.not_lt.mpr c_59⟩, if_pos (by omega)] at hv; exact hv) | (rw [← dv_t (v := v) ⟨by omega, by first | exact c_45 | exact Int32.not_lt.mpr c_45, by first | exact c_59 | exact Int32.not_lt.mpr c_59⟩, if_neg (by omega)] at hv; exact hv)))
              · refine v_iload_n (pc := 75) 3 dX5_readNumber_75 rfl rfl ?_
                refine v_bipush (pc := 76) (nI 10) dX5_readNumber_76 kB_10 ?_
                refine v_imul (pc := 78) dX5_readNumber_78 ?_
                refine v_aload_n (pc := 79) 0 dX5_readNumber_79 rfl rfl ?_
                refine g_X5_9 (pc := 80) (cTr_obj rfl) (by decide) rfl dX5_readNumber_80 ?_
                refine v_aload_n (pc := 83) 0 dX5_readNumber_83 rfl rfl ?_
                refine g_X5_25 (pc := 84) (cTr_obj rfl) (by decide) rfl dX5_readNumber_84 ?_
                refine v_ialdN (pc := 87) (cTr_lt rfl) (by decide) (by omega) (by decide) dX5_readNumber_87 ?_
                refine v_iadd (pc := 88) dX5_readNumber_88 ?_
                refine v_bipush (pc := 89) (nI 48) dX5_readNumber_89 kB_48 ?_
                refine v_isub (pc := 91) dX5_readNumber_91 ?_
                refine v_istore_n (pc := 92) [1, 2, 3, 0] [(0, _), (1, _), (2, _), (3, _)] dX5_readNumber_92 rfl (by decide) rfl ?_
                refine v_aload_n (pc := 93) 0 dX5_readNumber_93 rfl rfl ?_
                refine v_dup (pc := 94) dX5_readNumber_94 rfl ?_
                refine g_X5_25 (pc := 95) (cTr_obj rfl) (by decide) rfl dX5_readNumber_95 ?_
                refine v_iconst (pc := 98) (nI 1) dX5_readNumber_98 kI_1 ?_
                refine v_iaddN (pc := 99) dX5_readNumber_99 ?_
                refine p_X5_25 (pc := 100) (cTr_obj rfl) (by decide) rfl rfl (Nat.le_of_ble_eq_true rfl) dX5_readNumber_100 (wT_ap) ?_
                refine v_goto (pc := 103) (tgt := 23) dX5_readNumber_103 rfl ?_
                exact ihm (x + 1) _ (by omega) (by omega) (by omega) ((dg_t ⟨by omega, by first | assumption | exact Int32.not_lt.mpr (by assumption), by first | assumption | exact Int32.not_lt.mpr (by assumption)⟩).trans hg) ((by first | (rw [← dv_t (v := v) ⟨by omega, by first | exact c_45 | exact Int32.not_lt.mpr c_45, by first | exact c_59 | exact Int32.not_lt.mpr c_59⟩, if_pos (by omega)] at hv; exact hv) | (rw [← dv_t (v := v) ⟨by omega, by first | exact c_45 | exact Int32.not_lt.mpr c_45, by first | exact c_59 | exact Int32.not_lt.mpr c_59⟩, if_neg (by omega)] at hv; exact hv)))
    exact hl_23 (L - sk lt L a + 1) (sk lt L a) (nI 0) (by omega) hsL (Nat.le_refl _) rfl rfl
  · refine v_iconst (pc := 7) (-1) dX5_readNumber_7 kI_m1 ?_
    exact v_iret (pc := 8) dX5_readNumber_8 (⟨by rw [show pNum lt L lo hi (fa, f, a, m) = _ from if_neg (by omega)], by rw [show pNum lt L lo hi (fa, f, a, m) = _ from if_neg (by omega)]⟩)
set_option maxHeartbeats 4000000 in
set_option maxRecDepth 100000 in
theorem c_end {E : Ev} {σ : Sg} {lt : Fn} {L f a m : Nat} {fa : Int32} (hL : L ≤ 240) (hf : f ≤ 4) (ha : a ≤ L) (hm_ : m ≤ 240)  : Ct E yX5_readEnd cX5_readEnd 1 none ({ frames := 1, cells := 0, slots := 0, locals := 22 } : Room) false 146 [.ref (Ez E + 1)] (cellOf E (sTx σ (lt, nI L, fa, nI f, nI a, nI m))) 146 0 0 (Ff none (cellOf E (sTx σ (zT lt L (pEnd lt L (fa, f, a, m)))))) := by
  have hsL := sk_L (lt := lt) ha
  refine Ct.ofV (by decide) (Nat.le_of_ble_eq_true rfl) (fun X hnm => ?_)
  show V E X _ RX5 _ _ _ _ _ _ false 146 0 [(0, .ref (Ez E + 1))] [] _
  refine v_aload_n (pc := 0) 0 dX5_readEnd_0 rfl rfl ?_
  refine g_X5_22 (pc := 1) (cTr_obj rfl) (by decide) rfl dX5_readEnd_1 ?_
  refine v_if_eqN (pc := 4) (by omega) (tgt := 8) dX5_readEnd_4 rfl (fun c_4 => ?_) (fun c_4 => ?_)
  · refine v_aload_n (pc := 8) 0 dX5_readEnd_8 rfl rfl ?_
    refine v_callV (pc := 9) _ _ k_X5_36 (cTr_obj rfl) rfl (by decide) (c_skip hL hf (by omega) (by omega)) ⟨rfl, rfl, by decide⟩ rfl rfl (Nat.le_of_ble_eq_true rfl) ⟨Nat.le_of_ble_eq_true rfl, Nat.le_of_ble_eq_true rfl⟩ dX5_readEnd_9 (unS ?_)
    show V E X _ RX5 _ _ _ 0 0 _ false 146 12 _ [] _
    refine v_aload_n (pc := 12) 0 dX5_readEnd_12 rfl rfl ?_
    refine g_X5_25 (pc := 13) (cTr_obj rfl) (by decide) rfl dX5_readEnd_13 ?_
    refine v_aload_n (pc := 16) 0 dX5_readEnd_16 rfl rfl ?_
    refine g_X5_15 (pc := 17) (cTr_obj rfl) (by decide) rfl dX5_readEnd_17 ?_
    refine v_icmp_geN (pc := 20) (by omega) (by omega) (tgt := 50) dX5_readEnd_20 rfl (fun c_20 => ?_) (fun c_20 => ?_)
    · refine v_aload_n (pc := 50) 0 dX5_readEnd_50 rfl rfl ?_
      refine v_iconst (pc := 51) (nI 1) dX5_readEnd_51 kI_1 ?_
      refine v_aload_n (pc := 52) 0 dX5_readEnd_52 rfl rfl ?_
      refine g_X5_25 (pc := 53) (cTr_obj rfl) (by decide) rfl dX5_readEnd_53 ?_
      refine v_callV (pc := 56) _ _ k_X5_47 (cTr_obj rfl) rfl (by decide) (c_noteF hL hf (by omega) (by omega) (by omega) _) ⟨rfl, rfl, by decide⟩ rfl rfl (Nat.le_of_ble_eq_true rfl) ⟨Nat.le_of_ble_eq_true rfl, Nat.le_of_ble_eq_true rfl⟩ dX5_readEnd_56 (unS ?_)
      show V E X _ RX5 _ _ _ 0 0 _ false 146 59 _ [] _
      exact v_vret (pc := 59) dX5_readEnd_59 (⟨rfl, by rw [show pEnd lt L (fa, f, a, m) = _ from if_pos (by omega)]; show _ = cellOf E (sTx σ (zT lt L (if sk lt L a < L ∧ lt (sk lt L a) = nI 59 then _ else _))); first | (rw [if_pos ⟨by omega, by assumption⟩]; done) | (rw [if_neg (by rintro ⟨q1, q2⟩; first | omega | exact absurd q2 (by assumption))])⟩)
    · refine v_aload_n (pc := 23) 0 dX5_readEnd_23 rfl rfl ?_
      refine g_X5_9 (pc := 24) (cTr_obj rfl) (by decide) rfl dX5_readEnd_24 ?_
      refine v_aload_n (pc := 27) 0 dX5_readEnd_27 rfl rfl ?_
      refine g_X5_25 (pc := 28) (cTr_obj rfl) (by decide) rfl dX5_readEnd_28 ?_
      refine v_ialdN (pc := 31) (cTr_lt rfl) (by decide) (by omega) (by decide) dX5_readEnd_31 ?_
      refine v_bipush (pc := 32) (nI 59) dX5_readEnd_32 kB_59 ?_
      refine v_icmp_ne (pc := 34) (tgt := 50) dX5_readEnd_34 rfl (fun c_34 => ?_) (fun c_34 => ?_)
      · refine v_aload_n (pc := 50) 0 dX5_readEnd_50 rfl rfl ?_
        refine v_iconst (pc := 51) (nI 1) dX5_readEnd_51 kI_1 ?_
        refine v_aload_n (pc := 52) 0 dX5_readEnd_52 rfl rfl ?_
        refine g_X5_25 (pc := 53) (cTr_obj rfl) (by decide) rfl dX5_readEnd_53 ?_
        refine v_callV (pc := 56) _ _ k_X5_47 (cTr_obj rfl) rfl (by decide) (c_noteF hL hf (by omega) (by omega) (by omega) _) ⟨rfl, rfl, by decide⟩ rfl rfl (Nat.le_of_ble_eq_true rfl) ⟨Nat.le_of_ble_eq_true rfl, Nat.le_of_ble_eq_true rfl⟩ dX5_readEnd_56 (unS ?_)
        show V E X _ RX5 _ _ _ 0 0 _ false 146 59 _ [] _
        exact v_vret (pc := 59) dX5_readEnd_59 (⟨rfl, by rw [show pEnd lt L (fa, f, a, m) = _ from if_pos (by omega)]; show _ = cellOf E (sTx σ (zT lt L (if sk lt L a < L ∧ lt (sk lt L a) = nI 59 then _ else _))); first | (rw [if_pos ⟨by omega, by assumption⟩]; done) | (rw [if_neg (by rintro ⟨q1, q2⟩; first | omega | exact absurd q2 (by assumption))])⟩)
      · refine v_aload_n (pc := 37) 0 dX5_readEnd_37 rfl rfl ?_
        refine v_dup (pc := 38) dX5_readEnd_38 rfl ?_
        refine g_X5_25 (pc := 39) (cTr_obj rfl) (by decide) rfl dX5_readEnd_39 ?_
        refine v_iconst (pc := 42) (nI 1) dX5_readEnd_42 kI_1 ?_
        refine v_iaddN (pc := 43) dX5_readEnd_43 ?_
        refine p_X5_25 (pc := 44) (cTr_obj rfl) (by decide) rfl rfl (Nat.le_of_ble_eq_true rfl) dX5_readEnd_44 (wT_ap) ?_
        refine v_goto (pc := 47) (tgt := 59) dX5_readEnd_47 rfl ?_
        exact v_vret (pc := 59) dX5_readEnd_59 (⟨rfl, by rw [show pEnd lt L (fa, f, a, m) = _ from if_pos (by omega)]; show _ = cellOf E (sTx σ (zT lt L (if sk lt L a < L ∧ lt (sk lt L a) = nI 59 then _ else _))); first | (rw [if_pos ⟨by omega, by assumption⟩]; done) | (rw [if_neg (by rintro ⟨q1, q2⟩; first | omega | exact absurd q2 (by assumption))])⟩)
  · exact v_vret (pc := 7) dX5_readEnd_7 (⟨rfl, by rw [show pEnd lt L (fa, f, a, m) = _ from if_neg (by omega)]⟩)
