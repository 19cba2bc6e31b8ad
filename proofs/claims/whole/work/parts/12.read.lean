theorem pTree_ok {lt : Fn} {L : Nat} {z : PZ} {D : DV} (hL : L ≤ 240) (h : zOk L z) (hd : dOk D) : zOk L (pTree lt L z D).1 ∧ dOk (pTree lt L z D).2 := by
  refine ⟨pEnd_ok (pNum_ok hL (pNum_ok hL h)), ?_⟩
  unfold pTree pTreeE
  show dOk (if _ then _ else _)
  split
  · exact hd
  · exact hd
theorem pPers_ok {lt : Fn} {L : Nat} {z : PZ} {D : DV} (hL : L ≤ 240) (h : zOk L z) (hd : dOk D) : zOk L (pPers lt L z D).1 ∧ dOk (pPers lt L z D).2 := by
  refine ⟨pEnd_ok (pNum_ok hL (pNum_ok hL (pNum_ok hL h))), ?_⟩
  unfold pPers pPers1 pPers2 pPers3 pPersE
  show dOk (if _ then _ else _)
  split
  · exact dAddP_ok hd
  · exact hd
theorem pDebtE_ok {a b n : Int32} {z : PZ} {D : DV} (hd : dOk D) : dOk (pDebtE a b n z D).2 := by
  unfold pDebtE
  show dOk (if z.2.1 = 0 then _ else _)
  by_cases h : z.2.1 = 0
  · rw [if_pos h]; exact dAddD_ok hd
  · rw [if_neg h]; exact hd
theorem pDebt_ok {lt : Fn} {L : Nat} {z : PZ} {D : DV} (hL : L ≤ 240) (h : zOk L z) (hd : dOk D) : zOk L (pDebt lt L z D).1 ∧ dOk (pDebt lt L z D).2 := by
  constructor
  · unfold pDebt pDebt1 pDebt2 pDebt3 pDebtE
    refine pEnd_ok (pNum_ok hL ?_)
    split
    · exact pNote_ok (pNum_ok hL (pNum_ok hL h)) (by decide)
    · exact pNum_ok hL (pNum_ok hL h)
  · exact pDebtE_ok hd
theorem pClause_ok {lt : Fn} {L : Nat} {z : PZ} {D : DV} (hL : L ≤ 240) (h : zOk L z) (ha : z.2.2.1 < L) (hd : dOk D) : zOk L (pClause lt L z D).1 ∧ dOk (pClause lt L z D).2 := by
  unfold pClause
  split
  · have h1 : zOk L (z.1, z.2.1, z.2.2.1 + 1, z.2.2.2) := ⟨h.1, ha, h.2.2⟩
    unfold pClauseE
    split
    · exact pTree_ok hL h1 hd
    · split
      · exact pPers_ok hL h1 hd
      · exact pDebt_ok hL h1 hd
  · exact ⟨pNote_ok h (fwN_le _ _ _ _), hd⟩
/-- a clause, and the blanks behind it -/
def pStep (lt : Fn) (L : Nat) (s : PZ × DV) : PZ × DV := (((pClause lt L s.1 s.2).1.1, (pClause lt L s.1 s.2).1.2.1, sk lt L (pClause lt L s.1 s.2).1.2.2.1, (pClause lt L s.1 s.2).1.2.2.2), (pClause lt L s.1 s.2).2)
def pLoop (lt : Fn) (L : Nat) : Nat → PZ × DV → PZ × DV
  | 0, s => s
  | n + 1, s => if s.1.2.1 = 0 ∧ s.1.2.2.1 < L then pLoop lt L n (pStep lt L s) else s
theorem pLoop_t {lt : Fn} {L i : Nat} {s : PZ × DV} (hi : i < 240) (h : s.1.2.1 = 0 ∧ s.1.2.2.1 < L) : pLoop lt L (240 - (i + 1)) (pStep lt L s) = pLoop lt L (240 - i) s := by
  rw [show 240 - i = (240 - (i + 1)) + 1 by omega]
  show _ = if s.1.2.1 = 0 ∧ s.1.2.2.1 < L then _ else _
  rw [if_pos h]
theorem pLoop_f {lt : Fn} {L : Nat} (n : Nat) {s : PZ × DV} (h : ¬ (s.1.2.1 = 0 ∧ s.1.2.2.1 < L)) : pLoop lt L n s = s := by
  cases n with
  | zero => rfl
  | succ n => show (if s.1.2.1 = 0 ∧ s.1.2.2.1 < L then _ else _) = _; rw [if_neg h]
/-- all of the text: m is what numberAt was, D the draft that is written over -/
def pAll (lt : Fn) (L m : Nat) (D : DV) : PZ × DV := pLoop lt L 240 ((-1, 0, sk lt L 0, m), (nI 0, nI 0, nI 0, 0, 0, D.2.2.2.2.2))
set_option maxHeartbeats 4000000 in
set_option maxRecDepth 100000 in
theorem c_readInto {E : Ev} {σ : Sg} {lt : Fn} {L m : Nat} {fa fn0 ap0 : Int32} {j np nd : Nat} {sd du tr : Int32} {kd bd dr dt cr ow : Fn} (hL : L ≤ 240) (hm_ : m ≤ 240) (hj : j < 2) (hnp : np ≤ 7) (hnd : nd ≤ 9) {D0 : DV} (hD0 : D0 = (sd, du, tr, np, nd, kd, bd, dr, dt, cr, ow)) : Ct E yX5_readInto cX5_readInto 3 (some .int) ({ frames := 4, cells := 0, slots := 0, locals := 92 } : Room) false 146 [.ref (Ez E + 1), .ref (Ez E + pad j)] (cellOf E (sTx (sPar σ j (sd, du, tr, nI np, nI nd, kd, bd, dr, dt, cr, ow)) (lt, nI L, fa, fn0, ap0, nI m))) 146 0 0 (Ff (some (.int (nI (pAll lt L m D0).1.2.1))) (cellOf E (sTx (sPar σ j (dP (pAll lt L m D0).2)) (lt, nI 0, (pAll lt L m D0).1.1, nI (pAll lt L m D0).1.2.1, nI (pAll lt L m D0).1.2.2.1, nI (pAll lt L m D0).1.2.2.2)))) := by
  refine Ct.ofV (by decide) (Nat.le_of_ble_eq_true rfl) (fun X hnm => ?_)
  show V E X _ RX5 _ _ _ _ _ _ false 146 0 [(0, .ref (Ez E + 1)), (1, .ref (Ez E + pad j))] [] _
  refine v_aload_n (pc := 0) 1 dX5_readInto_0 rfl rfl ?_
  refine v_callV (pc := 1) _ _ k_X5_31 (cPr_obj hj (gP_s σ j _)) rfl (pad_lt0 hj) (c_clearT hj hnp hnd) ⟨rfl, rfl, by decide⟩ rfl rfl (Nat.le_of_ble_eq_true rfl) ⟨Nat.le_of_ble_eq_true rfl, Nat.le_of_ble_eq_true rfl⟩ dX5_readInto_1 (unS ?_)
  show V E X _ RX5 _ _ _ 0 0 _ false 146 4 _ [] _
  refine v_aload_n (pc := 4) 0 dX5_readInto_4 rfl rfl ?_
  refine v_iconst (pc := 5) (nI 0) dX5_readInto_5 kI_0 ?_
  refine p_X5_22 (pc := 6) (cTr_obj rfl) (by decide) rfl rfl (Nat.le_of_ble_eq_true rfl) dX5_readInto_6 (wT_fn) ?_
  refine v_aload_n (pc := 9) 0 dX5_readInto_9 rfl rfl ?_
  refine v_iconst (pc := 10) (-1) dX5_readInto_10 kI_m1 ?_
  refine p_X5_19 (pc := 11) (cTr_obj rfl) (by decide) rfl rfl (Nat.le_of_ble_eq_true rfl) dX5_readInto_11 (wT_fa) ?_
  refine v_aload_n (pc := 14) 0 dX5_readInto_14 rfl rfl ?_
  refine v_iconst (pc := 15) (nI 0) dX5_readInto_15 kI_0 ?_
  refine p_X5_25 (pc := 16) (cTr_obj rfl) (by decide) rfl rfl (Nat.le_of_ble_eq_true rfl) dX5_readInto_16 (wT_ap) ?_
  refine v_aload_n (pc := 19) 0 dX5_readInto_19 rfl rfl ?_
  refine v_callV (pc := 20) _ _ k_X5_36 (cTr_obj rfl) rfl (by decide) (c_skip hL (by decide) (by omega) hm_) ⟨rfl, rfl, by decide⟩ rfl rfl (Nat.le_of_ble_eq_true rfl) ⟨Nat.le_of_ble_eq_true rfl, Nat.le_of_ble_eq_true rfl⟩ dX5_readInto_20 (unS ?_)
  show V E X _ RX5 _ _ _ 0 0 _ false 146 23 _ [] _
  refine v_iconst (pc := 23) (nI 0) dX5_readInto_23 kI_0 ?_
  refine v_istore_n (pc := 24) [1, 2, 0] [(0, _), (1, _), (2, _)] dX5_readInto_24 rfl (by decide) rfl ?_
  have hl_25 : ∀ (m_ : Nat) (i : Nat) (fx : Int32) (g : Nat) (x : Nat) (y : Nat) (s1 : Int32) (s2 : Int32) (s3 : Int32) (np : Nat) (nd : Nat) (kd : Fn) (bd : Fn) (dr : Fn) (dt : Fn) (cr : Fn) (ow : Fn), 240 - i < m_ → (i ≤ 240) → (zOk L (fx, g, x, y)) → (np ≤ 7) → (nd ≤ 9) → (pLoop lt L (240 - i) ((fx, g, x, y), (s1, s2, s3, np, nd, kd, bd, dr, dt, cr, ow)) = pAll lt L m D0) → V E X ({ frames := 4, cells := 0, slots := 0, locals := 92 } : Room) RX5 cX5_readInto 3 (some .int) 0 0 (QX E X false 146 (Ff (some (.int (nI (pAll lt L m D0).1.2.1))) (cellOf E (sTx (sPar σ j (dP (pAll lt L m D0).2)) (lt, nI 0, (pAll lt L m D0).1.1, nI (pAll lt L m D0).1.2.1, nI (pAll lt L m D0).1.2.2.1, nI (pAll lt L m D0).1.2.2.2)))) 0 0) false 146 25 [(0, .ref (Ez E + 1)), (1, .ref (Ez E + pad j)), (2, .int (nI i))] [] (cellOf E (sTx (sPar σ j (s1, s2, s3, nI np, nI nd, kd, bd, dr, dt, cr, ow)) (lt, nI L, fx, nI g, nI x, nI y))) := by
    intro m_
    induction m_ with
    | zero => intro i fx g x y s1 s2 s3 np nd kd bd dr dt cr ow hm; exact absurd hm (Nat.not_lt_zero _)
    | succ m_ ihm =>
      intro i fx g x y s1 s2 s3 np nd kd bd dr dt cr ow hm hi ok0 hnp hnd hs
      have okg : g ≤ 4 := ok0.1
      have okx : x ≤ L := ok0.2.1
      have oky : y ≤ 240 := ok0.2.2
      refine v_iload_n (pc := 25) 2 dX5_readInto_25 rfl rfl ?_
      refine v_sipush (pc := 26) (nI 240) dX5_readInto_26 kS_240 ?_
      refine v_icmp_geN (pc := 29) (by omega) (by omega) (tgt := 65) dX5_readInto_29 rfl (fun c_29 => ?_) (fun c_29 => ?_)
      · have hfin : pAll lt L m D0 = ((fx, g, x, y), (s1, s2, s3, np, nd, kd, bd, dr, dt, cr, ow)) := by rw [← hs]; first | exact pLoop_f _ (by rintro ⟨q1, q2⟩; simp only at q1 q2; omega) | (rw [show 240 - i = 0 by omega]; rfl)
        refine v_aload_n (pc := 65) 0 dX5_readInto_65 rfl rfl ?_
        refine v_iconst (pc := 66) (nI 0) dX5_readInto_66 kI_0 ?_
        refine p_X5_15 (pc := 67) (cTr_obj rfl) (by decide) rfl rfl (Nat.le_of_ble_eq_true rfl) dX5_readInto_67 (wT_ln) ?_
        refine v_aload_n (pc := 70) 0 dX5_readInto_70 rfl rfl ?_
        refine g_X5_22 (pc := 71) (cTr_obj rfl) (by decide) rfl dX5_readInto_71 ?_
        exact v_iret (pc := 74) dX5_readInto_74 (⟨by rw [hfin], by rw [hfin]⟩)
      · refine v_aload_n (pc := 32) 0 dX5_readInto_32 rfl rfl ?_
        refine g_X5_22 (pc := 33) (cTr_obj rfl) (by decide) rfl dX5_readInto_33 ?_
        refine v_if_neN (pc := 36) (by omega) (tgt := 65) dX5_readInto_36 rfl (fun c_36 => ?_) (fun c_36 => ?_)
        · have hfin : pAll lt L m D0 = ((fx, g, x, y), (s1, s2, s3, np, nd, kd, bd, dr, dt, cr, ow)) := by rw [← hs]; first | exact pLoop_f _ (by rintro ⟨q1, q2⟩; simp only at q1 q2; omega) | (rw [show 240 - i = 0 by omega]; rfl)
          refine v_aload_n (pc := 65) 0 dX5_readInto_65 rfl rfl ?_
          refine v_iconst (pc := 66) (nI 0) dX5_readInto_66 kI_0 ?_
          refine p_X5_15 (pc := 67) (cTr_obj rfl) (by decide) rfl rfl (Nat.le_of_ble_eq_true rfl) dX5_readInto_67 (wT_ln) ?_
          refine v_aload_n (pc := 70) 0 dX5_readInto_70 rfl rfl ?_
          refine g_X5_22 (pc := 71) (cTr_obj rfl) (by decide) rfl dX5_readInto_71 ?_
          exact v_iret (pc := 74) dX5_readInto_74 (⟨by rw [hfin], by rw [hfin]⟩)
        · refine v_aload_n (pc := 39) 0 dX5_readInto_39 rfl rfl ?_
          refine g_X5_25 (pc := 40) (cTr_obj rfl) (by decide) rfl dX5_readInto_40 ?_
          refine v_aload_n (pc := 43) 0 dX5_readInto_43 rfl rfl ?_
          refine g_X5_15 (pc := 44) (cTr_obj rfl) (by decide) rfl dX5_readInto_44 ?_
          refine v_icmp_geN (pc := 47) (by omega) (by omega) (tgt := 65) dX5_readInto_47 rfl (fun c_47 => ?_) (fun c_47 => ?_)
          · have hfin : pAll lt L m D0 = ((fx, g, x, y), (s1, s2, s3, np, nd, kd, bd, dr, dt, cr, ow)) := by rw [← hs]; first | exact pLoop_f _ (by rintro ⟨q1, q2⟩; simp only at q1 q2; omega) | (rw [show 240 - i = 0 by omega]; rfl)
            refine v_aload_n (pc := 65) 0 dX5_readInto_65 rfl rfl ?_
            refine v_iconst (pc := 66) (nI 0) dX5_readInto_66 kI_0 ?_
            refine p_X5_15 (pc := 67) (cTr_obj rfl) (by decide) rfl rfl (Nat.le_of_ble_eq_true rfl) dX5_readInto_67 (wT_ln) ?_
            refine v_aload_n (pc := 70) 0 dX5_readInto_70 rfl rfl ?_
            refine g_X5_22 (pc := 71) (cTr_obj rfl) (by decide) rfl dX5_readInto_71 ?_
            exact v_iret (pc := 74) dX5_readInto_74 (⟨by rw [hfin], by rw [hfin]⟩)
          · refine v_aload_n (pc := 50) 0 dX5_readInto_50 rfl rfl ?_
            refine v_aload_n (pc := 51) 1 dX5_readInto_51 rfl rfl ?_
            refine v_callV (pc := 52) _ _ k_X5_39 (cTr_obj rfl) rfl (by decide) (c_clause hL ok0 hj hnp hnd (by omega)) ⟨rfl, rfl, by decide⟩ rfl rfl (Nat.le_of_ble_eq_true rfl) ⟨Nat.le_of_ble_eq_true rfl, Nat.le_of_ble_eq_true rfl⟩ dX5_readInto_52 (unD (fun fa1 f1 a1 m1 sd1 du1 tr1 np1 nd1 kd1 bd1 dr1 dt1 cr1 ow1 hq => ?_))
            have okq := pClause_ok (lt := lt) hL ok0 (show x < L by omega) (D := (s1, s2, s3, np, nd, kd, bd, dr, dt, cr, ow)) ⟨hnp, hnd⟩
            rw [hq] at okq
            have okf : f1 ≤ 4 := okq.1.1
            have oka : a1 ≤ L := okq.1.2.1
            have okm : m1 ≤ 240 := okq.1.2.2
            have okn : np1 ≤ 7 ∧ nd1 ≤ 9 := okq.2
            show V E X _ RX5 _ _ _ 0 0 _ false 146 55 _ [] _
            refine v_aload_n (pc := 55) 0 dX5_readInto_55 rfl rfl ?_
            refine v_callV (pc := 56) _ _ k_X5_36 (cTr_obj rfl) rfl (by decide) (c_skip hL okf oka okm) ⟨rfl, rfl, by decide⟩ rfl rfl (Nat.le_of_ble_eq_true rfl) ⟨Nat.le_of_ble_eq_true rfl, Nat.le_of_ble_eq_true rfl⟩ dX5_readInto_56 (unS ?_)
            show V E X _ RX5 _ _ _ 0 0 _ false 146 59 _ [] _
            refine v_iincN (pc := 59) 2 [1, 2, 0] [(0, _), (1, _), (2, _)] kI_1 dX5_readInto_59 rfl (by decide) rfl ?_
            refine v_goto (pc := 62) (tgt := 25) dX5_readInto_62 rfl ?_
            exact ihm (i + 1) _ _ _ _ _ _ _ _ _ _ _ _ _ _ _ (by omega) (by omega) ⟨okf, sk_L oka, okm⟩ okn.1 okn.2 (by rw [← hs, ← pLoop_t (s := ((fx, g, x, y), (s1, s2, s3, np, nd, kd, bd, dr, dt, cr, ow))) (by omega) ⟨c_36, c_47⟩]; unfold pStep; rw [hq])
  exact hl_25 (240 + 1) 0 (-1) 0 (sk lt L 0) m (nI 0) (nI 0) (nI 0) 0 0 kd bd dr dt cr ow (by omega) (by omega) ⟨Nat.zero_le 4, sk_L (Nat.zero_le _), hm_⟩ (by decide) (by decide) (by rw [hD0]; rfl)
