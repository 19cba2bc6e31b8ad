/-! clauses: the draft with natural numbers of persons and debts -/
abbrev DV : Type := Int32 × Int32 × Int32 × Nat × Nat × Fn × Fn × Fn × Fn × Fn × Fn
abbrev dP (D : DV) : ParV := (D.1, D.2.1, D.2.2.1, nI D.2.2.2.1, nI D.2.2.2.2.1, D.2.2.2.2.2)
def dOk (D : DV) : Prop := D.2.2.2.1 ≤ 7 ∧ D.2.2.2.2.1 ≤ 9
def dAddP (D : DV) (a n x : Int32) : DV := if D.2.2.2.1 < 7 then (D.1, D.2.1, D.2.2.1, D.2.2.2.1 + 1, D.2.2.2.2.1, upd D.2.2.2.2.2.1 D.2.2.2.1 a, upd D.2.2.2.2.2.2.1 D.2.2.2.1 n, upd D.2.2.2.2.2.2.2.1 D.2.2.2.1 x, D.2.2.2.2.2.2.2.2) else D
def dAddD (D : DV) (a z n : Int32) : DV := if D.2.2.2.2.1 < 9 then (D.1, D.2.1, D.2.2.1, D.2.2.2.1, D.2.2.2.2.1 + 1, D.2.2.2.2.2.1, D.2.2.2.2.2.2.1, D.2.2.2.2.2.2.2.1, upd D.2.2.2.2.2.2.2.2.1 D.2.2.2.2.1 a, upd D.2.2.2.2.2.2.2.2.2.1 D.2.2.2.2.1 z, upd D.2.2.2.2.2.2.2.2.2.2 D.2.2.2.2.1 n) else D
theorem dAddP_P {sd du tr : Int32} {np nd : Nat} {r : Fn × Fn × Fn × Fn × Fn × Fn} (a n x : Int32) : dP (dAddP (sd, du, tr, np, nd, r) a n x) = pv_addP (sd, du, tr, nI np, nI nd, r) np a n x := by
  unfold dAddP pv_addP; by_cases h : np < 7
  · rw [if_pos h, if_pos h]
  · rw [if_neg h, if_neg h]
theorem dAddD_P {sd du tr : Int32} {np nd : Nat} {r : Fn × Fn × Fn × Fn × Fn × Fn} (a z n : Int32) : dP (dAddD (sd, du, tr, np, nd, r) a z n) = pv_addD (sd, du, tr, nI np, nI nd, r) nd a z n := by
  unfold dAddD pv_addD; by_cases h : nd < 9
  · rw [if_pos h, if_pos h]
  · rw [if_neg h, if_neg h]
theorem dAddP_ok {D : DV} {a n x : Int32} (h : dOk D) : dOk (dAddP D a n x) := by
  unfold dAddP; by_cases e : D.2.2.2.1 < 7
  · rw [if_pos e]; exact ⟨e, h.2⟩
  · rw [if_neg e]; exact h
theorem dAddD_ok {D : DV} {a z n : Int32} (h : dOk D) : dOk (dAddD D a z n) := by
  unfold dAddD; by_cases e : D.2.2.2.2.1 < 9
  · rw [if_pos e]; exact ⟨h.1, e⟩
  · rw [if_neg e]; exact h
def pTreeE (n d : Int32) (z : PZ) (D : DV) : PZ × DV := (z, if z.2.1 = 0 then (nI 1, d, n, D.2.2.2) else D)
def pTree (lt : Fn) (L : Nat) (z : PZ) (D : DV) : PZ × DV := pTreeE (pNum lt L (nI 0) (nI 999) z).1 (pNum lt L (nI 1) (nI 24) (pNum lt L (nI 0) (nI 999) z).2).1 (pEnd lt L (pNum lt L (nI 1) (nI 24) (pNum lt L (nI 0) (nI 999) z).2).2) D
def pPersE (a n x : Int32) (z : PZ) (D : DV) : PZ × DV := (z, if z.2.1 = 0 then dAddP D a n x else D)
def pPers3 (lt : Fn) (L : Nat) (a n : Int32) (r : Int32 × PZ) (D : DV) : PZ × DV := pPersE a n r.1 (pEnd lt L r.2) D
def pPers2 (lt : Fn) (L : Nat) (a : Int32) (r : Int32 × PZ) (D : DV) : PZ × DV := pPers3 lt L a r.1 (pNum lt L (nI 0) (nI 50) r.2) D
def pPers1 (lt : Fn) (L : Nat) (r : Int32 × PZ) (D : DV) : PZ × DV := pPers2 lt L r.1 (pNum lt L (nI 0) (nI 99) r.2) D
def pPers (lt : Fn) (L : Nat) (z : PZ) (D : DV) : PZ × DV := pPers1 lt L (pNum lt L (nI 0) (nI 4) z) D
def pDebtE (a b n : Int32) (z : PZ) (D : DV) : PZ × DV := (z, if z.2.1 = 0 then dAddD D a b n else D)
def pDebt3 (lt : Fn) (L : Nat) (a b : Int32) (r : Int32 × PZ) (D : DV) : PZ × DV := pDebtE a b r.1 (pEnd lt L r.2) D
def pDebt2 (lt : Fn) (L : Nat) (a : Int32) (r : Int32 × PZ) (D : DV) : PZ × DV := pDebt3 lt L a r.1 (pNum lt L (nI 1) (nI 99) (if a = r.1 then pNote r.2 4 (nI r.2.2.2.2) else r.2)) D
def pDebt1 (lt : Fn) (L : Nat) (r : Int32 × PZ) (D : DV) : PZ × DV := pDebt2 lt L r.1 (pNum lt L (nI 0) (nI D.2.2.2.1 - nI 1) r.2) D
def pDebt (lt : Fn) (L : Nat) (z : PZ) (D : DV) : PZ × DV := pDebt1 lt L (pNum lt L (nI 0) (nI D.2.2.2.1 - nI 1) z) D
def fwN (sd : Int32) (np nd : Nat) (x : Int32) : Nat := if x = nI 116 then (if sd = 0 then 0 else 3) else if x = nI 112 then (if sd = 0 then 1 else if np < 7 then 0 else 3) else if x = nI 100 then (if sd = 0 then 1 else if nd < 9 then 0 else 3) else 1
theorem fwN_le (sd : Int32) (np nd : Nat) (x : Int32) : fwN sd np nd x ≤ 4 := by unfold fwN; (repeat' split) <;> omega
def pClauseE (lt : Fn) (L : Nat) (x : Int32) (z : PZ) (D : DV) : PZ × DV := if x = nI 116 then pTree lt L z D else if x = nI 112 then pPers lt L z D else pDebt lt L z D
def pClause (lt : Fn) (L : Nat) (z : PZ) (D : DV) : PZ × DV := if fwN D.1 D.2.2.2.1 D.2.2.2.2.1 (lt z.2.2.1) = 0 then pClauseE lt L (lt z.2.2.1) (z.1, z.2.1, z.2.2.1 + 1, z.2.2.2) D else (pNote z (fwN D.1 D.2.2.2.1 D.2.2.2.2.1 (lt z.2.2.1)) (nI z.2.2.1), D)
theorem unZ {E : Ev} {σ : Sg} {lt : Fn} {L : Nat} {r0 : Option Value} {Z : PZ} {P : Option Value → Hp → Prop} (H : ∀ fa f a m, Z = (fa, f, a, m) → P r0 (cellOf E (sTx σ (lt, nI L, fa, nI f, nI a, nI m)))) : ∀ r h', Ff r0 (cellOf E (sTx σ (zT lt L Z))) r h' → P r h' := by
  rintro _ _ ⟨rfl, rfl⟩
  obtain ⟨fa, f, a, m⟩ := Z
  exact H fa f a m rfl
theorem unD {E : Ev} {σ : Sg} {j : Nat} {lt : Fn} {L : Nat} {r0 : Option Value} {Z : PZ × DV} {P : Option Value → Hp → Prop} (H : ∀ fa f a m sd du tr np nd kd bd dr dt cr ow, Z = ((fa, f, a, m), (sd, du, tr, np, nd, kd, bd, dr, dt, cr, ow)) → P r0 (cellOf E (sTx (sPar σ j (sd, du, tr, nI np, nI nd, kd, bd, dr, dt, cr, ow)) (lt, nI L, fa, nI f, nI a, nI m)))) : ∀ r h', Ff r0 (cellOf E (sTx (sPar σ j (dP Z.2)) (zT lt L Z.1))) r h' → P r h' := by
  rintro _ _ ⟨rfl, rfl⟩
  obtain ⟨⟨fa, f, a, m⟩, sd, du, tr, np, nd, kd, bd, dr, dt, cr, ow⟩ := Z
  exact H fa f a m sd du tr np nd kd bd dr dt cr ow rfl
theorem c_setTreeT {E : Ev} {σ : Sg} {T : TextV} {j np nd : Nat} {sd du tr : Int32} {kd bd dr dt cr ow : Fn} (hj : j < 2) (hnp : np ≤ 7) (hnd : nd ≤ 9) (a z : Int32) : Ct E yX1_setTree cX1_setTree 3 none ({ frames := 0, cells := 0, slots := 0, locals := 0 } : Room) false 146 [.ref (Ez E + pad j), .int a, .int z] (cellOf E (sTx (sPar σ j (sd, du, tr, nI np, nI nd, kd, bd, dr, dt, cr, ow)) T)) 146 0 0 (Ff none (cellOf E (sTx (sPar σ j (nI 1, z, a, nI np, nI nd, kd, bd, dr, dt, cr, ow)) T))) := c_setTree (σ := sTx σ T) hj hnp hnd a z
theorem c_addPersonT {E : Ev} {σ : Sg} {T : TextV} {j np nd : Nat} {sd du tr : Int32} {kd bd dr dt cr ow : Fn} (hj : j < 2) (hnp : np ≤ 7) (hnd : nd ≤ 9) (a n x : Int32) : Ct E yX1_addPerson cX1_addPerson 4 none ({ frames := 0, cells := 0, slots := 0, locals := 0 } : Room) false 146 [.ref (Ez E + pad j), .int a, .int n, .int x] (cellOf E (sTx (sPar σ j (sd, du, tr, nI np, nI nd, kd, bd, dr, dt, cr, ow)) T)) 146 0 0 (Ff none (cellOf E (sTx (sPar σ j (dP (dAddP (sd, du, tr, np, nd, kd, bd, dr, dt, cr, ow) a n x))) T))) := by rw [dAddP_P]; exact c_addPerson (σ := sTx σ T) hj hnp hnd a n x
theorem c_addDebtT {E : Ev} {σ : Sg} {T : TextV} {j np nd : Nat} {sd du tr : Int32} {kd bd dr dt cr ow : Fn} (hj : j < 2) (hnp : np ≤ 7) (hnd : nd ≤ 9) (a z n : Int32) : Ct E yX1_addDebt cX1_addDebt 4 none ({ frames := 0, cells := 0, slots := 0, locals := 0 } : Room) false 146 [.ref (Ez E + pad j), .int a, .int z, .int n] (cellOf E (sTx (sPar σ j (sd, du, tr, nI np, nI nd, kd, bd, dr, dt, cr, ow)) T)) 146 0 0 (Ff none (cellOf E (sTx (sPar σ j (dP (dAddD (sd, du, tr, np, nd, kd, bd, dr, dt, cr, ow) a z n))) T))) := by rw [dAddD_P]; exact c_addDebt (σ := sTx σ T) hj hnp hnd a z n
theorem c_clearT {E : Ev} {σ : Sg} {T : TextV} {j np nd : Nat} {sd du tr : Int32} {kd bd dr dt cr ow : Fn} (hj : j < 2) (hnp : np ≤ 7) (hnd : nd ≤ 9)  : Ct E yX1_clear cX1_clear 1 none ({ frames := 0, cells := 0, slots := 0, locals := 0 } : Room) false 146 [.ref (Ez E + pad j)] (cellOf E (sTx (sPar σ j (sd, du, tr, nI np, nI nd, kd, bd, dr, dt, cr, ow)) T)) 146 0 0 (Ff none (cellOf E (sTx (sPar σ j (nI 0, nI 0, nI 0, nI 0, nI 0, kd, bd, dr, dt, cr, ow)) T))) := c_clear (σ := sTx σ T) hj hnp hnd
set_option maxHeartbeats 4000000 in
set_option maxRecDepth 100000 in
theorem c_tree {E : Ev} {σ : Sg} {lt : Fn} {L f a m : Nat} {fa : Int32} {j np nd : Nat} {sd du tr : Int32} {kd bd dr dt cr ow : Fn} (hL : L ≤ 240) (ok0 : zOk L (fa, f, a, m)) (hj : j < 2) (hnp : np ≤ 7) (hnd : nd ≤ 9)  : Ct E yX5_readTree cX5_readTree 4 none ({ frames := 2, cells := 0, slots := 0, locals := 45 } : Room) false 146 [.ref (Ez E + 1), .ref (Ez E + pad j)] (cellOf E (sTx (sPar σ j (sd, du, tr, nI np, nI nd, kd, bd, dr, dt, cr, ow)) (lt, nI L, fa, nI f, nI a, nI m))) 146 0 0 (Ff none (cellOf E (sTx (sPar σ j (dP (pTree lt L (fa, f, a, m) (sd, du, tr, np, nd, kd, bd, dr, dt, cr, ow)).2)) (zT lt L (pTree lt L (fa, f, a, m) (sd, du, tr, np, nd, kd, bd, dr, dt, cr, ow)).1)))) := by
  refine Ct.ofV (by decide) (Nat.le_of_ble_eq_true rfl) (fun X hnm => ?_)
  show V E X _ RX5 _ _ _ _ _ _ false 146 0 [(0, .ref (Ez E + 1)), (1, .ref (Ez E + pad j))] [] _
  refine v_aload_n (pc := 0) 0 dX5_readTree_0 rfl rfl ?_
  refine v_iconst (pc := 1) (nI 0) dX5_readTree_1 kI_0 ?_
  refine v_sipush (pc := 2) (nI 999) dX5_readTree_2 kS_999 ?_
  refine v_callV (pc := 5) _ _ k_X5_70 (cTr_obj rfl) rfl (by decide) (c_num hL ok0.1 ok0.2.1 ok0.2.2 _ _) ⟨rfl, rfl, by decide⟩ rfl rfl (Nat.le_of_ble_eq_true rfl) ⟨Nat.le_of_ble_eq_true rfl, Nat.le_of_ble_eq_true rfl⟩ dX5_readTree_5 (unZ (fun fa1 f1 a1 m1 hz1 => ?_))
  have ok1 : zOk L (fa1, f1, a1, m1) := by rw [← hz1]; exact pNum_ok hL ok0
  have okf1 : f1 ≤ 4 := ok1.1
  have oka1 : a1 ≤ L := ok1.2.1
  have okm1 : m1 ≤ 240 := ok1.2.2
  show V E X _ RX5 _ _ _ 0 0 _ false 146 8 _ [_] _
  refine v_istore_n (pc := 8) [1, 2, 0] [(0, _), (1, _), (2, _)] dX5_readTree_8 rfl (by decide) rfl ?_
  refine v_aload_n (pc := 9) 0 dX5_readTree_9 rfl rfl ?_
  refine v_iconst (pc := 10) (nI 1) dX5_readTree_10 kI_1 ?_
  refine v_bipush (pc := 11) (nI 24) dX5_readTree_11 kB_24 ?_
  refine v_callV (pc := 13) _ _ k_X5_70 (cTr_obj rfl) rfl (by decide) (c_num hL ok1.1 ok1.2.1 ok1.2.2 _ _) ⟨rfl, rfl, by decide⟩ rfl rfl (Nat.le_of_ble_eq_true rfl) ⟨Nat.le_of_ble_eq_true rfl, Nat.le_of_ble_eq_true rfl⟩ dX5_readTree_13 (unZ (fun fa2 f2 a2 m2 hz2 => ?_))
  have ok2 : zOk L (fa2, f2, a2, m2) := by rw [← hz2]; exact pNum_ok hL ok1
  have okf2 : f2 ≤ 4 := ok2.1
  have oka2 : a2 ≤ L := ok2.2.1
  have okm2 : m2 ≤ 240 := ok2.2.2
  show V E X _ RX5 _ _ _ 0 0 _ false 146 16 _ [_] _
  refine v_istore_n (pc := 16) [1, 2, 3, 0] [(0, _), (1, _), (2, _), (3, _)] dX5_readTree_16 rfl (by decide) rfl ?_
  refine v_aload_n (pc := 17) 0 dX5_readTree_17 rfl rfl ?_
  refine v_callV (pc := 18) _ _ k_X5_74 (cTr_obj rfl) rfl (by decide) (c_end hL ok2.1 ok2.2.1 ok2.2.2) ⟨rfl, rfl, by decide⟩ rfl rfl (Nat.le_of_ble_eq_true rfl) ⟨Nat.le_of_ble_eq_true rfl, Nat.le_of_ble_eq_true rfl⟩ dX5_readTree_18 (unZ (fun fa3 f3 a3 m3 hz3 => ?_))
  have ok3 : zOk L (fa3, f3, a3, m3) := by rw [← hz3]; exact pEnd_ok ok2
  have okf3 : f3 ≤ 4 := ok3.1
  have oka3 : a3 ≤ L := ok3.2.1
  have okm3 : m3 ≤ 240 := ok3.2.2
  show V E X _ RX5 _ _ _ 0 0 _ false 146 21 _ [] _
  refine v_aload_n (pc := 21) 0 dX5_readTree_21 rfl rfl ?_
  refine g_X5_22 (pc := 22) (cTr_obj rfl) (by decide) rfl dX5_readTree_22 ?_
  refine v_if_neN (pc := 25) (by omega) (tgt := 34) dX5_readTree_25 rfl (fun c_25 => ?_) (fun c_25 => ?_)
  · exact v_vret (pc := 34) dX5_readTree_34 (⟨rfl, by rw [show pTree lt L (fa, f, a, m) (sd, du, tr, np, nd, kd, bd, dr, dt, cr, ow) = pTreeE (pNum lt L (nI 0) (nI 999) (fa, f, a, m)).1 (pNum lt L (nI 1) (nI 24) (fa1, f1, a1, m1)).1 (fa3, f3, a3, m3) (sd, du, tr, np, nd, kd, bd, dr, dt, cr, ow) from by unfold pTree; rw [hz1, hz2, hz3]]; unfold pTreeE; first | (rw [if_pos (show f3 = 0 from by omega)]; done) | (rw [if_neg (show ¬ f3 = 0 from by omega)])⟩)
  · refine v_aload_n (pc := 28) 1 dX5_readTree_28 rfl rfl ?_
    refine v_iload_n (pc := 29) 2 dX5_readTree_29 rfl rfl ?_
    refine v_iload_n (pc := 30) 3 dX5_readTree_30 rfl rfl ?_
    refine v_callV (pc := 31) _ _ k_X5_77 (cPr_obj hj (gP_s σ j _)) rfl (pad_lt0 hj) (c_setTreeT hj hnp hnd _ _) ⟨rfl, rfl, by decide⟩ rfl rfl (Nat.le_of_ble_eq_true rfl) ⟨Nat.le_of_ble_eq_true rfl, Nat.le_of_ble_eq_true rfl⟩ dX5_readTree_31 (unS ?_)
    show V E X _ RX5 _ _ _ 0 0 _ false 146 34 _ [] _
    exact v_vret (pc := 34) dX5_readTree_34 (⟨rfl, by rw [show pTree lt L (fa, f, a, m) (sd, du, tr, np, nd, kd, bd, dr, dt, cr, ow) = pTreeE (pNum lt L (nI 0) (nI 999) (fa, f, a, m)).1 (pNum lt L (nI 1) (nI 24) (fa1, f1, a1, m1)).1 (fa3, f3, a3, m3) (sd, du, tr, np, nd, kd, bd, dr, dt, cr, ow) from by unfold pTree; rw [hz1, hz2, hz3]]; unfold pTreeE; first | (rw [if_pos (show f3 = 0 from by omega)]; done) | (rw [if_neg (show ¬ f3 = 0 from by omega)])⟩)
set_option maxHeartbeats 4000000 in
set_option maxRecDepth 100000 in
theorem c_pers {E : Ev} {σ : Sg} {lt : Fn} {L f a m : Nat} {fa : Int32} {j np nd : Nat} {sd du tr : Int32} {kd bd dr dt cr ow : Fn} (hL : L ≤ 240) (ok0 : zOk L (fa, f, a, m)) (hj : j < 2) (hnp : np ≤ 7) (hnd : nd ≤ 9)  : Ct E yX5_readPerson cX5_readPerson 5 none ({ frames := 2, cells := 0, slots := 0, locals := 45 } : Room) false 146 [.ref (Ez E + 1), .ref (Ez E + pad j)] (cellOf E (sTx (sPar σ j (sd, du, tr, nI np, nI nd, kd, bd, dr, dt, cr, ow)) (lt, nI L, fa, nI f, nI a, nI m))) 146 0 0 (Ff none (cellOf E (sTx (sPar σ j (dP (pPers lt L (fa, f, a, m) (sd, du, tr, np, nd, kd, bd, dr, dt, cr, ow)).2)) (zT lt L (pPers lt L (fa, f, a, m) (sd, du, tr, np, nd, kd, bd, dr, dt, cr, ow)).1)))) := by
  refine Ct.ofV (by decide) (Nat.le_of_ble_eq_true rfl) (fun X hnm => ?_)
  show V E X _ RX5 _ _ _ _ _ _ false 146 0 [(0, .ref (Ez E + 1)), (1, .ref (Ez E + pad j))] [] _
  refine v_aload_n (pc := 0) 0 dX5_readPerson_0 rfl rfl ?_
  refine v_iconst (pc := 1) (nI 0) dX5_readPerson_1 kI_0 ?_
  refine v_iconst (pc := 2) (nI 4) dX5_readPerson_2 kI_4 ?_
  refine v_callV (pc := 3) _ _ k_X5_70 (cTr_obj rfl) rfl (by decide) (c_num hL ok0.1 ok0.2.1 ok0.2.2 _ _) ⟨rfl, rfl, by decide⟩ rfl rfl (Nat.le_of_ble_eq_true rfl) ⟨Nat.le_of_ble_eq_true rfl, Nat.le_of_ble_eq_true rfl⟩ dX5_readPerson_3 (unZ (fun fa1 f1 a1 m1 hz1 => ?_))
  have ok1 : zOk L (fa1, f1, a1, m1) := by rw [← hz1]; exact pNum_ok hL ok0
  have okf1 : f1 ≤ 4 := ok1.1
  have oka1 : a1 ≤ L := ok1.2.1
  have okm1 : m1 ≤ 240 := ok1.2.2
  show V E X _ RX5 _ _ _ 0 0 _ false 146 6 _ [_] _
  refine v_istore_n (pc := 6) [1, 2, 0] [(0, _), (1, _), (2, _)] dX5_readPerson_6 rfl (by decide) rfl ?_
  refine v_aload_n (pc := 7) 0 dX5_readPerson_7 rfl rfl ?_
  refine v_iconst (pc := 8) (nI 0) dX5_readPerson_8 kI_0 ?_
  refine v_bipush (pc := 9) (nI 99) dX5_readPerson_9 kB_99 ?_
  refine v_callV (pc := 11) _ _ k_X5_70 (cTr_obj rfl) rfl (by decide) (c_num hL ok1.1 ok1.2.1 ok1.2.2 _ _) ⟨rfl, rfl, by decide⟩ rfl rfl (Nat.le_of_ble_eq_true rfl) ⟨Nat.le_of_ble_eq_true rfl, Nat.le_of_ble_eq_true rfl⟩ dX5_readPerson_11 (unZ (fun fa2 f2 a2 m2 hz2 => ?_))
  have ok2 : zOk L (fa2, f2, a2, m2) := by rw [← hz2]; exact pNum_ok hL ok1
  have okf2 : f2 ≤ 4 := ok2.1
  have oka2 : a2 ≤ L := ok2.2.1
  have okm2 : m2 ≤ 240 := ok2.2.2
  show V E X _ RX5 _ _ _ 0 0 _ false 146 14 _ [_] _
  refine v_istore_n (pc := 14) [1, 2, 3, 0] [(0, _), (1, _), (2, _), (3, _)] dX5_readPerson_14 rfl (by decide) rfl ?_
  refine v_aload_n (pc := 15) 0 dX5_readPerson_15 rfl rfl ?_
  refine v_iconst (pc := 16) (nI 0) dX5_readPerson_16 kI_0 ?_
  refine v_bipush (pc := 17) (nI 50) dX5_readPerson_17 kB_50 ?_
  refine v_callV (pc := 19) _ _ k_X5_70 (cTr_obj rfl) rfl (by decide) (c_num hL ok2.1 ok2.2.1 ok2.2.2 _ _) ⟨rfl, rfl, by decide⟩ rfl rfl (Nat.le_of_ble_eq_true rfl) ⟨Nat.le_of_ble_eq_true rfl, Nat.le_of_ble_eq_true rfl⟩ dX5_readPerson_19 (unZ (fun fa3 f3 a3 m3 hz3 => ?_))
  have ok3 : zOk L (fa3, f3, a3, m3) := by rw [← hz3]; exact pNum_ok hL ok2
  have okf3 : f3 ≤ 4 := ok3.1
  have oka3 : a3 ≤ L := ok3.2.1
  have okm3 : m3 ≤ 240 := ok3.2.2
  show V E X _ RX5 _ _ _ 0 0 _ false 146 22 _ [_] _
  refine v_istore (pc := 22) [1, 2, 3, 4, 0] [(0, _), (1, _), (2, _), (3, _), (4, _)] dX5_readPerson_22 (by decide) rfl ?_
  refine v_aload_n (pc := 24) 0 dX5_readPerson_24 rfl rfl ?_
  refine v_callV (pc := 25) _ _ k_X5_74 (cTr_obj rfl) rfl (by decide) (c_end hL ok3.1 ok3.2.1 ok3.2.2) ⟨rfl, rfl, by decide⟩ rfl rfl (Nat.le_of_ble_eq_true rfl) ⟨Nat.le_of_ble_eq_true rfl, Nat.le_of_ble_eq_true rfl⟩ dX5_readPerson_25 (unZ (fun fa4 f4 a4 m4 hz4 => ?_))
  have ok4 : zOk L (fa4, f4, a4, m4) := by rw [← hz4]; exact pEnd_ok ok3
  have okf4 : f4 ≤ 4 := ok4.1
  have oka4 : a4 ≤ L := ok4.2.1
  have okm4 : m4 ≤ 240 := ok4.2.2
  show V E X _ RX5 _ _ _ 0 0 _ false 146 28 _ [] _
  refine v_aload_n (pc := 28) 0 dX5_readPerson_28 rfl rfl ?_
  refine g_X5_22 (pc := 29) (cTr_obj rfl) (by decide) rfl dX5_readPerson_29 ?_
  refine v_if_neN (pc := 32) (by omega) (tgt := 43) dX5_readPerson_32 rfl (fun c_32 => ?_) (fun c_32 => ?_)
  · exact v_vret (pc := 43) dX5_readPerson_43 (⟨rfl, by rw [show pPers lt L (fa, f, a, m) (sd, du, tr, np, nd, kd, bd, dr, dt, cr, ow) = pPersE (pNum lt L (nI 0) (nI 4) (fa, f, a, m)).1 (pNum lt L (nI 0) (nI 99) (fa1, f1, a1, m1)).1 (pNum lt L (nI 0) (nI 50) (fa2, f2, a2, m2)).1 (fa4, f4, a4, m4) (sd, du, tr, np, nd, kd, bd, dr, dt, cr, ow) from by unfold pPers pPers1 pPers2 pPers3; rw [hz1, hz2, hz3, hz4]]; unfold pPersE; first | (rw [if_pos (show f4 = 0 from by omega)]; done) | (rw [if_neg (show ¬ f4 = 0 from by omega)])⟩)
  · refine v_aload_n (pc := 35) 1 dX5_readPerson_35 rfl rfl ?_
    refine v_iload_n (pc := 36) 2 dX5_readPerson_36 rfl rfl ?_
    refine v_iload_n (pc := 37) 3 dX5_readPerson_37 rfl rfl ?_
    refine v_iload (pc := 38) 4 dX5_readPerson_38 rfl ?_
    refine v_callV (pc := 40) _ _ k_X5_80 (cPr_obj hj (gP_s σ j _)) rfl (pad_lt0 hj) (c_addPersonT hj hnp hnd _ _ _) ⟨rfl, rfl, by decide⟩ rfl rfl (Nat.le_of_ble_eq_true rfl) ⟨Nat.le_of_ble_eq_true rfl, Nat.le_of_ble_eq_true rfl⟩ dX5_readPerson_40 (unS ?_)
    show V E X _ RX5 _ _ _ 0 0 _ false 146 43 _ [] _
    exact v_vret (pc := 43) dX5_readPerson_43 (⟨rfl, by rw [show pPers lt L (fa, f, a, m) (sd, du, tr, np, nd, kd, bd, dr, dt, cr, ow) = pPersE (pNum lt L (nI 0) (nI 4) (fa, f, a, m)).1 (pNum lt L (nI 0) (nI 99) (fa1, f1, a1, m1)).1 (pNum lt L (nI 0) (nI 50) (fa2, f2, a2, m2)).1 (fa4, f4, a4, m4) (sd, du, tr, np, nd, kd, bd, dr, dt, cr, ow) from by unfold pPers pPers1 pPers2 pPers3; rw [hz1, hz2, hz3, hz4]]; unfold pPersE; first | (rw [if_pos (show f4 = 0 from by omega)]; done) | (rw [if_neg (show ¬ f4 = 0 from by omega)])⟩)
set_option maxHeartbeats 4000000 in
set_option maxRecDepth 100000 in
theorem c_debt {E : Ev} {σ : Sg} {lt : Fn} {L f a m : Nat} {fa : Int32} {j np nd : Nat} {sd du tr : Int32} {kd bd dr dt cr ow : Fn} (hL : L ≤ 240) (ok0 : zOk L (fa, f, a, m)) (hj : j < 2) (hnp : np ≤ 7) (hnd : nd ≤ 9)  : Ct E yX5_readDebt cX5_readDebt 5 none ({ frames := 2, cells := 0, slots := 0, locals := 45 } : Room) false 146 [.ref (Ez E + 1), .ref (Ez E + pad j)] (cellOf E (sTx (sPar σ j (sd, du, tr, nI np, nI nd, kd, bd, dr, dt, cr, ow)) (lt, nI L, fa, nI f, nI a, nI m))) 146 0 0 (Ff none (cellOf E (sTx (sPar σ j (dP (pDebt lt L (fa, f, a, m) (sd, du, tr, np, nd, kd, bd, dr, dt, cr, ow)).2)) (zT lt L (pDebt lt L (fa, f, a, m) (sd, du, tr, np, nd, kd, bd, dr, dt, cr, ow)).1)))) := by
  refine Ct.ofV (by decide) (Nat.le_of_ble_eq_true rfl) (fun X hnm => ?_)
  show V E X _ RX5 _ _ _ _ _ _ false 146 0 [(0, .ref (Ez E + 1)), (1, .ref (Ez E + pad j))] [] _
  refine v_aload_n (pc := 0) 0 dX5_readDebt_0 rfl rfl ?_
  refine v_iconst (pc := 1) (nI 0) dX5_readDebt_1 kI_0 ?_
  refine v_aload_n (pc := 2) 1 dX5_readDebt_2 rfl rfl ?_
  refine g_X5_64 (pc := 3) (cPr_obj hj (gP_s σ j _)) (pad_lt0 hj) rfl dX5_readDebt_3 ?_
  refine v_iconst (pc := 6) (nI 1) dX5_readDebt_6 kI_1 ?_
  refine v_isub (pc := 7) dX5_readDebt_7 ?_
  refine v_callV (pc := 8) _ _ k_X5_70 (cTr_obj rfl) rfl (by decide) (c_num hL ok0.1 ok0.2.1 ok0.2.2 _ _) ⟨rfl, rfl, by decide⟩ rfl rfl (Nat.le_of_ble_eq_true rfl) ⟨Nat.le_of_ble_eq_true rfl, Nat.le_of_ble_eq_true rfl⟩ dX5_readDebt_8 (unZ (fun fa1 f1 a1 m1 hz1 => ?_))
  have ok1 : zOk L (fa1, f1, a1, m1) := by rw [← hz1]; exact pNum_ok hL ok0
  have okf1 : f1 ≤ 4 := ok1.1
  have oka1 : a1 ≤ L := ok1.2.1
  have okm1 : m1 ≤ 240 := ok1.2.2
  show V E X _ RX5 _ _ _ 0 0 _ false 146 11 _ [_] _
  refine v_istore_n (pc := 11) [1, 2, 0] [(0, _), (1, _), (2, _)] dX5_readDebt_11 rfl (by decide) rfl ?_
  refine v_aload_n (pc := 12) 0 dX5_readDebt_12 rfl rfl ?_
  refine v_iconst (pc := 13) (nI 0) dX5_readDebt_13 kI_0 ?_
  refine v_aload_n (pc := 14) 1 dX5_readDebt_14 rfl rfl ?_
  refine g_X5_64 (pc := 15) (cPr_obj hj (gP_s σ j _)) (pad_lt0 hj) rfl dX5_readDebt_15 ?_
  refine v_iconst (pc := 18) (nI 1) dX5_readDebt_18 kI_1 ?_
  refine v_isub (pc := 19) dX5_readDebt_19 ?_
  refine v_callV (pc := 20) _ _ k_X5_70 (cTr_obj rfl) rfl (by decide) (c_num hL ok1.1 ok1.2.1 ok1.2.2 _ _) ⟨rfl, rfl, by decide⟩ rfl rfl (Nat.le_of_ble_eq_true rfl) ⟨Nat.le_of_ble_eq_true rfl, Nat.le_of_ble_eq_true rfl⟩ dX5_readDebt_20 (unZ (fun fa2 f2 a2 m2 hz2 => ?_))
  have ok2 : zOk L (fa2, f2, a2, m2) := by rw [← hz2]; exact pNum_ok hL ok1
  have okf2 : f2 ≤ 4 := ok2.1
  have oka2 : a2 ≤ L := ok2.2.1
  have okm2 : m2 ≤ 240 := ok2.2.2
  show V E X _ RX5 _ _ _ 0 0 _ false 146 23 _ [_] _
  refine v_istore_n (pc := 23) [1, 2, 3, 0] [(0, _), (1, _), (2, _), (3, _)] dX5_readDebt_23 rfl (by decide) rfl ?_
  refine v_iload_n (pc := 24) 2 dX5_readDebt_24 rfl rfl ?_
  refine v_iload_n (pc := 25) 3 dX5_readDebt_25 rfl rfl ?_
  refine v_icmp_ne (pc := 26) (tgt := 38) dX5_readDebt_26 rfl (fun c_26 => ?_) (fun c_26 => ?_)
  · refine v_aload_n (pc := 38) 0 dX5_readDebt_38 rfl rfl ?_
    refine v_iconst (pc := 39) (nI 1) dX5_readDebt_39 kI_1 ?_
    refine v_bipush (pc := 40) (nI 99) dX5_readDebt_40 kB_99 ?_
    refine v_callV (pc := 42) _ _ k_X5_70 (cTr_obj rfl) rfl (by decide) (c_num hL ok2.1 ok2.2.1 ok2.2.2 _ _) ⟨rfl, rfl, by decide⟩ rfl rfl (Nat.le_of_ble_eq_true rfl) ⟨Nat.le_of_ble_eq_true rfl, Nat.le_of_ble_eq_true rfl⟩ dX5_readDebt_42 (unZ (fun fa3 f3 a3 m3 hz3 => ?_))
    have ok3 : zOk L (fa3, f3, a3, m3) := by rw [← hz3]; exact pNum_ok hL ok2
    have okf3 : f3 ≤ 4 := ok3.1
    have oka3 : a3 ≤ L := ok3.2.1
    have okm3 : m3 ≤ 240 := ok3.2.2
    show V E X _ RX5 _ _ _ 0 0 _ false 146 45 _ [_] _
    refine v_istore (pc := 45) [1, 2, 3, 4, 0] [(0, _), (1, _), (2, _), (3, _), (4, _)] dX5_readDebt_45 (by decide) rfl ?_
    refine v_aload_n (pc := 47) 0 dX5_readDebt_47 rfl rfl ?_
    refine v_callV (pc := 48) _ _ k_X5_74 (cTr_obj rfl) rfl (by decide) (c_end hL ok3.1 ok3.2.1 ok3.2.2) ⟨rfl, rfl, by decide⟩ rfl rfl (Nat.le_of_ble_eq_true rfl) ⟨Nat.le_of_ble_eq_true rfl, Nat.le_of_ble_eq_true rfl⟩ dX5_readDebt_48 (unZ (fun fa4 f4 a4 m4 hz4 => ?_))
    have ok4 : zOk L (fa4, f4, a4, m4) := by rw [← hz4]; exact pEnd_ok ok3
    have okf4 : f4 ≤ 4 := ok4.1
    have oka4 : a4 ≤ L := ok4.2.1
    have okm4 : m4 ≤ 240 := ok4.2.2
    show V E X _ RX5 _ _ _ 0 0 _ false 146 51 _ [] _
    refine v_aload_n (pc := 51) 0 dX5_readDebt_51 rfl rfl ?_
    refine g_X5_22 (pc := 52) (cTr_obj rfl) (by decide) rfl dX5_readDebt_52 ?_
    refine v_if_neN (pc := 55) (by omega) (tgt := 66) dX5_readDebt_55 rfl (fun c_55 => ?_) (fun c_55 => ?_)
    · exact v_vret (pc := 66) dX5_readDebt_66 (⟨rfl, by rw [show pDebt lt L (fa, f, a, m) (sd, du, tr, np, nd, kd, bd, dr, dt, cr, ow) = pDebtE (pNum lt L (nI 0) (nI np - nI 1) (fa, f, a, m)).1 (pNum lt L (nI 0) (nI np - nI 1) (fa1, f1, a1, m1)).1 (pNum lt L (nI 1) (nI 99) (fa2, f2, a2, m2)).1 (fa4, f4, a4, m4) (sd, du, tr, np, nd, kd, bd, dr, dt, cr, ow) from by unfold pDebt pDebt1 pDebt2 pDebt3; rw [hz1, hz2, if_neg c_26, hz3, hz4]]; unfold pDebtE; first | (rw [if_pos (show f4 = 0 from by omega)]; done) | (rw [if_neg (show ¬ f4 = 0 from by omega)])⟩)
    · refine v_aload_n (pc := 58) 1 dX5_readDebt_58 rfl rfl ?_
      refine v_iload_n (pc := 59) 2 dX5_readDebt_59 rfl rfl ?_
      refine v_iload_n (pc := 60) 3 dX5_readDebt_60 rfl rfl ?_
      refine v_iload (pc := 61) 4 dX5_readDebt_61 rfl ?_
      refine v_callV (pc := 63) _ _ k_X5_84 (cPr_obj hj (gP_s σ j _)) rfl (pad_lt0 hj) (c_addDebtT hj hnp hnd _ _ _) ⟨rfl, rfl, by decide⟩ rfl rfl (Nat.le_of_ble_eq_true rfl) ⟨Nat.le_of_ble_eq_true rfl, Nat.le_of_ble_eq_true rfl⟩ dX5_readDebt_63 (unS ?_)
      show V E X _ RX5 _ _ _ 0 0 _ false 146 66 _ [] _
      exact v_vret (pc := 66) dX5_readDebt_66 (⟨rfl, by rw [show pDebt lt L (fa, f, a, m) (sd, du, tr, np, nd, kd, bd, dr, dt, cr, ow) = pDebtE (pNum lt L (nI 0) (nI np - nI 1) (fa, f, a, m)).1 (pNum lt L (nI 0) (nI np - nI 1) (fa1, f1, a1, m1)).1 (pNum lt L (nI 1) (nI 99) (fa2, f2, a2, m2)).1 (fa4, f4, a4, m4) (sd, du, tr, np, nd, kd, bd, dr, dt, cr, ow) from by unfold pDebt pDebt1 pDebt2 pDebt3; rw [hz1, hz2, if_neg c_26, hz3, hz4]]; unfold pDebtE; first | (rw [if_pos (show f4 = 0 from by omega)]; done) | (rw [if_neg (show ¬ f4 = 0 from by omega)])⟩)
  · refine v_aload_n (pc := 29) 0 dX5_readDebt_29 rfl rfl ?_
    refine v_iconst (pc := 30) (nI 4) dX5_readDebt_30 kI_4 ?_
    refine v_aload_n (pc := 31) 0 dX5_readDebt_31 rfl rfl ?_
    refine g_X5_28 (pc := 32) (cTr_obj rfl) (by decide) rfl dX5_readDebt_32 ?_
    refine v_callV (pc := 35) _ _ k_X5_47 (cTr_obj rfl) rfl (by decide) (c_noteF hL ok2.1 ok2.2.1 ok2.2.2 (by first | decide | exact fwN_le _ _ _ _) _) ⟨rfl, rfl, by decide⟩ rfl rfl (Nat.le_of_ble_eq_true rfl) ⟨Nat.le_of_ble_eq_true rfl, Nat.le_of_ble_eq_true rfl⟩ dX5_readDebt_35 (unZ (fun fa3 f3 a3 m3 hz3 => ?_))
    have ok3 : zOk L (fa3, f3, a3, m3) := by rw [← hz3]; exact pNote_ok ok2 (by first | decide | exact fwN_le _ _ _ _)
    have okf3 : f3 ≤ 4 := ok3.1
    have oka3 : a3 ≤ L := ok3.2.1
    have okm3 : m3 ≤ 240 := ok3.2.2
    show V E X _ RX5 _ _ _ 0 0 _ false 146 38 _ [] _
    refine v_aload_n (pc := 38) 0 dX5_readDebt_38 rfl rfl ?_
    refine v_iconst (pc := 39) (nI 1) dX5_readDebt_39 kI_1 ?_
    refine v_bipush (pc := 40) (nI 99) dX5_readDebt_40 kB_99 ?_
    refine v_callV (pc := 42) _ _ k_X5_70 (cTr_obj rfl) rfl (by decide) (c_num hL ok3.1 ok3.2.1 ok3.2.2 _ _) ⟨rfl, rfl, by decide⟩ rfl rfl (Nat.le_of_ble_eq_true rfl) ⟨Nat.le_of_ble_eq_true rfl, Nat.le_of_ble_eq_true rfl⟩ dX5_readDebt_42 (unZ (fun fa4 f4 a4 m4 hz4 => ?_))
    have ok4 : zOk L (fa4, f4, a4, m4) := by rw [← hz4]; exact pNum_ok hL ok3
    have okf4 : f4 ≤ 4 := ok4.1
    have oka4 : a4 ≤ L := ok4.2.1
    have okm4 : m4 ≤ 240 := ok4.2.2
    show V E X _ RX5 _ _ _ 0 0 _ false 146 45 _ [_] _
    refine v_istore (pc := 45) [1, 2, 3, 4, 0] [(0, _), (1, _), (2, _), (3, _), (4, _)] dX5_readDebt_45 (by decide) rfl ?_
    refine v_aload_n (pc := 47) 0 dX5_readDebt_47 rfl rfl ?_
    refine v_callV (pc := 48) _ _ k_X5_74 (cTr_obj rfl) rfl (by decide) (c_end hL ok4.1 ok4.2.1 ok4.2.2) ⟨rfl, rfl, by decide⟩ rfl rfl (Nat.le_of_ble_eq_true rfl) ⟨Nat.le_of_ble_eq_true rfl, Nat.le_of_ble_eq_true rfl⟩ dX5_readDebt_48 (unZ (fun fa5 f5 a5 m5 hz5 => ?_))
    have ok5 : zOk L (fa5, f5, a5, m5) := by rw [← hz5]; exact pEnd_ok ok4
    have okf5 : f5 ≤ 4 := ok5.1
    have oka5 : a5 ≤ L := ok5.2.1
    have okm5 : m5 ≤ 240 := ok5.2.2
    show V E X _ RX5 _ _ _ 0 0 _ false 146 51 _ [] _
    refine v_aload_n (pc := 51) 0 dX5_readDebt_51 rfl rfl ?_
    refine g_X5_22 (pc := 52) (cTr_obj rfl) (by decide) rfl dX5_readDebt_52 ?_
    refine v_if_neN (pc := 55) (by omega) (tgt := 66) dX5_readDebt_55 rfl (fun c_55 => ?_) (fun c_55 => ?_)
    · exact v_vret (pc := 66) dX5_readDebt_66 (⟨rfl, by rw [show pDebt lt L (fa, f, a, m) (sd, du, tr, np, nd, kd, bd, dr, dt, cr, ow) = pDebtE (pNum lt L (nI 0) (nI np - nI 1) (fa, f, a, m)).1 (pNum lt L (nI 0) (nI np - nI 1) (fa1, f1, a1, m1)).1 (pNum lt L (nI 1) (nI 99) (fa3, f3, a3, m3)).1 (fa5, f5, a5, m5) (sd, du, tr, np, nd, kd, bd, dr, dt, cr, ow) from by unfold pDebt pDebt1 pDebt2 pDebt3; rw [hz1, hz2, if_pos c_26, hz3, hz4, hz5]]; unfold pDebtE; first | (rw [if_pos (show f5 = 0 from by omega)]; done) | (rw [if_neg (show ¬ f5 = 0 from by omega)])⟩)
    · refine v_aload_n (pc := 58) 1 dX5_readDebt_58 rfl rfl ?_
      refine v_iload_n (pc := 59) 2 dX5_readDebt_59 rfl rfl ?_
      refine v_iload_n (pc := 60) 3 dX5_readDebt_60 rfl rfl ?_
      refine v_iload (pc := 61) 4 dX5_readDebt_61 rfl ?_
      refine v_callV (pc := 63) _ _ k_X5_84 (cPr_obj hj (gP_s σ j _)) rfl (pad_lt0 hj) (c_addDebtT hj hnp hnd _ _ _) ⟨rfl, rfl, by decide⟩ rfl rfl (Nat.le_of_ble_eq_true rfl) ⟨Nat.le_of_ble_eq_true rfl, Nat.le_of_ble_eq_true rfl⟩ dX5_readDebt_63 (unS ?_)
      show V E X _ RX5 _ _ _ 0 0 _ false 146 66 _ [] _
      exact v_vret (pc := 66) dX5_readDebt_66 (⟨rfl, by rw [show pDebt lt L (fa, f, a, m) (sd, du, tr, np, nd, kd, bd, dr, dt, cr, ow) = pDebtE (pNum lt L (nI 0) (nI np - nI 1) (fa, f, a, m)).1 (pNum lt L (nI 0) (nI np - nI 1) (fa1, f1, a1, m1)).1 (pNum lt L (nI 1) (nI 99) (fa3, f3, a3, m3)).1 (fa5, f5, a5, m5) (sd, du, tr, np, nd, kd, bd, dr, dt, cr, ow) from by unfold pDebt pDebt1 pDebt2 pDebt3; rw [hz1, hz2, if_pos c_26, hz3, hz4, hz5]]; unfold pDebtE; first | (rw [if_pos (show f5 = 0 from by omega)]; done) | (rw [if_neg (show ¬ f5 = 0 from by omega)])⟩)
set_option maxHeartbeats 4000000 in
set_option maxRecDepth 100000 in
theorem c_fw {E : Ev} {σ : Sg} {j np nd : Nat} {sd du tr : Int32} {kd bd dr dt cr ow : Fn} (hj : j < 2) (hP : gP σ j = (sd, du, tr, nI np, nI nd, kd, bd, dr, dt, cr, ow)) (hnp : np ≤ 7) (hnd : nd ≤ 9) (x : Int32) : Ct E yX5_faultOfWord cX5_faultOfWord 2 (some .int) ({ frames := 0, cells := 0, slots := 0, locals := 0 } : Room) false 146 [.ref (Ez E + pad j), .int x] (cellOf E σ) 146 0 0 (Ff (some (.int (nI (fwN sd np nd x)))) (cellOf E σ)) := by
  refine Ct.ofV (by decide) (Nat.le_of_ble_eq_true rfl) (fun X hnm => ?_)
  show V E X _ RX5 _ _ _ _ _ _ false 146 0 [(0, .ref (Ez E + pad j)), (1, .int x)] [] _
  refine v_iload_n (pc := 0) 1 dX5_faultOfWord_0 rfl rfl ?_
  by_cases w100 : x = nI 100
  · refine v_lookup (pc := 1) (off := 74) (tgt := 75) dX5_faultOfWord_1 (by decide) (by rw [w100]; decide) rfl ?_
    refine v_aload_n (pc := 75) 0 dX5_faultOfWord_75 rfl rfl ?_
    refine g_X5_60 (pc := 76) (cPr_obj hj hP) (pad_lt0 hj) rfl dX5_faultOfWord_76 ?_
    refine v_if_ne (pc := 79) (tgt := 86) dX5_faultOfWord_79 rfl (fun c_79 => ?_) (fun c_79 => ?_)
    · refine v_aload_n (pc := 86) 0 dX5_faultOfWord_86 rfl rfl ?_
      refine g_X5_67 (pc := 87) (cPr_obj hj hP) (pad_lt0 hj) rfl dX5_faultOfWord_87 ?_
      refine v_bipush (pc := 90) (nI 9) dX5_faultOfWord_90 kB_9 ?_
      refine v_icmp_ltN (pc := 92) (by omega) (by omega) (tgt := 99) dX5_faultOfWord_92 rfl (fun c_92 => ?_) (fun c_92 => ?_)
      · refine v_iconst (pc := 99) (nI 0) dX5_faultOfWord_99 kI_0 ?_
        exact v_iret (pc := 100) dX5_faultOfWord_100 (⟨by unfold fwN; rw [if_neg (show ¬ x = nI 116 from fun e => by rw [e] at w100; revert w100; decide), if_neg (show ¬ x = nI 112 from fun e => by rw [e] at w100; revert w100; decide), if_pos w100]; first | (rw [if_pos (by assumption)]; done) | (rw [if_neg (by assumption)]; first | (rw [if_pos (by omega)]; done) | (rw [if_neg (by omega)])), rfl⟩)
      · refine v_iconst (pc := 95) (nI 3) dX5_faultOfWord_95 kI_3 ?_
        refine v_goto (pc := 96) (tgt := 100) dX5_faultOfWord_96 rfl ?_
        exact v_iret (pc := 100) dX5_faultOfWord_100 (⟨by unfold fwN; rw [if_neg (show ¬ x = nI 116 from fun e => by rw [e] at w100; revert w100; decide), if_neg (show ¬ x = nI 112 from fun e => by rw [e] at w100; revert w100; decide), if_pos w100]; first | (rw [if_pos (by assumption)]; done) | (rw [if_neg (by assumption)]; first | (rw [if_pos (by omega)]; done) | (rw [if_neg (by omega)])), rfl⟩)
    · refine v_iconst (pc := 82) (nI 1) dX5_faultOfWord_82 kI_1 ?_
      refine v_goto (pc := 83) (tgt := 100) dX5_faultOfWord_83 rfl ?_
      exact v_iret (pc := 100) dX5_faultOfWord_100 (⟨by unfold fwN; rw [if_neg (show ¬ x = nI 116 from fun e => by rw [e] at w100; revert w100; decide), if_neg (show ¬ x = nI 112 from fun e => by rw [e] at w100; revert w100; decide), if_pos w100]; first | (rw [if_pos (by assumption)]; done) | (rw [if_neg (by assumption)]; first | (rw [if_pos (by omega)]; done) | (rw [if_neg (by omega)])), rfl⟩)
  by_cases w112 : x = nI 112
  · refine v_lookup (pc := 1) (off := 48) (tgt := 49) dX5_faultOfWord_1 (by decide) (by rw [w112]; decide) rfl ?_
    refine v_aload_n (pc := 49) 0 dX5_faultOfWord_49 rfl rfl ?_
    refine g_X5_60 (pc := 50) (cPr_obj hj hP) (pad_lt0 hj) rfl dX5_faultOfWord_50 ?_
    refine v_if_ne (pc := 53) (tgt := 60) dX5_faultOfWord_53 rfl (fun c_53 => ?_) (fun c_53 => ?_)
    · refine v_aload_n (pc := 60) 0 dX5_faultOfWord_60 rfl rfl ?_
      refine g_X5_64 (pc := 61) (cPr_obj hj hP) (pad_lt0 hj) rfl dX5_faultOfWord_61 ?_
      refine v_bipush (pc := 64) (nI 7) dX5_faultOfWord_64 kB_7 ?_
      refine v_icmp_ltN (pc := 66) (by omega) (by omega) (tgt := 73) dX5_faultOfWord_66 rfl (fun c_66 => ?_) (fun c_66 => ?_)
      · refine v_iconst (pc := 73) (nI 0) dX5_faultOfWord_73 kI_0 ?_
        exact v_iret (pc := 74) dX5_faultOfWord_74 (⟨by unfold fwN; rw [if_neg (show ¬ x = nI 116 from fun e => by rw [e] at w112; revert w112; decide), if_pos w112]; first | (rw [if_pos (by assumption)]; done) | (rw [if_neg (by assumption)]; first | (rw [if_pos (by omega)]; done) | (rw [if_neg (by omega)])), rfl⟩)
      · refine v_iconst (pc := 69) (nI 3) dX5_faultOfWord_69 kI_3 ?_
        refine v_goto (pc := 70) (tgt := 74) dX5_faultOfWord_70 rfl ?_
        exact v_iret (pc := 74) dX5_faultOfWord_74 (⟨by unfold fwN; rw [if_neg (show ¬ x = nI 116 from fun e => by rw [e] at w112; revert w112; decide), if_pos w112]; first | (rw [if_pos (by assumption)]; done) | (rw [if_neg (by assumption)]; first | (rw [if_pos (by omega)]; done) | (rw [if_neg (by omega)])), rfl⟩)
    · refine v_iconst (pc := 56) (nI 1) dX5_faultOfWord_56 kI_1 ?_
      refine v_goto (pc := 57) (tgt := 74) dX5_faultOfWord_57 rfl ?_
      exact v_iret (pc := 74) dX5_faultOfWord_74 (⟨by unfold fwN; rw [if_neg (show ¬ x = nI 116 from fun e => by rw [e] at w112; revert w112; decide), if_pos w112]; first | (rw [if_pos (by assumption)]; done) | (rw [if_neg (by assumption)]; first | (rw [if_pos (by omega)]; done) | (rw [if_neg (by omega)])), rfl⟩)
  by_cases w116 : x = nI 116
  · refine v_lookup (pc := 1) (off := 35) (tgt := 36) dX5_faultOfWord_1 (by decide) (by rw [w116]; decide) rfl ?_
    refine v_aload_n (pc := 36) 0 dX5_faultOfWord_36 rfl rfl ?_
    refine g_X5_60 (pc := 37) (cPr_obj hj hP) (pad_lt0 hj) rfl dX5_faultOfWord_37 ?_
    refine v_if_eq (pc := 40) (tgt := 47) dX5_faultOfWord_40 rfl (fun c_40 => ?_) (fun c_40 => ?_)
    · refine v_iconst (pc := 47) (nI 0) dX5_faultOfWord_47 kI_0 ?_
      exact v_iret (pc := 48) dX5_faultOfWord_48 (⟨by unfold fwN; rw [if_pos w116]; first | (rw [if_pos (by assumption)]; done) | (rw [if_neg (by assumption)]), rfl⟩)
    · refine v_iconst (pc := 43) (nI 3) dX5_faultOfWord_43 kI_3 ?_
      refine v_goto (pc := 44) (tgt := 48) dX5_faultOfWord_44 rfl ?_
      exact v_iret (pc := 48) dX5_faultOfWord_48 (⟨by unfold fwN; rw [if_pos w116]; first | (rw [if_pos (by assumption)]; done) | (rw [if_neg (by assumption)]), rfl⟩)
  refine v_lookup (pc := 1) (off := 100) (tgt := 101) dX5_faultOfWord_1 (by decide) (by show Op.lookupswitch.offset [(100, 74), (112, 48), (116, 35)] 100 x.toInt = _; rw [lv_osw w100 (by decide), lv_osw w112 (by decide), lv_osw w116 (by decide)]; rfl) rfl ?_
  refine v_iconst (pc := 101) (nI 1) dX5_faultOfWord_101 kI_1 ?_
  exact v_iret (pc := 102) dX5_faultOfWord_102 (⟨by unfold fwN; rw [if_neg w116, if_neg w112, if_neg w100], rfl⟩)
theorem c_fwT {E : Ev} {σ : Sg} {T : TextV} {j np nd : Nat} {sd du tr : Int32} {kd bd dr dt cr ow : Fn} (hj : j < 2) (hnp : np ≤ 7) (hnd : nd ≤ 9) (x : Int32) : Ct E yX5_faultOfWord cX5_faultOfWord 2 (some .int) ({ frames := 0, cells := 0, slots := 0, locals := 0 } : Room) false 146 [.ref (Ez E + pad j), .int x] (cellOf E (sTx (sPar σ j (sd, du, tr, nI np, nI nd, kd, bd, dr, dt, cr, ow)) T)) 146 0 0 (Ff (some (.int (nI (fwN sd np nd x)))) (cellOf E (sTx (sPar σ j (sd, du, tr, nI np, nI nd, kd, bd, dr, dt, cr, ow)) T))) := c_fw (σ := sTx (sPar σ j (sd, du, tr, nI np, nI nd, kd, bd, dr, dt, cr, ow)) T) hj (gP_s σ j _) hnp hnd x
set_option maxHeartbeats 4000000 in
set_option maxRecDepth 100000 in
theorem c_clause {E : Ev} {σ : Sg} {lt : Fn} {L f a m : Nat} {fa : Int32} {j np nd : Nat} {sd du tr : Int32} {kd bd dr dt cr ow : Fn} (hL : L ≤ 240) (ok0 : zOk L (fa, f, a, m)) (hj : j < 2) (hnp : np ≤ 7) (hnd : nd ≤ 9) (hal : a < L) : Ct E yX5_readClause cX5_readClause 4 none ({ frames := 3, cells := 0, slots := 0, locals := 69 } : Room) false 146 [.ref (Ez E + 1), .ref (Ez E + pad j)] (cellOf E (sTx (sPar σ j (sd, du, tr, nI np, nI nd, kd, bd, dr, dt, cr, ow)) (lt, nI L, fa, nI f, nI a, nI m))) 146 0 0 (Ff none (cellOf E (sTx (sPar σ j (dP (pClause lt L (fa, f, a, m) (sd, du, tr, np, nd, kd, bd, dr, dt, cr, ow)).2)) (zT lt L (pClause lt L (fa, f, a, m) (sd, du, tr, np, nd, kd, bd, dr, dt, cr, ow)).1)))) := by
  have hfw := fwN_le sd np nd (lt a)
  refine Ct.ofV (by decide) (Nat.le_of_ble_eq_true rfl) (fun X hnm => ?_)
  show V E X _ RX5 _ _ _ _ _ _ false 146 0 [(0, .ref (Ez E + 1)), (1, .ref (Ez E + pad j))] [] _
  refine v_aload_n (pc := 0) 0 dX5_readClause_0 rfl rfl ?_
  refine g_X5_9 (pc := 1) (cTr_obj rfl) (by decide) rfl dX5_readClause_1 ?_
  refine v_aload_n (pc := 4) 0 dX5_readClause_4 rfl rfl ?_
  refine g_X5_25 (pc := 5) (cTr_obj rfl) (by decide) rfl dX5_readClause_5 ?_
  refine v_ialdN (pc := 8) (cTr_lt rfl) (by decide) (by omega) (by decide) dX5_readClause_8 ?_
  refine v_istore_n (pc := 9) [1, 2, 0] [(0, _), (1, _), (2, _)] dX5_readClause_9 rfl (by decide) rfl ?_
  refine v_aload_n (pc := 10) 1 dX5_readClause_10 rfl rfl ?_
  refine v_iload_n (pc := 11) 2 dX5_readClause_11 rfl rfl ?_
  refine v_callS (pc := 12) _ _ k_X5_43 (c_fwT hj hnp hnd _) ⟨rfl, rfl, by decide⟩ rfl rfl (Nat.le_of_ble_eq_true rfl) ⟨Nat.le_of_ble_eq_true rfl, Nat.le_of_ble_eq_true rfl⟩ dX5_readClause_12 (unS ?_)
  show V E X _ RX5 _ _ _ 0 0 _ false 146 15 _ [_] _
  refine v_istore_n (pc := 15) [1, 2, 3, 0] [(0, _), (1, _), (2, _), (3, _)] dX5_readClause_15 rfl (by decide) rfl ?_
  refine v_iload_n (pc := 16) 3 dX5_readClause_16 rfl rfl ?_
  refine v_if_eqN (pc := 17) (by omega) (tgt := 30) dX5_readClause_17 rfl (fun c_17 => ?_) (fun c_17 => ?_)
  · refine v_aload_n (pc := 30) 0 dX5_readClause_30 rfl rfl ?_
    refine v_dup (pc := 31) dX5_readClause_31 rfl ?_
    refine g_X5_25 (pc := 32) (cTr_obj rfl) (by decide) rfl dX5_readClause_32 ?_
    refine v_iconst (pc := 35) (nI 1) dX5_readClause_35 kI_1 ?_
    refine v_iaddN (pc := 36) dX5_readClause_36 ?_
    refine p_X5_25 (pc := 37) (cTr_obj rfl) (by decide) rfl rfl (Nat.le_of_ble_eq_true rfl) dX5_readClause_37 (wT_ap) ?_
    refine v_iload_n (pc := 40) 2 dX5_readClause_40 rfl rfl ?_
    refine v_bipush (pc := 41) (nI 116) dX5_readClause_41 kB_116 ?_
    refine v_icmp_ne (pc := 43) (tgt := 54) dX5_readClause_43 rfl (fun c_43 => ?_) (fun c_43 => ?_)
    · refine v_iload_n (pc := 54) 2 dX5_readClause_54 rfl rfl ?_
      refine v_bipush (pc := 55) (nI 112) dX5_readClause_55 kB_112 ?_
      refine v_icmp_ne (pc := 57) (tgt := 68) dX5_readClause_57 rfl (fun c_57 => ?_) (fun c_57 => ?_)
      · refine v_aload_n (pc := 68) 0 dX5_readClause_68 rfl rfl ?_
        refine v_aload_n (pc := 69) 1 dX5_readClause_69 rfl rfl ?_
        refine v_callV (pc := 70) _ _ k_X5_57 (cTr_obj rfl) rfl (by decide) (c_debt hL (show zOk L (fa, f, a + 1, m) from ⟨ok0.1, hal, ok0.2.2⟩) hj hnp hnd) ⟨rfl, rfl, by decide⟩ rfl rfl (Nat.le_of_ble_eq_true rfl) ⟨Nat.le_of_ble_eq_true rfl, Nat.le_of_ble_eq_true rfl⟩ dX5_readClause_70 (unS ?_)
        show V E X _ RX5 _ _ _ 0 0 _ false 146 73 _ [] _
        exact v_vret (pc := 73) dX5_readClause_73 (⟨rfl, by rw [show pClause lt L (fa, f, a, m) (sd, du, tr, np, nd, kd, bd, dr, dt, cr, ow) = pClauseE lt L (lt a) (fa, f, a + 1, m) (sd, du, tr, np, nd, kd, bd, dr, dt, cr, ow) from if_pos c_17]; unfold pClauseE; rw [if_neg c_43, if_neg c_57]⟩)
      · refine v_aload_n (pc := 60) 0 dX5_readClause_60 rfl rfl ?_
        refine v_aload_n (pc := 61) 1 dX5_readClause_61 rfl rfl ?_
        refine v_callV (pc := 62) _ _ k_X5_54 (cTr_obj rfl) rfl (by decide) (c_pers hL (show zOk L (fa, f, a + 1, m) from ⟨ok0.1, hal, ok0.2.2⟩) hj hnp hnd) ⟨rfl, rfl, by decide⟩ rfl rfl (Nat.le_of_ble_eq_true rfl) ⟨Nat.le_of_ble_eq_true rfl, Nat.le_of_ble_eq_true rfl⟩ dX5_readClause_62 (unS ?_)
        show V E X _ RX5 _ _ _ 0 0 _ false 146 65 _ [] _
        refine v_goto (pc := 65) (tgt := 73) dX5_readClause_65 rfl ?_
        exact v_vret (pc := 73) dX5_readClause_73 (⟨rfl, by rw [show pClause lt L (fa, f, a, m) (sd, du, tr, np, nd, kd, bd, dr, dt, cr, ow) = pClauseE lt L (lt a) (fa, f, a + 1, m) (sd, du, tr, np, nd, kd, bd, dr, dt, cr, ow) from if_pos c_17]; unfold pClauseE; rw [if_neg c_43, if_pos c_57]⟩)
    · refine v_aload_n (pc := 46) 0 dX5_readClause_46 rfl rfl ?_
      refine v_aload_n (pc := 47) 1 dX5_readClause_47 rfl rfl ?_
      refine v_callV (pc := 48) _ _ k_X5_51 (cTr_obj rfl) rfl (by decide) (c_tree hL (show zOk L (fa, f, a + 1, m) from ⟨ok0.1, hal, ok0.2.2⟩) hj hnp hnd) ⟨rfl, rfl, by decide⟩ rfl rfl (Nat.le_of_ble_eq_true rfl) ⟨Nat.le_of_ble_eq_true rfl, Nat.le_of_ble_eq_true rfl⟩ dX5_readClause_48 (unS ?_)
      show V E X _ RX5 _ _ _ 0 0 _ false 146 51 _ [] _
      refine v_goto (pc := 51) (tgt := 73) dX5_readClause_51 rfl ?_
      exact v_vret (pc := 73) dX5_readClause_73 (⟨rfl, by rw [show pClause lt L (fa, f, a, m) (sd, du, tr, np, nd, kd, bd, dr, dt, cr, ow) = pClauseE lt L (lt a) (fa, f, a + 1, m) (sd, du, tr, np, nd, kd, bd, dr, dt, cr, ow) from if_pos c_17]; unfold pClauseE; rw [if_pos c_43]⟩)
  · refine v_aload_n (pc := 20) 0 dX5_readClause_20 rfl rfl ?_
    refine v_iload_n (pc := 21) 3 dX5_readClause_21 rfl rfl ?_
    refine v_aload_n (pc := 22) 0 dX5_readClause_22 rfl rfl ?_
    refine g_X5_25 (pc := 23) (cTr_obj rfl) (by decide) rfl dX5_readClause_23 ?_
    refine v_callV (pc := 26) _ _ k_X5_47 (cTr_obj rfl) rfl (by decide) (c_noteF hL ok0.1 ok0.2.1 ok0.2.2 (by first | decide | exact fwN_le _ _ _ _) _) ⟨rfl, rfl, by decide⟩ rfl rfl (Nat.le_of_ble_eq_true rfl) ⟨Nat.le_of_ble_eq_true rfl, Nat.le_of_ble_eq_true rfl⟩ dX5_readClause_26 (unZ (fun fa1 f1 a1 m1 hz1 => ?_))
    have ok1 : zOk L (fa1, f1, a1, m1) := by rw [← hz1]; exact pNote_ok ok0 (by first | decide | exact fwN_le _ _ _ _)
    have okf1 : f1 ≤ 4 := ok1.1
    have oka1 : a1 ≤ L := ok1.2.1
    have okm1 : m1 ≤ 240 := ok1.2.2
    show V E X _ RX5 _ _ _ 0 0 _ false 146 29 _ [] _
    exact v_vret (pc := 29) dX5_readClause_29 (⟨rfl, by rw [show pClause lt L (fa, f, a, m) (sd, du, tr, np, nd, kd, bd, dr, dt, cr, ow) = (pNote (fa, f, a, m) (fwN sd np nd (lt a)) (nI a), (sd, du, tr, np, nd, kd, bd, dr, dt, cr, ow)) from if_neg c_17]; rw [hz1]⟩)
