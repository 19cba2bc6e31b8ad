section CP
variable {E : Ev} {X : Cx} {R : Room} {own : String} {cc : ByteArray} {nL : Nat} {ret : Option FieldType} {k n : Nat} {Q : State → Prop} {N pc : Nat} {lv : List (Nat × Value)} {st : List Value} {h h' : Hp}
theorem v_copyN {index o0 o1 n0 n1 a b x : Nat} {f g : Nat → Int32} (hlink : Cond.methodLink own index arraycopyName ∈ TB) (hc0 : h o0 = .inl (EI E, n0, .inl f)) (hc1 : h o1 = .inl (EI E, n1, .inl g)) (ho0 : o0 < N) (ho1 : o1 < N) (hne : o0 ≠ o1) (ha : a < 2147483648) (hb : b < 2147483648) (hx : x < 2147483648) (h45 : a + x ≤ n0 ∧ b + x ≤ n1) (hframes : 1 ≤ R.frames) (hlocals : (st.map fun v => v.category).sum + (nativeFrameWords "java/lang/System" "arraycopy" 5 + 11) ≤ R.locals) (hd : decode cc pc = .ok (.invokestatic index, 3))
    (hu : ∀ o', o' < N → h' o' = va_up h o1 (.inl (EI E, n1, .inl (va_cpy f g a b x))) o')
    (kk : V E X R own cc nL ret k n Q false N (pc + 3) lv st h') : V E X R own cc nL ret k n Q false N pc lv (.int (nI x) :: .int (nI b) :: .ref (Ez E + o1) :: .int (nI a) :: .ref (Ez E + o0) :: st) h :=
  v_copy hlink sm_Obj in_J10 hc0 hc1 ho0 ho1 hne (nI_pos ha) (nI_pos hb) (nI_pos hx) (by rw [nI_clamp ha, nI_clamp hx]; exact h45.1) (by rw [nI_clamp hb, nI_clamp hx]; exact h45.2) hframes hlocals hd (by rw [nI_clamp ha, nI_clamp hb, nI_clamp hx]; exact hu) kk
end CP
def perB (p : Int32) (n : Nat) : Bool := decide (¬ p < 0 ∧ p < nI n)
theorem perB_n {r n : Nat} (hr : r < 2147483648) (hn : n < 2147483648) : perB (nI r) n = decide (r < n) := by
  unfold perB
  have h1 := nI_pos hr
  have h2 := nI_ltI hr hn
  by_cases h : r < n
  · rw [decide_eq_true h, decide_eq_true ⟨h1, h2.mpr h⟩]
  · rw [decide_eq_false h, decide_eq_false (fun q => h (h2.mp q.2))]
/-- another flock's values come over -/
def fl_copy (G F : FlockV) : FlockV := (fT G, fH G, fN G, fR G, fE G, va_cpy (fB G) (fB F) 0 0 7, va_cpy (fK G) (fK F) 0 0 7, va_cpy (fO G) (fO F) 0 0 9, va_cpy (fP G) (fP F) 0 0 20)
def st_beg (bd : Fn) (np r : Nat) (F : FlockV) : FlockV := (fT F, fH F, fN F, if ¬ (if r < np then bd r else nI 0) ≤ 0 then nI r else fR F, fE F, upd (fB F) r (if r < np then bd r else nI 0), upd (fK F) r (nI 0), fO F, fP F)
def st_ow (ow : Fn) (nd i : Nat) (g : Fn) : Fn := upd g i (if i < nd then ow i else nI 0)
theorem st_ow_t {ow g : Fn} {nd i : Nat} (h : i < nd) : st_ow ow nd i g = upd g i (ow i) := by unfold st_ow; rw [if_pos h]
theorem st_ow_f {ow g : Fn} {nd i : Nat} (h : ¬ i < nd) : st_ow ow nd i g = upd g i (nI 0) := by unfold st_ow; rw [if_neg h]
def fl_beg1 (F : FlockV) (sd tr : Int32) (np : Nat) (bd : Fn) : FlockV := itn (fun i => st_beg bd np (6 - i)) 7 (tr, nI 0, nI 0, if sd = 0 then -1 else -2, fE F, fB F, fK F, fO F, fP F)
def fl_beg2 (F : FlockV) (nd : Nat) (ow : Fn) : FlockV := (fT F, fH F, fN F, fR F, nI 0, fB F, fK F, itn (st_ow ow nd) 9 (fO F), fP F)
def fl_begin (F : FlockV) (sd tr : Int32) (np nd : Nat) (bd ow : Fn) : FlockV := if sd = 0 then fl_beg2 (fl_beg1 F sd tr np bd) nd ow else fl_note (fl_beg2 (fl_beg1 F sd tr np bd) nd ow)
set_option maxHeartbeats 4000000 in
set_option maxRecDepth 100000 in
theorem c_hasPerson {E : Ev} {σ : Sg} {j np nd : Nat} {sd du tr : Int32} {kd bd dr dt cr ow : Fn} (hj : j < 2) (hP : gP σ j = (sd, du, tr, nI np, nI nd, kd, bd, dr, dt, cr, ow)) (hnp : np ≤ 7) (hnd : nd ≤ 9) (a : Int32) : Ct E yX1_hasPerson cX1_hasPerson 2 (some .boolean) ({ frames := 0, cells := 0, slots := 0, locals := 0 } : Room) false 146 [.ref (Ez E + pad j), .int a] (cellOf E σ) 146 0 0 (Ff (some (.int (bI (perB a np)))) (cellOf E σ)) := by
  refine Ct.ofV (by decide) (Nat.le_of_ble_eq_true rfl) (fun X hnm => ?_)
  show V E X _ RX1 _ _ _ _ _ _ false 146 0 [(0, .ref (Ez E + pad j)), (1, .int a)] [] _
  refine v_iload_n (pc := 0) 1 dX1_hasPerson_0 rfl rfl ?_
  refine v_if_lt (pc := 1) (tgt := 16) dX1_hasPerson_1 rfl (fun c_1 => ?_) (fun c_1 => ?_)
  · refine v_iconst (pc := 16) (nI 0) dX1_hasPerson_16 kI_0 ?_
    exact v_zret (pc := 17) dX1_hasPerson_17 ((by rfl)) (⟨by first | (rw [show perB a np = true from decide_eq_true ⟨by first | assumption | exact Int32.not_lt.mpr (by assumption), by first | assumption | exact Int32.not_le.mp (by assumption)⟩]; rfl) | (rw [show perB a np = false from decide_eq_false (by rintro ⟨q1, q2⟩; first | exact q1 (by assumption) | exact absurd q2 (by first | assumption | exact Int32.not_lt.mpr (by assumption)))]; rfl), rfl⟩)
  · refine v_iload_n (pc := 4) 1 dX1_hasPerson_4 rfl rfl ?_
    refine v_aload_n (pc := 5) 0 dX1_hasPerson_5 rfl rfl ?_
    refine g_X1_22 (pc := 6) (cPr_obj hj hP) (pad_lt0 hj) rfl dX1_hasPerson_6 ?_
    refine v_icmp_ge (pc := 9) (tgt := 16) dX1_hasPerson_9 rfl (fun c_9 => ?_) (fun c_9 => ?_)
    · refine v_iconst (pc := 16) (nI 0) dX1_hasPerson_16 kI_0 ?_
      exact v_zret (pc := 17) dX1_hasPerson_17 ((by rfl)) (⟨by first | (rw [show perB a np = true from decide_eq_true ⟨by first | assumption | exact Int32.not_lt.mpr (by assumption), by first | assumption | exact Int32.not_le.mp (by assumption)⟩]; rfl) | (rw [show perB a np = false from decide_eq_false (by rintro ⟨q1, q2⟩; first | exact q1 (by assumption) | exact absurd q2 (by first | assumption | exact Int32.not_lt.mpr (by assumption)))]; rfl), rfl⟩)
    · refine v_iconst (pc := 12) (nI 1) dX1_hasPerson_12 kI_1 ?_
      refine v_goto (pc := 13) (tgt := 17) dX1_hasPerson_13 rfl ?_
      exact v_zret (pc := 17) dX1_hasPerson_17 ((by rfl)) (⟨by first | (rw [show perB a np = true from decide_eq_true ⟨by first | assumption | exact Int32.not_lt.mpr (by assumption), by first | assumption | exact Int32.not_le.mp (by assumption)⟩]; rfl) | (rw [show perB a np = false from decide_eq_false (by rintro ⟨q1, q2⟩; first | exact q1 (by assumption) | exact absurd q2 (by first | assumption | exact Int32.not_lt.mpr (by assumption)))]; rfl), rfl⟩)
set_option maxHeartbeats 4000000 in
set_option maxRecDepth 100000 in
theorem c_hasDebt {E : Ev} {σ : Sg} {j np nd : Nat} {sd du tr : Int32} {kd bd dr dt cr ow : Fn} (hj : j < 2) (hP : gP σ j = (sd, du, tr, nI np, nI nd, kd, bd, dr, dt, cr, ow)) (hnp : np ≤ 7) (hnd : nd ≤ 9) (a : Int32) : Ct E yX1_hasDebt cX1_hasDebt 2 (some .boolean) ({ frames := 0, cells := 0, slots := 0, locals := 0 } : Room) false 146 [.ref (Ez E + pad j), .int a] (cellOf E σ) 146 0 0 (Ff (some (.int (bI (perB a nd)))) (cellOf E σ)) := by
  refine Ct.ofV (by decide) (Nat.le_of_ble_eq_true rfl) (fun X hnm => ?_)
  show V E X _ RX1 _ _ _ _ _ _ false 146 0 [(0, .ref (Ez E + pad j)), (1, .int a)] [] _
  refine v_iload_n (pc := 0) 1 dX1_hasDebt_0 rfl rfl ?_
  refine v_if_lt (pc := 1) (tgt := 16) dX1_hasDebt_1 rfl (fun c_1 => ?_) (fun c_1 => ?_)
  · refine v_iconst (pc := 16) (nI 0) dX1_hasDebt_16 kI_0 ?_
    exact v_zret (pc := 17) dX1_hasDebt_17 ((by rfl)) (⟨by first | (rw [show perB a nd = true from decide_eq_true ⟨by first | assumption | exact Int32.not_lt.mpr (by assumption), by first | assumption | exact Int32.not_le.mp (by assumption)⟩]; rfl) | (rw [show perB a nd = false from decide_eq_false (by rintro ⟨q1, q2⟩; first | exact q1 (by assumption) | exact absurd q2 (by first | assumption | exact Int32.not_lt.mpr (by assumption)))]; rfl), rfl⟩)
  · refine v_iload_n (pc := 4) 1 dX1_hasDebt_4 rfl rfl ?_
    refine v_aload_n (pc := 5) 0 dX1_hasDebt_5 rfl rfl ?_
    refine g_X1_25 (pc := 6) (cPr_obj hj hP) (pad_lt0 hj) rfl dX1_hasDebt_6 ?_
    refine v_icmp_ge (pc := 9) (tgt := 16) dX1_hasDebt_9 rfl (fun c_9 => ?_) (fun c_9 => ?_)
    · refine v_iconst (pc := 16) (nI 0) dX1_hasDebt_16 kI_0 ?_
      exact v_zret (pc := 17) dX1_hasDebt_17 ((by rfl)) (⟨by first | (rw [show perB a nd = true from decide_eq_true ⟨by first | assumption | exact Int32.not_lt.mpr (by assumption), by first | assumption | exact Int32.not_le.mp (by assumption)⟩]; rfl) | (rw [show perB a nd = false from decide_eq_false (by rintro ⟨q1, q2⟩; first | exact q1 (by assumption) | exact absurd q2 (by first | assumption | exact Int32.not_lt.mpr (by assumption)))]; rfl), rfl⟩)
    · refine v_iconst (pc := 12) (nI 1) dX1_hasDebt_12 kI_1 ?_
      refine v_goto (pc := 13) (tgt := 17) dX1_hasDebt_13 rfl ?_
      exact v_zret (pc := 17) dX1_hasDebt_17 ((by rfl)) (⟨by first | (rw [show perB a nd = true from decide_eq_true ⟨by first | assumption | exact Int32.not_lt.mpr (by assumption), by first | assumption | exact Int32.not_le.mp (by assumption)⟩]; rfl) | (rw [show perB a nd = false from decide_eq_false (by rintro ⟨q1, q2⟩; first | exact q1 (by assumption) | exact absurd q2 (by first | assumption | exact Int32.not_lt.mpr (by assumption)))]; rfl), rfl⟩)
theorem c_hasPersonF {E : Ev} {σ : Sg} {k : Nat} {F : FlockV} {j np nd : Nat} {sd du tr : Int32} {kd bd dr dt cr ow : Fn} (hj : j < 2) (hP : gP σ j = (sd, du, tr, nI np, nI nd, kd, bd, dr, dt, cr, ow)) (hnp : np ≤ 7) (hnd : nd ≤ 9) (a : Int32) : Ct E yX1_hasPerson cX1_hasPerson 2 (some .boolean) ({ frames := 0, cells := 0, slots := 0, locals := 0 } : Room) false 146 [.ref (Ez E + pad j), .int a] (cellOf E (sFl σ k F)) 146 0 0 (Ff (some (.int (bI (perB a np)))) (cellOf E (sFl σ k F))) := c_hasPerson (σ := sFl σ k F) hj hP hnp hnd a
theorem c_hasDebtF {E : Ev} {σ : Sg} {k : Nat} {F : FlockV} {j np nd : Nat} {sd du tr : Int32} {kd bd dr dt cr ow : Fn} (hj : j < 2) (hP : gP σ j = (sd, du, tr, nI np, nI nd, kd, bd, dr, dt, cr, ow)) (hnp : np ≤ 7) (hnd : nd ≤ 9) (a : Int32) : Ct E yX1_hasDebt cX1_hasDebt 2 (some .boolean) ({ frames := 0, cells := 0, slots := 0, locals := 0 } : Room) false 146 [.ref (Ez E + pad j), .int a] (cellOf E (sFl σ k F)) 146 0 0 (Ff (some (.int (bI (perB a nd)))) (cellOf E (sFl σ k F))) := c_hasDebt (σ := sFl σ k F) hj hP hnp hnd a
set_option maxHeartbeats 4000000 in
set_option maxRecDepth 100000 in
theorem c_clear {E : Ev} {σ : Sg} {j np nd : Nat} {sd du tr : Int32} {kd bd dr dt cr ow : Fn} (hj : j < 2) (hnp : np ≤ 7) (hnd : nd ≤ 9)  : Ct E yX1_clear cX1_clear 1 none ({ frames := 0, cells := 0, slots := 0, locals := 0 } : Room) false 146 [.ref (Ez E + pad j)] (cellOf E (sPar σ j (sd, du, tr, nI np, nI nd, kd, bd, dr, dt, cr, ow))) 146 0 0 (Ff none (cellOf E (sPar σ j (nI 0, nI 0, nI 0, nI 0, nI 0, kd, bd, dr, dt, cr, ow)))) := by
  refine Ct.ofV (by decide) (Nat.le_of_ble_eq_true rfl) (fun X hnm => ?_)
  show V E X _ RX1 _ _ _ _ _ _ false 146 0 [(0, .ref (Ez E + pad j))] [] _
  refine v_aload_n (pc := 0) 0 dX1_clear_0 rfl rfl ?_
  refine v_iconst (pc := 1) (nI 0) dX1_clear_1 kI_0 ?_
  refine p_X1_9 (pc := 2) (cPr_obj hj (gP_s _ _ _)) (pad_lt0 hj) rfl rfl (Nat.le_of_ble_eq_true rfl) dX1_clear_2 (wP_sd hj) ?_
  refine v_aload_n (pc := 5) 0 dX1_clear_5 rfl rfl ?_
  refine v_iconst (pc := 6) (nI 0) dX1_clear_6 kI_0 ?_
  refine p_X1_15 (pc := 7) (cPr_obj hj (gP_s _ _ _)) (pad_lt0 hj) rfl rfl (Nat.le_of_ble_eq_true rfl) dX1_clear_7 (wP_du hj) ?_
  refine v_aload_n (pc := 10) 0 dX1_clear_10 rfl rfl ?_
  refine v_iconst (pc := 11) (nI 0) dX1_clear_11 kI_0 ?_
  refine p_X1_19 (pc := 12) (cPr_obj hj (gP_s _ _ _)) (pad_lt0 hj) rfl rfl (Nat.le_of_ble_eq_true rfl) dX1_clear_12 (wP_tr hj) ?_
  refine v_aload_n (pc := 15) 0 dX1_clear_15 rfl rfl ?_
  refine v_iconst (pc := 16) (nI 0) dX1_clear_16 kI_0 ?_
  refine p_X1_22 (pc := 17) (cPr_obj hj (gP_s _ _ _)) (pad_lt0 hj) rfl rfl (Nat.le_of_ble_eq_true rfl) dX1_clear_17 (wP_ps hj) ?_
  refine v_aload_n (pc := 20) 0 dX1_clear_20 rfl rfl ?_
  refine v_iconst (pc := 21) (nI 0) dX1_clear_21 kI_0 ?_
  refine p_X1_25 (pc := 22) (cPr_obj hj (gP_s _ _ _)) (pad_lt0 hj) rfl rfl (Nat.le_of_ble_eq_true rfl) dX1_clear_22 (wP_db hj) ?_
  exact v_vret (pc := 25) dX1_clear_25 (⟨rfl, rfl⟩)
set_option maxHeartbeats 4000000 in
set_option maxRecDepth 100000 in
theorem c_setTree {E : Ev} {σ : Sg} {j np nd : Nat} {sd du tr : Int32} {kd bd dr dt cr ow : Fn} (hj : j < 2) (hnp : np ≤ 7) (hnd : nd ≤ 9) (a z : Int32) : Ct E yX1_setTree cX1_setTree 3 none ({ frames := 0, cells := 0, slots := 0, locals := 0 } : Room) false 146 [.ref (Ez E + pad j), .int a, .int z] (cellOf E (sPar σ j (sd, du, tr, nI np, nI nd, kd, bd, dr, dt, cr, ow))) 146 0 0 (Ff none (cellOf E (sPar σ j (nI 1, z, a, nI np, nI nd, kd, bd, dr, dt, cr, ow)))) := by
  refine Ct.ofV (by decide) (Nat.le_of_ble_eq_true rfl) (fun X hnm => ?_)
  show V E X _ RX1 _ _ _ _ _ _ false 146 0 [(0, .ref (Ez E + pad j)), (1, .int a), (2, .int z)] [] _
  refine v_aload_n (pc := 0) 0 dX1_setTree_0 rfl rfl ?_
  refine v_iconst (pc := 1) (nI 1) dX1_setTree_1 kI_1 ?_
  refine p_X1_9 (pc := 2) (cPr_obj hj (gP_s _ _ _)) (pad_lt0 hj) rfl rfl (Nat.le_of_ble_eq_true rfl) dX1_setTree_2 (wP_sd hj) ?_
  refine v_aload_n (pc := 5) 0 dX1_setTree_5 rfl rfl ?_
  refine v_iload_n (pc := 6) 1 dX1_setTree_6 rfl rfl ?_
  refine p_X1_19 (pc := 7) (cPr_obj hj (gP_s _ _ _)) (pad_lt0 hj) rfl rfl (Nat.le_of_ble_eq_true rfl) dX1_setTree_7 (wP_tr hj) ?_
  refine v_aload_n (pc := 10) 0 dX1_setTree_10 rfl rfl ?_
  refine v_iload_n (pc := 11) 2 dX1_setTree_11 rfl rfl ?_
  refine p_X1_15 (pc := 12) (cPr_obj hj (gP_s _ _ _)) (pad_lt0 hj) rfl rfl (Nat.le_of_ble_eq_true rfl) dX1_setTree_12 (wP_du hj) ?_
  exact v_vret (pc := 15) dX1_setTree_15 (⟨rfl, rfl⟩)
def pv_addP (P : ParV) (np : Nat) (a n x : Int32) : ParV := if np < 7 then (P.1, P.2.1, P.2.2.1, nI (np + 1), P.2.2.2.2.1, upd P.2.2.2.2.2.1 np a, upd P.2.2.2.2.2.2.1 np n, upd P.2.2.2.2.2.2.2.1 np x, P.2.2.2.2.2.2.2.2) else P
def pv_addD (P : ParV) (nd : Nat) (a z n : Int32) : ParV := if nd < 9 then (P.1, P.2.1, P.2.2.1, P.2.2.2.1, nI (nd + 1), P.2.2.2.2.2.1, P.2.2.2.2.2.2.1, P.2.2.2.2.2.2.2.1, upd P.2.2.2.2.2.2.2.2.1 nd a, upd P.2.2.2.2.2.2.2.2.2.1 nd z, upd P.2.2.2.2.2.2.2.2.2.2 nd n) else P
set_option maxHeartbeats 4000000 in
set_option maxRecDepth 100000 in
theorem c_addPerson {E : Ev} {σ : Sg} {j np nd : Nat} {sd du tr : Int32} {kd bd dr dt cr ow : Fn} (hj : j < 2) (hnp : np ≤ 7) (hnd : nd ≤ 9) (a n x : Int32) : Ct E yX1_addPerson cX1_addPerson 4 none ({ frames := 0, cells := 0, slots := 0, locals := 0 } : Room) false 146 [.ref (Ez E + pad j), .int a, .int n, .int x] (cellOf E (sPar σ j (sd, du, tr, nI np, nI nd, kd, bd, dr, dt, cr, ow))) 146 0 0 (Ff none (cellOf E (sPar σ j (pv_addP (sd, du, tr, nI np, nI nd, kd, bd, dr, dt, cr, ow) np a n x)))) := by
  refine Ct.ofV (by decide) (Nat.le_of_ble_eq_true rfl) (fun X hnm => ?_)
  show V E X _ RX1 _ _ _ _ _ _ false 146 0 [(0, .ref (Ez E + pad j)), (1, .int a), (2, .int n), (3, .int x)] [] _
  refine v_aload_n (pc := 0) 0 dX1_addPerson_0 rfl rfl ?_
  refine g_X1_22 (pc := 1) (cPr_obj hj (gP_s _ _ _)) (pad_lt0 hj) rfl dX1_addPerson_1 ?_
  refine v_bipush (pc := 4) (nI 7) dX1_addPerson_4 kB_7 ?_
  refine v_icmp_geN (pc := 6) (by omega) (by omega) (tgt := 49) dX1_addPerson_6 rfl (fun c_6 => ?_) (fun c_6 => ?_)
  · exact v_vret (pc := 49) dX1_addPerson_49 (⟨rfl, by first | (rw [show pv_addP (sd, du, tr, nI np, nI nd, kd, bd, dr, dt, cr, ow) np a n x = _ from if_pos (by omega)]; try rfl) | (rw [show pv_addP (sd, du, tr, nI np, nI nd, kd, bd, dr, dt, cr, ow) np a n x = _ from if_neg (by omega)])⟩)
  · refine v_aload_n (pc := 9) 0 dX1_addPerson_9 rfl rfl ?_
    refine g_X1_28 (pc := 10) (cPr_obj hj (gP_s _ _ _)) (pad_lt0 hj) rfl dX1_addPerson_10 ?_
    refine v_aload_n (pc := 13) 0 dX1_addPerson_13 rfl rfl ?_
    refine g_X1_22 (pc := 14) (cPr_obj hj (gP_s _ _ _)) (pad_lt0 hj) rfl dX1_addPerson_14 ?_
    refine v_iload_n (pc := 17) 1 dX1_addPerson_17 rfl rfl ?_
    refine v_iastN (pc := 18) (cPr_kd hj (gP_s _ _ _)) (pad_lt hj (by decide)) (by omega) (by decide) dX1_addPerson_18 (wP_kd hj) ?_
    refine v_aload_n (pc := 19) 0 dX1_addPerson_19 rfl rfl ?_
    refine g_X1_32 (pc := 20) (cPr_obj hj (gP_s _ _ _)) (pad_lt0 hj) rfl dX1_addPerson_20 ?_
    refine v_aload_n (pc := 23) 0 dX1_addPerson_23 rfl rfl ?_
    refine g_X1_22 (pc := 24) (cPr_obj hj (gP_s _ _ _)) (pad_lt0 hj) rfl dX1_addPerson_24 ?_
    refine v_iload_n (pc := 27) 2 dX1_addPerson_27 rfl rfl ?_
    refine v_iastN (pc := 28) (cPr_bd hj (gP_s _ _ _)) (pad_lt hj (by decide)) (by omega) (by decide) dX1_addPerson_28 (wP_bd hj) ?_
    refine v_aload_n (pc := 29) 0 dX1_addPerson_29 rfl rfl ?_
    refine g_X1_35 (pc := 30) (cPr_obj hj (gP_s _ _ _)) (pad_lt0 hj) rfl dX1_addPerson_30 ?_
    refine v_aload_n (pc := 33) 0 dX1_addPerson_33 rfl rfl ?_
    refine g_X1_22 (pc := 34) (cPr_obj hj (gP_s _ _ _)) (pad_lt0 hj) rfl dX1_addPerson_34 ?_
    refine v_iload_n (pc := 37) 3 dX1_addPerson_37 rfl rfl ?_
    refine v_iastN (pc := 38) (cPr_dr hj (gP_s _ _ _)) (pad_lt hj (by decide)) (by omega) (by decide) dX1_addPerson_38 (wP_dr hj) ?_
    refine v_aload_n (pc := 39) 0 dX1_addPerson_39 rfl rfl ?_
    refine v_dup (pc := 40) dX1_addPerson_40 rfl ?_
    refine g_X1_22 (pc := 41) (cPr_obj hj (gP_s _ _ _)) (pad_lt0 hj) rfl dX1_addPerson_41 ?_
    refine v_iconst (pc := 44) (nI 1) dX1_addPerson_44 kI_1 ?_
    refine v_iaddN (pc := 45) dX1_addPerson_45 ?_
    refine p_X1_22 (pc := 46) (cPr_obj hj (gP_s _ _ _)) (pad_lt0 hj) rfl rfl (Nat.le_of_ble_eq_true rfl) dX1_addPerson_46 (wP_ps hj) ?_
    exact v_vret (pc := 49) dX1_addPerson_49 (⟨rfl, by first | (rw [show pv_addP (sd, du, tr, nI np, nI nd, kd, bd, dr, dt, cr, ow) np a n x = _ from if_pos (by omega)]; try rfl) | (rw [show pv_addP (sd, du, tr, nI np, nI nd, kd, bd, dr, dt, cr, ow) np a n x = _ from if_neg (by omega)])⟩)
set_option maxHeartbeats 4000000 in
set_option maxRecDepth 100000 in
theorem c_addDebt {E : Ev} {σ : Sg} {j np nd : Nat} {sd du tr : Int32} {kd bd dr dt cr ow : Fn} (hj : j < 2) (hnp : np ≤ 7) (hnd : nd ≤ 9) (a z n : Int32) : Ct E yX1_addDebt cX1_addDebt 4 none ({ frames := 0, cells := 0, slots := 0, locals := 0 } : Room) false 146 [.ref (Ez E + pad j), .int a, .int z, .int n] (cellOf E (sPar σ j (sd, du, tr, nI np, nI nd, kd, bd, dr, dt, cr, ow))) 146 0 0 (Ff none (cellOf E (sPar σ j (pv_addD (sd, du, tr, nI np, nI nd, kd, bd, dr, dt, cr, ow) nd a z n)))) := by
  refine Ct.ofV (by decide) (Nat.le_of_ble_eq_true rfl) (fun X hnm => ?_)
  show V E X _ RX1 _ _ _ _ _ _ false 146 0 [(0, .ref (Ez E + pad j)), (1, .int a), (2, .int z), (3, .int n)] [] _
  refine v_aload_n (pc := 0) 0 dX1_addDebt_0 rfl rfl ?_
  refine g_X1_25 (pc := 1) (cPr_obj hj (gP_s _ _ _)) (pad_lt0 hj) rfl dX1_addDebt_1 ?_
  refine v_bipush (pc := 4) (nI 9) dX1_addDebt_4 kB_9 ?_
  refine v_icmp_geN (pc := 6) (by omega) (by omega) (tgt := 49) dX1_addDebt_6 rfl (fun c_6 => ?_) (fun c_6 => ?_)
  · exact v_vret (pc := 49) dX1_addDebt_49 (⟨rfl, by first | (rw [show pv_addD (sd, du, tr, nI np, nI nd, kd, bd, dr, dt, cr, ow) nd a z n = _ from if_pos (by omega)]; try rfl) | (rw [show pv_addD (sd, du, tr, nI np, nI nd, kd, bd, dr, dt, cr, ow) nd a z n = _ from if_neg (by omega)])⟩)
  · refine v_aload_n (pc := 9) 0 dX1_addDebt_9 rfl rfl ?_
    refine g_X1_38 (pc := 10) (cPr_obj hj (gP_s _ _ _)) (pad_lt0 hj) rfl dX1_addDebt_10 ?_
    refine v_aload_n (pc := 13) 0 dX1_addDebt_13 rfl rfl ?_
    refine g_X1_25 (pc := 14) (cPr_obj hj (gP_s _ _ _)) (pad_lt0 hj) rfl dX1_addDebt_14 ?_
    refine v_iload_n (pc := 17) 1 dX1_addDebt_17 rfl rfl ?_
    refine v_iastN (pc := 18) (cPr_dt hj (gP_s _ _ _)) (pad_lt hj (by decide)) (by omega) (by decide) dX1_addDebt_18 (wP_dt hj) ?_
    refine v_aload_n (pc := 19) 0 dX1_addDebt_19 rfl rfl ?_
    refine g_X1_41 (pc := 20) (cPr_obj hj (gP_s _ _ _)) (pad_lt0 hj) rfl dX1_addDebt_20 ?_
    refine v_aload_n (pc := 23) 0 dX1_addDebt_23 rfl rfl ?_
    refine g_X1_25 (pc := 24) (cPr_obj hj (gP_s _ _ _)) (pad_lt0 hj) rfl dX1_addDebt_24 ?_
    refine v_iload_n (pc := 27) 2 dX1_addDebt_27 rfl rfl ?_
    refine v_iastN (pc := 28) (cPr_cr hj (gP_s _ _ _)) (pad_lt hj (by decide)) (by omega) (by decide) dX1_addDebt_28 (wP_cr hj) ?_
    refine v_aload_n (pc := 29) 0 dX1_addDebt_29 rfl rfl ?_
    refine g_X1_44 (pc := 30) (cPr_obj hj (gP_s _ _ _)) (pad_lt0 hj) rfl dX1_addDebt_30 ?_
    refine v_aload_n (pc := 33) 0 dX1_addDebt_33 rfl rfl ?_
    refine g_X1_25 (pc := 34) (cPr_obj hj (gP_s _ _ _)) (pad_lt0 hj) rfl dX1_addDebt_34 ?_
    refine v_iload_n (pc := 37) 3 dX1_addDebt_37 rfl rfl ?_
    refine v_iastN (pc := 38) (cPr_ow hj (gP_s _ _ _)) (pad_lt hj (by decide)) (by omega) (by decide) dX1_addDebt_38 (wP_ow hj) ?_
    refine v_aload_n (pc := 39) 0 dX1_addDebt_39 rfl rfl ?_
    refine v_dup (pc := 40) dX1_addDebt_40 rfl ?_
    refine g_X1_25 (pc := 41) (cPr_obj hj (gP_s _ _ _)) (pad_lt0 hj) rfl dX1_addDebt_41 ?_
    refine v_iconst (pc := 44) (nI 1) dX1_addDebt_44 kI_1 ?_
    refine v_iaddN (pc := 45) dX1_addDebt_45 ?_
    refine p_X1_25 (pc := 46) (cPr_obj hj (gP_s _ _ _)) (pad_lt0 hj) rfl rfl (Nat.le_of_ble_eq_true rfl) dX1_addDebt_46 (wP_db hj) ?_
    exact v_vret (pc := 49) dX1_addDebt_49 (⟨rfl, by first | (rw [show pv_addD (sd, du, tr, nI np, nI nd, kd, bd, dr, dt, cr, ow) nd a z n = _ from if_pos (by omega)]; try rfl) | (rw [show pv_addD (sd, du, tr, nI np, nI nd, kd, bd, dr, dt, cr, ow) nd a z n = _ from if_neg (by omega)])⟩)
set_option maxHeartbeats 4000000 in
set_option maxRecDepth 100000 in
theorem c_copy {E : Ev} {σ : Sg} {k : Nat} {t hr nt rg pe : Int32} {b c o p : Fn} (hk : k < 20) {l : Nat} {t1 hr1 nt1 rg1 pe1 : Int32} {b1 c1 o1 p1 : Fn} (hl : l < 20) (hlk : l ≠ k) (hG : gF σ l = (t1, hr1, nt1, rg1, pe1, b1, c1, o1, p1)) : Ct E yX0_copyFrom cX0_copyFrom 2 none ({ frames := 1, cells := 0, slots := 0, locals := 40 } : Room) false 146 [.ref (Ez E + adr k), .ref (Ez E + adr l)] (cellOf E (sFl σ k (t, hr, nt, rg, pe, b, c, o, p))) 146 0 0 (Ff none (cellOf E (sFl σ k (fl_copy (t1, hr1, nt1, rg1, pe1, b1, c1, o1, p1) (t, hr, nt, rg, pe, b, c, o, p))))) := by
  refine Ct.ofV (by decide) (Nat.le_of_ble_eq_true rfl) (fun X hnm => ?_)
  show V E X _ RX0 _ _ _ _ _ _ false 146 0 [(0, .ref (Ez E + adr k)), (1, .ref (Ez E + adr l))] [] _
  refine v_aload_n (pc := 0) 0 dX0_copyFrom_0 rfl rfl ?_
  refine v_aload_n (pc := 1) 1 dX0_copyFrom_1 rfl rfl ?_
  refine g_X0_9 (pc := 2) (cFr_obj hl ((gF_ne _ _ hlk).trans hG)) (adr_lt0 hl) rfl dX0_copyFrom_2 ?_
  refine p_X0_9 (pc := 5) (cFr_obj hk (gF_s _ _ _)) (adr_lt0 hk) rfl rfl (Nat.le_of_ble_eq_true rfl) dX0_copyFrom_5 (wF_t hk) ?_
  refine v_aload_n (pc := 8) 0 dX0_copyFrom_8 rfl rfl ?_
  refine v_aload_n (pc := 9) 1 dX0_copyFrom_9 rfl rfl ?_
  refine g_X0_15 (pc := 10) (cFr_obj hl ((gF_ne _ _ hlk).trans hG)) (adr_lt0 hl) rfl dX0_copyFrom_10 ?_
  refine p_X0_15 (pc := 13) (cFr_obj hk (gF_s _ _ _)) (adr_lt0 hk) rfl rfl (Nat.le_of_ble_eq_true rfl) dX0_copyFrom_13 (wF_hr hk) ?_
  refine v_aload_n (pc := 16) 0 dX0_copyFrom_16 rfl rfl ?_
  refine v_aload_n (pc := 17) 1 dX0_copyFrom_17 rfl rfl ?_
  refine g_X0_18 (pc := 18) (cFr_obj hl ((gF_ne _ _ hlk).trans hG)) (adr_lt0 hl) rfl dX0_copyFrom_18 ?_
  refine p_X0_18 (pc := 21) (cFr_obj hk (gF_s _ _ _)) (adr_lt0 hk) rfl rfl (Nat.le_of_ble_eq_true rfl) dX0_copyFrom_21 (wF_nt hk) ?_
  refine v_aload_n (pc := 24) 0 dX0_copyFrom_24 rfl rfl ?_
  refine v_aload_n (pc := 25) 1 dX0_copyFrom_25 rfl rfl ?_
  refine g_X0_21 (pc := 26) (cFr_obj hl ((gF_ne _ _ hlk).trans hG)) (adr_lt0 hl) rfl dX0_copyFrom_26 ?_
  refine p_X0_21 (pc := 29) (cFr_obj hk (gF_s _ _ _)) (adr_lt0 hk) rfl rfl (Nat.le_of_ble_eq_true rfl) dX0_copyFrom_29 (wF_rg hk) ?_
  refine v_aload_n (pc := 32) 0 dX0_copyFrom_32 rfl rfl ?_
  refine v_aload_n (pc := 33) 1 dX0_copyFrom_33 rfl rfl ?_
  refine g_X0_24 (pc := 34) (cFr_obj hl ((gF_ne _ _ hlk).trans hG)) (adr_lt0 hl) rfl dX0_copyFrom_34 ?_
  refine p_X0_24 (pc := 37) (cFr_obj hk (gF_s _ _ _)) (adr_lt0 hk) rfl rfl (Nat.le_of_ble_eq_true rfl) dX0_copyFrom_37 (wF_pe hk) ?_
  refine v_aload_n (pc := 40) 1 dX0_copyFrom_40 rfl rfl ?_
  refine g_X0_27 (pc := 41) (cFr_obj hl ((gF_ne _ _ hlk).trans hG)) (adr_lt0 hl) rfl dX0_copyFrom_41 ?_
  refine v_iconst (pc := 44) (nI 0) dX0_copyFrom_44 kI_0 ?_
  refine v_aload_n (pc := 45) 0 dX0_copyFrom_45 rfl rfl ?_
  refine g_X0_27 (pc := 46) (cFr_obj hk (gF_s _ _ _)) (adr_lt0 hk) rfl dX0_copyFrom_46 ?_
  refine v_iconst (pc := 49) (nI 0) dX0_copyFrom_49 kI_0 ?_
  refine v_bipush (pc := 50) (nI 7) dX0_copyFrom_50 kB_7 ?_
  refine v_copyN (pc := 52) ml_X0_59 (cFr_b hl ((gF_ne _ _ hlk).trans hG)) (cFr_b hk (gF_s _ _ _)) (adr_lt hl (by decide)) (adr_lt hk (by decide)) (adr_ne hl hk (by decide) (by decide) (Or.inl hlk)) (by decide) (by decide) (by decide) (by decide) (by decide) (by decide) dX0_copyFrom_52 (wF_b hk) ?_
  refine v_aload_n (pc := 55) 1 dX0_copyFrom_55 rfl rfl ?_
  refine g_X0_31 (pc := 56) (cFr_obj hl ((gF_ne _ _ hlk).trans hG)) (adr_lt0 hl) rfl dX0_copyFrom_56 ?_
  refine v_iconst (pc := 59) (nI 0) dX0_copyFrom_59 kI_0 ?_
  refine v_aload_n (pc := 60) 0 dX0_copyFrom_60 rfl rfl ?_
  refine g_X0_31 (pc := 61) (cFr_obj hk (gF_s _ _ _)) (adr_lt0 hk) rfl dX0_copyFrom_61 ?_
  refine v_iconst (pc := 64) (nI 0) dX0_copyFrom_64 kI_0 ?_
  refine v_bipush (pc := 65) (nI 7) dX0_copyFrom_65 kB_7 ?_
  refine v_copyN (pc := 67) ml_X0_59 (cFr_c hl ((gF_ne _ _ hlk).trans hG)) (cFr_c hk (gF_s _ _ _)) (adr_lt hl (by decide)) (adr_lt hk (by decide)) (adr_ne hl hk (by decide) (by decide) (Or.inl hlk)) (by decide) (by decide) (by decide) (by decide) (by decide) (by decide) dX0_copyFrom_67 (wF_c hk) ?_
  refine v_aload_n (pc := 70) 1 dX0_copyFrom_70 rfl rfl ?_
  refine g_X0_34 (pc := 71) (cFr_obj hl ((gF_ne _ _ hlk).trans hG)) (adr_lt0 hl) rfl dX0_copyFrom_71 ?_
  refine v_iconst (pc := 74) (nI 0) dX0_copyFrom_74 kI_0 ?_
  refine v_aload_n (pc := 75) 0 dX0_copyFrom_75 rfl rfl ?_
  refine g_X0_34 (pc := 76) (cFr_obj hk (gF_s _ _ _)) (adr_lt0 hk) rfl dX0_copyFrom_76 ?_
  refine v_iconst (pc := 79) (nI 0) dX0_copyFrom_79 kI_0 ?_
  refine v_bipush (pc := 80) (nI 9) dX0_copyFrom_80 kB_9 ?_
  refine v_copyN (pc := 82) ml_X0_59 (cFr_o hl ((gF_ne _ _ hlk).trans hG)) (cFr_o hk (gF_s _ _ _)) (adr_lt hl (by decide)) (adr_lt hk (by decide)) (adr_ne hl hk (by decide) (by decide) (Or.inl hlk)) (by decide) (by decide) (by decide) (by decide) (by decide) (by decide) dX0_copyFrom_82 (wF_o hk) ?_
  refine v_aload_n (pc := 85) 1 dX0_copyFrom_85 rfl rfl ?_
  refine g_X0_37 (pc := 86) (cFr_obj hl ((gF_ne _ _ hlk).trans hG)) (adr_lt0 hl) rfl dX0_copyFrom_86 ?_
  refine v_iconst (pc := 89) (nI 0) dX0_copyFrom_89 kI_0 ?_
  refine v_aload_n (pc := 90) 0 dX0_copyFrom_90 rfl rfl ?_
  refine g_X0_37 (pc := 91) (cFr_obj hk (gF_s _ _ _)) (adr_lt0 hk) rfl dX0_copyFrom_91 ?_
  refine v_iconst (pc := 94) (nI 0) dX0_copyFrom_94 kI_0 ?_
  refine v_bipush (pc := 95) (nI 20) dX0_copyFrom_95 kB_20 ?_
  refine v_copyN (pc := 97) ml_X0_59 (cFr_p hl ((gF_ne _ _ hlk).trans hG)) (cFr_p hk (gF_s _ _ _)) (adr_lt hl (by decide)) (adr_lt hk (by decide)) (adr_ne hl hk (by decide) (by decide) (Or.inl hlk)) (by decide) (by decide) (by decide) (by decide) (by decide) (by decide) dX0_copyFrom_97 (wF_p hk) ?_
  exact v_vret (pc := 100) dX0_copyFrom_100 (⟨rfl, rfl⟩)
set_option maxHeartbeats 4000000 in
set_option maxRecDepth 100000 in
theorem c_begin {E : Ev} {σ : Sg} {k : Nat} {t hr nt rg pe : Int32} {b c o p : Fn} (hk : k < 20) {j np nd : Nat} {sd du tr : Int32} {kd bd dr dt cr ow : Fn} (hj : j < 2) (hP : gP σ j = (sd, du, tr, nI np, nI nd, kd, bd, dr, dt, cr, ow)) (hnp : np ≤ 7) (hnd : nd ≤ 9) : Ct E yX0_begin cX0_begin 3 none ({ frames := 2, cells := 0, slots := 0, locals := 42 } : Room) false 146 [.ref (Ez E + adr k), .ref (Ez E + pad j)] (cellOf E (sFl σ k (t, hr, nt, rg, pe, b, c, o, p))) 146 0 0 (Ff none (cellOf E (sFl σ k (fl_begin (t, hr, nt, rg, pe, b, c, o, p) sd tr np nd bd ow)))) := by
  refine Ct.ofV (by decide) (Nat.le_of_ble_eq_true rfl) (fun X hnm => ?_)
  show V E X _ RX0 _ _ _ _ _ _ false 146 0 [(0, .ref (Ez E + adr k)), (1, .ref (Ez E + pad j))] [] _
  refine v_aload_n (pc := 0) 0 dX0_begin_0 rfl rfl ?_
  refine v_aload_n (pc := 1) 1 dX0_begin_1 rfl rfl ?_
  refine g_X0_40 (pc := 2) (cPr_obj hj hP) (pad_lt0 hj) rfl dX0_begin_2 ?_
  refine p_X0_9 (pc := 5) (cFr_obj hk (gF_s _ _ _)) (adr_lt0 hk) rfl rfl (Nat.le_of_ble_eq_true rfl) dX0_begin_5 (wF_t hk) ?_
  refine v_aload_n (pc := 8) 0 dX0_begin_8 rfl rfl ?_
  refine v_iconst (pc := 9) (nI 0) dX0_begin_9 kI_0 ?_
  refine p_X0_15 (pc := 10) (cFr_obj hk (gF_s _ _ _)) (adr_lt0 hk) rfl rfl (Nat.le_of_ble_eq_true rfl) dX0_begin_10 (wF_hr hk) ?_
  refine v_aload_n (pc := 13) 0 dX0_begin_13 rfl rfl ?_
  refine v_iconst (pc := 14) (nI 0) dX0_begin_14 kI_0 ?_
  refine p_X0_18 (pc := 15) (cFr_obj hk (gF_s _ _ _)) (adr_lt0 hk) rfl rfl (Nat.le_of_ble_eq_true rfl) dX0_begin_15 (wF_nt hk) ?_
  refine v_aload_n (pc := 18) 0 dX0_begin_18 rfl rfl ?_
  refine v_aload_n (pc := 19) 1 dX0_begin_19 rfl rfl ?_
  refine g_X0_43 (pc := 20) (cPr_obj hj hP) (pad_lt0 hj) rfl dX0_begin_20 ?_
  refine v_if_eq (pc := 23) (tgt := 31) dX0_begin_23 rfl (fun c_23 => ?_) (fun c_23 => ?_)
  · refine v_iconst (pc := 31) (-1) dX0_begin_31 kI_m1 ?_
    refine p_X0_21 (pc := 32) (cFr_obj hk (gF_s _ _ _)) (adr_lt0 hk) rfl rfl (Nat.le_of_ble_eq_true rfl) dX0_begin_32 (wF_rg hk) ?_
    refine v_bipush (pc := 35) (nI 6) dX0_begin_35 kB_6 ?_
    refine v_istore_n (pc := 37) [1, 2, 0] [(0, _), (1, _), (2, _)] dX0_begin_37 rfl (by decide) rfl ?_
    refine dn (P := fun i => V E X ({ frames := 2, cells := 0, slots := 0, locals := 42 } : Room) RX0 cX0_begin 3 none 0 0 (QX E X false 146 (Ff none (cellOf E (sFl σ k (fl_begin (t, hr, nt, rg, pe, b, c, o, p) sd tr np nd bd ow)))) 0 0) false 146 38 [(0, .ref (Ez E + adr k)), (1, .ref (Ez E + pad j)), (2, .int (nI (7 - i) + (-1)))] [] (cellOf E (sFl σ k (itn (fun i => st_beg bd np (6 - i)) i (tr, nI 0, nI 0, (-1), pe, b, c, o, p))))) (N := 7) ?_ ?_
    · generalize hG : itn (fun i => st_beg bd np (6 - i)) 7 (tr, nI 0, nI 0, (-1), pe, b, c, o, p) = z_ 
      obtain ⟨t1, hr1, nt1, rg1, pe1, b1, c1, o1, p1⟩ := z_
      show V E X _ RX0 _ _ _ _ _ _ false 146 _ [(0, .ref (Ez E + adr k)), (1, .ref (Ez E + pad j)), (2, .int (nI (7 - 7) + (-1)))] [] (cellOf E (sFl σ k (t1, hr1, nt1, rg1, pe1, b1, c1, o1, p1)))
      refine v_iload_n (pc := 38) 2 dX0_begin_38 rfl rfl ?_
      refine v_if_lt (pc := 39) (tgt := 100) dX0_begin_39 rfl (fun c_39 => ?_) (fun c_39 => False.elim ((fun c => absurd c (by decide)) c_39))
      refine v_iconst (pc := 100) (nI 0) dX0_begin_100 kI_0 ?_
      refine v_istore_n (pc := 101) [1, 2, 0] [(0, _), (1, _), (2, _)] dX0_begin_101 rfl (by decide) rfl ?_
      refine dn (P := fun i => V E X ({ frames := 2, cells := 0, slots := 0, locals := 42 } : Room) RX0 cX0_begin 3 none 0 0 (QX E X false 146 (Ff none (cellOf E (sFl σ k (fl_begin (t, hr, nt, rg, pe, b, c, o, p) sd tr np nd bd ow)))) 0 0) false 146 102 [(0, .ref (Ez E + adr k)), (1, .ref (Ez E + pad j)), (2, .int (nI i))] [] (cellOf E (sFl σ k (t1, hr1, nt1, rg1, pe1, b1, c1, itn (st_ow ow nd) i o1, p1)))) (N := 9) ?_ ?_
      · refine v_iload_n (pc := 102) 2 dX0_begin_102 rfl rfl ?_
        refine v_bipush (pc := 103) (nI 9) dX0_begin_103 kB_9 ?_
        refine v_icmp_geN (pc := 105) (by omega) (by omega) (tgt := 138) dX0_begin_105 rfl (fun c_105 => ?_) (fun c_105 => False.elim ((fun c => by omega) c_105))
        refine v_aload_n (pc := 138) 0 dX0_begin_138 rfl rfl ?_
        refine v_iconst (pc := 139) (nI 0) dX0_begin_139 kI_0 ?_
        refine p_X0_24 (pc := 140) (cFr_obj hk (gF_s _ _ _)) (adr_lt0 hk) rfl rfl (Nat.le_of_ble_eq_true rfl) dX0_begin_140 (wF_pe hk) ?_
        refine v_aload_n (pc := 143) 1 dX0_begin_143 rfl rfl ?_
        refine g_X0_43 (pc := 144) (cPr_obj hj hP) (pad_lt0 hj) rfl dX0_begin_144 ?_
        refine v_if_eq (pc := 147) (tgt := 154) dX0_begin_147 rfl (fun c_147 => ?_) (fun c_147 => False.elim ((fun c => c c_23) c_147))
        exact v_vret (pc := 154) dX0_begin_154 (⟨rfl, by unfold fl_begin; rw [if_pos c_23]; unfold fl_beg1; rw [if_pos c_23, hG]; rfl⟩)
      · intro i hi ih
        refine v_iload_n (pc := 102) 2 dX0_begin_102 rfl rfl ?_
        refine v_bipush (pc := 103) (nI 9) dX0_begin_103 kB_9 ?_
        refine v_icmp_geN (pc := 105) (by omega) (by omega) (tgt := 138) dX0_begin_105 rfl (fun c_105 => False.elim ((fun c => by omega) c_105)) (fun c_105 => ?_)
        refine v_aload_n (pc := 108) 0 dX0_begin_108 rfl rfl ?_
        refine g_X0_34 (pc := 109) (cFr_obj hk (gF_s _ _ _)) (adr_lt0 hk) rfl dX0_begin_109 ?_
        refine v_iload_n (pc := 112) 2 dX0_begin_112 rfl rfl ?_
        refine v_aload_n (pc := 113) 1 dX0_begin_113 rfl rfl ?_
        refine v_iload_n (pc := 114) 2 dX0_begin_114 rfl rfl ?_
        refine v_callV (pc := 115) _ _ k_X0_52 (cPr_obj hj hP) rfl (pad_lt0 hj) (c_hasDebtF hj hP hnp hnd _) ⟨rfl, rfl, by decide⟩ rfl rfl (Nat.le_of_ble_eq_true rfl) ⟨Nat.le_of_ble_eq_true rfl, Nat.le_of_ble_eq_true rfl⟩ dX0_begin_115 (unS ?_)
        rw [perB_n (by omega) (by omega)]
        show V E X _ RX0 _ _ _ 0 0 _ false 146 118 _ [_, _, _] _
        refine v_if_eqB (pc := 118) (tgt := 130) dX0_begin_118 rfl (fun c_118 => ?_) (fun c_118 => ?_)
        · refine v_iconst (pc := 130) (nI 0) dX0_begin_130 kI_0 ?_
          refine v_iastN (pc := 131) (cFr_o hk (gF_s _ _ _)) (adr_lt hk (by decide)) (by omega) (by decide) dX0_begin_131 (wF_o hk) ?_
          refine v_iincN (pc := 132) 2 [1, 2, 0] [(0, _), (1, _), (2, _)] kI_1 dX0_begin_132 rfl (by decide) rfl ?_
          refine v_goto (pc := 135) (tgt := 102) dX0_begin_135 rfl ?_
          exact v_cast rfl rfl (by rw [itn_s]; first | (rw [st_ow_t (of_decide_eq_true c_118)]) | (rw [st_ow_f (of_decide_eq_false c_118)])) ih
        · refine v_aload_n (pc := 121) 1 dX0_begin_121 rfl rfl ?_
          refine g_X0_55 (pc := 122) (cPr_obj hj hP) (pad_lt0 hj) rfl dX0_begin_122 ?_
          refine v_iload_n (pc := 125) 2 dX0_begin_125 rfl rfl ?_
          refine v_ialdN (pc := 126) (cPr_ow hj hP) (pad_lt hj (by decide)) (by omega) (by decide) dX0_begin_126 ?_
          refine v_goto (pc := 127) (tgt := 131) dX0_begin_127 rfl ?_
          refine v_iastN (pc := 131) (cFr_o hk (gF_s _ _ _)) (adr_lt hk (by decide)) (by omega) (by decide) dX0_begin_131 (wF_o hk) ?_
          refine v_iincN (pc := 132) 2 [1, 2, 0] [(0, _), (1, _), (2, _)] kI_1 dX0_begin_132 rfl (by decide) rfl ?_
          refine v_goto (pc := 135) (tgt := 102) dX0_begin_135 rfl ?_
          exact v_cast rfl rfl (by rw [itn_s]; first | (rw [st_ow_t (of_decide_eq_true c_118)]) | (rw [st_ow_f (of_decide_eq_false c_118)])) ih
    · intro i hi ih
      have ih : V E X ({ frames := 2, cells := 0, slots := 0, locals := 42 } : Room) RX0 cX0_begin 3 none 0 0 (QX E X false 146 (Ff none (cellOf E (sFl σ k (fl_begin (t, hr, nt, rg, pe, b, c, o, p) sd tr np nd bd ow)))) 0 0) false 146 38 [(0, .ref (Ez E + adr k)), (1, .ref (Ez E + pad j)), (2, .int (nI (7 - (i + 1)) + (-1)))] [] (cellOf E (sFl σ k (st_beg bd np (6 - i) (itn (fun i => st_beg bd np (6 - i)) i (tr, nI 0, nI 0, (-1), pe, b, c, o, p))))) := by rw [itn_s] at ih; exact ih
      generalize itn (fun i => st_beg bd np (6 - i)) i (tr, nI 0, nI 0, (-1), pe, b, c, o, p) = z_ at ih ⊢
      obtain ⟨t, hr, nt, rg, pe, b, c, o, p⟩ := z_
      show V E X _ RX0 _ _ _ _ _ _ false 146 _ [(0, .ref (Ez E + adr k)), (1, .ref (Ez E + pad j)), (2, .int (nI (7 - i) + (-1)))] [] (cellOf E (sFl σ k (t, hr, nt, rg, pe, b, c, o, p)))
      rw [show 7 - i = (6 - i) + 1 by omega, pk_m1]
      rw [show 7 - (i + 1) = 6 - i by omega] at ih
      refine v_iload_n (pc := 38) 2 dX0_begin_38 rfl rfl ?_
      refine v_if_ltN (pc := 39) (by omega) (tgt := 100) dX0_begin_39 rfl (fun c_39 => False.elim (id c_39)) (fun c_39 => ?_)
      refine v_aload_n (pc := 42) 0 dX0_begin_42 rfl rfl ?_
      refine g_X0_27 (pc := 43) (cFr_obj hk (gF_s _ _ _)) (adr_lt0 hk) rfl dX0_begin_43 ?_
      refine v_iload_n (pc := 46) 2 dX0_begin_46 rfl rfl ?_
      refine v_aload_n (pc := 47) 1 dX0_begin_47 rfl rfl ?_
      refine v_iload_n (pc := 48) 2 dX0_begin_48 rfl rfl ?_
      refine v_callV (pc := 49) _ _ k_X0_47 (cPr_obj hj hP) rfl (pad_lt0 hj) (c_hasPersonF hj hP hnp hnd _) ⟨rfl, rfl, by decide⟩ rfl rfl (Nat.le_of_ble_eq_true rfl) ⟨Nat.le_of_ble_eq_true rfl, Nat.le_of_ble_eq_true rfl⟩ dX0_begin_49 (unS ?_)
      rw [perB_n (by omega) (by omega)]
      show V E X _ RX0 _ _ _ 0 0 _ false 146 52 _ [_, _, _] _
      refine v_if_eqB (pc := 52) (tgt := 64) dX0_begin_52 rfl (fun c_52 => ?_) (fun c_52 => ?_)
      · refine v_iconst (pc := 64) (nI 0) dX0_begin_64 kI_0 ?_
        refine v_iastN (pc := 65) (cFr_b hk (gF_s _ _ _)) (adr_lt hk (by decide)) (by omega) (by decide) dX0_begin_65 (wF_b hk) ?_
        refine v_aload_n (pc := 66) 0 dX0_begin_66 rfl rfl ?_
        refine g_X0_31 (pc := 67) (cFr_obj hk (gF_s _ _ _)) (adr_lt0 hk) rfl dX0_begin_67 ?_
        refine v_iload_n (pc := 70) 2 dX0_begin_70 rfl rfl ?_
        refine v_iconst (pc := 71) (nI 0) dX0_begin_71 kI_0 ?_
        refine v_iastN (pc := 72) (cFr_c hk (gF_s _ _ _)) (adr_lt hk (by decide)) (by omega) (by decide) dX0_begin_72 (wF_c hk) ?_
        refine v_aload_n (pc := 73) 0 dX0_begin_73 rfl rfl ?_
        refine v_aload_n (pc := 74) 0 dX0_begin_74 rfl rfl ?_
        refine g_X0_27 (pc := 75) (cFr_obj hk (gF_s _ _ _)) (adr_lt0 hk) rfl dX0_begin_75 ?_
        refine v_iload_n (pc := 78) 2 dX0_begin_78 rfl rfl ?_
        refine v_ialdN (pc := 79) (cFr_b hk (gF_s _ _ _)) (adr_lt hk (by decide)) (by omega) (by decide) dX0_begin_79 ?_
        refine v_if_le (pc := 80) (tgt := 87) dX0_begin_80 rfl (fun c_80 => ?_) (fun c_80 => ?_)
        · refine v_aload_n (pc := 87) 0 dX0_begin_87 rfl rfl ?_
          refine g_X0_21 (pc := 88) (cFr_obj hk (gF_s _ _ _)) (adr_lt0 hk) rfl dX0_begin_88 ?_
          refine p_X0_21 (pc := 91) (cFr_obj hk (gF_s _ _ _)) (adr_lt0 hk) rfl rfl (Nat.le_of_ble_eq_true rfl) dX0_begin_91 (wF_rg hk) ?_
          refine v_iincC (pc := 94) 2 [1, 2, 0] [(0, _), (1, _), (2, _)] kI_m1 dX0_begin_94 rfl (by decide) rfl ?_
          refine v_goto (pc := 97) (tgt := 38) dX0_begin_97 rfl ?_
          rw [pk_us] at c_80
          exact v_cast rfl rfl (by unfold st_beg; first | (rw [if_pos (of_decide_eq_true c_52)]; first | (rw [if_pos (by first | exact c_80 | exact Int32.not_le.mpr c_80)]) | (rw [if_neg (by intro q; exact q c_80)])) | (rw [if_neg (of_decide_eq_false c_52)]; first | (rw [if_pos (by first | assumption | exact Int32.not_le.mpr (by assumption))]) | (rw [if_neg (by intro q; exact q (by assumption))]))) ih
        · refine v_iload_n (pc := 83) 2 dX0_begin_83 rfl rfl ?_
          refine v_goto (pc := 84) (tgt := 91) dX0_begin_84 rfl ?_
          refine p_X0_21 (pc := 91) (cFr_obj hk (gF_s _ _ _)) (adr_lt0 hk) rfl rfl (Nat.le_of_ble_eq_true rfl) dX0_begin_91 (wF_rg hk) ?_
          refine v_iincC (pc := 94) 2 [1, 2, 0] [(0, _), (1, _), (2, _)] kI_m1 dX0_begin_94 rfl (by decide) rfl ?_
          refine v_goto (pc := 97) (tgt := 38) dX0_begin_97 rfl ?_
          rw [pk_us] at c_80
          exact v_cast rfl rfl (by unfold st_beg; first | (rw [if_pos (of_decide_eq_true c_52)]; first | (rw [if_pos (by first | exact c_80 | exact Int32.not_le.mpr c_80)]) | (rw [if_neg (by intro q; exact q c_80)])) | (rw [if_neg (of_decide_eq_false c_52)]; first | (rw [if_pos (by first | assumption | exact Int32.not_le.mpr (by assumption))]) | (rw [if_neg (by intro q; exact q (by assumption))]))) ih
      · refine v_aload_n (pc := 55) 1 dX0_begin_55 rfl rfl ?_
        refine g_X0_51 (pc := 56) (cPr_obj hj hP) (pad_lt0 hj) rfl dX0_begin_56 ?_
        refine v_iload_n (pc := 59) 2 dX0_begin_59 rfl rfl ?_
        refine v_ialdN (pc := 60) (cPr_bd hj hP) (pad_lt hj (by decide)) (by omega) (by decide) dX0_begin_60 ?_
        refine v_goto (pc := 61) (tgt := 65) dX0_begin_61 rfl ?_
        refine v_iastN (pc := 65) (cFr_b hk (gF_s _ _ _)) (adr_lt hk (by decide)) (by omega) (by decide) dX0_begin_65 (wF_b hk) ?_
        refine v_aload_n (pc := 66) 0 dX0_begin_66 rfl rfl ?_
        refine g_X0_31 (pc := 67) (cFr_obj hk (gF_s _ _ _)) (adr_lt0 hk) rfl dX0_begin_67 ?_
        refine v_iload_n (pc := 70) 2 dX0_begin_70 rfl rfl ?_
        refine v_iconst (pc := 71) (nI 0) dX0_begin_71 kI_0 ?_
        refine v_iastN (pc := 72) (cFr_c hk (gF_s _ _ _)) (adr_lt hk (by decide)) (by omega) (by decide) dX0_begin_72 (wF_c hk) ?_
        refine v_aload_n (pc := 73) 0 dX0_begin_73 rfl rfl ?_
        refine v_aload_n (pc := 74) 0 dX0_begin_74 rfl rfl ?_
        refine g_X0_27 (pc := 75) (cFr_obj hk (gF_s _ _ _)) (adr_lt0 hk) rfl dX0_begin_75 ?_
        refine v_iload_n (pc := 78) 2 dX0_begin_78 rfl rfl ?_
        refine v_ialdN (pc := 79) (cFr_b hk (gF_s _ _ _)) (adr_lt hk (by decide)) (by omega) (by decide) dX0_begin_79 ?_
        refine v_if_le (pc := 80) (tgt := 87) dX0_begin_80 rfl (fun c_80 => ?_) (fun c_80 => ?_)
        · refine v_aload_n (pc := 87) 0 dX0_begin_87 rfl rfl ?_
          refine g_X0_21 (pc := 88) (cFr_obj hk (gF_s _ _ _)) (adr_lt0 hk) rfl dX0_begin_88 ?_
          refine p_X0_21 (pc := 91) (cFr_obj hk (gF_s _ _ _)) (adr_lt0 hk) rfl rfl (Nat.le_of_ble_eq_true rfl) dX0_begin_91 (wF_rg hk) ?_
          refine v_iincC (pc := 94) 2 [1, 2, 0] [(0, _), (1, _), (2, _)] kI_m1 dX0_begin_94 rfl (by decide) rfl ?_
          refine v_goto (pc := 97) (tgt := 38) dX0_begin_97 rfl ?_
          rw [pk_us] at c_80
          exact v_cast rfl rfl (by unfold st_beg; first | (rw [if_pos (of_decide_eq_true c_52)]; first | (rw [if_pos (by first | exact c_80 | exact Int32.not_le.mpr c_80)]) | (rw [if_neg (by intro q; exact q c_80)])) | (rw [if_neg (of_decide_eq_false c_52)]; first | (rw [if_pos (by first | assumption | exact Int32.not_le.mpr (by assumption))]) | (rw [if_neg (by intro q; exact q (by assumption))]))) ih
        · refine v_iload_n (pc := 83) 2 dX0_begin_83 rfl rfl ?_
          refine v_goto (pc := 84) (tgt := 91) dX0_begin_84 rfl ?_
          refine p_X0_21 (pc := 91) (cFr_obj hk (gF_s _ _ _)) (adr_lt0 hk) rfl rfl (Nat.le_of_ble_eq_true rfl) dX0_begin_91 (wF_rg hk) ?_
          refine v_iincC (pc := 94) 2 [1, 2, 0] [(0, _), (1, _), (2, _)] kI_m1 dX0_begin_94 rfl (by decide) rfl ?_
          refine v_goto (pc := 97) (tgt := 38) dX0_begin_97 rfl ?_
          rw [pk_us] at c_80
          exact v_cast rfl rfl (by unfold st_beg; first | (rw [if_pos (of_decide_eq_true c_52)]; first | (rw [if_pos (by first | exact c_80 | exact Int32.not_le.mpr c_80)]) | (rw [if_neg (by intro q; exact q c_80)])) | (rw [if_neg (of_decide_eq_false c_52)]; first | (rw [if_pos (by first | assumption | exact Int32.not_le.mpr (by assumption))]) | (rw [if_neg (by intro q; exact q (by assumption))]))) ih
  · refine v_bipush (pc := 26) (-2) dX0_begin_26 kB_m2 ?_
    refine v_goto (pc := 28) (tgt := 32) dX0_begin_28 rfl ?_
    refine p_X0_21 (pc := 32) (cFr_obj hk (gF_s _ _ _)) (adr_lt0 hk) rfl rfl (Nat.le_of_ble_eq_true rfl) dX0_begin_32 (wF_rg hk) ?_
    refine v_bipush (pc := 35) (nI 6) dX0_begin_35 kB_6 ?_
    refine v_istore_n (pc := 37) [1, 2, 0] [(0, _), (1, _), (2, _)] dX0_begin_37 rfl (by decide) rfl ?_
    refine dn (P := fun i => V E X ({ frames := 2, cells := 0, slots := 0, locals := 42 } : Room) RX0 cX0_begin 3 none 0 0 (QX E X false 146 (Ff none (cellOf E (sFl σ k (fl_begin (t, hr, nt, rg, pe, b, c, o, p) sd tr np nd bd ow)))) 0 0) false 146 38 [(0, .ref (Ez E + adr k)), (1, .ref (Ez E + pad j)), (2, .int (nI (7 - i) + (-1)))] [] (cellOf E (sFl σ k (itn (fun i => st_beg bd np (6 - i)) i (tr, nI 0, nI 0, (-2), pe, b, c, o, p))))) (N := 7) ?_ ?_
    · generalize hG : itn (fun i => st_beg bd np (6 - i)) 7 (tr, nI 0, nI 0, (-2), pe, b, c, o, p) = z_ 
      obtain ⟨t1, hr1, nt1, rg1, pe1, b1, c1, o1, p1⟩ := z_
      show V E X _ RX0 _ _ _ _ _ _ false 146 _ [(0, .ref (Ez E + adr k)), (1, .ref (Ez E + pad j)), (2, .int (nI (7 - 7) + (-1)))] [] (cellOf E (sFl σ k (t1, hr1, nt1, rg1, pe1, b1, c1, o1, p1)))
      refine v_iload_n (pc := 38) 2 dX0_begin_38 rfl rfl ?_
      refine v_if_lt (pc := 39) (tgt := 100) dX0_begin_39 rfl (fun c_39 => ?_) (fun c_39 => False.elim ((fun c => absurd c (by decide)) c_39))
      refine v_iconst (pc := 100) (nI 0) dX0_begin_100 kI_0 ?_
      refine v_istore_n (pc := 101) [1, 2, 0] [(0, _), (1, _), (2, _)] dX0_begin_101 rfl (by decide) rfl ?_
      refine dn (P := fun i => V E X ({ frames := 2, cells := 0, slots := 0, locals := 42 } : Room) RX0 cX0_begin 3 none 0 0 (QX E X false 146 (Ff none (cellOf E (sFl σ k (fl_begin (t, hr, nt, rg, pe, b, c, o, p) sd tr np nd bd ow)))) 0 0) false 146 102 [(0, .ref (Ez E + adr k)), (1, .ref (Ez E + pad j)), (2, .int (nI i))] [] (cellOf E (sFl σ k (t1, hr1, nt1, rg1, pe1, b1, c1, itn (st_ow ow nd) i o1, p1)))) (N := 9) ?_ ?_
      · refine v_iload_n (pc := 102) 2 dX0_begin_102 rfl rfl ?_
        refine v_bipush (pc := 103) (nI 9) dX0_begin_103 kB_9 ?_
        refine v_icmp_geN (pc := 105) (by omega) (by omega) (tgt := 138) dX0_begin_105 rfl (fun c_105 => ?_) (fun c_105 => False.elim ((fun c => by omega) c_105))
        refine v_aload_n (pc := 138) 0 dX0_begin_138 rfl rfl ?_
        refine v_iconst (pc := 139) (nI 0) dX0_begin_139 kI_0 ?_
        refine p_X0_24 (pc := 140) (cFr_obj hk (gF_s _ _ _)) (adr_lt0 hk) rfl rfl (Nat.le_of_ble_eq_true rfl) dX0_begin_140 (wF_pe hk) ?_
        refine v_aload_n (pc := 143) 1 dX0_begin_143 rfl rfl ?_
        refine g_X0_43 (pc := 144) (cPr_obj hj hP) (pad_lt0 hj) rfl dX0_begin_144 ?_
        refine v_if_eq (pc := 147) (tgt := 154) dX0_begin_147 rfl (fun c_147 => False.elim ((fun c => c_23 c) c_147)) (fun c_147 => ?_)
        refine v_aload_n (pc := 150) 0 dX0_begin_150 rfl rfl ?_
        refine v_callV (pc := 151) _ _ k_X0_56 (cFr_obj hk (gF_s _ _ _)) rfl (adr_lt0 hk) (c_note hk) ⟨rfl, rfl, by decide⟩ rfl rfl (Nat.le_of_ble_eq_true rfl) ⟨Nat.le_of_ble_eq_true rfl, Nat.le_of_ble_eq_true rfl⟩ dX0_begin_151 (unS ?_)
        show V E X _ RX0 _ _ _ 0 0 _ false 146 154 _ [] _
        exact v_vret (pc := 154) dX0_begin_154 (⟨rfl, by unfold fl_begin; rw [if_neg c_23]; unfold fl_beg1; rw [if_neg c_23, hG]; rfl⟩)
      · intro i hi ih
        refine v_iload_n (pc := 102) 2 dX0_begin_102 rfl rfl ?_
        refine v_bipush (pc := 103) (nI 9) dX0_begin_103 kB_9 ?_
        refine v_icmp_geN (pc := 105) (by omega) (by omega) (tgt := 138) dX0_begin_105 rfl (fun c_105 => False.elim ((fun c => by omega) c_105)) (fun c_105 => ?_)
        refine v_aload_n (pc := 108) 0 dX0_begin_108 rfl rfl ?_
        refine g_X0_34 (pc := 109) (cFr_obj hk (gF_s _ _ _)) (adr_lt0 hk) rfl dX0_begin_109 ?_
        refine v_iload_n (pc := 112) 2 dX0_begin_112 rfl rfl ?_
        refine v_aload_n (pc := 113) 1 dX0_begin_113 rfl rfl ?_
        refine v_iload_n (pc := 114) 2 dX0_begin_114 rfl rfl ?_
        refine v_callV (pc := 115) _ _ k_X0_52 (cPr_obj hj hP) rfl (pad_lt0 hj) (c_hasDebtF hj hP hnp hnd _) ⟨rfl, rfl, by decide⟩ rfl rfl (Nat.le_of_ble_eq_true rfl) ⟨Nat.le_of_ble_eq_true rfl, Nat.le_of_ble_eq_true rfl⟩ dX0_begin_115 (unS ?_)
        rw [perB_n (by omega) (by omega)]
        show V E X _ RX0 _ _ _ 0 0 _ false 146 118 _ [_, _, _] _
        refine v_if_eqB (pc := 118) (tgt := 130) dX0_begin_118 rfl (fun c_118 => ?_) (fun c_118 => ?_)
        · refine v_iconst (pc := 130) (nI 0) dX0_begin_130 kI_0 ?_
          refine v_iastN (pc := 131) (cFr_o hk (gF_s _ _ _)) (adr_lt hk (by decide)) (by omega) (by decide) dX0_begin_131 (wF_o hk) ?_
          refine v_iincN (pc := 132) 2 [1, 2, 0] [(0, _), (1, _), (2, _)] kI_1 dX0_begin_132 rfl (by decide) rfl ?_
          refine v_goto (pc := 135) (tgt := 102) dX0_begin_135 rfl ?_
          exact v_cast rfl rfl (by rw [itn_s]; first | (rw [st_ow_t (of_decide_eq_true c_118)]) | (rw [st_ow_f (of_decide_eq_false c_118)])) ih
        · refine v_aload_n (pc := 121) 1 dX0_begin_121 rfl rfl ?_
          refine g_X0_55 (pc := 122) (cPr_obj hj hP) (pad_lt0 hj) rfl dX0_begin_122 ?_
          refine v_iload_n (pc := 125) 2 dX0_begin_125 rfl rfl ?_
          refine v_ialdN (pc := 126) (cPr_ow hj hP) (pad_lt hj (by decide)) (by omega) (by decide) dX0_begin_126 ?_
          refine v_goto (pc := 127) (tgt := 131) dX0_begin_127 rfl ?_
          refine v_iastN (pc := 131) (cFr_o hk (gF_s _ _ _)) (adr_lt hk (by decide)) (by omega) (by decide) dX0_begin_131 (wF_o hk) ?_
          refine v_iincN (pc := 132) 2 [1, 2, 0] [(0, _), (1, _), (2, _)] kI_1 dX0_begin_132 rfl (by decide) rfl ?_
          refine v_goto (pc := 135) (tgt := 102) dX0_begin_135 rfl ?_
          exact v_cast rfl rfl (by rw [itn_s]; first | (rw [st_ow_t (of_decide_eq_true c_118)]) | (rw [st_ow_f (of_decide_eq_false c_118)])) ih
    · intro i hi ih
      have ih : V E X ({ frames := 2, cells := 0, slots := 0, locals := 42 } : Room) RX0 cX0_begin 3 none 0 0 (QX E X false 146 (Ff none (cellOf E (sFl σ k (fl_begin (t, hr, nt, rg, pe, b, c, o, p) sd tr np nd bd ow)))) 0 0) false 146 38 [(0, .ref (Ez E + adr k)), (1, .ref (Ez E + pad j)), (2, .int (nI (7 - (i + 1)) + (-1)))] [] (cellOf E (sFl σ k (st_beg bd np (6 - i) (itn (fun i => st_beg bd np (6 - i)) i (tr, nI 0, nI 0, (-2), pe, b, c, o, p))))) := by rw [itn_s] at ih; exact ih
      generalize itn (fun i => st_beg bd np (6 - i)) i (tr, nI 0, nI 0, (-2), pe, b, c, o, p) = z_ at ih ⊢
      obtain ⟨t, hr, nt, rg, pe, b, c, o, p⟩ := z_
      show V E X _ RX0 _ _ _ _ _ _ false 146 _ [(0, .ref (Ez E + adr k)), (1, .ref (Ez E + pad j)), (2, .int (nI (7 - i) + (-1)))] [] (cellOf E (sFl σ k (t, hr, nt, rg, pe, b, c, o, p)))
      rw [show 7 - i = (6 - i) + 1 by omega, pk_m1]
      rw [show 7 - (i + 1) = 6 - i by omega] at ih
      refine v_iload_n (pc := 38) 2 dX0_begin_38 rfl rfl ?_
      refine v_if_ltN (pc := 39) (by omega) (tgt := 100) dX0_begin_39 rfl (fun c_39 => False.elim (id c_39)) (fun c_39 => ?_)
      refine v_aload_n (pc := 42) 0 dX0_begin_42 rfl rfl ?_
      refine g_X0_27 (pc := 43) (cFr_obj hk (gF_s _ _ _)) (adr_lt0 hk) rfl dX0_begin_43 ?_
      refine v_iload_n (pc := 46) 2 dX0_begin_46 rfl rfl ?_
      refine v_aload_n (pc := 47) 1 dX0_begin_47 rfl rfl ?_
      refine v_iload_n (pc := 48) 2 dX0_begin_48 rfl rfl ?_
      refine v_callV (pc := 49) _ _ k_X0_47 (cPr_obj hj hP) rfl (pad_lt0 hj) (c_hasPersonF hj hP hnp hnd _) ⟨rfl, rfl, by decide⟩ rfl rfl (Nat.le_of_ble_eq_true rfl) ⟨Nat.le_of_ble_eq_true rfl, Nat.le_of_ble_eq_true rfl⟩ dX0_begin_49 (unS ?_)
      rw [perB_n (by omega) (by omega)]
      show V E X _ RX0 _ _ _ 0 0 _ false 146 52 _ [_, _, _] _
      refine v_if_eqB (pc := 52) (tgt := 64) dX0_begin_52 rfl (fun c_52 => ?_) (fun c_52 => ?_)
      · refine v_iconst (pc := 64) (nI 0) dX0_begin_64 kI_0 ?_
        refine v_iastN (pc := 65) (cFr_b hk (gF_s _ _ _)) (adr_lt hk (by decide)) (by omega) (by decide) dX0_begin_65 (wF_b hk) ?_
        refine v_aload_n (pc := 66) 0 dX0_begin_66 rfl rfl ?_
        refine g_X0_31 (pc := 67) (cFr_obj hk (gF_s _ _ _)) (adr_lt0 hk) rfl dX0_begin_67 ?_
        refine v_iload_n (pc := 70) 2 dX0_begin_70 rfl rfl ?_
        refine v_iconst (pc := 71) (nI 0) dX0_begin_71 kI_0 ?_
        refine v_iastN (pc := 72) (cFr_c hk (gF_s _ _ _)) (adr_lt hk (by decide)) (by omega) (by decide) dX0_begin_72 (wF_c hk) ?_
        refine v_aload_n (pc := 73) 0 dX0_begin_73 rfl rfl ?_
        refine v_aload_n (pc := 74) 0 dX0_begin_74 rfl rfl ?_
        refine g_X0_27 (pc := 75) (cFr_obj hk (gF_s _ _ _)) (adr_lt0 hk) rfl dX0_begin_75 ?_
        refine v_iload_n (pc := 78) 2 dX0_begin_78 rfl rfl ?_
        refine v_ialdN (pc := 79) (cFr_b hk (gF_s _ _ _)) (adr_lt hk (by decide)) (by omega) (by decide) dX0_begin_79 ?_
        refine v_if_le (pc := 80) (tgt := 87) dX0_begin_80 rfl (fun c_80 => ?_) (fun c_80 => ?_)
        · refine v_aload_n (pc := 87) 0 dX0_begin_87 rfl rfl ?_
          refine g_X0_21 (pc := 88) (cFr_obj hk (gF_s _ _ _)) (adr_lt0 hk) rfl dX0_begin_88 ?_
          refine p_X0_21 (pc := 91) (cFr_obj hk (gF_s _ _ _)) (adr_lt0 hk) rfl rfl (Nat.le_of_ble_eq_true rfl) dX0_begin_91 (wF_rg hk) ?_
          refine v_iincC (pc := 94) 2 [1, 2, 0] [(0, _), (1, _), (2, _)] kI_m1 dX0_begin_94 rfl (by decide) rfl ?_
          refine v_goto (pc := 97) (tgt := 38) dX0_begin_97 rfl ?_
          rw [pk_us] at c_80
          exact v_cast rfl rfl (by unfold st_beg; first | (rw [if_pos (of_decide_eq_true c_52)]; first | (rw [if_pos (by first | exact c_80 | exact Int32.not_le.mpr c_80)]) | (rw [if_neg (by intro q; exact q c_80)])) | (rw [if_neg (of_decide_eq_false c_52)]; first | (rw [if_pos (by first | assumption | exact Int32.not_le.mpr (by assumption))]) | (rw [if_neg (by intro q; exact q (by assumption))]))) ih
        · refine v_iload_n (pc := 83) 2 dX0_begin_83 rfl rfl ?_
          refine v_goto (pc := 84) (tgt := 91) dX0_begin_84 rfl ?_
          refine p_X0_21 (pc := 91) (cFr_obj hk (gF_s _ _ _)) (adr_lt0 hk) rfl rfl (Nat.le_of_ble_eq_true rfl) dX0_begin_91 (wF_rg hk) ?_
          refine v_iincC (pc := 94) 2 [1, 2, 0] [(0, _), (1, _), (2, _)] kI_m1 dX0_begin_94 rfl (by decide) rfl ?_
          refine v_goto (pc := 97) (tgt := 38) dX0_begin_97 rfl ?_
          rw [pk_us] at c_80
          exact v_cast rfl rfl (by unfold st_beg; first | (rw [if_pos (of_decide_eq_true c_52)]; first | (rw [if_pos (by first | exact c_80 | exact Int32.not_le.mpr c_80)]) | (rw [if_neg (by intro q; exact q c_80)])) | (rw [if_neg (of_decide_eq_false c_52)]; first | (rw [if_pos (by first | assumption | exact Int32.not_le.mpr (by assumption))]) | (rw [if_neg (by intro q; exact q (by assumption))]))) ih
      · refine v_aload_n (pc := 55) 1 dX0_begin_55 rfl rfl ?_
        refine g_X0_51 (pc := 56) (cPr_obj hj hP) (pad_lt0 hj) rfl dX0_begin_56 ?_
        refine v_iload_n (pc := 59) 2 dX0_begin_59 rfl rfl ?_
        refine v_ialdN (pc := 60) (cPr_bd hj hP) (pad_lt hj (by decide)) (by omega) (by decide) dX0_begin_60 ?_
        refine v_goto (pc := 61) (tgt := 65) dX0_begin_61 rfl ?_
        refine v_iastN (pc := 65) (cFr_b hk (gF_s _ _ _)) (adr_lt hk (by decide)) (by omega) (by decide) dX0_begin_65 (wF_b hk) ?_
        refine v_aload_n (pc := 66) 0 dX0_begin_66 rfl rfl ?_
        refine g_X0_31 (pc := 67) (cFr_obj hk (gF_s _ _ _)) (adr_lt0 hk) rfl dX0_begin_67 ?_
        refine v_iload_n (pc := 70) 2 dX0_begin_70 rfl rfl ?_
        refine v_iconst (pc := 71) (nI 0) dX0_begin_71 kI_0 ?_
        refine v_iastN (pc := 72) (cFr_c hk (gF_s _ _ _)) (adr_lt hk (by decide)) (by omega) (by decide) dX0_begin_72 (wF_c hk) ?_
        refine v_aload_n (pc := 73) 0 dX0_begin_73 rfl rfl ?_
        refine v_aload_n (pc := 74) 0 dX0_begin_74 rfl rfl ?_
        refine g_X0_27 (pc := 75) (cFr_obj hk (gF_s _ _ _)) (adr_lt0 hk) rfl dX0_begin_75 ?_
        refine v_iload_n (pc := 78) 2 dX0_begin_78 rfl rfl ?_
        refine v_ialdN (pc := 79) (cFr_b hk (gF_s _ _ _)) (adr_lt hk (by decide)) (by omega) (by decide) dX0_begin_79 ?_
        refine v_if_le (pc := 80) (tgt := 87) dX0_begin_80 rfl (fun c_80 => ?_) (fun c_80 => ?_)
        · refine v_aload_n (pc := 87) 0 dX0_begin_87 rfl rfl ?_
          refine g_X0_21 (pc := 88) (cFr_obj hk (gF_s _ _ _)) (adr_lt0 hk) rfl dX0_begin_88 ?_
          refine p_X0_21 (pc := 91) (cFr_obj hk (gF_s _ _ _)) (adr_lt0 hk) rfl rfl (Nat.le_of_ble_eq_true rfl) dX0_begin_91 (wF_rg hk) ?_
          refine v_iincC (pc := 94) 2 [1, 2, 0] [(0, _), (1, _), (2, _)] kI_m1 dX0_begin_94 rfl (by decide) rfl ?_
          refine v_goto (pc := 97) (tgt := 38) dX0_begin_97 rfl ?_
          rw [pk_us] at c_80
          exact v_cast rfl rfl (by unfold st_beg; first | (rw [if_pos (of_decide_eq_true c_52)]; first | (rw [if_pos (by first | exact c_80 | exact Int32.not_le.mpr c_80)]) | (rw [if_neg (by intro q; exact q c_80)])) | (rw [if_neg (of_decide_eq_false c_52)]; first | (rw [if_pos (by first | assumption | exact Int32.not_le.mpr (by assumption))]) | (rw [if_neg (by intro q; exact q (by assumption))]))) ih
        · refine v_iload_n (pc := 83) 2 dX0_begin_83 rfl rfl ?_
          refine v_goto (pc := 84) (tgt := 91) dX0_begin_84 rfl ?_
          refine p_X0_21 (pc := 91) (cFr_obj hk (gF_s _ _ _)) (adr_lt0 hk) rfl rfl (Nat.le_of_ble_eq_true rfl) dX0_begin_91 (wF_rg hk) ?_
          refine v_iincC (pc := 94) 2 [1, 2, 0] [(0, _), (1, _), (2, _)] kI_m1 dX0_begin_94 rfl (by decide) rfl ?_
          refine v_goto (pc := 97) (tgt := 38) dX0_begin_97 rfl ?_
          rw [pk_us] at c_80
          exact v_cast rfl rfl (by unfold st_beg; first | (rw [if_pos (of_decide_eq_true c_52)]; first | (rw [if_pos (by first | exact c_80 | exact Int32.not_le.mpr c_80)]) | (rw [if_neg (by intro q; exact q c_80)])) | (rw [if_neg (of_decide_eq_false c_52)]; first | (rw [if_pos (by first | assumption | exact Int32.not_le.mpr (by assumption))]) | (rw [if_neg (by intro q; exact q (by assumption))]))) ih
