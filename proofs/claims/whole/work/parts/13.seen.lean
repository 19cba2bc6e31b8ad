section RM
variable {E : Ev} {X : Cx} {R : Room} {own : String} {cc : ByteArray} {nL : Nat} {ret : Option FieldType} {k n : Nat} {Q : State → Prop} {B : Bool} {N pc : Nat} {lv : List (Nat × Value)} {st : List Value} {h : Hp}
theorem v_iremN {a b : Nat} (ha : a < 2147483648) (h0 : 0 < b) (hb : b < 2147483648) (hd : decode cc pc = .ok (.irem, 1)) (kk : V E X R own cc nL ret k n Q B N (pc + 1) lv (.int (nI (a % b)) :: st) h) : V E X R own cc nL ret k n Q B N pc lv (.int (nI b) :: .int (nI a) :: st) h := v_irem hd (nI_ne0 h0 hb) (by rw [pk_rem ha h0 hb]; exact kk)
theorem v_idivN {a b : Nat} (ha : a < 2147483648) (h0 : 0 < b) (hb : b < 2147483648) (hd : decode cc pc = .ok (.idiv, 1)) (kk : V E X R own cc nL ret k n Q B N (pc + 1) lv (.int (nI (a / b)) :: st) h) : V E X R own cc nL ret k n Q B N pc lv (.int (nI b) :: .int (nI a) :: st) h := v_idiv hd (nI_ne0 h0 hb) (by rw [pk_div ha h0 hb]; exact kk)
end RM
theorem mnI_n {a b : Nat} (ha : a < 2147483648) (hb : b < 2147483648) : mnI (nI a) (nI b) = nI (min a b) := by
  unfold mnI
  by_cases h : b < a
  · rw [if_pos (nI_lt h ha), Nat.min_eq_right (by omega)]
  · rw [if_neg (nI_nlt (by omega) hb), Nat.min_eq_left (by omega)]
theorem nar_bI (b : Bool) : vp_nar .boolean (bI b) = bI b := by cases b <;> rfl
/-- flock k takes flock l's values -/
theorem c_copyS {E : Ev} {σ : Sg} {k l : Nat} (hk : k < 20) (hl : l < 20) (hlk : l ≠ k) : Ct E yX0_copyFrom cX0_copyFrom 2 none ({ frames := 1, cells := 0, slots := 0, locals := 40 } : Room) false 146 [.ref (Ez E + adr k), .ref (Ez E + adr l)] (cellOf E σ) 146 0 0 (Ff none (cellOf E (sFl σ k (fl_copy (gF σ l) (gF σ k))))) := by
  refine liftF (r := fun _ => none) (f := fun F => fl_copy (gF σ l) F) (fun F => ?_)
  obtain ⟨t, hr, nt, rg, pe, b, c, o, p⟩ := F
  generalize hG : gF σ l = G
  obtain ⟨t1, hr1, nt1, rg1, pe1, b1, c1, o1, p1⟩ := G
  exact c_copy hk hl hlk hG
theorem cF_obj {E : Ev} {σ : Sg} (k : Nat) (hk : k < 20) : cellOf E σ (adr k) = .inr (0, [.int (gF σ k).1, .int (gF σ k).2.1, .int (gF σ k).2.2.1, .int (gF σ k).2.2.2.1, .int (gF σ k).2.2.2.2.1, .ref (Ez E + (adr k + 1)), .ref (Ez E + (adr k + 2)), .ref (Ez E + (adr k + 3)), .ref (Ez E + (adr k + 4))]) := cFr_obj hk rfl
set_option maxHeartbeats 4000000 in
set_option maxRecDepth 100000 in
theorem c_pforget {E : Ev} {σ : Sg} {x s : Nat} (hx : x < 16) (hs : s ≤ 16) : Ct E yX2_forget cX2_forget 1 none ({ frames := 0, cells := 0, slots := 0, locals := 0 } : Room) false 146 [.ref (Ez E + 27)] (cellOf E (sPa σ (nI x, nI s))) 146 0 0 (Ff none (cellOf E (sPa σ (nI x, nI 0)))) := by
  refine Ct.ofV (by decide) (Nat.le_of_ble_eq_true rfl) (fun X hnm => ?_)
  show V E X _ RX2 _ _ _ _ _ _ false 146 0 [(0, .ref (Ez E + 27))] [] _
  refine v_aload_n (pc := 0) 0 dX2_forget_0 rfl rfl ?_
  refine v_iconst (pc := 1) (nI 0) dX2_forget_1 kI_0 ?_
  refine p_X2_21 (pc := 2) (cQr_obj rfl) (by decide) rfl rfl (Nat.le_of_ble_eq_true rfl) dX2_forget_2 (wQ_sz) ?_
  exact v_vret (pc := 5) dX2_forget_5 (⟨rfl, rfl⟩)
set_option maxHeartbeats 4000000 in
set_option maxRecDepth 100000 in
theorem c_remember {E : Ev} {σ : Sg} {x s : Nat} (hx : x < 16) (hs : s ≤ 16) : Ct E yX2_remember cX2_remember 2 none ({ frames := 2, cells := 0, slots := 0, locals := 61 } : Room) false 146 [.ref (Ez E + 27), .ref (Ez E + adr 0)] (cellOf E (sPa σ (nI x, nI s))) 146 0 0 (Ff none (cellOf E (sPa (sFl σ (2 + x) (fl_copy (gF σ 0) (gF σ (2 + x)))) (nI ((x + 1) % 16), nI (min (s + 1) 16))))) := by
  refine Ct.ofV (by decide) (Nat.le_of_ble_eq_true rfl) (fun X hnm => ?_)
  show V E X _ RX2 _ _ _ _ _ _ false 146 0 [(0, .ref (Ez E + 27)), (1, .ref (Ez E + adr 0))] [] _
  refine v_aload_n (pc := 0) 0 dX2_remember_0 rfl rfl ?_
  refine g_X2_11 (pc := 1) (cQr_obj rfl) (by decide) rfl dX2_remember_1 ?_
  refine v_aload_n (pc := 4) 0 dX2_remember_4 rfl rfl ?_
  refine g_X2_17 (pc := 5) (cQr_obj rfl) (by decide) rfl dX2_remember_5 ?_
  refine v_aaldN (pc := 8) (cQr_f) (by decide) (hx) (by decide) (if_pos hx) dX2_remember_8 ?_
  refine v_aload_n (pc := 9) 1 dX2_remember_9 rfl rfl ?_
  refine v_callV (pc := 10) _ _ k_X2_25 (cF_obj _ (by omega)) rfl (adr_lt0 (by omega)) (c_copyS (k := 2 + x) (l := 0) (by omega) (by decide) (by omega)) ⟨rfl, rfl, by decide⟩ rfl rfl (Nat.le_of_ble_eq_true rfl) ⟨Nat.le_of_ble_eq_true rfl, Nat.le_of_ble_eq_true rfl⟩ dX2_remember_10 (unS ?_)
  show V E X _ RX2 _ _ _ 0 0 _ false 146 13 _ _ (cellOf E (sPa (sFl σ (2 + x) (fl_copy (gF σ 0) (gF σ (2 + x)))) (nI x, nI s)))
  show V E X _ RX2 _ _ _ 0 0 _ false 146 13 _ [] _
  refine v_aload_n (pc := 13) 0 dX2_remember_13 rfl rfl ?_
  refine v_aload_n (pc := 14) 0 dX2_remember_14 rfl rfl ?_
  refine g_X2_17 (pc := 15) (cQr_obj rfl) (by decide) rfl dX2_remember_15 ?_
  refine v_iconst (pc := 18) (nI 1) dX2_remember_18 kI_1 ?_
  refine v_iaddN (pc := 19) dX2_remember_19 ?_
  refine v_bipush (pc := 20) (nI 16) dX2_remember_20 kB_16 ?_
  refine v_iremN (pc := 22) (by omega) (by omega) (by omega) dX2_remember_22 ?_
  refine p_X2_17 (pc := 23) (cQr_obj rfl) (by decide) rfl rfl (Nat.le_of_ble_eq_true rfl) dX2_remember_23 (wQ_nx) ?_
  refine v_aload_n (pc := 26) 0 dX2_remember_26 rfl rfl ?_
  refine v_aload_n (pc := 27) 0 dX2_remember_27 rfl rfl ?_
  refine g_X2_21 (pc := 28) (cQr_obj rfl) (by decide) rfl dX2_remember_28 ?_
  refine v_iconst (pc := 31) (nI 1) dX2_remember_31 kI_1 ?_
  refine v_iaddN (pc := 32) dX2_remember_32 ?_
  refine v_bipush (pc := 33) (nI 16) dX2_remember_33 kB_16 ?_
  refine v_callS (pc := 35) _ _ k_X2_29 (c_min _ _) ⟨rfl, rfl, by decide⟩ rfl rfl (Nat.le_of_ble_eq_true rfl) ⟨Nat.le_of_ble_eq_true rfl, Nat.le_of_ble_eq_true rfl⟩ dX2_remember_35 (unS ?_)
  rw [mnI_n (by omega) (by omega)]
  show V E X _ RX2 _ _ _ 0 0 _ false 146 38 _ [_, _] _
  refine p_X2_21 (pc := 38) (cQr_obj rfl) (by decide) rfl rfl (Nat.le_of_ble_eq_true rfl) dX2_remember_38 (wQ_sz) ?_
  exact v_vret (pc := 41) dX2_remember_41 (⟨rfl, rfl⟩)
set_option maxHeartbeats 4000000 in
set_option maxRecDepth 100000 in
theorem c_recall {E : Ev} {σ : Sg} {x s : Nat} (hx : x < 16) (hs : s ≤ 16) : Ct E yX2_recallInto cX2_recallInto 2 none ({ frames := 2, cells := 0, slots := 0, locals := 61 } : Room) false 146 [.ref (Ez E + 27), .ref (Ez E + adr 0)] (cellOf E (sPa σ (nI x, nI s))) 146 0 0 (Ff none (cellOf E (if 0 < s then sPa (sFl σ 0 (fl_copy (gF σ (2 + (x + 15) % 16)) (gF σ 0))) (nI ((x + 15) % 16), nI (s - 1)) else sPa σ (nI x, nI s)))) := by
  refine Ct.ofV (by decide) (Nat.le_of_ble_eq_true rfl) (fun X hnm => ?_)
  show V E X _ RX2 _ _ _ _ _ _ false 146 0 [(0, .ref (Ez E + 27)), (1, .ref (Ez E + adr 0))] [] _
  refine v_aload_n (pc := 0) 0 dX2_recallInto_0 rfl rfl ?_
  refine g_X2_21 (pc := 1) (cQr_obj rfl) (by decide) rfl dX2_recallInto_1 ?_
  refine v_if_leN (pc := 4) (by omega) (tgt := 46) dX2_recallInto_4 rfl (fun c_4 => ?_) (fun c_4 => ?_)
  · exact v_vret (pc := 46) dX2_recallInto_46 (⟨rfl, by first | (rw [if_pos (by omega)]; done) | (rw [if_pos (by omega)]; rfl) | (rw [if_neg (by omega)])⟩)
  · refine v_aload_n (pc := 7) 0 dX2_recallInto_7 rfl rfl ?_
    refine v_aload_n (pc := 8) 0 dX2_recallInto_8 rfl rfl ?_
    refine g_X2_17 (pc := 9) (cQr_obj rfl) (by decide) rfl dX2_recallInto_9 ?_
    refine v_bipush (pc := 12) (nI 16) dX2_recallInto_12 kB_16 ?_
    refine v_iaddN (pc := 14) dX2_recallInto_14 ?_
    refine v_iconst (pc := 15) (nI 1) dX2_recallInto_15 kI_1 ?_
    refine v_isubN (pc := 16) (by omega) dX2_recallInto_16 ?_
    refine v_bipush (pc := 17) (nI 16) dX2_recallInto_17 kB_16 ?_
    refine v_iremN (pc := 19) (by omega) (by omega) (by omega) dX2_recallInto_19 ?_
    refine p_X2_17 (pc := 20) (cQr_obj rfl) (by decide) rfl rfl (Nat.le_of_ble_eq_true rfl) dX2_recallInto_20 (wQ_nx) ?_
    refine v_aload_n (pc := 23) 0 dX2_recallInto_23 rfl rfl ?_
    refine v_dup (pc := 24) dX2_recallInto_24 rfl ?_
    refine g_X2_21 (pc := 25) (cQr_obj rfl) (by decide) rfl dX2_recallInto_25 ?_
    refine v_iconst (pc := 28) (nI 1) dX2_recallInto_28 kI_1 ?_
    refine v_isubN (pc := 29) (by omega) dX2_recallInto_29 ?_
    refine p_X2_21 (pc := 30) (cQr_obj rfl) (by decide) rfl rfl (Nat.le_of_ble_eq_true rfl) dX2_recallInto_30 (wQ_sz) ?_
    refine v_aload_n (pc := 33) 1 dX2_recallInto_33 rfl rfl ?_
    refine v_aload_n (pc := 34) 0 dX2_recallInto_34 rfl rfl ?_
    refine g_X2_11 (pc := 35) (cQr_obj rfl) (by decide) rfl dX2_recallInto_35 ?_
    refine v_aload_n (pc := 38) 0 dX2_recallInto_38 rfl rfl ?_
    refine g_X2_17 (pc := 39) (cQr_obj rfl) (by decide) rfl dX2_recallInto_39 ?_
    refine v_aaldN (pc := 42) (cQr_f) (by decide) (Nat.mod_lt _ (by decide)) (by decide) (if_pos (Nat.mod_lt _ (by decide))) dX2_recallInto_42 ?_
    refine v_callV (pc := 43) _ _ k_X2_25 (cF_obj _ (by decide)) rfl (adr_lt0 (by decide)) (c_copyS (k := 0) (l := 2 + (x + 16 - 1) % 16) (by decide) (by omega) (by omega)) ⟨rfl, rfl, by decide⟩ rfl rfl (Nat.le_of_ble_eq_true rfl) ⟨Nat.le_of_ble_eq_true rfl, Nat.le_of_ble_eq_true rfl⟩ dX2_recallInto_43 (unS ?_)
    show V E X _ RX2 _ _ _ 0 0 _ false 146 46 _ [] _
    exact v_vret (pc := 46) dX2_recallInto_46 (⟨rfl, by first | (rw [if_pos (by omega)]; done) | (rw [if_pos (by omega)]; rfl) | (rw [if_neg (by omega)])⟩)
set_option maxHeartbeats 4000000 in
set_option maxRecDepth 100000 in
theorem c_sforget {E : Ev} {σ : Sg} {wa df wf ep eb : Fn} {ws fs es : Nat} (hws : ws ≤ 6) (hfs : fs ≤ 6) (hes : es ≤ 15)  : Ct E yX3_forget cX3_forget 1 none ({ frames := 0, cells := 0, slots := 0, locals := 0 } : Room) false 146 [.ref (Ez E + 115)] (cellOf E (sSe σ (wa, df, wf, ep, eb, nI ws, nI fs, nI es))) 146 0 0 (Ff none (cellOf E (sSe σ (wa, df, wf, ep, eb, nI 0, nI 0, nI 0)))) := by
  refine Ct.ofV (by decide) (Nat.le_of_ble_eq_true rfl) (fun X hnm => ?_)
  show V E X _ RX3 _ _ _ _ _ _ false 146 0 [(0, .ref (Ez E + 115))] [] _
  refine v_aload_n (pc := 0) 0 dX3_forget_0 rfl rfl ?_
  refine v_iconst (pc := 1) (nI 0) dX3_forget_1 kI_0 ?_
  refine p_X3_28 (pc := 2) (cSr_obj rfl) (by decide) rfl rfl (Nat.le_of_ble_eq_true rfl) dX3_forget_2 (wS_ws) ?_
  refine v_aload_n (pc := 5) 0 dX3_forget_5 rfl rfl ?_
  refine v_iconst (pc := 6) (nI 0) dX3_forget_6 kI_0 ?_
  refine p_X3_32 (pc := 7) (cSr_obj rfl) (by decide) rfl rfl (Nat.le_of_ble_eq_true rfl) dX3_forget_7 (wS_fs) ?_
  refine v_aload_n (pc := 10) 0 dX3_forget_10 rfl rfl ?_
  refine v_iconst (pc := 11) (nI 0) dX3_forget_11 kI_0 ?_
  refine p_X3_35 (pc := 12) (cSr_obj rfl) (by decide) rfl rfl (Nat.le_of_ble_eq_true rfl) dX3_forget_12 (wS_es) ?_
  exact v_vret (pc := 15) dX3_forget_15 (⟨rfl, rfl⟩)
set_option maxHeartbeats 4000000 in
set_option maxRecDepth 100000 in
theorem c_addW {E : Ev} {σ : Sg} {wa df wf ep eb : Fn} {ws fs es : Nat} (hws : ws ≤ 6) (hfs : fs ≤ 6) (hes : es ≤ 15) (x : Int32) : Ct E yX3_addWatched cX3_addWatched 2 (some .int) ({ frames := 0, cells := 0, slots := 0, locals := 0 } : Room) false 146 [.ref (Ez E + 115), .int x] (cellOf E (sSe σ (wa, df, wf, ep, eb, nI ws, nI fs, nI es))) 146 0 0 (Ff (some (.int (nI (if ws < 6 then ws + 1 else ws)))) (cellOf E (sSe σ (if ws < 6 then (upd wa ws x, df, wf, ep, eb, nI (ws + 1), nI fs, nI es) else (wa, df, wf, ep, eb, nI ws, nI fs, nI es))))) := by
  refine Ct.ofV (by decide) (Nat.le_of_ble_eq_true rfl) (fun X hnm => ?_)
  show V E X _ RX3 _ _ _ _ _ _ false 146 0 [(0, .ref (Ez E + 115)), (1, .int x)] [] _
  refine v_aload_n (pc := 0) 0 dX3_addWatched_0 rfl rfl ?_
  refine g_X3_28 (pc := 1) (cSr_obj rfl) (by decide) rfl dX3_addWatched_1 ?_
  refine v_bipush (pc := 4) (nI 6) dX3_addWatched_4 kB_6 ?_
  refine v_icmp_geN (pc := 6) (by omega) (by omega) (tgt := 29) dX3_addWatched_6 rfl (fun c_6 => ?_) (fun c_6 => ?_)
  · refine v_aload_n (pc := 29) 0 dX3_addWatched_29 rfl rfl ?_
    refine g_X3_28 (pc := 30) (cSr_obj rfl) (by decide) rfl dX3_addWatched_30 ?_
    exact v_iret (pc := 33) dX3_addWatched_33 (⟨by first | (rw [if_pos (show ws < 6 by omega)]; done) | (rw [if_neg (show ¬ ws < 6 by omega)]; done), by first | (rw [if_pos (show ws < 6 by omega)]; done) | (rw [if_neg (show ¬ ws < 6 by omega)]; done)⟩)
  · refine v_aload_n (pc := 9) 0 dX3_addWatched_9 rfl rfl ?_
    refine g_X3_9 (pc := 10) (cSr_obj rfl) (by decide) rfl dX3_addWatched_10 ?_
    refine v_aload_n (pc := 13) 0 dX3_addWatched_13 rfl rfl ?_
    refine g_X3_28 (pc := 14) (cSr_obj rfl) (by decide) rfl dX3_addWatched_14 ?_
    refine v_iload_n (pc := 17) 1 dX3_addWatched_17 rfl rfl ?_
    refine v_iastN (pc := 18) (cSr_wa rfl) (by decide) (by omega) (by decide) dX3_addWatched_18 (wS_wa) ?_
    refine v_aload_n (pc := 19) 0 dX3_addWatched_19 rfl rfl ?_
    refine v_dup (pc := 20) dX3_addWatched_20 rfl ?_
    refine g_X3_28 (pc := 21) (cSr_obj rfl) (by decide) rfl dX3_addWatched_21 ?_
    refine v_iconst (pc := 24) (nI 1) dX3_addWatched_24 kI_1 ?_
    refine v_iaddN (pc := 25) dX3_addWatched_25 ?_
    refine p_X3_28 (pc := 26) (cSr_obj rfl) (by decide) rfl rfl (Nat.le_of_ble_eq_true rfl) dX3_addWatched_26 (wS_ws) ?_
    refine v_aload_n (pc := 29) 0 dX3_addWatched_29 rfl rfl ?_
    refine g_X3_28 (pc := 30) (cSr_obj rfl) (by decide) rfl dX3_addWatched_30 ?_
    exact v_iret (pc := 33) dX3_addWatched_33 (⟨by first | (rw [if_pos (show ws < 6 by omega)]; done) | (rw [if_neg (show ¬ ws < 6 by omega)]; done), by first | (rw [if_pos (show ws < 6 by omega)]; done) | (rw [if_neg (show ¬ ws < 6 by omega)]; done)⟩)
set_option maxHeartbeats 4000000 in
set_option maxRecDepth 100000 in
theorem c_addF {E : Ev} {σ : Sg} {wa df wf ep eb : Fn} {ws fs es : Nat} (hws : ws ≤ 6) (hfs : fs ≤ 6) (hes : es ≤ 15) (x : Int32) (y : Bool) : Ct E yX3_addFelt cX3_addFelt 3 (some .int) ({ frames := 0, cells := 0, slots := 0, locals := 0 } : Room) false 146 [.ref (Ez E + 115), .int x, .int (bI y)] (cellOf E (sSe σ (wa, df, wf, ep, eb, nI ws, nI fs, nI es))) 146 0 0 (Ff (some (.int (nI (if fs < 6 then fs + 1 else fs)))) (cellOf E (sSe σ (if fs < 6 then (wa, upd df fs x, upd wf fs (bI y), ep, eb, nI ws, nI (fs + 1), nI es) else (wa, df, wf, ep, eb, nI ws, nI fs, nI es))))) := by
  refine Ct.ofV (by decide) (Nat.le_of_ble_eq_true rfl) (fun X hnm => ?_)
  show V E X _ RX3 _ _ _ _ _ _ false 146 0 [(0, .ref (Ez E + 115)), (1, .int x), (2, .int (bI y))] [] _
  refine v_aload_n (pc := 0) 0 dX3_addFelt_0 rfl rfl ?_
  refine g_X3_32 (pc := 1) (cSr_obj rfl) (by decide) rfl dX3_addFelt_1 ?_
  refine v_bipush (pc := 4) (nI 6) dX3_addFelt_4 kB_6 ?_
  refine v_icmp_geN (pc := 6) (by omega) (by omega) (tgt := 39) dX3_addFelt_6 rfl (fun c_6 => ?_) (fun c_6 => ?_)
  · refine v_aload_n (pc := 39) 0 dX3_addFelt_39 rfl rfl ?_
    refine g_X3_32 (pc := 40) (cSr_obj rfl) (by decide) rfl dX3_addFelt_40 ?_
    exact v_iret (pc := 43) dX3_addFelt_43 (⟨by first | (rw [if_pos (show fs < 6 by omega)]; done) | (rw [if_neg (show ¬ fs < 6 by omega)]; done), by first | (rw [nar_bI, if_pos (show fs < 6 by omega)]; done) | (rw [if_neg (show ¬ fs < 6 by omega)]; done)⟩)
  · refine v_aload_n (pc := 9) 0 dX3_addFelt_9 rfl rfl ?_
    refine g_X3_15 (pc := 10) (cSr_obj rfl) (by decide) rfl dX3_addFelt_10 ?_
    refine v_aload_n (pc := 13) 0 dX3_addFelt_13 rfl rfl ?_
    refine g_X3_32 (pc := 14) (cSr_obj rfl) (by decide) rfl dX3_addFelt_14 ?_
    refine v_iload_n (pc := 17) 1 dX3_addFelt_17 rfl rfl ?_
    refine v_iastN (pc := 18) (cSr_df rfl) (by decide) (by omega) (by decide) dX3_addFelt_18 (wS_df) ?_
    refine v_aload_n (pc := 19) 0 dX3_addFelt_19 rfl rfl ?_
    refine g_X3_18 (pc := 20) (cSr_obj rfl) (by decide) rfl dX3_addFelt_20 ?_
    refine v_aload_n (pc := 23) 0 dX3_addFelt_23 rfl rfl ?_
    refine g_X3_32 (pc := 24) (cSr_obj rfl) (by decide) rfl dX3_addFelt_24 ?_
    refine v_iload_n (pc := 27) 2 dX3_addFelt_27 rfl rfl ?_
    refine v_zastN (pc := 28) (cSr_wf rfl) (by decide) (by omega) (by decide) dX3_addFelt_28 (wS_wf) ?_
    refine v_aload_n (pc := 29) 0 dX3_addFelt_29 rfl rfl ?_
    refine v_dup (pc := 30) dX3_addFelt_30 rfl ?_
    refine g_X3_32 (pc := 31) (cSr_obj rfl) (by decide) rfl dX3_addFelt_31 ?_
    refine v_iconst (pc := 34) (nI 1) dX3_addFelt_34 kI_1 ?_
    refine v_iaddN (pc := 35) dX3_addFelt_35 ?_
    refine p_X3_32 (pc := 36) (cSr_obj rfl) (by decide) rfl rfl (Nat.le_of_ble_eq_true rfl) dX3_addFelt_36 (wS_fs) ?_
    refine v_aload_n (pc := 39) 0 dX3_addFelt_39 rfl rfl ?_
    refine g_X3_32 (pc := 40) (cSr_obj rfl) (by decide) rfl dX3_addFelt_40 ?_
    exact v_iret (pc := 43) dX3_addFelt_43 (⟨by first | (rw [if_pos (show fs < 6 by omega)]; done) | (rw [if_neg (show ¬ fs < 6 by omega)]; done), by first | (rw [nar_bI, if_pos (show fs < 6 by omega)]; done) | (rw [if_neg (show ¬ fs < 6 by omega)]; done)⟩)
set_option maxHeartbeats 4000000 in
set_option maxRecDepth 100000 in
theorem c_addE {E : Ev} {σ : Sg} {wa df wf ep eb : Fn} {ws fs es : Nat} (hws : ws ≤ 6) (hfs : fs ≤ 6) (hes : es ≤ 15) (x y : Int32) : Ct E yX3_addEntry cX3_addEntry 3 (some .int) ({ frames := 0, cells := 0, slots := 0, locals := 0 } : Room) false 146 [.ref (Ez E + 115), .int x, .int y] (cellOf E (sSe σ (wa, df, wf, ep, eb, nI ws, nI fs, nI es))) 146 0 0 (Ff (some (.int (nI (if es < 15 then es + 1 else es)))) (cellOf E (sSe σ (if es < 15 then (wa, df, wf, upd ep es x, upd eb es y, nI ws, nI fs, nI (es + 1)) else (wa, df, wf, ep, eb, nI ws, nI fs, nI es))))) := by
  refine Ct.ofV (by decide) (Nat.le_of_ble_eq_true rfl) (fun X hnm => ?_)
  show V E X _ RX3 _ _ _ _ _ _ false 146 0 [(0, .ref (Ez E + 115)), (1, .int x), (2, .int y)] [] _
  refine v_aload_n (pc := 0) 0 dX3_addEntry_0 rfl rfl ?_
  refine g_X3_35 (pc := 1) (cSr_obj rfl) (by decide) rfl dX3_addEntry_1 ?_
  refine v_bipush (pc := 4) (nI 15) dX3_addEntry_4 kB_15 ?_
  refine v_icmp_geN (pc := 6) (by omega) (by omega) (tgt := 39) dX3_addEntry_6 rfl (fun c_6 => ?_) (fun c_6 => ?_)
  · refine v_aload_n (pc := 39) 0 dX3_addEntry_39 rfl rfl ?_
    refine g_X3_35 (pc := 40) (cSr_obj rfl) (by decide) rfl dX3_addEntry_40 ?_
    exact v_iret (pc := 43) dX3_addEntry_43 (⟨by first | (rw [if_pos (show es < 15 by omega)]; done) | (rw [if_neg (show ¬ es < 15 by omega)]; done), by first | (rw [if_pos (show es < 15 by omega)]; done) | (rw [if_neg (show ¬ es < 15 by omega)]; done)⟩)
  · refine v_aload_n (pc := 9) 0 dX3_addEntry_9 rfl rfl ?_
    refine g_X3_22 (pc := 10) (cSr_obj rfl) (by decide) rfl dX3_addEntry_10 ?_
    refine v_aload_n (pc := 13) 0 dX3_addEntry_13 rfl rfl ?_
    refine g_X3_35 (pc := 14) (cSr_obj rfl) (by decide) rfl dX3_addEntry_14 ?_
    refine v_iload_n (pc := 17) 1 dX3_addEntry_17 rfl rfl ?_
    refine v_iastN (pc := 18) (cSr_ep rfl) (by decide) (by omega) (by decide) dX3_addEntry_18 (wS_ep) ?_
    refine v_aload_n (pc := 19) 0 dX3_addEntry_19 rfl rfl ?_
    refine g_X3_25 (pc := 20) (cSr_obj rfl) (by decide) rfl dX3_addEntry_20 ?_
    refine v_aload_n (pc := 23) 0 dX3_addEntry_23 rfl rfl ?_
    refine g_X3_35 (pc := 24) (cSr_obj rfl) (by decide) rfl dX3_addEntry_24 ?_
    refine v_iload_n (pc := 27) 2 dX3_addEntry_27 rfl rfl ?_
    refine v_iastN (pc := 28) (cSr_eb rfl) (by decide) (by omega) (by decide) dX3_addEntry_28 (wS_eb) ?_
    refine v_aload_n (pc := 29) 0 dX3_addEntry_29 rfl rfl ?_
    refine v_dup (pc := 30) dX3_addEntry_30 rfl ?_
    refine g_X3_35 (pc := 31) (cSr_obj rfl) (by decide) rfl dX3_addEntry_31 ?_
    refine v_iconst (pc := 34) (nI 1) dX3_addEntry_34 kI_1 ?_
    refine v_iaddN (pc := 35) dX3_addEntry_35 ?_
    refine p_X3_35 (pc := 36) (cSr_obj rfl) (by decide) rfl rfl (Nat.le_of_ble_eq_true rfl) dX3_addEntry_36 (wS_es) ?_
    refine v_aload_n (pc := 39) 0 dX3_addEntry_39 rfl rfl ?_
    refine g_X3_35 (pc := 40) (cSr_obj rfl) (by decide) rfl dX3_addEntry_40 ?_
    exact v_iret (pc := 43) dX3_addEntry_43 (⟨by first | (rw [if_pos (show es < 15 by omega)]; done) | (rw [if_neg (show ¬ es < 15 by omega)]; done), by first | (rw [if_pos (show es < 15 by omega)]; done) | (rw [if_neg (show ¬ es < 15 by omega)]; done)⟩)
def allW (wa : Fn) (n : Int32) (k : Nat) : Bool := decide (∀ i, i < k → wa i = n)
def canR (df wf : Fn) (k : Nat) (d : Int32) : Bool := decide (∀ i, i < k → (if d < df i then nI 0 else nI 1) = wf i)
/-- the first of k numbers from i on of which p holds -/
def fst_ (p : Nat → Bool) : Nat → Nat → Int32
  | 0, _ => -1
  | k + 1, i => if p i = true then nI i else fst_ p k (i + 1)
/-- the last below k of which p holds -/
def lst_ (p : Nat → Bool) : Nat → Int32
  | 0 => -1
  | k + 1 => if p k = true then nI k else lst_ p k
def cntR (p : Nat → Bool) (k : Nat) : Int32 := itn (fun r s => s + (if p r = true then nI 1 else nI 0)) k (nI 0)
theorem cntR_t {p : Nat → Bool} {i : Nat} (h : p i = true) : cntR p (i + 1) = cntR p i + nI 1 := by show _ + (if p i = true then _ else _) = _; rw [if_pos h]; rfl
theorem cntR_f {p : Nat → Bool} {i : Nat} (h : p i = false) : cntR p (i + 1) = cntR p i + nI 0 := by show _ + (if p i = true then _ else _) = _; rw [if_neg (by rw [h]; decide)]; rfl
def wrongB (b ep eb : Fn) (i : Nat) : Bool := decide (¬ b (ep i).toNatClampNeg = eb i)
/-- least best below -/
def st_part (p : Nat → Bool) (al : Int32) (y : Nat) (s : Int32 × Int32 × Int32) : Int32 × Int32 × Int32 := (if mxI s.2.2 (al - s.2.2) < s.1 then mxI s.2.2 (al - s.2.2) else s.1, if mxI s.2.2 (al - s.2.2) < s.1 then nI y else s.2.1, s.2.2 + (if p y = true then nI 1 else nI 0))
def partR (p : Nat → Bool) (al : Int32) : Int32 := (itn (st_part p al) 51 (al, -1, nI 0)).2.1
set_option maxHeartbeats 4000000 in
set_option maxRecDepth 100000 in
theorem c_allW {E : Ev} {σ : Sg} {wa df wf ep eb : Fn} {ws fs es : Nat} (hws : ws ≤ 6) (hfs : fs ≤ 6) (hes : es ≤ 15) (n : Int32) : Ct E yX3_allWatchedAre cX3_allWatchedAre 3 (some .boolean) ({ frames := 0, cells := 0, slots := 0, locals := 0 } : Room) false 146 [.ref (Ez E + 115), .int n] (cellOf E (sSe σ (wa, df, wf, ep, eb, nI ws, nI fs, nI es))) 146 0 0 (Ff (some (.int (bI (allW wa n ws)))) (cellOf E (sSe σ ((wa, df, wf, ep, eb, nI ws, nI fs, nI es))))) := by
  refine Ct.ofV (by decide) (Nat.le_of_ble_eq_true rfl) (fun X hnm => ?_)
  show V E X _ RX3 _ _ _ _ _ _ false 146 0 [(0, .ref (Ez E + 115)), (1, .int n)] [] _
  refine v_iconst (pc := 0) (nI 0) dX3_allWatchedAre_0 kI_0 ?_
  refine v_istore_n (pc := 1) [1, 2, 0] [(0, _), (1, _), (2, _)] dX3_allWatchedAre_1 rfl (by decide) rfl ?_
  have hl_2 : ∀ (m_ : Nat) (i : Nat), ws - i < m_ → (i ≤ ws) → (∀ j, j < i → wa j = n) → V E X ({ frames := 0, cells := 0, slots := 0, locals := 0 } : Room) RX3 cX3_allWatchedAre 3 (some .boolean) 0 0 (QX E X false 146 (Ff (some (.int (bI (allW wa n ws)))) (cellOf E (sSe σ ((wa, df, wf, ep, eb, nI ws, nI fs, nI es))))) 0 0) false 146 2 [(0, .ref (Ez E + 115)), (1, .int n), (2, .int (nI i))] [] (cellOf E (sSe σ (wa, df, wf, ep, eb, nI ws, nI fs, nI es))) := by
    intro m_
    induction m_ with
    | zero => intro i hm; exact absurd hm (Nat.not_lt_zero _)
    | succ m_ ihm =>
      intro i hm hi hq
      refine v_iload_n (pc := 2) 2 dX3_allWatchedAre_2 rfl rfl ?_
      refine v_aload_n (pc := 3) 0 dX3_allWatchedAre_3 rfl rfl ?_
      refine g_X3_28 (pc := 4) (cSr_obj rfl) (by decide) rfl dX3_allWatchedAre_4 ?_
      refine v_icmp_geN (pc := 7) (by omega) (by omega) (tgt := 28) dX3_allWatchedAre_7 rfl (fun c_7 => ?_) (fun c_7 => ?_)
      · refine v_iconst (pc := 28) (nI 1) dX3_allWatchedAre_28 kI_1 ?_
        exact v_zret (pc := 29) dX3_allWatchedAre_29 ((by rfl)) (⟨by rw [show allW wa n ws = true from decide_eq_true (fun j h => hq j (by omega))]; rfl, rfl⟩)
      · refine v_aload_n (pc := 10) 0 dX3_allWatchedAre_10 rfl rfl ?_
        refine g_X3_9 (pc := 11) (cSr_obj rfl) (by decide) rfl dX3_allWatchedAre_11 ?_
        refine v_iload_n (pc := 14) 2 dX3_allWatchedAre_14 rfl rfl ?_
        refine v_ialdN (pc := 15) (cSr_wa rfl) (by decide) (by omega) (by decide) dX3_allWatchedAre_15 ?_
        refine v_iload_n (pc := 16) 1 dX3_allWatchedAre_16 rfl rfl ?_
        refine v_icmp_eq (pc := 17) (tgt := 22) dX3_allWatchedAre_17 rfl (fun c_17 => ?_) (fun c_17 => ?_)
        · refine v_iincN (pc := 22) 2 [1, 2, 0] [(0, _), (1, _), (2, _)] kI_1 dX3_allWatchedAre_22 rfl (by decide) rfl ?_
          refine v_goto (pc := 25) (tgt := 2) dX3_allWatchedAre_25 rfl ?_
          exact ihm (i + 1) (by omega) (by omega) (lt_s hq c_17)
        · refine v_iconst (pc := 20) (nI 0) dX3_allWatchedAre_20 kI_0 ?_
          exact v_zret (pc := 21) dX3_allWatchedAre_21 ((by rfl)) (⟨by rw [show allW wa n ws = false from decide_eq_false (fun q => c_17 (q i (by omega)))]; rfl, rfl⟩)
  exact hl_2 (ws + 1) 0 (by omega) (by omega) (fun j h => absurd h (Nat.not_lt_zero _))
set_option maxHeartbeats 4000000 in
set_option maxRecDepth 100000 in
theorem c_can {E : Ev} {σ : Sg} {wa df wf ep eb : Fn} {ws fs es : Nat} (hws : ws ≤ 6) (hfs : fs ≤ 6) (hes : es ≤ 15) (d : Int32) : Ct E yX3_canReach cX3_canReach 3 (some .boolean) ({ frames := 0, cells := 0, slots := 0, locals := 0 } : Room) false 146 [.ref (Ez E + 115), .int d] (cellOf E (sSe σ (wa, df, wf, ep, eb, nI ws, nI fs, nI es))) 146 0 0 (Ff (some (.int (bI (canR df wf fs d)))) (cellOf E (sSe σ ((wa, df, wf, ep, eb, nI ws, nI fs, nI es))))) := by
  refine Ct.ofV (by decide) (Nat.le_of_ble_eq_true rfl) (fun X hnm => ?_)
  show V E X _ RX3 _ _ _ _ _ _ false 146 0 [(0, .ref (Ez E + 115)), (1, .int d)] [] _
  refine v_iconst (pc := 0) (nI 0) dX3_canReach_0 kI_0 ?_
  refine v_istore_n (pc := 1) [1, 2, 0] [(0, _), (1, _), (2, _)] dX3_canReach_1 rfl (by decide) rfl ?_
  have hl_2 : ∀ (m_ : Nat) (i : Nat), fs - i < m_ → (i ≤ fs) → (∀ j, j < i → (if d < df j then nI 0 else nI 1) = wf j) → V E X ({ frames := 0, cells := 0, slots := 0, locals := 0 } : Room) RX3 cX3_canReach 3 (some .boolean) 0 0 (QX E X false 146 (Ff (some (.int (bI (canR df wf fs d)))) (cellOf E (sSe σ ((wa, df, wf, ep, eb, nI ws, nI fs, nI es))))) 0 0) false 146 2 [(0, .ref (Ez E + 115)), (1, .int d), (2, .int (nI i))] [] (cellOf E (sSe σ (wa, df, wf, ep, eb, nI ws, nI fs, nI es))) := by
    intro m_
    induction m_ with
    | zero => intro i hm; exact absurd hm (Nat.not_lt_zero _)
    | succ m_ ihm =>
      intro i hm hi hq
      refine v_iload_n (pc := 2) 2 dX3_canReach_2 rfl rfl ?_
      refine v_aload_n (pc := 3) 0 dX3_canReach_3 rfl rfl ?_
      refine g_X3_32 (pc := 4) (cSr_obj rfl) (by decide) rfl dX3_canReach_4 ?_
      refine v_icmp_geN (pc := 7) (by omega) (by omega) (tgt := 42) dX3_canReach_7 rfl (fun c_7 => ?_) (fun c_7 => ?_)
      · refine v_iconst (pc := 42) (nI 1) dX3_canReach_42 kI_1 ?_
        exact v_zret (pc := 43) dX3_canReach_43 ((by rfl)) (⟨by rw [show canR df wf fs d = true from decide_eq_true (fun j h => hq j (by omega))]; rfl, rfl⟩)
      · refine v_aload_n (pc := 10) 0 dX3_canReach_10 rfl rfl ?_
        refine g_X3_15 (pc := 11) (cSr_obj rfl) (by decide) rfl dX3_canReach_11 ?_
        refine v_iload_n (pc := 14) 2 dX3_canReach_14 rfl rfl ?_
        refine v_ialdN (pc := 15) (cSr_df rfl) (by decide) (by omega) (by decide) dX3_canReach_15 ?_
        refine v_iload_n (pc := 16) 1 dX3_canReach_16 rfl rfl ?_
        refine v_icmp_gt (pc := 17) (tgt := 24) dX3_canReach_17 rfl (fun c_17 => ?_) (fun c_17 => ?_)
        · refine v_iconst (pc := 24) (nI 0) dX3_canReach_24 kI_0 ?_
          refine v_aload_n (pc := 25) 0 dX3_canReach_25 rfl rfl ?_
          refine g_X3_18 (pc := 26) (cSr_obj rfl) (by decide) rfl dX3_canReach_26 ?_
          refine v_iload_n (pc := 29) 2 dX3_canReach_29 rfl rfl ?_
          refine v_zaldN (pc := 30) (cSr_wf rfl) (by decide) (by omega) (by decide) dX3_canReach_30 ?_
          refine v_icmp_eq (pc := 31) (tgt := 36) dX3_canReach_31 rfl (fun c_31 => ?_) (fun c_31 => ?_)
          · refine v_iincN (pc := 36) 2 [1, 2, 0] [(0, _), (1, _), (2, _)] kI_1 dX3_canReach_36 rfl (by decide) rfl ?_
            refine v_goto (pc := 39) (tgt := 2) dX3_canReach_39 rfl ?_
            exact ihm (i + 1) (by omega) (by omega) (lt_s hq (by first | (rw [if_pos (by assumption)]; assumption) | (rw [if_neg (by first | assumption | exact Int32.not_lt.mpr (by assumption))]; assumption)))
          · refine v_iconst (pc := 34) (nI 0) dX3_canReach_34 kI_0 ?_
            exact v_zret (pc := 35) dX3_canReach_35 ((by rfl)) (⟨by rw [show canR df wf fs d = false from decide_eq_false (fun q => c_31 (by have q1 := q i (by omega); first | (rw [if_pos (by assumption)] at q1; exact q1) | (rw [if_neg (by first | assumption | exact Int32.not_lt.mpr (by assumption))] at q1; exact q1)))]; rfl, rfl⟩)
        · refine v_iconst (pc := 20) (nI 1) dX3_canReach_20 kI_1 ?_
          refine v_goto (pc := 21) (tgt := 25) dX3_canReach_21 rfl ?_
          refine v_aload_n (pc := 25) 0 dX3_canReach_25 rfl rfl ?_
          refine g_X3_18 (pc := 26) (cSr_obj rfl) (by decide) rfl dX3_canReach_26 ?_
          refine v_iload_n (pc := 29) 2 dX3_canReach_29 rfl rfl ?_
          refine v_zaldN (pc := 30) (cSr_wf rfl) (by decide) (by omega) (by decide) dX3_canReach_30 ?_
          refine v_icmp_eq (pc := 31) (tgt := 36) dX3_canReach_31 rfl (fun c_31 => ?_) (fun c_31 => ?_)
          · refine v_iincN (pc := 36) 2 [1, 2, 0] [(0, _), (1, _), (2, _)] kI_1 dX3_canReach_36 rfl (by decide) rfl ?_
            refine v_goto (pc := 39) (tgt := 2) dX3_canReach_39 rfl ?_
            exact ihm (i + 1) (by omega) (by omega) (lt_s hq (by first | (rw [if_pos (by assumption)]; assumption) | (rw [if_neg (by first | assumption | exact Int32.not_lt.mpr (by assumption))]; assumption)))
          · refine v_iconst (pc := 34) (nI 0) dX3_canReach_34 kI_0 ?_
            exact v_zret (pc := 35) dX3_canReach_35 ((by rfl)) (⟨by rw [show canR df wf fs d = false from decide_eq_false (fun q => c_31 (by have q1 := q i (by omega); first | (rw [if_pos (by assumption)] at q1; exact q1) | (rw [if_neg (by first | assumption | exact Int32.not_lt.mpr (by assumption))] at q1; exact q1)))]; rfl, rfl⟩)
  exact hl_2 (fs + 1) 0 (by omega) (by omega) (fun j h => absurd h (Nat.not_lt_zero _))
set_option maxHeartbeats 4000000 in
set_option maxRecDepth 100000 in
theorem c_below {E : Ev} {σ : Sg} {wa df wf ep eb : Fn} {ws fs es : Nat} (hws : ws ≤ 6) (hfs : fs ≤ 6) (hes : es ≤ 15) {en : Nat} (hen : en ≤ 51) : Ct E yX3_reachesBelow cX3_reachesBelow 4 (some .int) ({ frames := 1, cells := 0, slots := 0, locals := 22 } : Room) false 146 [.ref (Ez E + 115), .int (nI en)] (cellOf E (sSe σ (wa, df, wf, ep, eb, nI ws, nI fs, nI es))) 146 0 0 (Ff (some (.int (cntR (fun r => canR df wf fs (nI r)) en))) (cellOf E (sSe σ ((wa, df, wf, ep, eb, nI ws, nI fs, nI es))))) := by
  refine Ct.ofV (by decide) (Nat.le_of_ble_eq_true rfl) (fun X hnm => ?_)
  show V E X _ RX3 _ _ _ _ _ _ false 146 0 [(0, .ref (Ez E + 115)), (1, .int (nI en))] [] _
  refine v_iconst (pc := 0) (nI 0) dX3_reachesBelow_0 kI_0 ?_
  refine v_istore_n (pc := 1) [1, 2, 0] [(0, _), (1, _), (2, _)] dX3_reachesBelow_1 rfl (by decide) rfl ?_
  refine v_iconst (pc := 2) (nI 0) dX3_reachesBelow_2 kI_0 ?_
  refine v_istore_n (pc := 3) [1, 2, 3, 0] [(0, _), (1, _), (2, _), (3, _)] dX3_reachesBelow_3 rfl (by decide) rfl ?_
  refine dn (P := fun i => V E X ({ frames := 1, cells := 0, slots := 0, locals := 22 } : Room) RX3 cX3_reachesBelow 4 (some .int) 0 0 (QX E X false 146 (Ff (some (.int (cntR (fun r => canR df wf fs (nI r)) en))) (cellOf E (sSe σ ((wa, df, wf, ep, eb, nI ws, nI fs, nI es))))) 0 0) false 146 4 [(0, .ref (Ez E + 115)), (1, .int (nI en)), (2, .int (cntR (fun r => canR df wf fs (nI r)) i)), (3, .int (nI i))] [] (cellOf E (sSe σ (wa, df, wf, ep, eb, nI ws, nI fs, nI es)))) (N := en) ?_ ?_
  · refine v_iload_n (pc := 4) 3 dX3_reachesBelow_4 rfl rfl ?_
    refine v_iload_n (pc := 5) 1 dX3_reachesBelow_5 rfl rfl ?_
    refine v_icmp_geN (pc := 6) (by omega) (by omega) (tgt := 31) dX3_reachesBelow_6 rfl (fun c_6 => ?_) (fun c_6 => False.elim ((fun c => by omega) c_6))
    refine v_iload_n (pc := 31) 2 dX3_reachesBelow_31 rfl rfl ?_
    exact v_iret (pc := 32) dX3_reachesBelow_32 (⟨rfl, rfl⟩)
  · intro i hi ih
    refine v_iload_n (pc := 4) 3 dX3_reachesBelow_4 rfl rfl ?_
    refine v_iload_n (pc := 5) 1 dX3_reachesBelow_5 rfl rfl ?_
    refine v_icmp_geN (pc := 6) (by omega) (by omega) (tgt := 31) dX3_reachesBelow_6 rfl (fun c_6 => False.elim ((fun c => by omega) c_6)) (fun c_6 => ?_)
    refine v_iload_n (pc := 9) 2 dX3_reachesBelow_9 rfl rfl ?_
    refine v_aload_n (pc := 10) 0 dX3_reachesBelow_10 rfl rfl ?_
    refine v_iload_n (pc := 11) 3 dX3_reachesBelow_11 rfl rfl ?_
    refine v_callV (pc := 12) _ _ k_X3_43 (cSr_obj rfl) rfl (by decide) (c_can hws hfs hes _) ⟨rfl, rfl, by decide⟩ rfl rfl (Nat.le_of_ble_eq_true rfl) ⟨Nat.le_of_ble_eq_true rfl, Nat.le_of_ble_eq_true rfl⟩ dX3_reachesBelow_12 (unS ?_)
    show V E X _ RX3 _ _ _ 0 0 _ false 146 15 _ [_, _] _
    refine v_if_eqB (pc := 15) (tgt := 22) dX3_reachesBelow_15 rfl (fun c_15 => ?_) (fun c_15 => ?_)
    · refine v_iconst (pc := 22) (nI 0) dX3_reachesBelow_22 kI_0 ?_
      refine v_iadd (pc := 23) dX3_reachesBelow_23 ?_
      refine v_istore_n (pc := 24) [1, 2, 0, 3] [(0, _), (1, _), (2, _), (3, _)] dX3_reachesBelow_24 rfl (by decide) rfl ?_
      refine v_iincN (pc := 25) 3 [1, 2, 3, 0] [(0, _), (1, _), (2, _), (3, _)] kI_1 dX3_reachesBelow_25 rfl (by decide) rfl ?_
      refine v_goto (pc := 28) (tgt := 4) dX3_reachesBelow_28 rfl ?_
      first
        | (rw [cntR_t (p := (fun r => canR df wf fs (nI r))) (by assumption)] at ih; exact ih)
        | (rw [cntR_f (p := (fun r => canR df wf fs (nI r))) (by assumption)] at ih; exact ih)
    · refine v_iconst (pc := 18) (nI 1) dX3_reachesBelow_18 kI_1 ?_
      refine v_goto (pc := 19) (tgt := 23) dX3_reachesBelow_19 rfl ?_
      refine v_iadd (pc := 23) dX3_reachesBelow_23 ?_
      refine v_istore_n (pc := 24) [1, 2, 0, 3] [(0, _), (1, _), (2, _), (3, _)] dX3_reachesBelow_24 rfl (by decide) rfl ?_
      refine v_iincN (pc := 25) 3 [1, 2, 3, 0] [(0, _), (1, _), (2, _), (3, _)] kI_1 dX3_reachesBelow_25 rfl (by decide) rfl ?_
      refine v_goto (pc := 28) (tgt := 4) dX3_reachesBelow_28 rfl ?_
      first
        | (rw [cntR_t (p := (fun r => canR df wf fs (nI r))) (by assumption)] at ih; exact ih)
        | (rw [cntR_f (p := (fun r => canR df wf fs (nI r))) (by assumption)] at ih; exact ih)
set_option maxHeartbeats 4000000 in
set_option maxRecDepth 100000 in
theorem c_least {E : Ev} {σ : Sg} {wa df wf ep eb : Fn} {ws fs es : Nat} (hws : ws ≤ 6) (hfs : fs ≤ 6) (hes : es ≤ 15)  : Ct E yX3_leastReach cX3_leastReach 2 (some .int) ({ frames := 1, cells := 0, slots := 0, locals := 22 } : Room) false 146 [.ref (Ez E + 115)] (cellOf E (sSe σ (wa, df, wf, ep, eb, nI ws, nI fs, nI es))) 146 0 0 (Ff (some (.int (fst_ (fun r => canR df wf fs (nI r)) 51 0))) (cellOf E (sSe σ ((wa, df, wf, ep, eb, nI ws, nI fs, nI es))))) := by
  refine Ct.ofV (by decide) (Nat.le_of_ble_eq_true rfl) (fun X hnm => ?_)
  show V E X _ RX3 _ _ _ _ _ _ false 146 0 [(0, .ref (Ez E + 115))] [] _
  refine v_iconst (pc := 0) (nI 0) dX3_leastReach_0 kI_0 ?_
  refine v_istore_n (pc := 1) [1, 0] [(0, _), (1, _)] dX3_leastReach_1 rfl (by decide) rfl ?_
  have hl_2 : ∀ (m_ : Nat) (i : Nat), 51 - i < m_ → (i ≤ 51) → (fst_ (fun r => canR df wf fs (nI r)) (51 - i) i = fst_ (fun r => canR df wf fs (nI r)) 51 0) → V E X ({ frames := 1, cells := 0, slots := 0, locals := 22 } : Room) RX3 cX3_leastReach 2 (some .int) 0 0 (QX E X false 146 (Ff (some (.int (fst_ (fun r => canR df wf fs (nI r)) 51 0))) (cellOf E (sSe σ ((wa, df, wf, ep, eb, nI ws, nI fs, nI es))))) 0 0) false 146 2 [(0, .ref (Ez E + 115)), (1, .int (nI i))] [] (cellOf E (sSe σ (wa, df, wf, ep, eb, nI ws, nI fs, nI es))) := by
    intro m_
    induction m_ with
    | zero => intro i hm; exact absurd hm (Nat.not_lt_zero _)
    | succ m_ ihm =>
      intro i hm hi hq
      refine v_iload_n (pc := 2) 1 dX3_leastReach_2 rfl rfl ?_
      refine v_bipush (pc := 3) (nI 50) dX3_leastReach_3 kB_50 ?_
      refine v_icmp_gtN (pc := 5) (by omega) (by omega) (tgt := 24) dX3_leastReach_5 rfl (fun c_5 => ?_) (fun c_5 => ?_)
      · refine v_iconst (pc := 24) (-1) dX3_leastReach_24 kI_m1 ?_
        exact v_iret (pc := 25) dX3_leastReach_25 (⟨by rw [← hq, show 51 - i = 0 by omega]; rfl, rfl⟩)
      · refine v_aload_n (pc := 8) 0 dX3_leastReach_8 rfl rfl ?_
        refine v_iload_n (pc := 9) 1 dX3_leastReach_9 rfl rfl ?_
        refine v_callV (pc := 10) _ _ k_X3_43 (cSr_obj rfl) rfl (by decide) (c_can hws hfs hes _) ⟨rfl, rfl, by decide⟩ rfl rfl (Nat.le_of_ble_eq_true rfl) ⟨Nat.le_of_ble_eq_true rfl, Nat.le_of_ble_eq_true rfl⟩ dX3_leastReach_10 (unS ?_)
        show V E X _ RX3 _ _ _ 0 0 _ false 146 13 _ [_] _
        refine v_if_eqB (pc := 13) (tgt := 18) dX3_leastReach_13 rfl (fun c_13 => ?_) (fun c_13 => ?_)
        · refine v_iincN (pc := 18) 1 [1, 0] [(0, _), (1, _)] kI_1 dX3_leastReach_18 rfl (by decide) rfl ?_
          refine v_goto (pc := 21) (tgt := 2) dX3_leastReach_21 rfl ?_
          exact ihm (i + 1) (by omega) (by omega) (by rw [← hq, show 51 - i = (51 - (i + 1)) + 1 by omega]; show _ = if (fun r => canR df wf fs (nI r)) i = true then _ else _; rw [if_neg (by show ¬ canR df wf fs (nI i) = true; rw [c_13]; decide)])
        · refine v_iload_n (pc := 16) 1 dX3_leastReach_16 rfl rfl ?_
          exact v_iret (pc := 17) dX3_leastReach_17 (⟨by rw [← hq, show 51 - i = (51 - (i + 1)) + 1 by omega]; show _ = some (Value.int (if (fun r => canR df wf fs (nI r)) i = true then _ else _)); rw [if_pos (by exact c_13)], rfl⟩)
  exact hl_2 (51 + 1) 0 (by omega) (by omega) rfl
set_option maxHeartbeats 4000000 in
set_option maxRecDepth 100000 in
theorem c_great {E : Ev} {σ : Sg} {wa df wf ep eb : Fn} {ws fs es : Nat} (hws : ws ≤ 6) (hfs : fs ≤ 6) (hes : es ≤ 15)  : Ct E yX3_greatestReach cX3_greatestReach 2 (some .int) ({ frames := 1, cells := 0, slots := 0, locals := 22 } : Room) false 146 [.ref (Ez E + 115)] (cellOf E (sSe σ (wa, df, wf, ep, eb, nI ws, nI fs, nI es))) 146 0 0 (Ff (some (.int (lst_ (fun r => canR df wf fs (nI r)) 51))) (cellOf E (sSe σ ((wa, df, wf, ep, eb, nI ws, nI fs, nI es))))) := by
  refine Ct.ofV (by decide) (Nat.le_of_ble_eq_true rfl) (fun X hnm => ?_)
  show V E X _ RX3 _ _ _ _ _ _ false 146 0 [(0, .ref (Ez E + 115))] [] _
  refine v_bipush (pc := 0) (nI 50) dX3_greatestReach_0 kB_50 ?_
  refine v_istore_n (pc := 2) [1, 0] [(0, _), (1, _)] dX3_greatestReach_2 rfl (by decide) rfl ?_
  have hl_3 : ∀ (m_ : Nat) (r : Nat), r < m_ → (r ≤ 51) → (lst_ (fun r => canR df wf fs (nI r)) r = lst_ (fun r => canR df wf fs (nI r)) 51) → V E X ({ frames := 1, cells := 0, slots := 0, locals := 22 } : Room) RX3 cX3_greatestReach 2 (some .int) 0 0 (QX E X false 146 (Ff (some (.int (lst_ (fun r => canR df wf fs (nI r)) 51))) (cellOf E (sSe σ ((wa, df, wf, ep, eb, nI ws, nI fs, nI es))))) 0 0) false 146 3 [(0, .ref (Ez E + 115)), (1, .int (nI r + (-1)))] [] (cellOf E (sSe σ (wa, df, wf, ep, eb, nI ws, nI fs, nI es))) := by
    intro m_
    induction m_ with
    | zero => intro r hm; exact absurd hm (Nat.not_lt_zero _)
    | succ m_ ihm =>
      intro r hm hr hq
      refine v_iload_n (pc := 3) 1 dX3_greatestReach_3 rfl rfl ?_
      cases r with
      | zero =>
        refine v_if_lt (pc := 4) (tgt := 23) dX3_greatestReach_4 rfl (fun c_4 => ?_) (fun c_4 => absurd c_4 (by decide))
        refine v_iconst (pc := 23) (-1) dX3_greatestReach_23 kI_m1 ?_
        exact v_iret (pc := 24) dX3_greatestReach_24 (⟨by rw [← hq]; rfl, rfl⟩)
      | succ r =>
        rw [pk_m1]
        refine v_if_ltN (pc := 4) (by omega) (tgt := 23) dX3_greatestReach_4 rfl (fun c_4 => c_4.elim) (fun c_4 => ?_)
        refine v_aload_n (pc := 7) 0 dX3_greatestReach_7 rfl rfl ?_
        refine v_iload_n (pc := 8) 1 dX3_greatestReach_8 rfl rfl ?_
        refine v_callV (pc := 9) _ _ k_X3_43 (cSr_obj rfl) rfl (by decide) (c_can hws hfs hes _) ⟨rfl, rfl, by decide⟩ rfl rfl (Nat.le_of_ble_eq_true rfl) ⟨Nat.le_of_ble_eq_true rfl, Nat.le_of_ble_eq_true rfl⟩ dX3_greatestReach_9 (unS ?_)
        show V E X _ RX3 _ _ _ 0 0 _ false 146 12 _ [_] _
        refine v_if_eqB (pc := 12) (tgt := 17) dX3_greatestReach_12 rfl (fun c_12 => ?_) (fun c_12 => ?_)
        · refine v_iincC (pc := 17) 1 [1, 0] [(0, _), (1, _)] kI_m1 dX3_greatestReach_17 rfl (by decide) rfl ?_
          refine v_goto (pc := 20) (tgt := 3) dX3_greatestReach_20 rfl ?_
          exact ihm r (by omega) (by omega) (by rw [← hq]; show _ = if (fun r => canR df wf fs (nI r)) r = true then _ else _; rw [if_neg (by show ¬ canR df wf fs (nI r) = true; rw [c_12]; decide)])
        · refine v_iload_n (pc := 15) 1 dX3_greatestReach_15 rfl rfl ?_
          exact v_iret (pc := 16) dX3_greatestReach_16 (⟨by rw [← hq]; show _ = some (Value.int (if (fun r => canR df wf fs (nI r)) r = true then _ else _)); rw [if_pos (by exact c_12)], rfl⟩)
  exact hl_3 (51 + 1) 51 (by omega) (by omega) rfl
set_option maxHeartbeats 4000000 in
set_option maxRecDepth 100000 in
theorem c_part {E : Ev} {σ : Sg} {wa df wf ep eb : Fn} {ws fs es : Nat} (hws : ws ≤ 6) (hfs : fs ≤ 6) (hes : es ≤ 15)  : Ct E yX3_bestDoorToPart cX3_bestDoorToPart 7 (some .int) ({ frames := 2, cells := 0, slots := 0, locals := 45 } : Room) false 146 [.ref (Ez E + 115)] (cellOf E (sSe σ (wa, df, wf, ep, eb, nI ws, nI fs, nI es))) 146 0 0 (Ff (some (.int (partR (fun r => canR df wf fs (nI r)) (cntR (fun r => canR df wf fs (nI r)) 51)))) (cellOf E (sSe σ ((wa, df, wf, ep, eb, nI ws, nI fs, nI es))))) := by
  refine Ct.ofV (by decide) (Nat.le_of_ble_eq_true rfl) (fun X hnm => ?_)
  show V E X _ RX3 _ _ _ _ _ _ false 146 0 [(0, .ref (Ez E + 115))] [] _
  refine v_aload_n (pc := 0) 0 dX3_bestDoorToPart_0 rfl rfl ?_
  refine v_bipush (pc := 1) (nI 51) dX3_bestDoorToPart_1 kB_51 ?_
  refine v_callV (pc := 3) _ _ k_X3_47 (cSr_obj rfl) rfl (by decide) (c_below hws hfs hes (en := 51) (by decide)) ⟨rfl, rfl, by decide⟩ rfl rfl (Nat.le_of_ble_eq_true rfl) ⟨Nat.le_of_ble_eq_true rfl, Nat.le_of_ble_eq_true rfl⟩ dX3_bestDoorToPart_3 (unS ?_)
  show V E X _ RX3 _ _ _ 0 0 _ false 146 6 _ [_] _
  refine v_istore_n (pc := 6) [1, 0] [(0, _), (1, _)] dX3_bestDoorToPart_6 rfl (by decide) rfl ?_
  refine v_iload_n (pc := 7) 1 dX3_bestDoorToPart_7 rfl rfl ?_
  refine v_istore_n (pc := 8) [1, 2, 0] [(0, _), (1, _), (2, _)] dX3_bestDoorToPart_8 rfl (by decide) rfl ?_
  refine v_iconst (pc := 9) (-1) dX3_bestDoorToPart_9 kI_m1 ?_
  refine v_istore_n (pc := 10) [1, 2, 3, 0] [(0, _), (1, _), (2, _), (3, _)] dX3_bestDoorToPart_10 rfl (by decide) rfl ?_
  refine v_iconst (pc := 11) (nI 0) dX3_bestDoorToPart_11 kI_0 ?_
  refine v_istore (pc := 12) [1, 2, 3, 4, 0] [(0, _), (1, _), (2, _), (3, _), (4, _)] dX3_bestDoorToPart_12 (by decide) rfl ?_
  refine v_iconst (pc := 14) (nI 0) dX3_bestDoorToPart_14 kI_0 ?_
  refine v_istore (pc := 15) [1, 2, 3, 4, 5, 0] [(0, _), (1, _), (2, _), (3, _), (4, _), (5, _)] dX3_bestDoorToPart_15 (by decide) rfl ?_
  refine dn (P := fun i => V E X ({ frames := 2, cells := 0, slots := 0, locals := 45 } : Room) RX3 cX3_bestDoorToPart 7 (some .int) 0 0 (QX E X false 146 (Ff (some (.int (partR (fun r => canR df wf fs (nI r)) (cntR (fun r => canR df wf fs (nI r)) 51)))) (cellOf E (sSe σ ((wa, df, wf, ep, eb, nI ws, nI fs, nI es))))) 0 0) false 146 17 [(0, .ref (Ez E + 115)), (1, .int (cntR (fun r => canR df wf fs (nI r)) 51)), (2, .int (itn (st_part (fun r => canR df wf fs (nI r)) (cntR (fun r => canR df wf fs (nI r)) 51)) i (cntR (fun r => canR df wf fs (nI r)) 51, -1, nI 0)).1), (3, .int (itn (st_part (fun r => canR df wf fs (nI r)) (cntR (fun r => canR df wf fs (nI r)) 51)) i (cntR (fun r => canR df wf fs (nI r)) 51, -1, nI 0)).2.1), (4, .int (itn (st_part (fun r => canR df wf fs (nI r)) (cntR (fun r => canR df wf fs (nI r)) 51)) i (cntR (fun r => canR df wf fs (nI r)) 51, -1, nI 0)).2.2), (5, .int (nI i))] [] (cellOf E (sSe σ (wa, df, wf, ep, eb, nI ws, nI fs, nI es)))) (N := 51) ?_ ?_
  · refine v_iload (pc := 17) 5 dX3_bestDoorToPart_17 rfl ?_
    refine v_bipush (pc := 19) (nI 50) dX3_bestDoorToPart_19 kB_50 ?_
    refine v_icmp_gtN (pc := 21) (by omega) (by omega) (tgt := 72) dX3_bestDoorToPart_21 rfl (fun c_21 => ?_) (fun c_21 => False.elim ((fun c => by omega) c_21))
    refine v_iload_n (pc := 72) 3 dX3_bestDoorToPart_72 rfl rfl ?_
    exact v_iret (pc := 73) dX3_bestDoorToPart_73 (⟨rfl, rfl⟩)
  · intro i hi ih
    have ih : V E X ({ frames := 2, cells := 0, slots := 0, locals := 45 } : Room) RX3 cX3_bestDoorToPart 7 (some .int) 0 0 (QX E X false 146 (Ff (some (.int (partR (fun r => canR df wf fs (nI r)) (cntR (fun r => canR df wf fs (nI r)) 51)))) (cellOf E (sSe σ ((wa, df, wf, ep, eb, nI ws, nI fs, nI es))))) 0 0) false 146 17 [(0, .ref (Ez E + 115)), (1, .int (cntR (fun r => canR df wf fs (nI r)) 51)), (2, .int (st_part (fun r => canR df wf fs (nI r)) (cntR (fun r => canR df wf fs (nI r)) 51) i (itn (st_part (fun r => canR df wf fs (nI r)) (cntR (fun r => canR df wf fs (nI r)) 51)) i (cntR (fun r => canR df wf fs (nI r)) 51, -1, nI 0))).1), (3, .int (st_part (fun r => canR df wf fs (nI r)) (cntR (fun r => canR df wf fs (nI r)) 51) i (itn (st_part (fun r => canR df wf fs (nI r)) (cntR (fun r => canR df wf fs (nI r)) 51)) i (cntR (fun r => canR df wf fs (nI r)) 51, -1, nI 0))).2.1), (4, .int (st_part (fun r => canR df wf fs (nI r)) (cntR (fun r => canR df wf fs (nI r)) 51) i (itn (st_part (fun r => canR df wf fs (nI r)) (cntR (fun r => canR df wf fs (nI r)) 51)) i (cntR (fun r => canR df wf fs (nI r)) 51, -1, nI 0))).2.2), (5, .int (nI (i + 1)))] [] (cellOf E (sSe σ (wa, df, wf, ep, eb, nI ws, nI fs, nI es))) := by rw [itn_s] at ih; exact ih
    generalize itn (st_part (fun r => canR df wf fs (nI r)) (cntR (fun r => canR df wf fs (nI r)) 51)) i (cntR (fun r => canR df wf fs (nI r)) 51, -1, nI 0) = z_ at ih ⊢
    obtain ⟨le, be, bl⟩ := z_
    show V E X _ RX3 _ _ _ _ _ _ false 146 _ [(0, .ref (Ez E + 115)), (1, .int (cntR (fun r => canR df wf fs (nI r)) 51)), (2, .int le), (3, .int be), (4, .int bl), (5, .int (nI i))] [] (cellOf E (sSe σ (wa, df, wf, ep, eb, nI ws, nI fs, nI es)))
    refine v_iload (pc := 17) 5 dX3_bestDoorToPart_17 rfl ?_
    refine v_bipush (pc := 19) (nI 50) dX3_bestDoorToPart_19 kB_50 ?_
    refine v_icmp_gtN (pc := 21) (by omega) (by omega) (tgt := 72) dX3_bestDoorToPart_21 rfl (fun c_21 => False.elim ((fun c => by omega) c_21)) (fun c_21 => ?_)
    refine v_iload (pc := 24) 4 dX3_bestDoorToPart_24 rfl ?_
    refine v_iload_n (pc := 26) 1 dX3_bestDoorToPart_26 rfl rfl ?_
    refine v_iload (pc := 27) 4 dX3_bestDoorToPart_27 rfl ?_
    refine v_isub (pc := 29) dX3_bestDoorToPart_29 ?_
    refine v_callS (pc := 30) _ _ k_X3_51 (c_max _ _) ⟨rfl, rfl, by decide⟩ rfl rfl (Nat.le_of_ble_eq_true rfl) ⟨Nat.le_of_ble_eq_true rfl, Nat.le_of_ble_eq_true rfl⟩ dX3_bestDoorToPart_30 (unS ?_)
    show V E X _ RX3 _ _ _ 0 0 _ false 146 33 _ [_] _
    refine v_istore (pc := 33) [1, 2, 3, 4, 5, 6, 0] [(0, _), (1, _), (2, _), (3, _), (4, _), (5, _), (6, _)] dX3_bestDoorToPart_33 (by decide) rfl ?_
    refine v_iload (pc := 35) 6 dX3_bestDoorToPart_35 rfl ?_
    refine v_iload_n (pc := 37) 2 dX3_bestDoorToPart_37 rfl rfl ?_
    refine v_icmp_ge (pc := 38) (tgt := 47) dX3_bestDoorToPart_38 rfl (fun c_38 => ?_) (fun c_38 => ?_)
    · refine v_iload (pc := 47) 4 dX3_bestDoorToPart_47 rfl ?_
      refine v_aload_n (pc := 49) 0 dX3_bestDoorToPart_49 rfl rfl ?_
      refine v_iload (pc := 50) 5 dX3_bestDoorToPart_50 rfl ?_
      refine v_callV (pc := 52) _ _ k_X3_43 (cSr_obj rfl) rfl (by decide) (c_can hws hfs hes _) ⟨rfl, rfl, by decide⟩ rfl rfl (Nat.le_of_ble_eq_true rfl) ⟨Nat.le_of_ble_eq_true rfl, Nat.le_of_ble_eq_true rfl⟩ dX3_bestDoorToPart_52 (unS ?_)
      show V E X _ RX3 _ _ _ 0 0 _ false 146 55 _ [_, _] _
      refine v_if_eqB (pc := 55) (tgt := 62) dX3_bestDoorToPart_55 rfl (fun c_55 => ?_) (fun c_55 => ?_)
      · refine v_iconst (pc := 62) (nI 0) dX3_bestDoorToPart_62 kI_0 ?_
        refine v_iadd (pc := 63) dX3_bestDoorToPart_63 ?_
        refine v_istore (pc := 64) [1, 2, 3, 4, 0, 5, 6] [(0, _), (1, _), (2, _), (3, _), (4, _), (5, _), (6, _)] dX3_bestDoorToPart_64 (by decide) rfl ?_
        refine v_iincN (pc := 66) 5 [1, 2, 3, 4, 5, 0, 6] [(0, _), (1, _), (2, _), (3, _), (4, _), (5, _), (6, _)] kI_1 dX3_bestDoorToPart_66 rfl (by decide) rfl ?_
        refine v_goto (pc := 69) (tgt := 17) dX3_bestDoorToPart_69 rfl ?_
        refine v_sub [0, 1, 2, 3, 4, 5] rfl ?_
        unfold st_part at ih
        first
          | (rw [if_pos (show mxI bl (cntR (fun r => canR df wf fs (nI r)) 51 - bl) < le by first | assumption | exact Int32.not_le.mp (by assumption)), if_pos (show mxI bl (cntR (fun r => canR df wf fs (nI r)) 51 - bl) < le by first | assumption | exact Int32.not_le.mp (by assumption))] at ih; first | (rw [if_pos (show canR df wf fs (nI i) = true by assumption)] at ih; exact ih) | (rw [if_neg (show ¬ canR df wf fs (nI i) = true by rw [show canR df wf fs (nI i) = false by assumption]; decide)] at ih; exact ih))
          | (rw [if_neg (show ¬ mxI bl (cntR (fun r => canR df wf fs (nI r)) 51 - bl) < le by first | assumption | exact Int32.not_lt.mpr (by assumption)), if_neg (show ¬ mxI bl (cntR (fun r => canR df wf fs (nI r)) 51 - bl) < le by first | assumption | exact Int32.not_lt.mpr (by assumption))] at ih; first | (rw [if_pos (show canR df wf fs (nI i) = true by assumption)] at ih; exact ih) | (rw [if_neg (show ¬ canR df wf fs (nI i) = true by rw [show canR df wf fs (nI i) = false by assumption]; decide)] at ih; exact ih))
      · refine v_iconst (pc := 58) (nI 1) dX3_bestDoorToPart_58 kI_1 ?_
        refine v_goto (pc := 59) (tgt := 63) dX3_bestDoorToPart_59 rfl ?_
        refine v_iadd (pc := 63) dX3_bestDoorToPart_63 ?_
        refine v_istore (pc := 64) [1, 2, 3, 4, 0, 5, 6] [(0, _), (1, _), (2, _), (3, _), (4, _), (5, _), (6, _)] dX3_bestDoorToPart_64 (by decide) rfl ?_
        refine v_iincN (pc := 66) 5 [1, 2, 3, 4, 5, 0, 6] [(0, _), (1, _), (2, _), (3, _), (4, _), (5, _), (6, _)] kI_1 dX3_bestDoorToPart_66 rfl (by decide) rfl ?_
        refine v_goto (pc := 69) (tgt := 17) dX3_bestDoorToPart_69 rfl ?_
        refine v_sub [0, 1, 2, 3, 4, 5] rfl ?_
        unfold st_part at ih
        first
          | (rw [if_pos (show mxI bl (cntR (fun r => canR df wf fs (nI r)) 51 - bl) < le by first | assumption | exact Int32.not_le.mp (by assumption)), if_pos (show mxI bl (cntR (fun r => canR df wf fs (nI r)) 51 - bl) < le by first | assumption | exact Int32.not_le.mp (by assumption))] at ih; first | (rw [if_pos (show canR df wf fs (nI i) = true by assumption)] at ih; exact ih) | (rw [if_neg (show ¬ canR df wf fs (nI i) = true by rw [show canR df wf fs (nI i) = false by assumption]; decide)] at ih; exact ih))
          | (rw [if_neg (show ¬ mxI bl (cntR (fun r => canR df wf fs (nI r)) 51 - bl) < le by first | assumption | exact Int32.not_lt.mpr (by assumption)), if_neg (show ¬ mxI bl (cntR (fun r => canR df wf fs (nI r)) 51 - bl) < le by first | assumption | exact Int32.not_lt.mpr (by assumption))] at ih; first | (rw [if_pos (show canR df wf fs (nI i) = true by assumption)] at ih; exact ih) | (rw [if_neg (show ¬ canR df wf fs (nI i) = true by rw [show canR df wf fs (nI i) = false by assumption]; decide)] at ih; exact ih))
    · refine v_iload (pc := 41) 6 dX3_bestDoorToPart_41 rfl ?_
      refine v_istore_n (pc := 43) [1, 2, 0, 3, 4, 5, 6] [(0, _), (1, _), (2, _), (3, _), (4, _), (5, _), (6, _)] dX3_bestDoorToPart_43 rfl (by decide) rfl ?_
      refine v_iload (pc := 44) 5 dX3_bestDoorToPart_44 rfl ?_
      refine v_istore_n (pc := 46) [1, 2, 3, 0, 4, 5, 6] [(0, _), (1, _), (2, _), (3, _), (4, _), (5, _), (6, _)] dX3_bestDoorToPart_46 rfl (by decide) rfl ?_
      refine v_iload (pc := 47) 4 dX3_bestDoorToPart_47 rfl ?_
      refine v_aload_n (pc := 49) 0 dX3_bestDoorToPart_49 rfl rfl ?_
      refine v_iload (pc := 50) 5 dX3_bestDoorToPart_50 rfl ?_
      refine v_callV (pc := 52) _ _ k_X3_43 (cSr_obj rfl) rfl (by decide) (c_can hws hfs hes _) ⟨rfl, rfl, by decide⟩ rfl rfl (Nat.le_of_ble_eq_true rfl) ⟨Nat.le_of_ble_eq_true rfl, Nat.le_of_ble_eq_true rfl⟩ dX3_bestDoorToPart_52 (unS ?_)
      show V E X _ RX3 _ _ _ 0 0 _ false 146 55 _ [_, _] _
      refine v_if_eqB (pc := 55) (tgt := 62) dX3_bestDoorToPart_55 rfl (fun c_55 => ?_) (fun c_55 => ?_)
      · refine v_iconst (pc := 62) (nI 0) dX3_bestDoorToPart_62 kI_0 ?_
        refine v_iadd (pc := 63) dX3_bestDoorToPart_63 ?_
        refine v_istore (pc := 64) [1, 2, 3, 4, 0, 5, 6] [(0, _), (1, _), (2, _), (3, _), (4, _), (5, _), (6, _)] dX3_bestDoorToPart_64 (by decide) rfl ?_
        refine v_iincN (pc := 66) 5 [1, 2, 3, 4, 5, 0, 6] [(0, _), (1, _), (2, _), (3, _), (4, _), (5, _), (6, _)] kI_1 dX3_bestDoorToPart_66 rfl (by decide) rfl ?_
        refine v_goto (pc := 69) (tgt := 17) dX3_bestDoorToPart_69 rfl ?_
        refine v_sub [0, 1, 2, 3, 4, 5] rfl ?_
        unfold st_part at ih
        first
          | (rw [if_pos (show mxI bl (cntR (fun r => canR df wf fs (nI r)) 51 - bl) < le by first | assumption | exact Int32.not_le.mp (by assumption)), if_pos (show mxI bl (cntR (fun r => canR df wf fs (nI r)) 51 - bl) < le by first | assumption | exact Int32.not_le.mp (by assumption))] at ih; first | (rw [if_pos (show canR df wf fs (nI i) = true by assumption)] at ih; exact ih) | (rw [if_neg (show ¬ canR df wf fs (nI i) = true by rw [show canR df wf fs (nI i) = false by assumption]; decide)] at ih; exact ih))
          | (rw [if_neg (show ¬ mxI bl (cntR (fun r => canR df wf fs (nI r)) 51 - bl) < le by first | assumption | exact Int32.not_lt.mpr (by assumption)), if_neg (show ¬ mxI bl (cntR (fun r => canR df wf fs (nI r)) 51 - bl) < le by first | assumption | exact Int32.not_lt.mpr (by assumption))] at ih; first | (rw [if_pos (show canR df wf fs (nI i) = true by assumption)] at ih; exact ih) | (rw [if_neg (show ¬ canR df wf fs (nI i) = true by rw [show canR df wf fs (nI i) = false by assumption]; decide)] at ih; exact ih))
      · refine v_iconst (pc := 58) (nI 1) dX3_bestDoorToPart_58 kI_1 ?_
        refine v_goto (pc := 59) (tgt := 63) dX3_bestDoorToPart_59 rfl ?_
        refine v_iadd (pc := 63) dX3_bestDoorToPart_63 ?_
        refine v_istore (pc := 64) [1, 2, 3, 4, 0, 5, 6] [(0, _), (1, _), (2, _), (3, _), (4, _), (5, _), (6, _)] dX3_bestDoorToPart_64 (by decide) rfl ?_
        refine v_iincN (pc := 66) 5 [1, 2, 3, 4, 5, 0, 6] [(0, _), (1, _), (2, _), (3, _), (4, _), (5, _), (6, _)] kI_1 dX3_bestDoorToPart_66 rfl (by decide) rfl ?_
        refine v_goto (pc := 69) (tgt := 17) dX3_bestDoorToPart_69 rfl ?_
        refine v_sub [0, 1, 2, 3, 4, 5] rfl ?_
        unfold st_part at ih
        first
          | (rw [if_pos (show mxI bl (cntR (fun r => canR df wf fs (nI r)) 51 - bl) < le by first | assumption | exact Int32.not_le.mp (by assumption)), if_pos (show mxI bl (cntR (fun r => canR df wf fs (nI r)) 51 - bl) < le by first | assumption | exact Int32.not_le.mp (by assumption))] at ih; first | (rw [if_pos (show canR df wf fs (nI i) = true by assumption)] at ih; exact ih) | (rw [if_neg (show ¬ canR df wf fs (nI i) = true by rw [show canR df wf fs (nI i) = false by assumption]; decide)] at ih; exact ih))
          | (rw [if_neg (show ¬ mxI bl (cntR (fun r => canR df wf fs (nI r)) 51 - bl) < le by first | assumption | exact Int32.not_lt.mpr (by assumption)), if_neg (show ¬ mxI bl (cntR (fun r => canR df wf fs (nI r)) 51 - bl) < le by first | assumption | exact Int32.not_lt.mpr (by assumption))] at ih; first | (rw [if_pos (show canR df wf fs (nI i) = true by assumption)] at ih; exact ih) | (rw [if_neg (show ¬ canR df wf fs (nI i) = true by rw [show canR df wf fs (nI i) = false by assumption]; decide)] at ih; exact ih))
set_option maxHeartbeats 4000000 in
set_option maxRecDepth 100000 in
theorem c_fwrong {E : Ev} {σ : Sg} {wa df wf ep eb : Fn} {ws fs es : Nat} (hws : ws ≤ 6) (hfs : fs ≤ 6) (hes : es ≤ 15) {t hr nt rg pe : Int32} {b c o p : Fn} (hG : gF σ 0 = (t, hr, nt, rg, pe, b, c, o, p)) (hep : ∀ i, i < es → vp_in (ep i) 7) : Ct E yX3_firstWrong cX3_firstWrong 3 (some .int) ({ frames := 0, cells := 0, slots := 0, locals := 0 } : Room) false 146 [.ref (Ez E + 115), .ref (Ez E + adr 0)] (cellOf E (sSe σ (wa, df, wf, ep, eb, nI ws, nI fs, nI es))) 146 0 0 (Ff (some (.int (fst_ (wrongB b ep eb) es 0))) (cellOf E (sSe σ ((wa, df, wf, ep, eb, nI ws, nI fs, nI es))))) := by
  refine Ct.ofV (by decide) (Nat.le_of_ble_eq_true rfl) (fun X hnm => ?_)
  show V E X _ RX3 _ _ _ _ _ _ false 146 0 [(0, .ref (Ez E + 115)), (1, .ref (Ez E + adr 0))] [] _
  refine v_iconst (pc := 0) (nI 0) dX3_firstWrong_0 kI_0 ?_
  refine v_istore_n (pc := 1) [1, 2, 0] [(0, _), (1, _), (2, _)] dX3_firstWrong_1 rfl (by decide) rfl ?_
  have hl_2 : ∀ (m_ : Nat) (i : Nat), es - i < m_ → (i ≤ es) → (fst_ (wrongB b ep eb) (es - i) i = fst_ (wrongB b ep eb) es 0) → V E X ({ frames := 0, cells := 0, slots := 0, locals := 0 } : Room) RX3 cX3_firstWrong 3 (some .int) 0 0 (QX E X false 146 (Ff (some (.int (fst_ (wrongB b ep eb) es 0))) (cellOf E (sSe σ ((wa, df, wf, ep, eb, nI ws, nI fs, nI es))))) 0 0) false 146 2 [(0, .ref (Ez E + 115)), (1, .ref (Ez E + adr 0)), (2, .int (nI i))] [] (cellOf E (sSe σ (wa, df, wf, ep, eb, nI ws, nI fs, nI es))) := by
    intro m_
    induction m_ with
    | zero => intro i hm; exact absurd hm (Nat.not_lt_zero _)
    | succ m_ ihm =>
      intro i hm hi hq
      refine v_iload_n (pc := 2) 2 dX3_firstWrong_2 rfl rfl ?_
      refine v_aload_n (pc := 3) 0 dX3_firstWrong_3 rfl rfl ?_
      refine g_X3_35 (pc := 4) (cSr_obj rfl) (by decide) rfl dX3_firstWrong_4 ?_
      refine v_icmp_geN (pc := 7) (by omega) (by omega) (tgt := 38) dX3_firstWrong_7 rfl (fun c_7 => ?_) (fun c_7 => ?_)
      · refine v_iconst (pc := 38) (-1) dX3_firstWrong_38 kI_m1 ?_
        exact v_iret (pc := 39) dX3_firstWrong_39 (⟨by rw [← hq, show es - i = 0 by omega]; rfl, rfl⟩)
      · refine v_aload_n (pc := 10) 1 dX3_firstWrong_10 rfl rfl ?_
        refine g_X3_38 (pc := 11) (cFr_obj (k := 0) (by decide) hG) (adr_lt0 (k := 0) (by decide)) rfl dX3_firstWrong_11 ?_
        refine v_aload_n (pc := 14) 0 dX3_firstWrong_14 rfl rfl ?_
        refine g_X3_22 (pc := 15) (cSr_obj rfl) (by decide) rfl dX3_firstWrong_15 ?_
        refine v_iload_n (pc := 18) 2 dX3_firstWrong_18 rfl rfl ?_
        refine v_ialdN (pc := 19) (cSr_ep rfl) (by decide) (by omega) (by decide) dX3_firstWrong_19 ?_
        refine v_iald (pc := 20) (cFr_b (k := 0) (by decide) hG) (adr_lt (k := 0) (by decide) (by decide)) (hep i (by omega)) dX3_firstWrong_20 ?_
        refine v_aload_n (pc := 21) 0 dX3_firstWrong_21 rfl rfl ?_
        refine g_X3_25 (pc := 22) (cSr_obj rfl) (by decide) rfl dX3_firstWrong_22 ?_
        refine v_iload_n (pc := 25) 2 dX3_firstWrong_25 rfl rfl ?_
        refine v_ialdN (pc := 26) (cSr_eb rfl) (by decide) (by omega) (by decide) dX3_firstWrong_26 ?_
        refine v_icmp_eq (pc := 27) (tgt := 32) dX3_firstWrong_27 rfl (fun c_27 => ?_) (fun c_27 => ?_)
        · refine v_iincN (pc := 32) 2 [1, 2, 0] [(0, _), (1, _), (2, _)] kI_1 dX3_firstWrong_32 rfl (by decide) rfl ?_
          refine v_goto (pc := 35) (tgt := 2) dX3_firstWrong_35 rfl ?_
          exact ihm (i + 1) (by omega) (by omega) (by rw [← hq, show es - i = (es - (i + 1)) + 1 by omega]; show _ = if wrongB b ep eb i = true then _ else _; rw [if_neg (show ¬ wrongB b ep eb i = true from fun q => (of_decide_eq_true (show decide (¬ b (ep i).toNatClampNeg = eb i) = true from q)) c_27)])
        · refine v_iload_n (pc := 30) 2 dX3_firstWrong_30 rfl rfl ?_
          exact v_iret (pc := 31) dX3_firstWrong_31 (⟨by rw [← hq, show es - i = (es - (i + 1)) + 1 by omega]; show _ = some (Value.int (if wrongB b ep eb i = true then _ else _)); rw [if_pos (show wrongB b ep eb i = true from decide_eq_true c_27)], rfl⟩)
  exact hl_2 (es + 1) 0 (by omega) (by omega) rfl
