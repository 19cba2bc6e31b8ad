abbrev fT (F : FlockV) : Int32 := F.1
abbrev fH (F : FlockV) : Int32 := F.2.1
abbrev fN (F : FlockV) : Int32 := F.2.2.1
abbrev fR (F : FlockV) : Int32 := F.2.2.2.1
abbrev fE (F : FlockV) : Int32 := F.2.2.2.2.1
abbrev fB (F : FlockV) : Fn := F.2.2.2.2.2.1
abbrev fK (F : FlockV) : Fn := F.2.2.2.2.2.2.1
abbrev fO (F : FlockV) : Fn := F.2.2.2.2.2.2.2.1
abbrev fP (F : FlockV) : Fn := F.2.2.2.2.2.2.2.2
def fl_chg (F : FlockV) (a n : Int32) : FlockV := if ¬ a < 0 ∧ ¬ nI 7 ≤ a then (fT F, fH F, fN F, fR F, fE F, upd (fB F) a.toNatClampNeg (fB F a.toNatClampNeg + n), fK F, fO F, fP F) else (fT F + n, fH F, fN F, fR F, fE F, fB F, fK F, fO F, fP F)
def fl_note (F : FlockV) : FlockV := (fT F, fH F, fN F, fR F, fE F + nI 1, fB F, fK F, fO F, upd (fP F) (fmI (fE F) (nI 20)).toNatClampNeg (fR F))
def fl_ring (F : FlockV) (a : Int32) : FlockV := (fT F, fH F, fN F, a, fE F, fB F, fK F, fO F, fP F)
def fl_move (F : FlockV) (a z n : Int32) : FlockV := if ¬ n ≤ 0 ∧ fR (fl_chg (fl_chg F a (-n)) z n) = a then fl_note (fl_ring (fl_chg (fl_chg F a (-n)) z n) z) else fl_chg (fl_chg F a (-n)) z n
theorem lt0_msb (x : Int32) : x < 0 ↔ x.toBitVec.msb = true := by
  rw [Int32.lt_iff_toInt_lt, BitVec.msb_eq_toInt, decide_eq_true_iff]
  rfl
theorem xor_neg (x : Int32) {m : Nat} (hm : m < 2147483648) : x ^^^ nI m < 0 ↔ x < 0 := by
  have h : ¬ nI m < 0 := nI_pos hm
  rw [lt0_msb] at h ⊢
  rw [lt0_msb]
  have e : (x ^^^ nI m).toBitVec = x.toBitVec ^^^ (nI m).toBitVec := rfl
  rw [e, BitVec.msb_xor]
  cases hb : (nI m).toBitVec.msb
  · simp
  · exact absurd hb h
theorem fm20 (x : Int32) : vp_in (fmI x (nI 20)) 20 := by
  rw [vp_in_iff]
  have h20 : (nI 20).toInt = 20 := by decide
  have hr : (x - x / nI 20 * nI 20).toInt = x.toInt.tmod 20 := by rw [rem_toInt, h20]
  have hb := tmod_bounds (a := x.toInt) (M := 20) (by decide)
  have hz : (0 : Int32).toInt = 0 := by decide
  have hx : x < 0 ↔ x.toInt < 0 := by rw [Int32.lt_iff_toInt_lt, hz]
  unfold fmI
  by_cases hn : x < 0
  · have hneg : x.toInt.tmod 20 ≤ 0 := by
      have := hx.mp hn
      have e : x.toInt.tmod 20 = -((-x.toInt).tmod 20) := by rw [Int.neg_tmod, Int.neg_neg]
      have := Int.tmod_nonneg (a := -x.toInt) 20 (by omega)
      omega
    by_cases h0 : x - x / nI 20 * nI 20 = 0
    · rw [if_neg (fun q => q.2 h0), h0]
      decide
    · rw [if_pos ⟨(xor_neg x (by decide)).mpr hn, h0⟩]
      have h1 : (x - x / nI 20 * nI 20).toInt ≠ 0 := fun q => h0 (Int32.toInt_inj.mp (by rw [q]; rfl))
      rw [Jvm.Kit.i32_add (by rw [hr, h20]; omega) (by rw [hr, h20]; omega), hr, h20]
      omega
  · rw [if_neg (fun q => hn ((xor_neg x (by decide)).mp q.1)), hr]
    have : 0 ≤ x.toInt := by
      have := mt hx.mpr hn
      omega
    have := Int.tmod_nonneg (a := x.toInt) 20 this
    omega

set_option maxHeartbeats 4000000 in
set_option maxRecDepth 100000 in
theorem c_hasNet {E : Ev} {σ : Sg} {k : Nat} {t hr nt rg pe : Int32} {b c o p : Fn} (hk : k < 20) (a : Int32) : Ct E yX0_hasNet cX0_hasNet 2 (some .boolean) ({ frames := 1, cells := 0, slots := 0, locals := 21 } : Room) false 146 [.ref (Ez E + adr k), .int a] (cellOf E (sFl σ k (t, hr, nt, rg, pe, b, c, o, p))) 146 0 0 (Ff (some (.int (bI (hasB nt a)))) (cellOf E (sFl σ k ((t, hr, nt, rg, pe, b, c, o, p))))) := by
  refine Ct.ofV (by decide) (Nat.le_of_ble_eq_true rfl) (fun X hnm => ?_)
  show V E X _ RX0 _ _ _ _ _ _ false 146 0 [(0, .ref (Ez E + adr k)), (1, .int a)] [] _
  refine v_aload_n (pc := 0) 0 dX0_hasNet_0 rfl rfl ?_
  refine g_X0_18 (pc := 1) (cFr_obj hk (gF_s _ _ _)) (adr_lt0 hk) rfl dX0_hasNet_1 ?_
  refine v_iload_n (pc := 4) 1 dX0_hasNet_4 rfl rfl ?_
  refine v_callSN (pc := 5) _ _ k_X0_65 (c_has _ _) ⟨rfl, rfl, by decide⟩ rfl rfl (Nat.le_of_ble_eq_true rfl) ⟨Nat.le_of_ble_eq_true rfl, Nat.le_of_ble_eq_true rfl⟩ dX0_hasNet_5 (unS ?_)
  show V E X _ RX0 _ _ _ 0 0 _ false 146 8 _ [_] _
  exact v_zret (pc := 8) dX0_hasNet_8 (bI_nar _) (⟨rfl, rfl⟩)
set_option maxHeartbeats 4000000 in
set_option maxRecDepth 100000 in
theorem c_chg {E : Ev} {σ : Sg} {k : Nat} {t hr nt rg pe : Int32} {b c o p : Fn} (hk : k < 20) (a n : Int32) : Ct E yX0_changeBy cX0_changeBy 3 none ({ frames := 0, cells := 0, slots := 0, locals := 0 } : Room) false 146 [.ref (Ez E + adr k), .int a, .int n] (cellOf E (sFl σ k (t, hr, nt, rg, pe, b, c, o, p))) 146 0 0 (Ff none (cellOf E (sFl σ k (fl_chg (t, hr, nt, rg, pe, b, c, o, p) a n)))) := by
  refine Ct.ofV (by decide) (Nat.le_of_ble_eq_true rfl) (fun X hnm => ?_)
  show V E X _ RX0 _ _ _ _ _ _ false 146 0 [(0, .ref (Ez E + adr k)), (1, .int a), (2, .int n)] [] _
  refine v_iload_n (pc := 0) 1 dX0_changeBy_0 rfl rfl ?_
  refine v_if_lt (pc := 1) (tgt := 26) dX0_changeBy_1 rfl (fun c_1 => ?_) (fun c_1 => ?_)
  · refine v_aload_n (pc := 26) 0 dX0_changeBy_26 rfl rfl ?_
    refine v_dup (pc := 27) dX0_changeBy_27 rfl ?_
    refine g_X0_9 (pc := 28) (cFr_obj hk (gF_s _ _ _)) (adr_lt0 hk) rfl dX0_changeBy_28 ?_
    refine v_iload_n (pc := 31) 2 dX0_changeBy_31 rfl rfl ?_
    refine v_iadd (pc := 32) dX0_changeBy_32 ?_
    refine p_X0_9 (pc := 33) (cFr_obj hk (gF_s _ _ _)) (adr_lt0 hk) rfl rfl (Nat.le_of_ble_eq_true rfl) dX0_changeBy_33 (wF_t hk) ?_
    exact v_vret (pc := 36) dX0_changeBy_36 (⟨rfl, by first | (rw [show fl_chg (t, hr, nt, rg, pe, b, c, o, p) a n = _ from if_pos ⟨by first | assumption | exact Int32.not_lt.mpr (by assumption), by first | assumption | exact Int32.not_le.mpr (by assumption)⟩]) | (rw [show fl_chg (t, hr, nt, rg, pe, b, c, o, p) a n = _ from if_neg (by rintro ⟨q1, q2⟩; first | exact q1 (by assumption) | exact q2 (by assumption))])⟩)
  · refine v_iload_n (pc := 4) 1 dX0_changeBy_4 rfl rfl ?_
    refine v_aload_n (pc := 5) 0 dX0_changeBy_5 rfl rfl ?_
    refine g_X0_27 (pc := 6) (cFr_obj hk (gF_s _ _ _)) (adr_lt0 hk) rfl dX0_changeBy_6 ?_
    refine v_alen (pc := 9) 0 (nI 7) (cFr_b hk (gF_s _ _ _)) (adr_lt hk (by decide)) rfl rfl dX0_changeBy_9 ?_
    refine v_icmp_ge (pc := 10) (tgt := 26) dX0_changeBy_10 rfl (fun c_10 => ?_) (fun c_10 => ?_)
    · refine v_aload_n (pc := 26) 0 dX0_changeBy_26 rfl rfl ?_
      refine v_dup (pc := 27) dX0_changeBy_27 rfl ?_
      refine g_X0_9 (pc := 28) (cFr_obj hk (gF_s _ _ _)) (adr_lt0 hk) rfl dX0_changeBy_28 ?_
      refine v_iload_n (pc := 31) 2 dX0_changeBy_31 rfl rfl ?_
      refine v_iadd (pc := 32) dX0_changeBy_32 ?_
      refine p_X0_9 (pc := 33) (cFr_obj hk (gF_s _ _ _)) (adr_lt0 hk) rfl rfl (Nat.le_of_ble_eq_true rfl) dX0_changeBy_33 (wF_t hk) ?_
      exact v_vret (pc := 36) dX0_changeBy_36 (⟨rfl, by first | (rw [show fl_chg (t, hr, nt, rg, pe, b, c, o, p) a n = _ from if_pos ⟨by first | assumption | exact Int32.not_lt.mpr (by assumption), by first | assumption | exact Int32.not_le.mpr (by assumption)⟩]) | (rw [show fl_chg (t, hr, nt, rg, pe, b, c, o, p) a n = _ from if_neg (by rintro ⟨q1, q2⟩; first | exact q1 (by assumption) | exact q2 (by assumption))])⟩)
    · refine v_aload_n (pc := 13) 0 dX0_changeBy_13 rfl rfl ?_
      refine g_X0_27 (pc := 14) (cFr_obj hk (gF_s _ _ _)) (adr_lt0 hk) rfl dX0_changeBy_14 ?_
      refine v_iload_n (pc := 17) 1 dX0_changeBy_17 rfl rfl ?_
      refine v_dup2 (pc := 18) dX0_changeBy_18 rfl rfl ?_
      refine v_iald (pc := 19) (cFr_b hk (gF_s _ _ _)) (adr_lt hk (by decide)) (vp_c (by assumption) (by assumption) (by decide)) dX0_changeBy_19 ?_
      refine v_iload_n (pc := 20) 2 dX0_changeBy_20 rfl rfl ?_
      refine v_iadd (pc := 21) dX0_changeBy_21 ?_
      refine v_iast (pc := 22) (cFr_b hk (gF_s _ _ _)) (adr_lt hk (by decide)) (vp_c (by assumption) (by assumption) (by decide)) dX0_changeBy_22 (wF_b hk) ?_
      refine v_goto (pc := 23) (tgt := 36) dX0_changeBy_23 rfl ?_
      exact v_vret (pc := 36) dX0_changeBy_36 (⟨rfl, by first | (rw [show fl_chg (t, hr, nt, rg, pe, b, c, o, p) a n = _ from if_pos ⟨by first | assumption | exact Int32.not_lt.mpr (by assumption), by first | assumption | exact Int32.not_le.mpr (by assumption)⟩]) | (rw [show fl_chg (t, hr, nt, rg, pe, b, c, o, p) a n = _ from if_neg (by rintro ⟨q1, q2⟩; first | exact q1 (by assumption) | exact q2 (by assumption))])⟩)
set_option maxHeartbeats 4000000 in
set_option maxRecDepth 100000 in
theorem c_note {E : Ev} {σ : Sg} {k : Nat} {t hr nt rg pe : Int32} {b c o p : Fn} (hk : k < 20)  : Ct E yX0_notePlace cX0_notePlace 1 none ({ frames := 1, cells := 0, slots := 0, locals := 22 } : Room) false 146 [.ref (Ez E + adr k)] (cellOf E (sFl σ k (t, hr, nt, rg, pe, b, c, o, p))) 146 0 0 (Ff none (cellOf E (sFl σ k (fl_note (t, hr, nt, rg, pe, b, c, o, p))))) := by
  refine Ct.ofV (by decide) (Nat.le_of_ble_eq_true rfl) (fun X hnm => ?_)
  show V E X _ RX0 _ _ _ _ _ _ false 146 0 [(0, .ref (Ez E + adr k))] [] _
  refine v_aload_n (pc := 0) 0 dX0_notePlace_0 rfl rfl ?_
  refine g_X0_37 (pc := 1) (cFr_obj hk (gF_s _ _ _)) (adr_lt0 hk) rfl dX0_notePlace_1 ?_
  refine v_aload_n (pc := 4) 0 dX0_notePlace_4 rfl rfl ?_
  refine g_X0_24 (pc := 5) (cFr_obj hk (gF_s _ _ _)) (adr_lt0 hk) rfl dX0_notePlace_5 ?_
  refine v_bipush (pc := 8) (nI 20) dX0_notePlace_8 kB_20 ?_
  refine v_callS (pc := 10) _ _ k_X0_69 (c_floorMod _ _ (by decide)) ⟨rfl, rfl, by decide⟩ rfl rfl (Nat.le_of_ble_eq_true rfl) ⟨Nat.le_of_ble_eq_true rfl, Nat.le_of_ble_eq_true rfl⟩ dX0_notePlace_10 (unS ?_)
  show V E X _ RX0 _ _ _ 0 0 _ false 146 13 _ [_, _] _
  refine v_aload_n (pc := 13) 0 dX0_notePlace_13 rfl rfl ?_
  refine g_X0_21 (pc := 14) (cFr_obj hk (gF_s _ _ _)) (adr_lt0 hk) rfl dX0_notePlace_14 ?_
  refine v_iast (pc := 17) (cFr_p hk (gF_s _ _ _)) (adr_lt hk (by decide)) (fm20 _) dX0_notePlace_17 (wF_p hk) ?_
  refine v_aload_n (pc := 18) 0 dX0_notePlace_18 rfl rfl ?_
  refine v_dup (pc := 19) dX0_notePlace_19 rfl ?_
  refine g_X0_24 (pc := 20) (cFr_obj hk (gF_s _ _ _)) (adr_lt0 hk) rfl dX0_notePlace_20 ?_
  refine v_iconst (pc := 23) (nI 1) dX0_notePlace_23 kI_1 ?_
  refine v_iadd (pc := 24) dX0_notePlace_24 ?_
  refine p_X0_24 (pc := 25) (cFr_obj hk (gF_s _ _ _)) (adr_lt0 hk) rfl rfl (Nat.le_of_ble_eq_true rfl) dX0_notePlace_25 (wF_pe hk) ?_
  exact v_vret (pc := 28) dX0_notePlace_28 (⟨rfl, rfl⟩)
set_option maxHeartbeats 4000000 in
set_option maxRecDepth 100000 in
theorem c_move {E : Ev} {σ : Sg} {k : Nat} {t hr nt rg pe : Int32} {b c o p : Fn} (hk : k < 20) (a z n : Int32) : Ct E yX0_move cX0_move 4 none ({ frames := 2, cells := 0, slots := 0, locals := 42 } : Room) false 146 [.ref (Ez E + adr k), .int a, .int z, .int n] (cellOf E (sFl σ k (t, hr, nt, rg, pe, b, c, o, p))) 146 0 0 (Ff none (cellOf E (sFl σ k (fl_move (t, hr, nt, rg, pe, b, c, o, p) a z n)))) := by
  refine Ct.ofV (by decide) (Nat.le_of_ble_eq_true rfl) (fun X hnm => ?_)
  show V E X _ RX0 _ _ _ _ _ _ false 146 0 [(0, .ref (Ez E + adr k)), (1, .int a), (2, .int z), (3, .int n)] [] _
  refine v_aload_n (pc := 0) 0 dX0_move_0 rfl rfl ?_
  refine v_iload_n (pc := 1) 1 dX0_move_1 rfl rfl ?_
  refine v_iload_n (pc := 2) 3 dX0_move_2 rfl rfl ?_
  refine v_ineg (pc := 3) dX0_move_3 ?_
  refine v_callV (pc := 4) _ _ k_X0_82 (cFr_obj hk (gF_s _ _ _)) rfl (adr_lt0 hk) (c_chg hk _ _) ⟨rfl, rfl, by decide⟩ rfl rfl (Nat.le_of_ble_eq_true rfl) ⟨Nat.le_of_ble_eq_true rfl, Nat.le_of_ble_eq_true rfl⟩ dX0_move_4 (unF (fun t1 hr1 nt1 rg1 pe1 b1 c1 o1 p1 hm1 => ?_))
  show V E X _ RX0 _ _ _ 0 0 _ false 146 7 _ [] _
  refine v_aload_n (pc := 7) 0 dX0_move_7 rfl rfl ?_
  refine v_iload_n (pc := 8) 2 dX0_move_8 rfl rfl ?_
  refine v_iload_n (pc := 9) 3 dX0_move_9 rfl rfl ?_
  refine v_callV (pc := 10) _ _ k_X0_82 (cFr_obj hk (gF_s _ _ _)) rfl (adr_lt0 hk) (c_chg hk _ _) ⟨rfl, rfl, by decide⟩ rfl rfl (Nat.le_of_ble_eq_true rfl) ⟨Nat.le_of_ble_eq_true rfl, Nat.le_of_ble_eq_true rfl⟩ dX0_move_10 (unF (fun t2 hr2 nt2 rg2 pe2 b2 c2 o2 p2 hm2 => ?_))
  show V E X _ RX0 _ _ _ 0 0 _ false 146 13 _ [] _
  refine v_iload_n (pc := 13) 3 dX0_move_13 rfl rfl ?_
  refine v_if_le (pc := 14) (tgt := 34) dX0_move_14 rfl (fun c_14 => ?_) (fun c_14 => ?_)
  · exact v_vret (pc := 34) dX0_move_34 (⟨rfl, by first | (rw [show fl_move (t, hr, nt, rg, pe, b, c, o, p) a z n = _ from if_pos ⟨by first | assumption | exact Int32.not_le.mpr (by assumption), by rw [hm1, hm2]; assumption⟩, hm1, hm2]; rfl) | (rw [show fl_move (t, hr, nt, rg, pe, b, c, o, p) a z n = _ from if_neg (by rintro ⟨q1, q2⟩; rw [hm1, hm2] at q2; first | exact q1 (by assumption) | exact absurd q2 (by assumption)), hm1, hm2])⟩)
  · refine v_aload_n (pc := 17) 0 dX0_move_17 rfl rfl ?_
    refine g_X0_21 (pc := 18) (cFr_obj hk (gF_s _ _ _)) (adr_lt0 hk) rfl dX0_move_18 ?_
    refine v_iload_n (pc := 21) 1 dX0_move_21 rfl rfl ?_
    refine v_icmp_ne (pc := 22) (tgt := 34) dX0_move_22 rfl (fun c_22 => ?_) (fun c_22 => ?_)
    · exact v_vret (pc := 34) dX0_move_34 (⟨rfl, by first | (rw [show fl_move (t, hr, nt, rg, pe, b, c, o, p) a z n = _ from if_pos ⟨by first | assumption | exact Int32.not_le.mpr (by assumption), by rw [hm1, hm2]; assumption⟩, hm1, hm2]; rfl) | (rw [show fl_move (t, hr, nt, rg, pe, b, c, o, p) a z n = _ from if_neg (by rintro ⟨q1, q2⟩; rw [hm1, hm2] at q2; first | exact q1 (by assumption) | exact absurd q2 (by assumption)), hm1, hm2])⟩)
    · refine v_aload_n (pc := 25) 0 dX0_move_25 rfl rfl ?_
      refine v_iload_n (pc := 26) 2 dX0_move_26 rfl rfl ?_
      refine p_X0_21 (pc := 27) (cFr_obj hk (gF_s _ _ _)) (adr_lt0 hk) rfl rfl (Nat.le_of_ble_eq_true rfl) dX0_move_27 (wF_rg hk) ?_
      refine v_aload_n (pc := 30) 0 dX0_move_30 rfl rfl ?_
      refine v_callV (pc := 31) _ _ k_X0_56 (cFr_obj hk (gF_s _ _ _)) rfl (adr_lt0 hk) (c_note hk) ⟨rfl, rfl, by decide⟩ rfl rfl (Nat.le_of_ble_eq_true rfl) ⟨Nat.le_of_ble_eq_true rfl, Nat.le_of_ble_eq_true rfl⟩ dX0_move_31 (unS ?_)
      show V E X _ RX0 _ _ _ 0 0 _ false 146 34 _ [] _
      exact v_vret (pc := 34) dX0_move_34 (⟨rfl, by first | (rw [show fl_move (t, hr, nt, rg, pe, b, c, o, p) a z n = _ from if_pos ⟨by first | assumption | exact Int32.not_le.mpr (by assumption), by rw [hm1, hm2]; assumption⟩, hm1, hm2]; rfl) | (rw [show fl_move (t, hr, nt, rg, pe, b, c, o, p) a z n = _ from if_neg (by rintro ⟨q1, q2⟩; rw [hm1, hm2] at q2; first | exact q1 (by assumption) | exact absurd q2 (by assumption)), hm1, hm2])⟩)
def fl_back (F : FlockV) (i : Int32) : Int32 := if i < 0 ∨ ¬ i < mnI (fE F) (nI 20) then -1 else fP F (fmI (fE F - nI 1 - i) (nI 20)).toNatClampNeg
def fl_crumb (F : FlockV) (a n : Int32) : FlockV := if ¬ a < 0 ∧ ¬ nI 7 ≤ a then (fT F, fH F, fN F, fR F, fE F, fB F, upd (fK F) a.toNatClampNeg (mnI (fK F a.toNatClampNeg + n) (nI 99)), fO F, fP F) else F
def sm (b : Fn) (n : Nat) : Int32 := itn (fun j s => s + b j) n (nI 0)
def st_less (dt cr : Fn) (a z : Int32) (i : Nat) (s : Int32 × Int32 × Fn) : Int32 × Int32 × Fn := if dt i = a ∧ cr i = z then (s.1 - mnI s.1 (s.2.2 i), s.2.1 + upd s.2.2 i (s.2.2 i - mnI s.1 (s.2.2 i)) i, upd s.2.2 i (s.2.2 i - mnI s.1 (s.2.2 i))) else s
def st_scare (dr : Fn) (x d : Int32) (i : Nat) (s : Int32 × FlockV) : Int32 × FlockV := if ¬ d < abI (dr i - x) ∧ hasB (fN s.2) (nI i) = false then (s.1 + fB s.2 i, fl_move s.2 (nI i) (-2) (fB s.2 i)) else s
def lossK (kd pl n : Int32) (w : Bool) : Int32 := if kd = nI 1 then pl / nI 2 else if kd = nI 2 then nI 0 else if kd = nI 3 then mnI (nI 2 * pl) n else if kd = nI 4 then (if w then nI 0 else pl) else pl
def fl_loss (F : FlockV) (kd : Fn) (i : Nat) (w : Bool) : Int32 := if fB F i = 0 ∨ hasB (fN F) (nI i) = true then nI 0 else lossK (kd i) (fB F i / nI 10 + nI 1) (fB F i) w
def fl_drawn (F : FlockV) (kd : Fn) (a : Int32) (n : Nat) : Int32 := itn (fun i s => s + (if nI i = a then nI 0 else fl_loss F kd i false)) n (nI 0)
def st_who (c : Fn) (i : Nat) (s : Int32 × Int32) : Int32 × Int32 := if ¬ c i ≤ s.2 then (nI i, c i) else s
def fl_who (c : Fn) : Int32 := (itn (st_who c) 7 (-2, nI 0)).1
def st_fly (kd : Fn) (a : Int32) (i : Nat) (F : FlockV) : FlockV := if nI i = a then F else fl_move F (nI i) a (fl_loss F kd i (decide (¬ fK F i ≤ 0)))
def st_half (i : Nat) (c : Fn) : Fn := upd c i (c i / nI 2)
def fl_hr (F : FlockV) : FlockV := (fT F, fH F + nI 1, fN F, fR F, fE F, fB F, itn st_half 7 (fK F), fO F, fP F)
def fl_fly (F : FlockV) (kd : Fn) (n : Nat) : FlockV := fl_hr (itn (st_fly kd (fl_who (fK F))) n F)
def duskB (hr du : Int32) : Bool := decide (¬ du ≤ 0 ∧ hr - hr / du * du = 0)
def st_home (kd : Fn) (i : Nat) (F : FlockV) : FlockV := if kd i = nI 2 then F else fl_move F (nI i) (-2) (fB F i)
def fl_home (F : FlockV) (kd : Fn) (n : Nat) : FlockV := itn (st_home kd) n F
def fl_pass (F : FlockV) (kd : Fn) (du : Int32) (n : Nat) : FlockV := if duskB (fH (fl_fly F kd n)) du = true then fl_home (fl_fly F kd n) kd n else fl_fly F kd n
set_option maxHeartbeats 4000000 in
set_option maxRecDepth 100000 in
theorem c_known {E : Ev} {σ : Sg} {k : Nat} {t hr nt rg pe : Int32} {b c o p : Fn} (hk : k < 20)  : Ct E yX0_placesKnown cX0_placesKnown 1 (some .int) ({ frames := 1, cells := 0, slots := 0, locals := 21 } : Room) false 146 [.ref (Ez E + adr k)] (cellOf E (sFl σ k (t, hr, nt, rg, pe, b, c, o, p))) 146 0 0 (Ff (some (.int (mnI pe (nI 20)))) (cellOf E (sFl σ k ((t, hr, nt, rg, pe, b, c, o, p))))) := by
  refine Ct.ofV (by decide) (Nat.le_of_ble_eq_true rfl) (fun X hnm => ?_)
  show V E X _ RX0 _ _ _ _ _ _ false 146 0 [(0, .ref (Ez E + adr k))] [] _
  refine v_aload_n (pc := 0) 0 dX0_placesKnown_0 rfl rfl ?_
  refine g_X0_24 (pc := 1) (cFr_obj hk (gF_s _ _ _)) (adr_lt0 hk) rfl dX0_placesKnown_1 ?_
  refine v_bipush (pc := 4) (nI 20) dX0_placesKnown_4 kB_20 ?_
  refine v_callS (pc := 6) _ _ k_X0_75 (c_min _ _) ⟨rfl, rfl, by decide⟩ rfl rfl (Nat.le_of_ble_eq_true rfl) ⟨Nat.le_of_ble_eq_true rfl, Nat.le_of_ble_eq_true rfl⟩ dX0_placesKnown_6 (unS ?_)
  show V E X _ RX0 _ _ _ 0 0 _ false 146 9 _ [_] _
  exact v_iret (pc := 9) dX0_placesKnown_9 (⟨rfl, rfl⟩)
set_option maxHeartbeats 4000000 in
set_option maxRecDepth 100000 in
theorem c_back {E : Ev} {σ : Sg} {k : Nat} {t hr nt rg pe : Int32} {b c o p : Fn} (hk : k < 20) (i : Int32) : Ct E yX0_placeBack cX0_placeBack 2 (some .int) ({ frames := 2, cells := 0, slots := 0, locals := 41 } : Room) false 146 [.ref (Ez E + adr k), .int i] (cellOf E (sFl σ k (t, hr, nt, rg, pe, b, c, o, p))) 146 0 0 (Ff (some (.int (fl_back (t, hr, nt, rg, pe, b, c, o, p) i))) (cellOf E (sFl σ k ((t, hr, nt, rg, pe, b, c, o, p))))) := by
  refine Ct.ofV (by decide) (Nat.le_of_ble_eq_true rfl) (fun X hnm => ?_)
  show V E X _ RX0 _ _ _ _ _ _ false 146 0 [(0, .ref (Ez E + adr k)), (1, .int i)] [] _
  refine v_iload_n (pc := 0) 1 dX0_placeBack_0 rfl rfl ?_
  refine v_if_lt (pc := 1) (tgt := 12) dX0_placeBack_1 rfl (fun c_1 => ?_) (fun c_1 => ?_)
  · refine v_iconst (pc := 12) (-1) dX0_placeBack_12 kI_m1 ?_
    exact v_iret (pc := 13) dX0_placeBack_13 (⟨by unfold fl_back; rw [if_pos (by first | exact Or.inl (by assumption) | exact Or.inr (by first | assumption | exact Int32.not_lt.mpr (by assumption)))], rfl⟩)
  · refine v_iload_n (pc := 4) 1 dX0_placeBack_4 rfl rfl ?_
    refine v_aload_n (pc := 5) 0 dX0_placeBack_5 rfl rfl ?_
    refine v_callV (pc := 6) _ _ k_X0_78 (cFr_obj hk (gF_s _ _ _)) rfl (adr_lt0 hk) (c_known hk) ⟨rfl, rfl, by decide⟩ rfl rfl (Nat.le_of_ble_eq_true rfl) ⟨Nat.le_of_ble_eq_true rfl, Nat.le_of_ble_eq_true rfl⟩ dX0_placeBack_6 (unS ?_)
    show V E X _ RX0 _ _ _ 0 0 _ false 146 9 _ [_, _] _
    refine v_icmp_lt (pc := 9) (tgt := 14) dX0_placeBack_9 rfl (fun c_9 => ?_) (fun c_9 => ?_)
    · refine v_aload_n (pc := 14) 0 dX0_placeBack_14 rfl rfl ?_
      refine g_X0_37 (pc := 15) (cFr_obj hk (gF_s _ _ _)) (adr_lt0 hk) rfl dX0_placeBack_15 ?_
      refine v_aload_n (pc := 18) 0 dX0_placeBack_18 rfl rfl ?_
      refine g_X0_24 (pc := 19) (cFr_obj hk (gF_s _ _ _)) (adr_lt0 hk) rfl dX0_placeBack_19 ?_
      refine v_iconst (pc := 22) (nI 1) dX0_placeBack_22 kI_1 ?_
      refine v_isub (pc := 23) dX0_placeBack_23 ?_
      refine v_iload_n (pc := 24) 1 dX0_placeBack_24 rfl rfl ?_
      refine v_isub (pc := 25) dX0_placeBack_25 ?_
      refine v_bipush (pc := 26) (nI 20) dX0_placeBack_26 kB_20 ?_
      refine v_callS (pc := 28) _ _ k_X0_69 (c_floorMod _ _ (by decide)) ⟨rfl, rfl, by decide⟩ rfl rfl (Nat.le_of_ble_eq_true rfl) ⟨Nat.le_of_ble_eq_true rfl, Nat.le_of_ble_eq_true rfl⟩ dX0_placeBack_28 (unS ?_)
      show V E X _ RX0 _ _ _ 0 0 _ false 146 31 _ [_, _] _
      refine v_iald (pc := 31) (cFr_p hk (gF_s _ _ _)) (adr_lt hk (by decide)) (fm20 _) dX0_placeBack_31 ?_
      exact v_iret (pc := 32) dX0_placeBack_32 (⟨by unfold fl_back; rw [if_neg (by rintro (q | q) <;> first | exact absurd q (by assumption) | exact q (by assumption) | exact absurd q (Int32.not_lt.mpr (by assumption)))], rfl⟩)
    · refine v_iconst (pc := 12) (-1) dX0_placeBack_12 kI_m1 ?_
      exact v_iret (pc := 13) dX0_placeBack_13 (⟨by unfold fl_back; rw [if_pos (by first | exact Or.inl (by assumption) | exact Or.inr (by first | assumption | exact Int32.not_lt.mpr (by assumption)))], rfl⟩)
set_option maxHeartbeats 4000000 in
set_option maxRecDepth 100000 in
theorem c_crumb {E : Ev} {σ : Sg} {k : Nat} {t hr nt rg pe : Int32} {b c o p : Fn} (hk : k < 20) (a n : Int32) : Ct E yX0_addCrumbs cX0_addCrumbs 3 none ({ frames := 1, cells := 0, slots := 0, locals := 21 } : Room) false 146 [.ref (Ez E + adr k), .int a, .int n] (cellOf E (sFl σ k (t, hr, nt, rg, pe, b, c, o, p))) 146 0 0 (Ff none (cellOf E (sFl σ k (fl_crumb (t, hr, nt, rg, pe, b, c, o, p) a n)))) := by
  refine Ct.ofV (by decide) (Nat.le_of_ble_eq_true rfl) (fun X hnm => ?_)
  show V E X _ RX0 _ _ _ _ _ _ false 146 0 [(0, .ref (Ez E + adr k)), (1, .int a), (2, .int n)] [] _
  refine v_iload_n (pc := 0) 1 dX0_addCrumbs_0 rfl rfl ?_
  refine v_if_lt (pc := 1) (tgt := 32) dX0_addCrumbs_1 rfl (fun c_1 => ?_) (fun c_1 => ?_)
  · exact v_vret (pc := 32) dX0_addCrumbs_32 (⟨rfl, by first | (rw [show fl_crumb (t, hr, nt, rg, pe, b, c, o, p) a n = _ from if_pos ⟨by first | assumption | exact Int32.not_lt.mpr (by assumption), by first | assumption | exact Int32.not_le.mpr (by assumption)⟩]) | (rw [show fl_crumb (t, hr, nt, rg, pe, b, c, o, p) a n = _ from if_neg (by rintro ⟨q1, q2⟩; first | exact q1 (by assumption) | exact q2 (by assumption))])⟩)
  · refine v_iload_n (pc := 4) 1 dX0_addCrumbs_4 rfl rfl ?_
    refine v_aload_n (pc := 5) 0 dX0_addCrumbs_5 rfl rfl ?_
    refine g_X0_31 (pc := 6) (cFr_obj hk (gF_s _ _ _)) (adr_lt0 hk) rfl dX0_addCrumbs_6 ?_
    refine v_alen (pc := 9) 0 (nI 7) (cFr_c hk (gF_s _ _ _)) (adr_lt hk (by decide)) rfl rfl dX0_addCrumbs_9 ?_
    refine v_icmp_ge (pc := 10) (tgt := 32) dX0_addCrumbs_10 rfl (fun c_10 => ?_) (fun c_10 => ?_)
    · exact v_vret (pc := 32) dX0_addCrumbs_32 (⟨rfl, by first | (rw [show fl_crumb (t, hr, nt, rg, pe, b, c, o, p) a n = _ from if_pos ⟨by first | assumption | exact Int32.not_lt.mpr (by assumption), by first | assumption | exact Int32.not_le.mpr (by assumption)⟩]) | (rw [show fl_crumb (t, hr, nt, rg, pe, b, c, o, p) a n = _ from if_neg (by rintro ⟨q1, q2⟩; first | exact q1 (by assumption) | exact q2 (by assumption))])⟩)
    · refine v_aload_n (pc := 13) 0 dX0_addCrumbs_13 rfl rfl ?_
      refine g_X0_31 (pc := 14) (cFr_obj hk (gF_s _ _ _)) (adr_lt0 hk) rfl dX0_addCrumbs_14 ?_
      refine v_iload_n (pc := 17) 1 dX0_addCrumbs_17 rfl rfl ?_
      refine v_aload_n (pc := 18) 0 dX0_addCrumbs_18 rfl rfl ?_
      refine g_X0_31 (pc := 19) (cFr_obj hk (gF_s _ _ _)) (adr_lt0 hk) rfl dX0_addCrumbs_19 ?_
      refine v_iload_n (pc := 22) 1 dX0_addCrumbs_22 rfl rfl ?_
      refine v_iald (pc := 23) (cFr_c hk (gF_s _ _ _)) (adr_lt hk (by decide)) (vp_c (by assumption) (by assumption) (by decide)) dX0_addCrumbs_23 ?_
      refine v_iload_n (pc := 24) 2 dX0_addCrumbs_24 rfl rfl ?_
      refine v_iadd (pc := 25) dX0_addCrumbs_25 ?_
      refine v_bipush (pc := 26) (nI 99) dX0_addCrumbs_26 kB_99 ?_
      refine v_callS (pc := 28) _ _ k_X0_75 (c_min _ _) ⟨rfl, rfl, by decide⟩ rfl rfl (Nat.le_of_ble_eq_true rfl) ⟨Nat.le_of_ble_eq_true rfl, Nat.le_of_ble_eq_true rfl⟩ dX0_addCrumbs_28 (unS ?_)
      show V E X _ RX0 _ _ _ 0 0 _ false 146 31 _ [_, _, _] _
      refine v_iast (pc := 31) (cFr_c hk (gF_s _ _ _)) (adr_lt hk (by decide)) (vp_c (by assumption) (by assumption) (by decide)) dX0_addCrumbs_31 (wF_c hk) ?_
      exact v_vret (pc := 32) dX0_addCrumbs_32 (⟨rfl, by first | (rw [show fl_crumb (t, hr, nt, rg, pe, b, c, o, p) a n = _ from if_pos ⟨by first | assumption | exact Int32.not_lt.mpr (by assumption), by first | assumption | exact Int32.not_le.mpr (by assumption)⟩]) | (rw [show fl_crumb (t, hr, nt, rg, pe, b, c, o, p) a n = _ from if_neg (by rintro ⟨q1, q2⟩; first | exact q1 (by assumption) | exact q2 (by assumption))])⟩)
set_option maxHeartbeats 4000000 in
set_option maxRecDepth 100000 in
theorem c_hats {E : Ev} {σ : Sg} {k : Nat} {t hr nt rg pe : Int32} {b c o p : Fn} (hk : k < 20)  : Ct E yX0_inAllHats cX0_inAllHats 3 (some .int) ({ frames := 0, cells := 0, slots := 0, locals := 0 } : Room) false 146 [.ref (Ez E + adr k)] (cellOf E (sFl σ k (t, hr, nt, rg, pe, b, c, o, p))) 146 0 0 (Ff (some (.int (sm b 7))) (cellOf E (sFl σ k ((t, hr, nt, rg, pe, b, c, o, p))))) := by
  refine Ct.ofV (by decide) (Nat.le_of_ble_eq_true rfl) (fun X hnm => ?_)
  show V E X _ RX0 _ _ _ _ _ _ false 146 0 [(0, .ref (Ez E + adr k))] [] _
  refine v_iconst (pc := 0) (nI 0) dX0_inAllHats_0 kI_0 ?_
  refine v_istore_n (pc := 1) [1, 0] [(0, _), (1, _)] dX0_inAllHats_1 rfl (by decide) rfl ?_
  refine v_iconst (pc := 2) (nI 0) dX0_inAllHats_2 kI_0 ?_
  refine v_istore_n (pc := 3) [1, 2, 0] [(0, _), (1, _), (2, _)] dX0_inAllHats_3 rfl (by decide) rfl ?_
  refine dn (P := fun i => V E X ({ frames := 0, cells := 0, slots := 0, locals := 0 } : Room) RX0 cX0_inAllHats 3 (some .int) 0 0 (QX E X false 146 (Ff (some (.int (sm b 7))) (cellOf E (sFl σ k ((t, hr, nt, rg, pe, b, c, o, p))))) 0 0) false 146 4 [(0, .ref (Ez E + adr k)), (1, .int (sm b i)), (2, .int (nI i))] [] (cellOf E (sFl σ k (t, hr, nt, rg, pe, b, c, o, p)))) (N := 7) ?_ ?_
  · refine v_iload_n (pc := 4) 2 dX0_inAllHats_4 rfl rfl ?_
    refine v_aload_n (pc := 5) 0 dX0_inAllHats_5 rfl rfl ?_
    refine g_X0_27 (pc := 6) (cFr_obj hk (gF_s _ _ _)) (adr_lt0 hk) rfl dX0_inAllHats_6 ?_
    refine v_alen (pc := 9) 0 (nI 7) (cFr_b hk (gF_s _ _ _)) (adr_lt hk (by decide)) rfl rfl dX0_inAllHats_9 ?_
    refine v_icmp_geN (pc := 10) (by omega) (by omega) (tgt := 28) dX0_inAllHats_10 rfl (fun c_10 => ?_) (fun c_10 => False.elim ((fun c => by omega) c_10))
    refine v_iload_n (pc := 28) 1 dX0_inAllHats_28 rfl rfl ?_
    exact v_iret (pc := 29) dX0_inAllHats_29 (⟨rfl, rfl⟩)
  · intro i hi ih
    refine v_iload_n (pc := 4) 2 dX0_inAllHats_4 rfl rfl ?_
    refine v_aload_n (pc := 5) 0 dX0_inAllHats_5 rfl rfl ?_
    refine g_X0_27 (pc := 6) (cFr_obj hk (gF_s _ _ _)) (adr_lt0 hk) rfl dX0_inAllHats_6 ?_
    refine v_alen (pc := 9) 0 (nI 7) (cFr_b hk (gF_s _ _ _)) (adr_lt hk (by decide)) rfl rfl dX0_inAllHats_9 ?_
    refine v_icmp_geN (pc := 10) (by omega) (by omega) (tgt := 28) dX0_inAllHats_10 rfl (fun c_10 => False.elim ((fun c => by omega) c_10)) (fun c_10 => ?_)
    refine v_iload_n (pc := 13) 1 dX0_inAllHats_13 rfl rfl ?_
    refine v_aload_n (pc := 14) 0 dX0_inAllHats_14 rfl rfl ?_
    refine g_X0_27 (pc := 15) (cFr_obj hk (gF_s _ _ _)) (adr_lt0 hk) rfl dX0_inAllHats_15 ?_
    refine v_iload_n (pc := 18) 2 dX0_inAllHats_18 rfl rfl ?_
    refine v_ialdN (pc := 19) (cFr_b hk (gF_s _ _ _)) (adr_lt hk (by decide)) (by omega) (by decide) dX0_inAllHats_19 ?_
    refine v_iadd (pc := 20) dX0_inAllHats_20 ?_
    refine v_istore_n (pc := 21) [1, 0, 2] [(0, _), (1, _), (2, _)] dX0_inAllHats_21 rfl (by decide) rfl ?_
    refine v_iincN (pc := 22) 2 [1, 2, 0] [(0, _), (1, _), (2, _)] kI_1 dX0_inAllHats_22 rfl (by decide) rfl ?_
    refine v_goto (pc := 25) (tgt := 4) dX0_inAllHats_25 rfl ?_
    exact ih
set_option maxHeartbeats 4000000 in
set_option maxRecDepth 100000 in
theorem c_less {E : Ev} {σ : Sg} {k : Nat} {t hr nt rg pe : Int32} {b c o p : Fn} (hk : k < 20) {j np nd : Nat} {sd du tr : Int32} {kd bd dr dt cr ow : Fn} (hj : j < 2) (hP : gP σ j = (sd, du, tr, nI np, nI nd, kd, bd, dr, dt, cr, ow)) (hnp : np ≤ 7) (hnd : nd ≤ 9) (a z n : Int32) : Ct E yX0_lessenDebts cX0_lessenDebts 9 (some .int) ({ frames := 1, cells := 0, slots := 0, locals := 21 } : Room) false 146 [.ref (Ez E + adr k), .ref (Ez E + pad j), .int a, .int z, .int n] (cellOf E (sFl σ k (t, hr, nt, rg, pe, b, c, o, p))) 146 0 0 (Ff (some (.int (itn (st_less dt cr a z) nd (n, nI 0, o)).2.1)) (cellOf E (sFl σ k ((t, hr, nt, rg, pe, b, c, (itn (st_less dt cr a z) nd (n, nI 0, o)).2.2, p))))) := by
  refine Ct.ofV (by decide) (Nat.le_of_ble_eq_true rfl) (fun X hnm => ?_)
  show V E X _ RX0 _ _ _ _ _ _ false 146 0 [(0, .ref (Ez E + adr k)), (1, .ref (Ez E + pad j)), (2, .int a), (3, .int z), (4, .int n)] [] _
  refine v_iload (pc := 0) 4 dX0_lessenDebts_0 rfl ?_
  refine v_istore (pc := 2) [1, 2, 3, 4, 5, 0] [(0, _), (1, _), (2, _), (3, _), (4, _), (5, _)] dX0_lessenDebts_2 (by decide) rfl ?_
  refine v_iconst (pc := 4) (nI 0) dX0_lessenDebts_4 kI_0 ?_
  refine v_istore (pc := 5) [1, 2, 3, 4, 5, 6, 0] [(0, _), (1, _), (2, _), (3, _), (4, _), (5, _), (6, _)] dX0_lessenDebts_5 (by decide) rfl ?_
  refine v_iconst (pc := 7) (nI 0) dX0_lessenDebts_7 kI_0 ?_
  refine v_istore (pc := 8) [1, 2, 3, 4, 5, 6, 7, 0] [(0, _), (1, _), (2, _), (3, _), (4, _), (5, _), (6, _), (7, _)] dX0_lessenDebts_8 (by decide) rfl ?_
  refine dn (P := fun i => V E X ({ frames := 1, cells := 0, slots := 0, locals := 21 } : Room) RX0 cX0_lessenDebts 9 (some .int) 0 0 (QX E X false 146 (Ff (some (.int (itn (st_less dt cr a z) nd (n, nI 0, o)).2.1)) (cellOf E (sFl σ k ((t, hr, nt, rg, pe, b, c, (itn (st_less dt cr a z) nd (n, nI 0, o)).2.2, p))))) 0 0) false 146 10 [(0, .ref (Ez E + adr k)), (1, .ref (Ez E + pad j)), (2, .int a), (3, .int z), (4, .int n), (5, .int (itn (st_less dt cr a z) i (n, nI 0, o)).1), (6, .int (itn (st_less dt cr a z) i (n, nI 0, o)).2.1), (7, .int (nI i))] [] (cellOf E (sFl σ k (t, hr, nt, rg, pe, b, c, (itn (st_less dt cr a z) i (n, nI 0, o)).2.2, p)))) (N := nd) ?_ ?_
  · refine v_iload (pc := 10) 7 dX0_lessenDebts_10 rfl ?_
    refine v_aload_n (pc := 12) 1 dX0_lessenDebts_12 rfl rfl ?_
    refine g_X0_86 (pc := 13) (cPr_obj hj hP) (pad_lt0 hj) rfl dX0_lessenDebts_13 ?_
    refine v_icmp_geN (pc := 16) (by omega) (by omega) (tgt := 92) dX0_lessenDebts_16 rfl (fun c_16 => ?_) (fun c_16 => False.elim ((fun c => by omega) c_16))
    refine v_iload (pc := 92) 6 dX0_lessenDebts_92 rfl ?_
    exact v_iret (pc := 94) dX0_lessenDebts_94 (⟨rfl, rfl⟩)
  · intro i hi ih
    have ih : V E X ({ frames := 1, cells := 0, slots := 0, locals := 21 } : Room) RX0 cX0_lessenDebts 9 (some .int) 0 0 (QX E X false 146 (Ff (some (.int (itn (st_less dt cr a z) nd (n, nI 0, o)).2.1)) (cellOf E (sFl σ k ((t, hr, nt, rg, pe, b, c, (itn (st_less dt cr a z) nd (n, nI 0, o)).2.2, p))))) 0 0) false 146 10 [(0, .ref (Ez E + adr k)), (1, .ref (Ez E + pad j)), (2, .int a), (3, .int z), (4, .int n), (5, .int (st_less dt cr a z i (itn (st_less dt cr a z) i (n, nI 0, o))).1), (6, .int (st_less dt cr a z i (itn (st_less dt cr a z) i (n, nI 0, o))).2.1), (7, .int (nI (i + 1)))] [] (cellOf E (sFl σ k (t, hr, nt, rg, pe, b, c, (st_less dt cr a z i (itn (st_less dt cr a z) i (n, nI 0, o))).2.2, p))) := by rw [itn_s] at ih; exact ih
    generalize itn (st_less dt cr a z) i (n, nI 0, o) = z_ at ih ⊢
    obtain ⟨lf, ye, o⟩ := z_
    show V E X _ RX0 _ _ _ _ _ _ false 146 _ [(0, .ref (Ez E + adr k)), (1, .ref (Ez E + pad j)), (2, .int a), (3, .int z), (4, .int n), (5, .int lf), (6, .int ye), (7, .int (nI i))] [] (cellOf E (sFl σ k (t, hr, nt, rg, pe, b, c, o, p)))
    refine v_iload (pc := 10) 7 dX0_lessenDebts_10 rfl ?_
    refine v_aload_n (pc := 12) 1 dX0_lessenDebts_12 rfl rfl ?_
    refine g_X0_86 (pc := 13) (cPr_obj hj hP) (pad_lt0 hj) rfl dX0_lessenDebts_13 ?_
    refine v_icmp_geN (pc := 16) (by omega) (by omega) (tgt := 92) dX0_lessenDebts_16 rfl (fun c_16 => False.elim ((fun c => by omega) c_16)) (fun c_16 => ?_)
    refine v_aload_n (pc := 19) 1 dX0_lessenDebts_19 rfl rfl ?_
    refine g_X0_89 (pc := 20) (cPr_obj hj hP) (pad_lt0 hj) rfl dX0_lessenDebts_20 ?_
    refine v_iload (pc := 23) 7 dX0_lessenDebts_23 rfl ?_
    refine v_ialdN (pc := 25) (cPr_dt hj hP) (pad_lt hj (by decide)) (by omega) (by decide) dX0_lessenDebts_25 ?_
    refine v_iload_n (pc := 26) 2 dX0_lessenDebts_26 rfl rfl ?_
    refine v_icmp_ne (pc := 27) (tgt := 86) dX0_lessenDebts_27 rfl (fun c_27 => ?_) (fun c_27 => ?_)
    · refine v_iincN (pc := 86) 7 [1, 2, 3, 4, 5, 6, 7, 0] [(0, _), (1, _), (2, _), (3, _), (4, _), (5, _), (6, _), (7, _)] kI_1 dX0_lessenDebts_86 rfl (by decide) rfl ?_
      refine v_goto (pc := 89) (tgt := 10) dX0_lessenDebts_89 rfl ?_
      first
        | (rw [show st_less dt cr a z i (lf, ye, o) = _ from if_pos ⟨by assumption, by assumption⟩] at ih; exact ih)
        | (rw [show st_less dt cr a z i (lf, ye, o) = _ from if_neg (by rintro ⟨q1, q2⟩; first | exact absurd q1 (by assumption) | exact absurd q2 (by assumption))] at ih; exact ih)
    · refine v_aload_n (pc := 30) 1 dX0_lessenDebts_30 rfl rfl ?_
      refine g_X0_92 (pc := 31) (cPr_obj hj hP) (pad_lt0 hj) rfl dX0_lessenDebts_31 ?_
      refine v_iload (pc := 34) 7 dX0_lessenDebts_34 rfl ?_
      refine v_ialdN (pc := 36) (cPr_cr hj hP) (pad_lt hj (by decide)) (by omega) (by decide) dX0_lessenDebts_36 ?_
      refine v_iload_n (pc := 37) 3 dX0_lessenDebts_37 rfl rfl ?_
      refine v_icmp_ne (pc := 38) (tgt := 86) dX0_lessenDebts_38 rfl (fun c_38 => ?_) (fun c_38 => ?_)
      · refine v_iincN (pc := 86) 7 [1, 2, 3, 4, 5, 6, 7, 0] [(0, _), (1, _), (2, _), (3, _), (4, _), (5, _), (6, _), (7, _)] kI_1 dX0_lessenDebts_86 rfl (by decide) rfl ?_
        refine v_goto (pc := 89) (tgt := 10) dX0_lessenDebts_89 rfl ?_
        first
          | (rw [show st_less dt cr a z i (lf, ye, o) = _ from if_pos ⟨by assumption, by assumption⟩] at ih; exact ih)
          | (rw [show st_less dt cr a z i (lf, ye, o) = _ from if_neg (by rintro ⟨q1, q2⟩; first | exact absurd q1 (by assumption) | exact absurd q2 (by assumption))] at ih; exact ih)
      · refine v_iload (pc := 41) 5 dX0_lessenDebts_41 rfl ?_
        refine v_aload_n (pc := 43) 0 dX0_lessenDebts_43 rfl rfl ?_
        refine g_X0_34 (pc := 44) (cFr_obj hk (gF_s _ _ _)) (adr_lt0 hk) rfl dX0_lessenDebts_44 ?_
        refine v_iload (pc := 47) 7 dX0_lessenDebts_47 rfl ?_
        refine v_ialdN (pc := 49) (cFr_o hk (gF_s _ _ _)) (adr_lt hk (by decide)) (by omega) (by decide) dX0_lessenDebts_49 ?_
        refine v_callS (pc := 50) _ _ k_X0_75 (c_min _ _) ⟨rfl, rfl, by decide⟩ rfl rfl (Nat.le_of_ble_eq_true rfl) ⟨Nat.le_of_ble_eq_true rfl, Nat.le_of_ble_eq_true rfl⟩ dX0_lessenDebts_50 (unS ?_)
        show V E X _ RX0 _ _ _ 0 0 _ false 146 53 _ [_] _
        refine v_istore (pc := 53) [1, 2, 3, 4, 5, 6, 7, 8, 0] [(0, _), (1, _), (2, _), (3, _), (4, _), (5, _), (6, _), (7, _), (8, _)] dX0_lessenDebts_53 (by decide) rfl ?_
        refine v_aload_n (pc := 55) 0 dX0_lessenDebts_55 rfl rfl ?_
        refine g_X0_34 (pc := 56) (cFr_obj hk (gF_s _ _ _)) (adr_lt0 hk) rfl dX0_lessenDebts_56 ?_
        refine v_iload (pc := 59) 7 dX0_lessenDebts_59 rfl ?_
        refine v_dup2 (pc := 61) dX0_lessenDebts_61 rfl rfl ?_
        refine v_ialdN (pc := 62) (cFr_o hk (gF_s _ _ _)) (adr_lt hk (by decide)) (by omega) (by decide) dX0_lessenDebts_62 ?_
        refine v_iload (pc := 63) 8 dX0_lessenDebts_63 rfl ?_
        refine v_isub (pc := 65) dX0_lessenDebts_65 ?_
        refine v_iastN (pc := 66) (cFr_o hk (gF_s _ _ _)) (adr_lt hk (by decide)) (by omega) (by decide) dX0_lessenDebts_66 (wF_o hk) ?_
        refine v_iload (pc := 67) 5 dX0_lessenDebts_67 rfl ?_
        refine v_iload (pc := 69) 8 dX0_lessenDebts_69 rfl ?_
        refine v_isub (pc := 71) dX0_lessenDebts_71 ?_
        refine v_istore (pc := 72) [1, 2, 3, 4, 5, 0, 6, 7, 8] [(0, _), (1, _), (2, _), (3, _), (4, _), (5, _), (6, _), (7, _), (8, _)] dX0_lessenDebts_72 (by decide) rfl ?_
        refine v_iload (pc := 74) 6 dX0_lessenDebts_74 rfl ?_
        refine v_aload_n (pc := 76) 0 dX0_lessenDebts_76 rfl rfl ?_
        refine g_X0_34 (pc := 77) (cFr_obj hk (gF_s _ _ _)) (adr_lt0 hk) rfl dX0_lessenDebts_77 ?_
        refine v_iload (pc := 80) 7 dX0_lessenDebts_80 rfl ?_
        refine v_ialdN (pc := 82) (cFr_o hk (gF_s _ _ _)) (adr_lt hk (by decide)) (by omega) (by decide) dX0_lessenDebts_82 ?_
        refine v_iadd (pc := 83) dX0_lessenDebts_83 ?_
        refine v_istore (pc := 84) [1, 2, 3, 4, 5, 6, 0, 7, 8] [(0, _), (1, _), (2, _), (3, _), (4, _), (5, _), (6, _), (7, _), (8, _)] dX0_lessenDebts_84 (by decide) rfl ?_
        refine v_iincN (pc := 86) 7 [1, 2, 3, 4, 5, 6, 7, 0, 8] [(0, _), (1, _), (2, _), (3, _), (4, _), (5, _), (6, _), (7, _), (8, _)] kI_1 dX0_lessenDebts_86 rfl (by decide) rfl ?_
        refine v_goto (pc := 89) (tgt := 10) dX0_lessenDebts_89 rfl ?_
        refine v_sub [0, 1, 2, 3, 4, 5, 6, 7] rfl ?_
        first
          | (rw [show st_less dt cr a z i (lf, ye, o) = _ from if_pos ⟨by assumption, by assumption⟩] at ih; exact ih)
          | (rw [show st_less dt cr a z i (lf, ye, o) = _ from if_neg (by rintro ⟨q1, q2⟩; first | exact absurd q1 (by assumption) | exact absurd q2 (by assumption))] at ih; exact ih)
set_option maxHeartbeats 4000000 in
set_option maxRecDepth 100000 in
theorem c_scare {E : Ev} {σ : Sg} {k : Nat} {t hr nt rg pe : Int32} {b c o p : Fn} (hk : k < 20) {j np nd : Nat} {sd du tr : Int32} {kd bd dr dt cr ow : Fn} (hj : j < 2) (hP : gP σ j = (sd, du, tr, nI np, nI nd, kd, bd, dr, dt, cr, ow)) (hnp : np ≤ 7) (hnd : nd ≤ 9) (x d : Int32) : Ct E yX0_scare cX0_scare 6 (some .int) ({ frames := 3, cells := 0, slots := 0, locals := 65 } : Room) false 146 [.ref (Ez E + adr k), .ref (Ez E + pad j), .int x, .int d] (cellOf E (sFl σ k (t, hr, nt, rg, pe, b, c, o, p))) 146 0 0 (Ff (some (.int (itn (st_scare dr x d) np (nI 0, (t, hr, nt, rg, pe, b, c, o, p))).1)) (cellOf E (sFl σ k ((itn (st_scare dr x d) np (nI 0, (t, hr, nt, rg, pe, b, c, o, p))).2)))) := by
  refine Ct.ofV (by decide) (Nat.le_of_ble_eq_true rfl) (fun X hnm => ?_)
  show V E X _ RX0 _ _ _ _ _ _ false 146 0 [(0, .ref (Ez E + adr k)), (1, .ref (Ez E + pad j)), (2, .int x), (3, .int d)] [] _
  refine v_iconst (pc := 0) (nI 0) dX0_scare_0 kI_0 ?_
  refine v_istore (pc := 1) [1, 2, 3, 4, 0] [(0, _), (1, _), (2, _), (3, _), (4, _)] dX0_scare_1 (by decide) rfl ?_
  refine v_iconst (pc := 3) (nI 0) dX0_scare_3 kI_0 ?_
  refine v_istore (pc := 4) [1, 2, 3, 4, 5, 0] [(0, _), (1, _), (2, _), (3, _), (4, _), (5, _)] dX0_scare_4 (by decide) rfl ?_
  refine dn (P := fun i => V E X ({ frames := 3, cells := 0, slots := 0, locals := 65 } : Room) RX0 cX0_scare 6 (some .int) 0 0 (QX E X false 146 (Ff (some (.int (itn (st_scare dr x d) np (nI 0, (t, hr, nt, rg, pe, b, c, o, p))).1)) (cellOf E (sFl σ k ((itn (st_scare dr x d) np (nI 0, (t, hr, nt, rg, pe, b, c, o, p))).2)))) 0 0) false 146 6 [(0, .ref (Ez E + adr k)), (1, .ref (Ez E + pad j)), (2, .int x), (3, .int d), (4, .int (itn (st_scare dr x d) i (nI 0, (t, hr, nt, rg, pe, b, c, o, p))).1), (5, .int (nI i))] [] (cellOf E (sFl σ k (itn (st_scare dr x d) i (nI 0, (t, hr, nt, rg, pe, b, c, o, p))).2))) (N := np) ?_ ?_
  · refine v_iload (pc := 6) 5 dX0_scare_6 rfl ?_
    refine v_aload_n (pc := 8) 1 dX0_scare_8 rfl rfl ?_
    refine g_X0_95 (pc := 9) (cPr_obj hj hP) (pad_lt0 hj) rfl dX0_scare_9 ?_
    refine v_icmp_geN (pc := 12) (by omega) (by omega) (tgt := 73) dX0_scare_12 rfl (fun c_12 => ?_) (fun c_12 => False.elim ((fun c => by omega) c_12))
    refine v_iload (pc := 73) 4 dX0_scare_73 rfl ?_
    exact v_iret (pc := 75) dX0_scare_75 (⟨rfl, rfl⟩)
  · intro i hi ih
    have ih : V E X ({ frames := 3, cells := 0, slots := 0, locals := 65 } : Room) RX0 cX0_scare 6 (some .int) 0 0 (QX E X false 146 (Ff (some (.int (itn (st_scare dr x d) np (nI 0, (t, hr, nt, rg, pe, b, c, o, p))).1)) (cellOf E (sFl σ k ((itn (st_scare dr x d) np (nI 0, (t, hr, nt, rg, pe, b, c, o, p))).2)))) 0 0) false 146 6 [(0, .ref (Ez E + adr k)), (1, .ref (Ez E + pad j)), (2, .int x), (3, .int d), (4, .int (st_scare dr x d i (itn (st_scare dr x d) i (nI 0, (t, hr, nt, rg, pe, b, c, o, p)))).1), (5, .int (nI (i + 1)))] [] (cellOf E (sFl σ k (st_scare dr x d i (itn (st_scare dr x d) i (nI 0, (t, hr, nt, rg, pe, b, c, o, p)))).2)) := by rw [itn_s] at ih; exact ih
    generalize itn (st_scare dr x d) i (nI 0, (t, hr, nt, rg, pe, b, c, o, p)) = z_ at ih ⊢
    obtain ⟨s_, t, hr, nt, rg, pe, b, c, o, p⟩ := z_
    show V E X _ RX0 _ _ _ _ _ _ false 146 _ [(0, .ref (Ez E + adr k)), (1, .ref (Ez E + pad j)), (2, .int x), (3, .int d), (4, .int s_), (5, .int (nI i))] [] (cellOf E (sFl σ k (t, hr, nt, rg, pe, b, c, o, p)))
    refine v_iload (pc := 6) 5 dX0_scare_6 rfl ?_
    refine v_aload_n (pc := 8) 1 dX0_scare_8 rfl rfl ?_
    refine g_X0_95 (pc := 9) (cPr_obj hj hP) (pad_lt0 hj) rfl dX0_scare_9 ?_
    refine v_icmp_geN (pc := 12) (by omega) (by omega) (tgt := 73) dX0_scare_12 rfl (fun c_12 => False.elim ((fun c => by omega) c_12)) (fun c_12 => ?_)
    refine v_aload_n (pc := 15) 1 dX0_scare_15 rfl rfl ?_
    refine g_X0_98 (pc := 16) (cPr_obj hj hP) (pad_lt0 hj) rfl dX0_scare_16 ?_
    refine v_iload (pc := 19) 5 dX0_scare_19 rfl ?_
    refine v_ialdN (pc := 21) (cPr_dr hj hP) (pad_lt hj (by decide)) (by omega) (by decide) dX0_scare_21 ?_
    refine v_iload_n (pc := 22) 2 dX0_scare_22 rfl rfl ?_
    refine v_isub (pc := 23) dX0_scare_23 ?_
    refine v_callS (pc := 24) _ _ k_X0_101 (c_abs _) ⟨rfl, rfl, by decide⟩ rfl rfl (Nat.le_of_ble_eq_true rfl) ⟨Nat.le_of_ble_eq_true rfl, Nat.le_of_ble_eq_true rfl⟩ dX0_scare_24 (unS ?_)
    show V E X _ RX0 _ _ _ 0 0 _ false 146 27 _ [_] _
    refine v_iload_n (pc := 27) 3 dX0_scare_27 rfl rfl ?_
    refine v_icmp_gt (pc := 28) (tgt := 67) dX0_scare_28 rfl (fun c_28 => ?_) (fun c_28 => ?_)
    · refine v_iincN (pc := 67) 5 [1, 2, 3, 4, 5, 0] [(0, _), (1, _), (2, _), (3, _), (4, _), (5, _)] kI_1 dX0_scare_67 rfl (by decide) rfl ?_
      refine v_goto (pc := 70) (tgt := 6) dX0_scare_70 rfl ?_
      first
        | (rw [show st_scare dr x d i (s_, t, hr, nt, rg, pe, b, c, o, p) = _ from if_pos ⟨by first | assumption | exact Int32.not_lt.mpr (by assumption), by assumption⟩] at ih; exact ih)
        | (rw [show st_scare dr x d i (s_, t, hr, nt, rg, pe, b, c, o, p) = _ from if_neg (by rintro ⟨q1, q2⟩; first | exact q1 (by assumption) | exact Bool.noConfusion (q2.symm.trans c_37))] at ih; exact ih)
    · refine v_aload_n (pc := 31) 0 dX0_scare_31 rfl rfl ?_
      refine v_iload (pc := 32) 5 dX0_scare_32 rfl ?_
      refine v_callV (pc := 34) _ _ k_X0_105 (cFr_obj hk (gF_s _ _ _)) rfl (adr_lt0 hk) (c_hasNet hk _) ⟨rfl, rfl, by decide⟩ rfl rfl (Nat.le_of_ble_eq_true rfl) ⟨Nat.le_of_ble_eq_true rfl, Nat.le_of_ble_eq_true rfl⟩ dX0_scare_34 (unS ?_)
      show V E X _ RX0 _ _ _ 0 0 _ false 146 37 _ [_] _
      refine v_if_neB (pc := 37) (tgt := 67) dX0_scare_37 rfl (fun c_37 => ?_) (fun c_37 => ?_)
      · refine v_iincN (pc := 67) 5 [1, 2, 3, 4, 5, 0] [(0, _), (1, _), (2, _), (3, _), (4, _), (5, _)] kI_1 dX0_scare_67 rfl (by decide) rfl ?_
        refine v_goto (pc := 70) (tgt := 6) dX0_scare_70 rfl ?_
        first
          | (rw [show st_scare dr x d i (s_, t, hr, nt, rg, pe, b, c, o, p) = _ from if_pos ⟨by first | assumption | exact Int32.not_lt.mpr (by assumption), by assumption⟩] at ih; exact ih)
          | (rw [show st_scare dr x d i (s_, t, hr, nt, rg, pe, b, c, o, p) = _ from if_neg (by rintro ⟨q1, q2⟩; first | exact q1 (by assumption) | exact Bool.noConfusion (q2.symm.trans c_37))] at ih; exact ih)
      · refine v_iload (pc := 40) 4 dX0_scare_40 rfl ?_
        refine v_aload_n (pc := 42) 0 dX0_scare_42 rfl rfl ?_
        refine g_X0_27 (pc := 43) (cFr_obj hk (gF_s _ _ _)) (adr_lt0 hk) rfl dX0_scare_43 ?_
        refine v_iload (pc := 46) 5 dX0_scare_46 rfl ?_
        refine v_ialdN (pc := 48) (cFr_b hk (gF_s _ _ _)) (adr_lt hk (by decide)) (by omega) (by decide) dX0_scare_48 ?_
        refine v_iadd (pc := 49) dX0_scare_49 ?_
        refine v_istore (pc := 50) [1, 2, 3, 4, 0, 5] [(0, _), (1, _), (2, _), (3, _), (4, _), (5, _)] dX0_scare_50 (by decide) rfl ?_
        refine v_aload_n (pc := 52) 0 dX0_scare_52 rfl rfl ?_
        refine v_iload (pc := 53) 5 dX0_scare_53 rfl ?_
        refine v_bipush (pc := 55) (-2) dX0_scare_55 kB_m2 ?_
        refine v_aload_n (pc := 57) 0 dX0_scare_57 rfl rfl ?_
        refine g_X0_27 (pc := 58) (cFr_obj hk (gF_s _ _ _)) (adr_lt0 hk) rfl dX0_scare_58 ?_
        refine v_iload (pc := 61) 5 dX0_scare_61 rfl ?_
        refine v_ialdN (pc := 63) (cFr_b hk (gF_s _ _ _)) (adr_lt hk (by decide)) (by omega) (by decide) dX0_scare_63 ?_
        refine v_callV (pc := 64) _ _ k_X0_108 (cFr_obj hk (gF_s _ _ _)) rfl (adr_lt0 hk) (c_move hk _ _ _) ⟨rfl, rfl, by decide⟩ rfl rfl (Nat.le_of_ble_eq_true rfl) ⟨Nat.le_of_ble_eq_true rfl, Nat.le_of_ble_eq_true rfl⟩ dX0_scare_64 (unS ?_)
        show V E X _ RX0 _ _ _ 0 0 _ false 146 67 _ [] _
        refine v_iincN (pc := 67) 5 [1, 2, 3, 4, 5, 0] [(0, _), (1, _), (2, _), (3, _), (4, _), (5, _)] kI_1 dX0_scare_67 rfl (by decide) rfl ?_
        refine v_goto (pc := 70) (tgt := 6) dX0_scare_70 rfl ?_
        first
          | (rw [show st_scare dr x d i (s_, t, hr, nt, rg, pe, b, c, o, p) = _ from if_pos ⟨by first | assumption | exact Int32.not_lt.mpr (by assumption), by assumption⟩] at ih; exact ih)
          | (rw [show st_scare dr x d i (s_, t, hr, nt, rg, pe, b, c, o, p) = _ from if_neg (by rintro ⟨q1, q2⟩; first | exact q1 (by assumption) | exact Bool.noConfusion (q2.symm.trans c_37))] at ih; exact ih)
set_option maxHeartbeats 4000000 in
set_option maxRecDepth 100000 in
theorem c_loss {E : Ev} {σ : Sg} {k : Nat} {t hr nt rg pe : Int32} {b c o p : Fn} (hk : k < 20) {j np nd : Nat} {sd du tr : Int32} {kd bd dr dt cr ow : Fn} (hj : j < 2) (hP : gP σ j = (sd, du, tr, nI np, nI nd, kd, bd, dr, dt, cr, ow)) (hnp : np ≤ 7) (hnd : nd ≤ 9) {i : Nat} (hi : i < 7) (w : Bool) : Ct E yX0_loss cX0_loss 6 (some .int) ({ frames := 2, cells := 0, slots := 0, locals := 42 } : Room) false 146 [.ref (Ez E + adr k), .ref (Ez E + pad j), .int (nI i), .int (bI w)] (cellOf E (sFl σ k (t, hr, nt, rg, pe, b, c, o, p))) 146 0 0 (Ff (some (.int (fl_loss (t, hr, nt, rg, pe, b, c, o, p) kd i w))) (cellOf E (sFl σ k ((t, hr, nt, rg, pe, b, c, o, p))))) := by
  refine Ct.ofV (by decide) (Nat.le_of_ble_eq_true rfl) (fun X hnm => ?_)
  show V E X _ RX0 _ _ _ _ _ _ false 146 0 [(0, .ref (Ez E + adr k)), (1, .ref (Ez E + pad j)), (2, .int (nI i)), (3, .int (bI w))] [] _
  refine v_aload_n (pc := 0) 0 dX0_loss_0 rfl rfl ?_
  refine g_X0_27 (pc := 1) (cFr_obj hk (gF_s _ _ _)) (adr_lt0 hk) rfl dX0_loss_1 ?_
  refine v_iload_n (pc := 4) 2 dX0_loss_4 rfl rfl ?_
  refine v_ialdN (pc := 5) (cFr_b hk (gF_s _ _ _)) (adr_lt hk (by decide)) (by omega) (by decide) dX0_loss_5 ?_
  refine v_istore (pc := 6) [1, 2, 3, 4, 0] [(0, _), (1, _), (2, _), (3, _), (4, _)] dX0_loss_6 (by decide) rfl ?_
  refine v_iload (pc := 8) 4 dX0_loss_8 rfl ?_
  refine v_if_eq (pc := 10) (tgt := 21) dX0_loss_10 rfl (fun c_10 => ?_) (fun c_10 => ?_)
  · refine v_iconst (pc := 21) (nI 0) dX0_loss_21 kI_0 ?_
    exact v_iret (pc := 22) dX0_loss_22 (⟨by unfold fl_loss; rw [if_pos (by first | exact Or.inl (by assumption) | exact Or.inr (by assumption))], rfl⟩)
  · refine v_aload_n (pc := 13) 0 dX0_loss_13 rfl rfl ?_
    refine v_iload_n (pc := 14) 2 dX0_loss_14 rfl rfl ?_
    refine v_callV (pc := 15) _ _ k_X0_105 (cFr_obj hk (gF_s _ _ _)) rfl (adr_lt0 hk) (c_hasNet hk _) ⟨rfl, rfl, by decide⟩ rfl rfl (Nat.le_of_ble_eq_true rfl) ⟨Nat.le_of_ble_eq_true rfl, Nat.le_of_ble_eq_true rfl⟩ dX0_loss_15 (unS ?_)
    show V E X _ RX0 _ _ _ 0 0 _ false 146 18 _ [_] _
    refine v_if_eqB (pc := 18) (tgt := 23) dX0_loss_18 rfl (fun c_18 => ?_) (fun c_18 => ?_)
    · refine v_iload (pc := 23) 4 dX0_loss_23 rfl ?_
      refine v_bipush (pc := 25) (nI 10) dX0_loss_25 kB_10 ?_
      refine v_idiv (pc := 27) dX0_loss_27 (by decide) ?_
      refine v_iconst (pc := 28) (nI 1) dX0_loss_28 kI_1 ?_
      refine v_iadd (pc := 29) dX0_loss_29 ?_
      refine v_istore (pc := 30) [1, 2, 3, 4, 5, 0] [(0, _), (1, _), (2, _), (3, _), (4, _), (5, _)] dX0_loss_30 (by decide) rfl ?_
      refine v_aload_n (pc := 32) 1 dX0_loss_32 rfl rfl ?_
      refine g_X0_112 (pc := 33) (cPr_obj hj hP) (pad_lt0 hj) rfl dX0_loss_33 ?_
      refine v_iload_n (pc := 36) 2 dX0_loss_36 rfl rfl ?_
      refine v_ialdN (pc := 37) (cPr_kd hj hP) (pad_lt hj (by decide)) (by omega) (by decide) dX0_loss_37 ?_
      rcases sw_1_4 (kd i) with s_38 | s_38 | s_38 | s_38 | s_38
      · refine v_tabIn (pc := 38) (off := 30) (tgt := 68) dX0_loss_38 (by rw [s_38]; decide) (by rw [s_38]; decide) (by rw [s_38]; rfl) rfl ?_
        refine v_iload (pc := 68) 5 dX0_loss_68 rfl ?_
        refine v_iconst (pc := 70) (nI 2) dX0_loss_70 kI_2 ?_
        refine v_idiv (pc := 71) dX0_loss_71 (by decide) ?_
        exact v_iret (pc := 72) dX0_loss_72 (⟨by unfold fl_loss; rw [if_neg (by rintro (q | q) <;> first | exact absurd q (by assumption) | exact Bool.noConfusion (q.symm.trans c_18))]; unfold lossK; rw [if_pos s_38], rfl⟩)
      · refine v_tabIn (pc := 38) (off := 35) (tgt := 73) dX0_loss_38 (by rw [s_38]; decide) (by rw [s_38]; decide) (by rw [s_38]; rfl) rfl ?_
        refine v_iconst (pc := 73) (nI 0) dX0_loss_73 kI_0 ?_
        exact v_iret (pc := 74) dX0_loss_74 (⟨by unfold fl_loss; rw [if_neg (by rintro (q | q) <;> first | exact absurd q (by assumption) | exact Bool.noConfusion (q.symm.trans c_18))]; unfold lossK; rw [if_neg (show ¬ kd i = nI 1 from fun e => by rw [e] at s_38; revert s_38; decide), if_pos s_38], rfl⟩)
      · refine v_tabIn (pc := 38) (off := 37) (tgt := 75) dX0_loss_38 (by rw [s_38]; decide) (by rw [s_38]; decide) (by rw [s_38]; rfl) rfl ?_
        refine v_iconst (pc := 75) (nI 2) dX0_loss_75 kI_2 ?_
        refine v_iload (pc := 76) 5 dX0_loss_76 rfl ?_
        refine v_imul (pc := 78) dX0_loss_78 ?_
        refine v_iload (pc := 79) 4 dX0_loss_79 rfl ?_
        refine v_callS (pc := 81) _ _ k_X0_75 (c_min _ _) ⟨rfl, rfl, by decide⟩ rfl rfl (Nat.le_of_ble_eq_true rfl) ⟨Nat.le_of_ble_eq_true rfl, Nat.le_of_ble_eq_true rfl⟩ dX0_loss_81 (unS ?_)
        show V E X _ RX0 _ _ _ 0 0 _ false 146 84 _ [_] _
        exact v_iret (pc := 84) dX0_loss_84 (⟨by unfold fl_loss; rw [if_neg (by rintro (q | q) <;> first | exact absurd q (by assumption) | exact Bool.noConfusion (q.symm.trans c_18))]; unfold lossK; rw [if_neg (show ¬ kd i = nI 1 from fun e => by rw [e] at s_38; revert s_38; decide), if_neg (show ¬ kd i = nI 2 from fun e => by rw [e] at s_38; revert s_38; decide), if_pos s_38], rfl⟩)
      · refine v_tabIn (pc := 38) (off := 47) (tgt := 85) dX0_loss_38 (by rw [s_38]; decide) (by rw [s_38]; decide) (by rw [s_38]; rfl) rfl ?_
        refine v_iload_n (pc := 85) 3 dX0_loss_85 rfl rfl ?_
        refine v_if_eqB (pc := 86) (tgt := 93) dX0_loss_86 rfl (fun c_86 => ?_) (fun c_86 => ?_)
        · refine v_iload (pc := 93) 5 dX0_loss_93 rfl ?_
          exact v_iret (pc := 95) dX0_loss_95 (⟨by unfold fl_loss; rw [if_neg (by rintro (q | q) <;> first | exact absurd q (by assumption) | exact Bool.noConfusion (q.symm.trans c_18))]; unfold lossK; rw [if_neg (show ¬ kd i = nI 1 from fun e => by rw [e] at s_38; revert s_38; decide), if_neg (show ¬ kd i = nI 2 from fun e => by rw [e] at s_38; revert s_38; decide), if_neg (show ¬ kd i = nI 3 from fun e => by rw [e] at s_38; revert s_38; decide), if_pos s_38]; first | (rw [if_pos (by assumption)]) | (rw [if_neg (by rw [c_86]; decide)]), rfl⟩)
        · refine v_iconst (pc := 89) (nI 0) dX0_loss_89 kI_0 ?_
          refine v_goto (pc := 90) (tgt := 95) dX0_loss_90 rfl ?_
          exact v_iret (pc := 95) dX0_loss_95 (⟨by unfold fl_loss; rw [if_neg (by rintro (q | q) <;> first | exact absurd q (by assumption) | exact Bool.noConfusion (q.symm.trans c_18))]; unfold lossK; rw [if_neg (show ¬ kd i = nI 1 from fun e => by rw [e] at s_38; revert s_38; decide), if_neg (show ¬ kd i = nI 2 from fun e => by rw [e] at s_38; revert s_38; decide), if_neg (show ¬ kd i = nI 3 from fun e => by rw [e] at s_38; revert s_38; decide), if_pos s_38]; first | (rw [if_pos (by assumption)]) | (rw [if_neg (by rw [c_86]; decide)]), rfl⟩)
      · refine v_tabOut (pc := 38) (tgt := 96) dX0_loss_38 s_38 rfl ?_
        refine v_iload (pc := 96) 5 dX0_loss_96 rfl ?_
        exact v_iret (pc := 98) dX0_loss_98 (⟨by unfold fl_loss; rw [if_neg (by rintro (q | q) <;> first | exact absurd q (by assumption) | exact Bool.noConfusion (q.symm.trans c_18))]; unfold lossK; rw [if_neg (show ¬ kd i = nI 1 from fun e => by rw [e] at s_38; revert s_38; decide), if_neg (show ¬ kd i = nI 2 from fun e => by rw [e] at s_38; revert s_38; decide), if_neg (show ¬ kd i = nI 3 from fun e => by rw [e] at s_38; revert s_38; decide), if_neg (show ¬ kd i = nI 4 from fun e => by rw [e] at s_38; revert s_38; decide)], rfl⟩)
    · refine v_iconst (pc := 21) (nI 0) dX0_loss_21 kI_0 ?_
      exact v_iret (pc := 22) dX0_loss_22 (⟨by unfold fl_loss; rw [if_pos (by first | exact Or.inl (by assumption) | exact Or.inr (by assumption))], rfl⟩)
set_option maxHeartbeats 4000000 in
set_option maxRecDepth 100000 in
theorem c_drawn {E : Ev} {σ : Sg} {k : Nat} {t hr nt rg pe : Int32} {b c o p : Fn} (hk : k < 20) {j np nd : Nat} {sd du tr : Int32} {kd bd dr dt cr ow : Fn} (hj : j < 2) (hP : gP σ j = (sd, du, tr, nI np, nI nd, kd, bd, dr, dt, cr, ow)) (hnp : np ≤ 7) (hnd : nd ≤ 9) (a : Int32) : Ct E yX0_drawnBy cX0_drawnBy 5 (some .int) ({ frames := 3, cells := 0, slots := 0, locals := 67 } : Room) false 146 [.ref (Ez E + adr k), .ref (Ez E + pad j), .int a] (cellOf E (sFl σ k (t, hr, nt, rg, pe, b, c, o, p))) 146 0 0 (Ff (some (.int (fl_drawn (t, hr, nt, rg, pe, b, c, o, p) kd a np))) (cellOf E (sFl σ k ((t, hr, nt, rg, pe, b, c, o, p))))) := by
  refine Ct.ofV (by decide) (Nat.le_of_ble_eq_true rfl) (fun X hnm => ?_)
  show V E X _ RX0 _ _ _ _ _ _ false 146 0 [(0, .ref (Ez E + adr k)), (1, .ref (Ez E + pad j)), (2, .int a)] [] _
  refine v_iconst (pc := 0) (nI 0) dX0_drawnBy_0 kI_0 ?_
  refine v_istore_n (pc := 1) [1, 2, 3, 0] [(0, _), (1, _), (2, _), (3, _)] dX0_drawnBy_1 rfl (by decide) rfl ?_
  refine v_iconst (pc := 2) (nI 0) dX0_drawnBy_2 kI_0 ?_
  refine v_istore (pc := 3) [1, 2, 3, 4, 0] [(0, _), (1, _), (2, _), (3, _), (4, _)] dX0_drawnBy_3 (by decide) rfl ?_
  refine dn (P := fun i => V E X ({ frames := 3, cells := 0, slots := 0, locals := 67 } : Room) RX0 cX0_drawnBy 5 (some .int) 0 0 (QX E X false 146 (Ff (some (.int (fl_drawn (t, hr, nt, rg, pe, b, c, o, p) kd a np))) (cellOf E (sFl σ k ((t, hr, nt, rg, pe, b, c, o, p))))) 0 0) false 146 5 [(0, .ref (Ez E + adr k)), (1, .ref (Ez E + pad j)), (2, .int a), (3, .int (fl_drawn (t, hr, nt, rg, pe, b, c, o, p) kd a i)), (4, .int (nI i))] [] (cellOf E (sFl σ k (t, hr, nt, rg, pe, b, c, o, p)))) (N := np) ?_ ?_
  · refine v_iload (pc := 5) 4 dX0_drawnBy_5 rfl ?_
    refine v_aload_n (pc := 7) 1 dX0_drawnBy_7 rfl rfl ?_
    refine g_X0_95 (pc := 8) (cPr_obj hj hP) (pad_lt0 hj) rfl dX0_drawnBy_8 ?_
    refine v_icmp_geN (pc := 11) (by omega) (by omega) (tgt := 41) dX0_drawnBy_11 rfl (fun c_11 => ?_) (fun c_11 => False.elim ((fun c => by omega) c_11))
    refine v_iload_n (pc := 41) 3 dX0_drawnBy_41 rfl rfl ?_
    exact v_iret (pc := 42) dX0_drawnBy_42 (⟨rfl, rfl⟩)
  · intro i hi ih
    refine v_iload (pc := 5) 4 dX0_drawnBy_5 rfl ?_
    refine v_aload_n (pc := 7) 1 dX0_drawnBy_7 rfl rfl ?_
    refine g_X0_95 (pc := 8) (cPr_obj hj hP) (pad_lt0 hj) rfl dX0_drawnBy_8 ?_
    refine v_icmp_geN (pc := 11) (by omega) (by omega) (tgt := 41) dX0_drawnBy_11 rfl (fun c_11 => False.elim ((fun c => by omega) c_11)) (fun c_11 => ?_)
    refine v_iload_n (pc := 14) 3 dX0_drawnBy_14 rfl rfl ?_
    refine v_iload (pc := 15) 4 dX0_drawnBy_15 rfl ?_
    refine v_iload_n (pc := 17) 2 dX0_drawnBy_17 rfl rfl ?_
    refine v_icmp_ne (pc := 18) (tgt := 25) dX0_drawnBy_18 rfl (fun c_18 => ?_) (fun c_18 => ?_)
    · refine v_aload_n (pc := 25) 0 dX0_drawnBy_25 rfl rfl ?_
      refine v_aload_n (pc := 26) 1 dX0_drawnBy_26 rfl rfl ?_
      refine v_iload (pc := 27) 4 dX0_drawnBy_27 rfl ?_
      refine v_iconst (pc := 29) (nI 0) dX0_drawnBy_29 kI_0 ?_
      refine v_callV (pc := 30) _ _ k_X0_115 (cFr_obj hk (gF_s _ _ _)) rfl (adr_lt0 hk) (c_loss hk hj hP hnp hnd (i := _) (by omega) false) ⟨rfl, rfl, by decide⟩ rfl rfl (Nat.le_of_ble_eq_true rfl) ⟨Nat.le_of_ble_eq_true rfl, Nat.le_of_ble_eq_true rfl⟩ dX0_drawnBy_30 (unS ?_)
      show V E X _ RX0 _ _ _ 0 0 _ false 146 33 _ [_, _] _
      refine v_iadd (pc := 33) dX0_drawnBy_33 ?_
      refine v_istore_n (pc := 34) [1, 2, 3, 0, 4] [(0, _), (1, _), (2, _), (3, _), (4, _)] dX0_drawnBy_34 rfl (by decide) rfl ?_
      refine v_iincN (pc := 35) 4 [1, 2, 3, 4, 0] [(0, _), (1, _), (2, _), (3, _), (4, _)] kI_1 dX0_drawnBy_35 rfl (by decide) rfl ?_
      refine v_goto (pc := 38) (tgt := 5) dX0_drawnBy_38 rfl ?_
      first
        | (rw [show fl_drawn (t, hr, nt, rg, pe, b, c, o, p) kd a (i + 1) = fl_drawn (t, hr, nt, rg, pe, b, c, o, p) kd a i + nI 0 from by show _ + (if nI i = a then _ else _) = _; rw [if_pos (by assumption)]; rfl] at ih; exact ih)
        | (rw [show fl_drawn (t, hr, nt, rg, pe, b, c, o, p) kd a (i + 1) = fl_drawn (t, hr, nt, rg, pe, b, c, o, p) kd a i + fl_loss (t, hr, nt, rg, pe, b, c, o, p) kd i false from by show _ + (if nI i = a then _ else _) = _; rw [if_neg (by assumption)]; rfl] at ih; exact ih)
    · refine v_iconst (pc := 21) (nI 0) dX0_drawnBy_21 kI_0 ?_
      refine v_goto (pc := 22) (tgt := 33) dX0_drawnBy_22 rfl ?_
      refine v_iadd (pc := 33) dX0_drawnBy_33 ?_
      refine v_istore_n (pc := 34) [1, 2, 3, 0, 4] [(0, _), (1, _), (2, _), (3, _), (4, _)] dX0_drawnBy_34 rfl (by decide) rfl ?_
      refine v_iincN (pc := 35) 4 [1, 2, 3, 4, 0] [(0, _), (1, _), (2, _), (3, _), (4, _)] kI_1 dX0_drawnBy_35 rfl (by decide) rfl ?_
      refine v_goto (pc := 38) (tgt := 5) dX0_drawnBy_38 rfl ?_
      first
        | (rw [show fl_drawn (t, hr, nt, rg, pe, b, c, o, p) kd a (i + 1) = fl_drawn (t, hr, nt, rg, pe, b, c, o, p) kd a i + nI 0 from by show _ + (if nI i = a then _ else _) = _; rw [if_pos (by assumption)]; rfl] at ih; exact ih)
        | (rw [show fl_drawn (t, hr, nt, rg, pe, b, c, o, p) kd a (i + 1) = fl_drawn (t, hr, nt, rg, pe, b, c, o, p) kd a i + fl_loss (t, hr, nt, rg, pe, b, c, o, p) kd i false from by show _ + (if nI i = a then _ else _) = _; rw [if_neg (by assumption)]; rfl] at ih; exact ih)
set_option maxHeartbeats 4000000 in
set_option maxRecDepth 100000 in
theorem c_who {E : Ev} {σ : Sg} {k : Nat} {t hr nt rg pe : Int32} {b c o p : Fn} (hk : k < 20)  : Ct E yX0_whoDraws cX0_whoDraws 4 (some .int) ({ frames := 0, cells := 0, slots := 0, locals := 0 } : Room) false 146 [.ref (Ez E + adr k)] (cellOf E (sFl σ k (t, hr, nt, rg, pe, b, c, o, p))) 146 0 0 (Ff (some (.int (fl_who c))) (cellOf E (sFl σ k ((t, hr, nt, rg, pe, b, c, o, p))))) := by
  refine Ct.ofV (by decide) (Nat.le_of_ble_eq_true rfl) (fun X hnm => ?_)
  show V E X _ RX0 _ _ _ _ _ _ false 146 0 [(0, .ref (Ez E + adr k))] [] _
  refine v_bipush (pc := 0) (-2) dX0_whoDraws_0 kB_m2 ?_
  refine v_istore_n (pc := 2) [1, 0] [(0, _), (1, _)] dX0_whoDraws_2 rfl (by decide) rfl ?_
  refine v_iconst (pc := 3) (nI 0) dX0_whoDraws_3 kI_0 ?_
  refine v_istore_n (pc := 4) [1, 2, 0] [(0, _), (1, _), (2, _)] dX0_whoDraws_4 rfl (by decide) rfl ?_
  refine v_iconst (pc := 5) (nI 0) dX0_whoDraws_5 kI_0 ?_
  refine v_istore_n (pc := 6) [1, 2, 3, 0] [(0, _), (1, _), (2, _), (3, _)] dX0_whoDraws_6 rfl (by decide) rfl ?_
  refine dn (P := fun i => V E X ({ frames := 0, cells := 0, slots := 0, locals := 0 } : Room) RX0 cX0_whoDraws 4 (some .int) 0 0 (QX E X false 146 (Ff (some (.int (fl_who c))) (cellOf E (sFl σ k ((t, hr, nt, rg, pe, b, c, o, p))))) 0 0) false 146 7 [(0, .ref (Ez E + adr k)), (1, .int (itn (st_who c) i (-2, nI 0)).1), (2, .int (itn (st_who c) i (-2, nI 0)).2), (3, .int (nI i))] [] (cellOf E (sFl σ k (t, hr, nt, rg, pe, b, c, o, p)))) (N := 7) ?_ ?_
  · refine v_iload_n (pc := 7) 3 dX0_whoDraws_7 rfl rfl ?_
    refine v_aload_n (pc := 8) 0 dX0_whoDraws_8 rfl rfl ?_
    refine g_X0_31 (pc := 9) (cFr_obj hk (gF_s _ _ _)) (adr_lt0 hk) rfl dX0_whoDraws_9 ?_
    refine v_alen (pc := 12) 0 (nI 7) (cFr_c hk (gF_s _ _ _)) (adr_lt hk (by decide)) rfl rfl dX0_whoDraws_12 ?_
    refine v_icmp_geN (pc := 13) (by omega) (by omega) (tgt := 41) dX0_whoDraws_13 rfl (fun c_13 => ?_) (fun c_13 => False.elim ((fun c => by omega) c_13))
    refine v_iload_n (pc := 41) 1 dX0_whoDraws_41 rfl rfl ?_
    exact v_iret (pc := 42) dX0_whoDraws_42 (⟨rfl, rfl⟩)
  · intro i hi ih
    have ih : V E X ({ frames := 0, cells := 0, slots := 0, locals := 0 } : Room) RX0 cX0_whoDraws 4 (some .int) 0 0 (QX E X false 146 (Ff (some (.int (fl_who c))) (cellOf E (sFl σ k ((t, hr, nt, rg, pe, b, c, o, p))))) 0 0) false 146 7 [(0, .ref (Ez E + adr k)), (1, .int (st_who c i (itn (st_who c) i (-2, nI 0))).1), (2, .int (st_who c i (itn (st_who c) i (-2, nI 0))).2), (3, .int (nI (i + 1)))] [] (cellOf E (sFl σ k (t, hr, nt, rg, pe, b, c, o, p))) := by rw [itn_s] at ih; exact ih
    generalize itn (st_who c) i (-2, nI 0) = z_ at ih ⊢
    obtain ⟨dw, mo⟩ := z_
    show V E X _ RX0 _ _ _ _ _ _ false 146 _ [(0, .ref (Ez E + adr k)), (1, .int dw), (2, .int mo), (3, .int (nI i))] [] (cellOf E (sFl σ k (t, hr, nt, rg, pe, b, c, o, p)))
    refine v_iload_n (pc := 7) 3 dX0_whoDraws_7 rfl rfl ?_
    refine v_aload_n (pc := 8) 0 dX0_whoDraws_8 rfl rfl ?_
    refine g_X0_31 (pc := 9) (cFr_obj hk (gF_s _ _ _)) (adr_lt0 hk) rfl dX0_whoDraws_9 ?_
    refine v_alen (pc := 12) 0 (nI 7) (cFr_c hk (gF_s _ _ _)) (adr_lt hk (by decide)) rfl rfl dX0_whoDraws_12 ?_
    refine v_icmp_geN (pc := 13) (by omega) (by omega) (tgt := 41) dX0_whoDraws_13 rfl (fun c_13 => False.elim ((fun c => by omega) c_13)) (fun c_13 => ?_)
    refine v_aload_n (pc := 16) 0 dX0_whoDraws_16 rfl rfl ?_
    refine g_X0_31 (pc := 17) (cFr_obj hk (gF_s _ _ _)) (adr_lt0 hk) rfl dX0_whoDraws_17 ?_
    refine v_iload_n (pc := 20) 3 dX0_whoDraws_20 rfl rfl ?_
    refine v_ialdN (pc := 21) (cFr_c hk (gF_s _ _ _)) (adr_lt hk (by decide)) (by omega) (by decide) dX0_whoDraws_21 ?_
    refine v_iload_n (pc := 22) 2 dX0_whoDraws_22 rfl rfl ?_
    refine v_icmp_le (pc := 23) (tgt := 35) dX0_whoDraws_23 rfl (fun c_23 => ?_) (fun c_23 => ?_)
    · refine v_iincN (pc := 35) 3 [1, 2, 3, 0] [(0, _), (1, _), (2, _), (3, _)] kI_1 dX0_whoDraws_35 rfl (by decide) rfl ?_
      refine v_goto (pc := 38) (tgt := 7) dX0_whoDraws_38 rfl ?_
      first
        | (rw [show st_who c i (dw, mo) = _ from if_pos (by first | assumption | exact Int32.not_le.mpr (by assumption))] at ih; exact ih)
        | (rw [show st_who c i (dw, mo) = _ from if_neg (by intro q; exact q (by assumption))] at ih; exact ih)
    · refine v_aload_n (pc := 26) 0 dX0_whoDraws_26 rfl rfl ?_
      refine g_X0_31 (pc := 27) (cFr_obj hk (gF_s _ _ _)) (adr_lt0 hk) rfl dX0_whoDraws_27 ?_
      refine v_iload_n (pc := 30) 3 dX0_whoDraws_30 rfl rfl ?_
      refine v_ialdN (pc := 31) (cFr_c hk (gF_s _ _ _)) (adr_lt hk (by decide)) (by omega) (by decide) dX0_whoDraws_31 ?_
      refine v_istore_n (pc := 32) [1, 2, 0, 3] [(0, _), (1, _), (2, _), (3, _)] dX0_whoDraws_32 rfl (by decide) rfl ?_
      refine v_iload_n (pc := 33) 3 dX0_whoDraws_33 rfl rfl ?_
      refine v_istore_n (pc := 34) [1, 0, 2, 3] [(0, _), (1, _), (2, _), (3, _)] dX0_whoDraws_34 rfl (by decide) rfl ?_
      refine v_iincN (pc := 35) 3 [1, 2, 3, 0] [(0, _), (1, _), (2, _), (3, _)] kI_1 dX0_whoDraws_35 rfl (by decide) rfl ?_
      refine v_goto (pc := 38) (tgt := 7) dX0_whoDraws_38 rfl ?_
      first
        | (rw [show st_who c i (dw, mo) = _ from if_pos (by first | assumption | exact Int32.not_le.mpr (by assumption))] at ih; exact ih)
        | (rw [show st_who c i (dw, mo) = _ from if_neg (by intro q; exact q (by assumption))] at ih; exact ih)
set_option maxHeartbeats 4000000 in
set_option maxRecDepth 100000 in
theorem c_fly {E : Ev} {σ : Sg} {k : Nat} {t hr nt rg pe : Int32} {b c o p : Fn} (hk : k < 20) {j np nd : Nat} {sd du tr : Int32} {kd bd dr dt cr ow : Fn} (hj : j < 2) (hP : gP σ j = (sd, du, tr, nI np, nI nd, kd, bd, dr, dt, cr, ow)) (hnp : np ≤ 7) (hnd : nd ≤ 9) : Ct E yX0_flyForAnHour cX0_flyForAnHour 4 none ({ frames := 3, cells := 0, slots := 0, locals := 67 } : Room) false 146 [.ref (Ez E + adr k), .ref (Ez E + pad j)] (cellOf E (sFl σ k (t, hr, nt, rg, pe, b, c, o, p))) 146 0 0 (Ff none (cellOf E (sFl σ k (fl_fly (t, hr, nt, rg, pe, b, c, o, p) kd np)))) := by
  refine Ct.ofV (by decide) (Nat.le_of_ble_eq_true rfl) (fun X hnm => ?_)
  show V E X _ RX0 _ _ _ _ _ _ false 146 0 [(0, .ref (Ez E + adr k)), (1, .ref (Ez E + pad j))] [] _
  refine v_aload_n (pc := 0) 0 dX0_flyForAnHour_0 rfl rfl ?_
  refine v_callV (pc := 1) _ _ k_X0_119 (cFr_obj hk (gF_s _ _ _)) rfl (adr_lt0 hk) (c_who hk) ⟨rfl, rfl, by decide⟩ rfl rfl (Nat.le_of_ble_eq_true rfl) ⟨Nat.le_of_ble_eq_true rfl, Nat.le_of_ble_eq_true rfl⟩ dX0_flyForAnHour_1 (unS ?_)
  show V E X _ RX0 _ _ _ 0 0 _ false 146 4 _ [_] _
  refine v_istore_n (pc := 4) [1, 2, 0] [(0, _), (1, _), (2, _)] dX0_flyForAnHour_4 rfl (by decide) rfl ?_
  refine v_iconst (pc := 5) (nI 0) dX0_flyForAnHour_5 kI_0 ?_
  refine v_istore_n (pc := 6) [1, 2, 3, 0] [(0, _), (1, _), (2, _), (3, _)] dX0_flyForAnHour_6 rfl (by decide) rfl ?_
  refine dn (P := fun i => V E X ({ frames := 3, cells := 0, slots := 0, locals := 67 } : Room) RX0 cX0_flyForAnHour 4 none 0 0 (QX E X false 146 (Ff none (cellOf E (sFl σ k (fl_fly (t, hr, nt, rg, pe, b, c, o, p) kd np)))) 0 0) false 146 7 [(0, .ref (Ez E + adr k)), (1, .ref (Ez E + pad j)), (2, .int (fl_who c)), (3, .int (nI i))] [] (cellOf E (sFl σ k (itn (st_fly kd (fl_who c)) i (t, hr, nt, rg, pe, b, c, o, p))))) (N := np) ?_ ?_
  · generalize hG : itn (st_fly kd (fl_who c)) np (t, hr, nt, rg, pe, b, c, o, p) = z_ 
    obtain ⟨t1, hr1, nt1, rg1, pe1, b1, c1, o1, p1⟩ := z_
    show V E X _ RX0 _ _ _ _ _ _ false 146 _ [(0, .ref (Ez E + adr k)), (1, .ref (Ez E + pad j)), (2, .int (fl_who c)), (3, .int (nI np))] [] (cellOf E (sFl σ k (t1, hr1, nt1, rg1, pe1, b1, c1, o1, p1)))
    refine v_iload_n (pc := 7) 3 dX0_flyForAnHour_7 rfl rfl ?_
    refine v_aload_n (pc := 8) 1 dX0_flyForAnHour_8 rfl rfl ?_
    refine g_X0_95 (pc := 9) (cPr_obj hj hP) (pad_lt0 hj) rfl dX0_flyForAnHour_9 ?_
    refine v_icmp_geN (pc := 12) (by omega) (by omega) (tgt := 52) dX0_flyForAnHour_12 rfl (fun c_12 => ?_) (fun c_12 => False.elim ((fun c => by omega) c_12))
    refine v_iconst (pc := 52) (nI 0) dX0_flyForAnHour_52 kI_0 ?_
    refine v_istore_n (pc := 53) [1, 2, 3, 0] [(0, _), (1, _), (2, _), (3, _)] dX0_flyForAnHour_53 rfl (by decide) rfl ?_
    refine dn (P := fun i => V E X ({ frames := 3, cells := 0, slots := 0, locals := 67 } : Room) RX0 cX0_flyForAnHour 4 none 0 0 (QX E X false 146 (Ff none (cellOf E (sFl σ k (fl_fly (t, hr, nt, rg, pe, b, c, o, p) kd np)))) 0 0) false 146 54 [(0, .ref (Ez E + adr k)), (1, .ref (Ez E + pad j)), (2, .int (fl_who c)), (3, .int (nI i))] [] (cellOf E (sFl σ k (t1, hr1, nt1, rg1, pe1, b1, itn st_half i c1, o1, p1)))) (N := 7) ?_ ?_
    · refine v_iload_n (pc := 54) 3 dX0_flyForAnHour_54 rfl rfl ?_
      refine v_aload_n (pc := 55) 0 dX0_flyForAnHour_55 rfl rfl ?_
      refine g_X0_31 (pc := 56) (cFr_obj hk (gF_s _ _ _)) (adr_lt0 hk) rfl dX0_flyForAnHour_56 ?_
      refine v_alen (pc := 59) 0 (nI 7) (cFr_c hk (gF_s _ _ _)) (adr_lt hk (by decide)) rfl rfl dX0_flyForAnHour_59 ?_
      refine v_icmp_geN (pc := 60) (by omega) (by omega) (tgt := 79) dX0_flyForAnHour_60 rfl (fun c_60 => ?_) (fun c_60 => False.elim ((fun c => by omega) c_60))
      refine v_aload_n (pc := 79) 0 dX0_flyForAnHour_79 rfl rfl ?_
      refine v_dup (pc := 80) dX0_flyForAnHour_80 rfl ?_
      refine g_X0_15 (pc := 81) (cFr_obj hk (gF_s _ _ _)) (adr_lt0 hk) rfl dX0_flyForAnHour_81 ?_
      refine v_iconst (pc := 84) (nI 1) dX0_flyForAnHour_84 kI_1 ?_
      refine v_iadd (pc := 85) dX0_flyForAnHour_85 ?_
      refine p_X0_15 (pc := 86) (cFr_obj hk (gF_s _ _ _)) (adr_lt0 hk) rfl rfl (Nat.le_of_ble_eq_true rfl) dX0_flyForAnHour_86 (wF_hr hk) ?_
      exact v_vret (pc := 89) dX0_flyForAnHour_89 (⟨rfl, by unfold fl_fly; rw [hG]; rfl⟩)
    · intro i hi ih
      refine v_iload_n (pc := 54) 3 dX0_flyForAnHour_54 rfl rfl ?_
      refine v_aload_n (pc := 55) 0 dX0_flyForAnHour_55 rfl rfl ?_
      refine g_X0_31 (pc := 56) (cFr_obj hk (gF_s _ _ _)) (adr_lt0 hk) rfl dX0_flyForAnHour_56 ?_
      refine v_alen (pc := 59) 0 (nI 7) (cFr_c hk (gF_s _ _ _)) (adr_lt hk (by decide)) rfl rfl dX0_flyForAnHour_59 ?_
      refine v_icmp_geN (pc := 60) (by omega) (by omega) (tgt := 79) dX0_flyForAnHour_60 rfl (fun c_60 => False.elim ((fun c => by omega) c_60)) (fun c_60 => ?_)
      refine v_aload_n (pc := 63) 0 dX0_flyForAnHour_63 rfl rfl ?_
      refine g_X0_31 (pc := 64) (cFr_obj hk (gF_s _ _ _)) (adr_lt0 hk) rfl dX0_flyForAnHour_64 ?_
      refine v_iload_n (pc := 67) 3 dX0_flyForAnHour_67 rfl rfl ?_
      refine v_dup2 (pc := 68) dX0_flyForAnHour_68 rfl rfl ?_
      refine v_ialdN (pc := 69) (cFr_c hk (gF_s _ _ _)) (adr_lt hk (by decide)) (by omega) (by decide) dX0_flyForAnHour_69 ?_
      refine v_iconst (pc := 70) (nI 2) dX0_flyForAnHour_70 kI_2 ?_
      refine v_idiv (pc := 71) dX0_flyForAnHour_71 (by decide) ?_
      refine v_iastN (pc := 72) (cFr_c hk (gF_s _ _ _)) (adr_lt hk (by decide)) (by omega) (by decide) dX0_flyForAnHour_72 (wF_c hk) ?_
      refine v_iincN (pc := 73) 3 [1, 2, 3, 0] [(0, _), (1, _), (2, _), (3, _)] kI_1 dX0_flyForAnHour_73 rfl (by decide) rfl ?_
      refine v_goto (pc := 76) (tgt := 54) dX0_flyForAnHour_76 rfl ?_
      exact ih
  · intro i hi ih
    have ih : V E X ({ frames := 3, cells := 0, slots := 0, locals := 67 } : Room) RX0 cX0_flyForAnHour 4 none 0 0 (QX E X false 146 (Ff none (cellOf E (sFl σ k (fl_fly (t, hr, nt, rg, pe, b, c, o, p) kd np)))) 0 0) false 146 7 [(0, .ref (Ez E + adr k)), (1, .ref (Ez E + pad j)), (2, .int (fl_who c)), (3, .int (nI (i + 1)))] [] (cellOf E (sFl σ k (st_fly kd (fl_who c) i (itn (st_fly kd (fl_who c)) i (t, hr, nt, rg, pe, b, c, o, p))))) := by rw [itn_s] at ih; exact ih
    generalize itn (st_fly kd (fl_who c)) i (t, hr, nt, rg, pe, b, c, o, p) = z_ at ih ⊢
    obtain ⟨t, hr, nt, rg, pe, b, c1, o, p⟩ := z_
    show V E X _ RX0 _ _ _ _ _ _ false 146 _ [(0, .ref (Ez E + adr k)), (1, .ref (Ez E + pad j)), (2, .int (fl_who c)), (3, .int (nI i))] [] (cellOf E (sFl σ k (t, hr, nt, rg, pe, b, c1, o, p)))
    refine v_iload_n (pc := 7) 3 dX0_flyForAnHour_7 rfl rfl ?_
    refine v_aload_n (pc := 8) 1 dX0_flyForAnHour_8 rfl rfl ?_
    refine g_X0_95 (pc := 9) (cPr_obj hj hP) (pad_lt0 hj) rfl dX0_flyForAnHour_9 ?_
    refine v_icmp_geN (pc := 12) (by omega) (by omega) (tgt := 52) dX0_flyForAnHour_12 rfl (fun c_12 => False.elim ((fun c => by omega) c_12)) (fun c_12 => ?_)
    refine v_iload_n (pc := 15) 3 dX0_flyForAnHour_15 rfl rfl ?_
    refine v_iload_n (pc := 16) 2 dX0_flyForAnHour_16 rfl rfl ?_
    refine v_icmp_eq (pc := 17) (tgt := 46) dX0_flyForAnHour_17 rfl (fun c_17 => ?_) (fun c_17 => ?_)
    · refine v_iincN (pc := 46) 3 [1, 2, 3, 0] [(0, _), (1, _), (2, _), (3, _)] kI_1 dX0_flyForAnHour_46 rfl (by decide) rfl ?_
      refine v_goto (pc := 49) (tgt := 7) dX0_flyForAnHour_49 rfl ?_
      first
        | (rw [show st_fly kd (fl_who c) i (t, hr, nt, rg, pe, b, c1, o, p) = _ from if_pos (by assumption)] at ih; exact ih)
        | (rw [show st_fly kd (fl_who c) i (t, hr, nt, rg, pe, b, c1, o, p) = _ from if_neg (by assumption), show decide (¬ fK (t, hr, nt, rg, pe, b, c1, o, p) i ≤ 0) = true from decide_eq_true (by first | assumption | exact Int32.not_le.mpr (by assumption))] at ih; exact ih)
        | (rw [show st_fly kd (fl_who c) i (t, hr, nt, rg, pe, b, c1, o, p) = _ from if_neg (by assumption), show decide (¬ fK (t, hr, nt, rg, pe, b, c1, o, p) i ≤ 0) = false from decide_eq_false (by intro q; exact q (by assumption))] at ih; exact ih)
    · refine v_aload_n (pc := 20) 0 dX0_flyForAnHour_20 rfl rfl ?_
      refine v_iload_n (pc := 21) 3 dX0_flyForAnHour_21 rfl rfl ?_
      refine v_iload_n (pc := 22) 2 dX0_flyForAnHour_22 rfl rfl ?_
      refine v_aload_n (pc := 23) 0 dX0_flyForAnHour_23 rfl rfl ?_
      refine v_aload_n (pc := 24) 1 dX0_flyForAnHour_24 rfl rfl ?_
      refine v_iload_n (pc := 25) 3 dX0_flyForAnHour_25 rfl rfl ?_
      refine v_aload_n (pc := 26) 0 dX0_flyForAnHour_26 rfl rfl ?_
      refine g_X0_31 (pc := 27) (cFr_obj hk (gF_s _ _ _)) (adr_lt0 hk) rfl dX0_flyForAnHour_27 ?_
      refine v_iload_n (pc := 30) 3 dX0_flyForAnHour_30 rfl rfl ?_
      refine v_ialdN (pc := 31) (cFr_c hk (gF_s _ _ _)) (adr_lt hk (by decide)) (by omega) (by decide) dX0_flyForAnHour_31 ?_
      refine v_if_le (pc := 32) (tgt := 39) dX0_flyForAnHour_32 rfl (fun c_32 => ?_) (fun c_32 => ?_)
      · refine v_iconst (pc := 39) (nI 0) dX0_flyForAnHour_39 kI_0 ?_
        refine v_callV (pc := 40) _ _ k_X0_115 (cFr_obj hk (gF_s _ _ _)) rfl (adr_lt0 hk) (c_loss hk hj hP hnp hnd (i := _) (by omega) false) ⟨rfl, rfl, by decide⟩ rfl rfl (Nat.le_of_ble_eq_true rfl) ⟨Nat.le_of_ble_eq_true rfl, Nat.le_of_ble_eq_true rfl⟩ dX0_flyForAnHour_40 (unS ?_)
        show V E X _ RX0 _ _ _ 0 0 _ false 146 43 _ [_, _, _, _] _
        refine v_callV (pc := 43) _ _ k_X0_108 (cFr_obj hk (gF_s _ _ _)) rfl (adr_lt0 hk) (c_move hk _ _ _) ⟨rfl, rfl, by decide⟩ rfl rfl (Nat.le_of_ble_eq_true rfl) ⟨Nat.le_of_ble_eq_true rfl, Nat.le_of_ble_eq_true rfl⟩ dX0_flyForAnHour_43 (unS ?_)
        show V E X _ RX0 _ _ _ 0 0 _ false 146 46 _ [] _
        refine v_iincN (pc := 46) 3 [1, 2, 3, 0] [(0, _), (1, _), (2, _), (3, _)] kI_1 dX0_flyForAnHour_46 rfl (by decide) rfl ?_
        refine v_goto (pc := 49) (tgt := 7) dX0_flyForAnHour_49 rfl ?_
        first
          | (rw [show st_fly kd (fl_who c) i (t, hr, nt, rg, pe, b, c1, o, p) = _ from if_pos (by assumption)] at ih; exact ih)
          | (rw [show st_fly kd (fl_who c) i (t, hr, nt, rg, pe, b, c1, o, p) = _ from if_neg (by assumption), show decide (¬ fK (t, hr, nt, rg, pe, b, c1, o, p) i ≤ 0) = true from decide_eq_true (by first | assumption | exact Int32.not_le.mpr (by assumption))] at ih; exact ih)
          | (rw [show st_fly kd (fl_who c) i (t, hr, nt, rg, pe, b, c1, o, p) = _ from if_neg (by assumption), show decide (¬ fK (t, hr, nt, rg, pe, b, c1, o, p) i ≤ 0) = false from decide_eq_false (by intro q; exact q (by assumption))] at ih; exact ih)
      · refine v_iconst (pc := 35) (nI 1) dX0_flyForAnHour_35 kI_1 ?_
        refine v_goto (pc := 36) (tgt := 40) dX0_flyForAnHour_36 rfl ?_
        refine v_callV (pc := 40) _ _ k_X0_115 (cFr_obj hk (gF_s _ _ _)) rfl (adr_lt0 hk) (c_loss hk hj hP hnp hnd (i := _) (by omega) true) ⟨rfl, rfl, by decide⟩ rfl rfl (Nat.le_of_ble_eq_true rfl) ⟨Nat.le_of_ble_eq_true rfl, Nat.le_of_ble_eq_true rfl⟩ dX0_flyForAnHour_40 (unS ?_)
        show V E X _ RX0 _ _ _ 0 0 _ false 146 43 _ [_, _, _, _] _
        refine v_callV (pc := 43) _ _ k_X0_108 (cFr_obj hk (gF_s _ _ _)) rfl (adr_lt0 hk) (c_move hk _ _ _) ⟨rfl, rfl, by decide⟩ rfl rfl (Nat.le_of_ble_eq_true rfl) ⟨Nat.le_of_ble_eq_true rfl, Nat.le_of_ble_eq_true rfl⟩ dX0_flyForAnHour_43 (unS ?_)
        show V E X _ RX0 _ _ _ 0 0 _ false 146 46 _ [] _
        refine v_iincN (pc := 46) 3 [1, 2, 3, 0] [(0, _), (1, _), (2, _), (3, _)] kI_1 dX0_flyForAnHour_46 rfl (by decide) rfl ?_
        refine v_goto (pc := 49) (tgt := 7) dX0_flyForAnHour_49 rfl ?_
        first
          | (rw [show st_fly kd (fl_who c) i (t, hr, nt, rg, pe, b, c1, o, p) = _ from if_pos (by assumption)] at ih; exact ih)
          | (rw [show st_fly kd (fl_who c) i (t, hr, nt, rg, pe, b, c1, o, p) = _ from if_neg (by assumption), show decide (¬ fK (t, hr, nt, rg, pe, b, c1, o, p) i ≤ 0) = true from decide_eq_true (by first | assumption | exact Int32.not_le.mpr (by assumption))] at ih; exact ih)
          | (rw [show st_fly kd (fl_who c) i (t, hr, nt, rg, pe, b, c1, o, p) = _ from if_neg (by assumption), show decide (¬ fK (t, hr, nt, rg, pe, b, c1, o, p) i ≤ 0) = false from decide_eq_false (by intro q; exact q (by assumption))] at ih; exact ih)
set_option maxHeartbeats 4000000 in
set_option maxRecDepth 100000 in
theorem c_dusk {E : Ev} {σ : Sg} {k : Nat} {t hr nt rg pe : Int32} {b c o p : Fn} (hk : k < 20) {j np nd : Nat} {sd du tr : Int32} {kd bd dr dt cr ow : Fn} (hj : j < 2) (hP : gP σ j = (sd, du, tr, nI np, nI nd, kd, bd, dr, dt, cr, ow)) (hnp : np ≤ 7) (hnd : nd ≤ 9) : Ct E yX0_isDusk cX0_isDusk 2 (some .boolean) ({ frames := 0, cells := 0, slots := 0, locals := 0 } : Room) false 146 [.ref (Ez E + adr k), .ref (Ez E + pad j)] (cellOf E (sFl σ k (t, hr, nt, rg, pe, b, c, o, p))) 146 0 0 (Ff (some (.int (bI (duskB hr du)))) (cellOf E (sFl σ k ((t, hr, nt, rg, pe, b, c, o, p))))) := by
  refine Ct.ofV (by decide) (Nat.le_of_ble_eq_true rfl) (fun X hnm => ?_)
  show V E X _ RX0 _ _ _ _ _ _ false 146 0 [(0, .ref (Ez E + adr k)), (1, .ref (Ez E + pad j))] [] _
  refine v_aload_n (pc := 0) 1 dX0_isDusk_0 rfl rfl ?_
  refine g_X0_122 (pc := 1) (cPr_obj hj hP) (pad_lt0 hj) rfl dX0_isDusk_1 ?_
  refine v_if_le (pc := 4) (tgt := 23) dX0_isDusk_4 rfl (fun c_4 => ?_) (fun c_4 => ?_)
  · refine v_iconst (pc := 23) (nI 0) dX0_isDusk_23 kI_0 ?_
    exact v_zret (pc := 24) dX0_isDusk_24 ((by rfl)) (⟨by first | (rw [show duskB hr du = true from decide_eq_true ⟨by first | assumption | exact Int32.not_le.mpr (by assumption), by assumption⟩]; rfl) | (rw [show duskB hr du = false from decide_eq_false (by rintro ⟨q1, q2⟩; first | exact q1 (by assumption) | exact absurd q2 (by assumption))]; rfl), rfl⟩)
  · refine v_aload_n (pc := 7) 0 dX0_isDusk_7 rfl rfl ?_
    refine g_X0_15 (pc := 8) (cFr_obj hk (gF_s _ _ _)) (adr_lt0 hk) rfl dX0_isDusk_8 ?_
    refine v_aload_n (pc := 11) 1 dX0_isDusk_11 rfl rfl ?_
    refine g_X0_122 (pc := 12) (cPr_obj hj hP) (pad_lt0 hj) rfl dX0_isDusk_12 ?_
    refine v_irem (pc := 15) dX0_isDusk_15 (fun q => absurd (show du ≤ 0 by rw [q]; decide) (by first | assumption | exact Int32.not_le.mpr (by assumption))) ?_
    refine v_if_ne (pc := 16) (tgt := 23) dX0_isDusk_16 rfl (fun c_16 => ?_) (fun c_16 => ?_)
    · refine v_iconst (pc := 23) (nI 0) dX0_isDusk_23 kI_0 ?_
      exact v_zret (pc := 24) dX0_isDusk_24 ((by rfl)) (⟨by first | (rw [show duskB hr du = true from decide_eq_true ⟨by first | assumption | exact Int32.not_le.mpr (by assumption), by assumption⟩]; rfl) | (rw [show duskB hr du = false from decide_eq_false (by rintro ⟨q1, q2⟩; first | exact q1 (by assumption) | exact absurd q2 (by assumption))]; rfl), rfl⟩)
    · refine v_iconst (pc := 19) (nI 1) dX0_isDusk_19 kI_1 ?_
      refine v_goto (pc := 20) (tgt := 24) dX0_isDusk_20 rfl ?_
      exact v_zret (pc := 24) dX0_isDusk_24 ((by rfl)) (⟨by first | (rw [show duskB hr du = true from decide_eq_true ⟨by first | assumption | exact Int32.not_le.mpr (by assumption), by assumption⟩]; rfl) | (rw [show duskB hr du = false from decide_eq_false (by rintro ⟨q1, q2⟩; first | exact q1 (by assumption) | exact absurd q2 (by assumption))]; rfl), rfl⟩)
set_option maxHeartbeats 4000000 in
set_option maxRecDepth 100000 in
theorem c_home {E : Ev} {σ : Sg} {k : Nat} {t hr nt rg pe : Int32} {b c o p : Fn} (hk : k < 20) {j np nd : Nat} {sd du tr : Int32} {kd bd dr dt cr ow : Fn} (hj : j < 2) (hP : gP σ j = (sd, du, tr, nI np, nI nd, kd, bd, dr, dt, cr, ow)) (hnp : np ≤ 7) (hnd : nd ≤ 9) : Ct E yX0_goHome cX0_goHome 3 none ({ frames := 3, cells := 0, slots := 0, locals := 65 } : Room) false 146 [.ref (Ez E + adr k), .ref (Ez E + pad j)] (cellOf E (sFl σ k (t, hr, nt, rg, pe, b, c, o, p))) 146 0 0 (Ff none (cellOf E (sFl σ k (fl_home (t, hr, nt, rg, pe, b, c, o, p) kd np)))) := by
  refine Ct.ofV (by decide) (Nat.le_of_ble_eq_true rfl) (fun X hnm => ?_)
  show V E X _ RX0 _ _ _ _ _ _ false 146 0 [(0, .ref (Ez E + adr k)), (1, .ref (Ez E + pad j))] [] _
  refine v_iconst (pc := 0) (nI 0) dX0_goHome_0 kI_0 ?_
  refine v_istore_n (pc := 1) [1, 2, 0] [(0, _), (1, _), (2, _)] dX0_goHome_1 rfl (by decide) rfl ?_
  refine dn (P := fun i => V E X ({ frames := 3, cells := 0, slots := 0, locals := 65 } : Room) RX0 cX0_goHome 3 none 0 0 (QX E X false 146 (Ff none (cellOf E (sFl σ k (fl_home (t, hr, nt, rg, pe, b, c, o, p) kd np)))) 0 0) false 146 2 [(0, .ref (Ez E + adr k)), (1, .ref (Ez E + pad j)), (2, .int (nI i))] [] (cellOf E (sFl σ k (itn (st_home kd) i (t, hr, nt, rg, pe, b, c, o, p))))) (N := np) ?_ ?_
  · refine v_iload_n (pc := 2) 2 dX0_goHome_2 rfl rfl ?_
    refine v_aload_n (pc := 3) 1 dX0_goHome_3 rfl rfl ?_
    refine g_X0_95 (pc := 4) (cPr_obj hj hP) (pad_lt0 hj) rfl dX0_goHome_4 ?_
    refine v_icmp_geN (pc := 7) (by omega) (by omega) (tgt := 39) dX0_goHome_7 rfl (fun c_7 => ?_) (fun c_7 => False.elim ((fun c => by omega) c_7))
    exact v_vret (pc := 39) dX0_goHome_39 (⟨rfl, rfl⟩)
  · intro i hi ih
    have ih : V E X ({ frames := 3, cells := 0, slots := 0, locals := 65 } : Room) RX0 cX0_goHome 3 none 0 0 (QX E X false 146 (Ff none (cellOf E (sFl σ k (fl_home (t, hr, nt, rg, pe, b, c, o, p) kd np)))) 0 0) false 146 2 [(0, .ref (Ez E + adr k)), (1, .ref (Ez E + pad j)), (2, .int (nI (i + 1)))] [] (cellOf E (sFl σ k (st_home kd i (itn (st_home kd) i (t, hr, nt, rg, pe, b, c, o, p))))) := by rw [itn_s] at ih; exact ih
    generalize itn (st_home kd) i (t, hr, nt, rg, pe, b, c, o, p) = z_ at ih ⊢
    obtain ⟨t, hr, nt, rg, pe, b, c, o, p⟩ := z_
    show V E X _ RX0 _ _ _ _ _ _ false 146 _ [(0, .ref (Ez E + adr k)), (1, .ref (Ez E + pad j)), (2, .int (nI i))] [] (cellOf E (sFl σ k (t, hr, nt, rg, pe, b, c, o, p)))
    refine v_iload_n (pc := 2) 2 dX0_goHome_2 rfl rfl ?_
    refine v_aload_n (pc := 3) 1 dX0_goHome_3 rfl rfl ?_
    refine g_X0_95 (pc := 4) (cPr_obj hj hP) (pad_lt0 hj) rfl dX0_goHome_4 ?_
    refine v_icmp_geN (pc := 7) (by omega) (by omega) (tgt := 39) dX0_goHome_7 rfl (fun c_7 => False.elim ((fun c => by omega) c_7)) (fun c_7 => ?_)
    refine v_aload_n (pc := 10) 1 dX0_goHome_10 rfl rfl ?_
    refine g_X0_112 (pc := 11) (cPr_obj hj hP) (pad_lt0 hj) rfl dX0_goHome_11 ?_
    refine v_iload_n (pc := 14) 2 dX0_goHome_14 rfl rfl ?_
    refine v_ialdN (pc := 15) (cPr_kd hj hP) (pad_lt hj (by decide)) (by omega) (by decide) dX0_goHome_15 ?_
    refine v_iconst (pc := 16) (nI 2) dX0_goHome_16 kI_2 ?_
    refine v_icmp_eq (pc := 17) (tgt := 33) dX0_goHome_17 rfl (fun c_17 => ?_) (fun c_17 => ?_)
    · refine v_iincN (pc := 33) 2 [1, 2, 0] [(0, _), (1, _), (2, _)] kI_1 dX0_goHome_33 rfl (by decide) rfl ?_
      refine v_goto (pc := 36) (tgt := 2) dX0_goHome_36 rfl ?_
      first
        | (rw [show st_home kd i (t, hr, nt, rg, pe, b, c, o, p) = _ from if_pos (by assumption)] at ih; exact ih)
        | (rw [show st_home kd i (t, hr, nt, rg, pe, b, c, o, p) = _ from if_neg (by assumption)] at ih; exact ih)
    · refine v_aload_n (pc := 20) 0 dX0_goHome_20 rfl rfl ?_
      refine v_iload_n (pc := 21) 2 dX0_goHome_21 rfl rfl ?_
      refine v_bipush (pc := 22) (-2) dX0_goHome_22 kB_m2 ?_
      refine v_aload_n (pc := 24) 0 dX0_goHome_24 rfl rfl ?_
      refine g_X0_27 (pc := 25) (cFr_obj hk (gF_s _ _ _)) (adr_lt0 hk) rfl dX0_goHome_25 ?_
      refine v_iload_n (pc := 28) 2 dX0_goHome_28 rfl rfl ?_
      refine v_ialdN (pc := 29) (cFr_b hk (gF_s _ _ _)) (adr_lt hk (by decide)) (by omega) (by decide) dX0_goHome_29 ?_
      refine v_callV (pc := 30) _ _ k_X0_108 (cFr_obj hk (gF_s _ _ _)) rfl (adr_lt0 hk) (c_move hk _ _ _) ⟨rfl, rfl, by decide⟩ rfl rfl (Nat.le_of_ble_eq_true rfl) ⟨Nat.le_of_ble_eq_true rfl, Nat.le_of_ble_eq_true rfl⟩ dX0_goHome_30 (unS ?_)
      show V E X _ RX0 _ _ _ 0 0 _ false 146 33 _ [] _
      refine v_iincN (pc := 33) 2 [1, 2, 0] [(0, _), (1, _), (2, _)] kI_1 dX0_goHome_33 rfl (by decide) rfl ?_
      refine v_goto (pc := 36) (tgt := 2) dX0_goHome_36 rfl ?_
      first
        | (rw [show st_home kd i (t, hr, nt, rg, pe, b, c, o, p) = _ from if_pos (by assumption)] at ih; exact ih)
        | (rw [show st_home kd i (t, hr, nt, rg, pe, b, c, o, p) = _ from if_neg (by assumption)] at ih; exact ih)
set_option maxHeartbeats 4000000 in
set_option maxRecDepth 100000 in
theorem c_pass {E : Ev} {σ : Sg} {k : Nat} {t hr nt rg pe : Int32} {b c o p : Fn} (hk : k < 20) {j np nd : Nat} {sd du tr : Int32} {kd bd dr dt cr ow : Fn} (hj : j < 2) (hP : gP σ j = (sd, du, tr, nI np, nI nd, kd, bd, dr, dt, cr, ow)) (hnp : np ≤ 7) (hnd : nd ≤ 9) : Ct E yX0_passHour cX0_passHour 2 none ({ frames := 4, cells := 0, slots := 0, locals := 90 } : Room) false 146 [.ref (Ez E + adr k), .ref (Ez E + pad j)] (cellOf E (sFl σ k (t, hr, nt, rg, pe, b, c, o, p))) 146 0 0 (Ff none (cellOf E (sFl σ k (fl_pass (t, hr, nt, rg, pe, b, c, o, p) kd du np)))) := by
  refine Ct.ofV (by decide) (Nat.le_of_ble_eq_true rfl) (fun X hnm => ?_)
  show V E X _ RX0 _ _ _ _ _ _ false 146 0 [(0, .ref (Ez E + adr k)), (1, .ref (Ez E + pad j))] [] _
  refine v_aload_n (pc := 0) 0 dX0_passHour_0 rfl rfl ?_
  refine v_aload_n (pc := 1) 1 dX0_passHour_1 rfl rfl ?_
  refine v_callV (pc := 2) _ _ k_X0_125 (cFr_obj hk (gF_s _ _ _)) rfl (adr_lt0 hk) (c_fly hk hj hP hnp hnd) ⟨rfl, rfl, by decide⟩ rfl rfl (Nat.le_of_ble_eq_true rfl) ⟨Nat.le_of_ble_eq_true rfl, Nat.le_of_ble_eq_true rfl⟩ dX0_passHour_2 (unF (fun t1 hr1 nt1 rg1 pe1 b1 c1 o1 p1 hm1 => ?_))
  show V E X _ RX0 _ _ _ 0 0 _ false 146 5 _ [] _
  refine v_aload_n (pc := 5) 0 dX0_passHour_5 rfl rfl ?_
  refine v_aload_n (pc := 6) 1 dX0_passHour_6 rfl rfl ?_
  refine v_callV (pc := 7) _ _ k_X0_129 (cFr_obj hk (gF_s _ _ _)) rfl (adr_lt0 hk) (c_dusk hk hj hP hnp hnd) ⟨rfl, rfl, by decide⟩ rfl rfl (Nat.le_of_ble_eq_true rfl) ⟨Nat.le_of_ble_eq_true rfl, Nat.le_of_ble_eq_true rfl⟩ dX0_passHour_7 (unS ?_)
  show V E X _ RX0 _ _ _ 0 0 _ false 146 10 _ [_] _
  refine v_if_eqB (pc := 10) (tgt := 18) dX0_passHour_10 rfl (fun c_10 => ?_) (fun c_10 => ?_)
  · exact v_vret (pc := 18) dX0_passHour_18 (⟨rfl, by unfold fl_pass; rw [hm1]; first | (rw [if_pos (by assumption)]) | (rw [if_neg (by rw [show duskB _ _ = false from by assumption]; decide)])⟩)
  · refine v_aload_n (pc := 13) 0 dX0_passHour_13 rfl rfl ?_
    refine v_aload_n (pc := 14) 1 dX0_passHour_14 rfl rfl ?_
    refine v_callV (pc := 15) _ _ k_X0_133 (cFr_obj hk (gF_s _ _ _)) rfl (adr_lt0 hk) (c_home hk hj hP hnp hnd) ⟨rfl, rfl, by decide⟩ rfl rfl (Nat.le_of_ble_eq_true rfl) ⟨Nat.le_of_ble_eq_true rfl, Nat.le_of_ble_eq_true rfl⟩ dX0_passHour_15 (unS ?_)
    show V E X _ RX0 _ _ _ 0 0 _ false 146 18 _ [] _
    exact v_vret (pc := 18) dX0_passHour_18 (⟨rfl, by unfold fl_pass; rw [hm1]; first | (rw [if_pos (by assumption)]) | (rw [if_neg (by rw [show duskB _ _ = false from by assumption]; decide)])⟩)
