theorem sh32 : ∀ n, n < 32 → ((nI n &&& 31).toBitVec.smod 32).toNat = n := by decide +kernel
theorem shl1 {n : Nat} (h : n < 31) : nI 1 <<< (nI n &&& 31) = nI (2 ^ n) := by
  rw [pk_shlN (nI n &&& 31) n (sh32 n (by omega)) (by rw [Nat.one_mul]; exact Nat.pow_lt_pow_right (by decide) (by omega)), Nat.one_mul]
theorem or_n (a b : Nat) : nI a ||| nI b = nI (a ||| b) := by
  apply Int32.toBitVec_inj.mp
  show BitVec.ofNat 32 a ||| BitVec.ofNat 32 b = BitVec.ofNat 32 (a ||| b)
  apply BitVec.eq_of_getLsbD_eq
  intro i hi
  simp [BitVec.getLsbD_or, BitVec.getLsbD_ofNat, hi, Nat.testBit_or]
theorem hasB_n {p d : Nat} (hp : p < 2147483648) (hd : d < 31) : hasB (nI p) (nI d) = p.testBit d := by
  unfold hasB
  rw [pk_shrN hp (nI d &&& 31) d (sh32 d (by omega)), pk_andN (by have := Nat.div_le_self p (2 ^ d); omega) 1 (by decide)]
  have hm : p / 2 ^ d % 2 ^ 1 < 2 := Nat.mod_lt _ (by decide)
  rw [Nat.testBit, Nat.shiftRight_eq_div_pow]
  simp only [Nat.pow_one] at hm ⊢
  by_cases h : p / 2 ^ d % 2 = 1
  · rw [h, decide_eq_true rfl]
    simp [Nat.and_comm, Nat.and_one_is_mod, h]
  · have h0 : p / 2 ^ d % 2 = 0 := by omega
    rw [h0, decide_eq_false (by decide)]
    simp [Nat.and_comm, Nat.and_one_is_mod, h0]
def bc1 (x : Int32) : Int32 := x - ((x.toUInt32 >>> ((nI 1).toUInt32 &&& Int32.toUInt32 31)).toInt32 &&& 1431655765)
def bc2 (x : Int32) : Int32 := (x &&& 858993459) + ((x.toUInt32 >>> ((nI 2).toUInt32 &&& Int32.toUInt32 31)).toInt32 &&& 858993459)
def bc3 (x : Int32) : Int32 := (x + (x.toUInt32 >>> ((nI 4).toUInt32 &&& Int32.toUInt32 31)).toInt32) &&& 252645135
def bc4 (x : Int32) : Int32 := x + (x.toUInt32 >>> ((nI 8).toUInt32 &&& Int32.toUInt32 31)).toInt32
def bc5 (x : Int32) : Int32 := x + (x.toUInt32 >>> ((nI 16).toUInt32 &&& Int32.toUInt32 31)).toInt32
def bcI (x : Int32) : Int32 := bc5 (bc4 (bc3 (bc2 (bc1 x)))) &&& nI 63
set_option maxHeartbeats 4000000 in
set_option maxRecDepth 100000 in
theorem c_bitCount {E : Ev} {B : Bool} {N : Nat} {h : Hp} (x : Int32) : Ct E yJ6_bitCount_0f7a4 cJ6_bitCount_0f7a4 1 (some .int) ({ frames := 0, cells := 0, slots := 0, locals := 0 } : Room) B N [.int x] h N 0 0 (Ff (some (.int (bcI x))) h) := by
  refine Ct.ofVF (by decide +kernel) (Nat.le_of_ble_eq_true rfl) (fun X hnm => ?_)
  show V E X _ RJ6 _ _ _ _ _ _ B N 0 [(0, .int x)] [] _
  refine v_iload_n (pc := 0) 0 dJ6_bitCount_0f7a4_0 rfl rfl ?_
  refine v_iload_n (pc := 1) 0 dJ6_bitCount_0f7a4_1 rfl rfl ?_
  refine v_iconst (pc := 2) (nI 1) dJ6_bitCount_0f7a4_2 kI_1 ?_
  refine v_iushr (pc := 3) dJ6_bitCount_0f7a4_3 ?_
  refine v_ldcw (pc := 4) _ kc_J6_265 dJ6_bitCount_0f7a4_4 rfl ?_
  refine v_iand (pc := 7) dJ6_bitCount_0f7a4_7 ?_
  refine v_isub (pc := 8) dJ6_bitCount_0f7a4_8 ?_
  refine v_istore_n (pc := 9) [0] [(0, _)] dJ6_bitCount_0f7a4_9 rfl (by decide) rfl ?_
  refine v_iload_n (pc := 10) 0 dJ6_bitCount_0f7a4_10 rfl rfl ?_
  refine v_ldcw (pc := 11) _ kc_J6_266 dJ6_bitCount_0f7a4_11 rfl ?_
  refine v_iand (pc := 14) dJ6_bitCount_0f7a4_14 ?_
  refine v_iload_n (pc := 15) 0 dJ6_bitCount_0f7a4_15 rfl rfl ?_
  refine v_iconst (pc := 16) (nI 2) dJ6_bitCount_0f7a4_16 kI_2 ?_
  refine v_iushr (pc := 17) dJ6_bitCount_0f7a4_17 ?_
  refine v_ldcw (pc := 18) _ kc_J6_266 dJ6_bitCount_0f7a4_18 rfl ?_
  refine v_iand (pc := 21) dJ6_bitCount_0f7a4_21 ?_
  refine v_iadd (pc := 22) dJ6_bitCount_0f7a4_22 ?_
  refine v_istore_n (pc := 23) [0] [(0, _)] dJ6_bitCount_0f7a4_23 rfl (by decide) rfl ?_
  refine v_iload_n (pc := 24) 0 dJ6_bitCount_0f7a4_24 rfl rfl ?_
  refine v_iload_n (pc := 25) 0 dJ6_bitCount_0f7a4_25 rfl rfl ?_
  refine v_iconst (pc := 26) (nI 4) dJ6_bitCount_0f7a4_26 kI_4 ?_
  refine v_iushr (pc := 27) dJ6_bitCount_0f7a4_27 ?_
  refine v_iadd (pc := 28) dJ6_bitCount_0f7a4_28 ?_
  refine v_ldcw (pc := 29) _ kc_J6_267 dJ6_bitCount_0f7a4_29 rfl ?_
  refine v_iand (pc := 32) dJ6_bitCount_0f7a4_32 ?_
  refine v_istore_n (pc := 33) [0] [(0, _)] dJ6_bitCount_0f7a4_33 rfl (by decide) rfl ?_
  refine v_iload_n (pc := 34) 0 dJ6_bitCount_0f7a4_34 rfl rfl ?_
  refine v_iload_n (pc := 35) 0 dJ6_bitCount_0f7a4_35 rfl rfl ?_
  refine v_bipush (pc := 36) (nI 8) dJ6_bitCount_0f7a4_36 kB_8 ?_
  refine v_iushr (pc := 38) dJ6_bitCount_0f7a4_38 ?_
  refine v_iadd (pc := 39) dJ6_bitCount_0f7a4_39 ?_
  refine v_istore_n (pc := 40) [0] [(0, _)] dJ6_bitCount_0f7a4_40 rfl (by decide) rfl ?_
  refine v_iload_n (pc := 41) 0 dJ6_bitCount_0f7a4_41 rfl rfl ?_
  refine v_iload_n (pc := 42) 0 dJ6_bitCount_0f7a4_42 rfl rfl ?_
  refine v_bipush (pc := 43) (nI 16) dJ6_bitCount_0f7a4_43 kB_16 ?_
  refine v_iushr (pc := 45) dJ6_bitCount_0f7a4_45 ?_
  refine v_iadd (pc := 46) dJ6_bitCount_0f7a4_46 ?_
  refine v_istore_n (pc := 47) [0] [(0, _)] dJ6_bitCount_0f7a4_47 rfl (by decide) rfl ?_
  refine v_iload_n (pc := 48) 0 dJ6_bitCount_0f7a4_48 rfl rfl ?_
  refine v_bipush (pc := 49) (nI 63) dJ6_bitCount_0f7a4_49 kB_63 ?_
  refine v_iand (pc := 51) dJ6_bitCount_0f7a4_51 ?_
  exact v_iret (pc := 52) dJ6_bitCount_0f7a4_52 (⟨rfl, rfl⟩)
def opB (o : Fn) (p d : Nat) : Bool := decide (¬ o d ≤ 0) && !(hasB (nI p) (nI d))
def st_fill (dt cr o : Fn) (p d : Nat) (h : Fn) : Fn := if hasB (nI p) (nI d) = true then upd (upd h (dt d).toNatClampNeg (h (dt d).toNatClampNeg - o d)) (cr d).toNatClampNeg (upd h (dt d).toNatClampNeg (h (dt d).toNatClampNeg - o d) (cr d).toNatClampNeg + o d) else h
def fillH (dt cr o b : Fn) (p nd : Nat) (h : Fn) : Fn := itn (st_fill dt cr o p) nd (va_cpy b h 0 0 7)
def offerB (be : Fn) (q : Nat) (v : Int32) : Fn := if be q = -1 ∨ v < be q then upd be q v else be
def sets0 (be : Fn) : Fn := upd (itn (fun i f => upd f i (-1)) 512 be) 0 (nI 0)
def aoN (o : Fn) (nd : Nat) : Nat := itn (fun d s => s ||| (if o d ≤ 0 then 0 else 2 ^ d)) nd 0
theorem aoN_lt (o : Fn) : ∀ nd, aoN o nd < 2 ^ nd
  | 0 => Nat.one_pos
  | nd + 1 => by
    show aoN o nd ||| (if o nd ≤ 0 then 0 else 2 ^ nd) < 2 ^ (nd + 1)
    have h := aoN_lt o nd
    refine Nat.or_lt_two_pow (by rw [Nat.pow_succ]; omega) ?_
    split
    · exact Nat.pos_of_ne_zero (by simp)
    · exact Nat.pow_lt_pow_right (by decide) (by omega)
theorem pow9 {nd : Nat} (h : nd ≤ 9) : 2 ^ nd ≤ 512 := Nat.pow_le_pow_right (by decide) h
def pickR (size mp rh rw_ : Int32) : Int32 × Int32 := if mp < size ∨ (size = mp ∧ rh < rw_) then (size, rh) else (mp, rw_)
def st_offR (dt o h : Fn) (p : Nat) (rh : Int32) (d : Nat) (be : Fn) : Fn := if opB o p d = true ∧ ¬ h (dt d).toNatClampNeg < o d then offerB be (p ||| 2 ^ d) (rh * nI 10 + nI d + nI 1) else be
def st_long (dt cr o b : Fn) (nd p : Nat) (s : Int32 × Int32 × Fn × Fn) : Int32 × Int32 × Fn × Fn := if s.2.2.2 p = -1 then s else ((pickR (bcI (nI p)) s.1 (s.2.2.2 p) s.2.1).1, (pickR (bcI (nI p)) s.1 (s.2.2.2 p) s.2.1).2, fillH dt cr o b p nd s.2.2.1, itn (st_offR dt o (fillH dt cr o b p nd s.2.2.1) p (s.2.2.2 p)) nd s.2.2.2)
def longR (dt cr o b : Fn) (nd : Nat) (S : SettV) : Int32 × Int32 × Fn × Fn := itn (st_long dt cr o b nd) (2 ^ nd) (nI 0, nI 0, S.1, sets0 S.2)
def st_offF (dt o h : Fn) (p : Nat) (q mh : Int32) (d : Nat) (be : Fn) : Fn := if opB o p d = true ∧ (o d - h (dt d).toNatClampNeg ≤ 0 ∨ dt d = q) then offerB be (p ||| 2 ^ d) (mxI mh (o d - h (dt d).toNatClampNeg)) else be
def st_flo (dt cr o b : Fn) (nd : Nat) (q : Int32) (p : Nat) (s : Fn × Fn) : Fn × Fn := if s.2 p = -1 then s else (fillH dt cr o b p nd s.1, itn (st_offF dt o (fillH dt cr o b p nd s.1) p q (s.2 p)) nd s.2)
def floR (dt cr o b : Fn) (nd : Nat) (q : Int32) (S : SettV) : Fn × Fn := itn (st_flo dt cr o b nd q) (2 ^ nd) (S.1, sets0 S.2)
def floV (o : Fn) (nd : Nat) (be : Fn) : Int32 := if nI 999 < be (aoN o nd) then -1 else be (aoN o nd)
set_option maxHeartbeats 4000000 in
set_option maxRecDepth 100000 in
theorem c_sets {E : Ev} {σ : Sg} {ht be : Fn} : Ct E yX4_beginSets cX4_beginSets 2 none ({ frames := 0, cells := 0, slots := 0, locals := 0 } : Room) false 146 [.ref (Ez E + 112)] (cellOf E (sSt σ (ht, be))) 146 0 0 (Ff none (cellOf E (sSt σ (ht, sets0 be)))) := by
  refine Ct.ofV (by decide) (Nat.le_of_ble_eq_true rfl) (fun X hnm => ?_)
  show V E X _ RX4 _ _ _ _ _ _ false 146 0 [(0, .ref (Ez E + 112))] [] _
  refine v_iconst (pc := 0) (nI 0) dX4_beginSets_0 kI_0 ?_
  refine v_istore_n (pc := 1) [1, 0] [(0, _), (1, _)] dX4_beginSets_1 rfl (by decide) rfl ?_
  refine dn (P := fun i => V E X ({ frames := 0, cells := 0, slots := 0, locals := 0 } : Room) RX4 cX4_beginSets 2 none 0 0 (QX E X false 146 (Ff none (cellOf E (sSt σ (ht, sets0 be)))) 0 0) false 146 2 [(0, .ref (Ez E + 112)), (1, .int (nI i))] [] (cellOf E (sSt σ (ht, itn (fun i f => upd f i (-1)) i be)))) (N := 512) ?_ ?_
  · refine v_iload_n (pc := 2) 1 dX4_beginSets_2 rfl rfl ?_
    refine v_aload_n (pc := 3) 0 dX4_beginSets_3 rfl rfl ?_
    refine g_X4_15 (pc := 4) (cLr_obj rfl) (by decide) rfl dX4_beginSets_4 ?_
    refine v_alen (pc := 7) 0 (nI 512) (cLr_be rfl) (by decide) rfl rfl dX4_beginSets_7 ?_
    refine v_icmp_geN (pc := 8) (by omega) (by omega) (tgt := 24) dX4_beginSets_8 rfl (fun c_8 => ?_) (fun c_8 => False.elim ((fun c => by omega) c_8))
    refine v_aload_n (pc := 24) 0 dX4_beginSets_24 rfl rfl ?_
    refine g_X4_15 (pc := 25) (cLr_obj rfl) (by decide) rfl dX4_beginSets_25 ?_
    refine v_iconst (pc := 28) (nI 0) dX4_beginSets_28 kI_0 ?_
    refine v_iconst (pc := 29) (nI 0) dX4_beginSets_29 kI_0 ?_
    refine v_iastN (pc := 30) (cLr_be rfl) (by decide) (by omega) (by decide) dX4_beginSets_30 (wL_be) ?_
    exact v_vret (pc := 31) dX4_beginSets_31 (⟨rfl, rfl⟩)
  · intro i hi ih
    refine v_iload_n (pc := 2) 1 dX4_beginSets_2 rfl rfl ?_
    refine v_aload_n (pc := 3) 0 dX4_beginSets_3 rfl rfl ?_
    refine g_X4_15 (pc := 4) (cLr_obj rfl) (by decide) rfl dX4_beginSets_4 ?_
    refine v_alen (pc := 7) 0 (nI 512) (cLr_be rfl) (by decide) rfl rfl dX4_beginSets_7 ?_
    refine v_icmp_geN (pc := 8) (by omega) (by omega) (tgt := 24) dX4_beginSets_8 rfl (fun c_8 => False.elim ((fun c => by omega) c_8)) (fun c_8 => ?_)
    refine v_aload_n (pc := 11) 0 dX4_beginSets_11 rfl rfl ?_
    refine g_X4_15 (pc := 12) (cLr_obj rfl) (by decide) rfl dX4_beginSets_12 ?_
    refine v_iload_n (pc := 15) 1 dX4_beginSets_15 rfl rfl ?_
    refine v_iconst (pc := 16) (-1) dX4_beginSets_16 kI_m1 ?_
    refine v_iastN (pc := 17) (cLr_be rfl) (by decide) (by omega) (by decide) dX4_beginSets_17 (wL_be) ?_
    refine v_iincN (pc := 18) 1 [1, 0] [(0, _), (1, _)] kI_1 dX4_beginSets_18 rfl (by decide) rfl ?_
    refine v_goto (pc := 21) (tgt := 2) dX4_beginSets_21 rfl ?_
    exact ih
set_option maxHeartbeats 4000000 in
set_option maxRecDepth 100000 in
theorem c_offer {E : Ev} {σ : Sg} {ht be : Fn} {q : Nat} (hq : q < 512) (v : Int32) : Ct E yX4_offer cX4_offer 3 none ({ frames := 0, cells := 0, slots := 0, locals := 0 } : Room) false 146 [.ref (Ez E + 112), .int (nI q), .int v] (cellOf E (sSt σ (ht, be))) 146 0 0 (Ff none (cellOf E (sSt σ (ht, offerB be q v)))) := by
  refine Ct.ofV (by decide) (Nat.le_of_ble_eq_true rfl) (fun X hnm => ?_)
  show V E X _ RX4 _ _ _ _ _ _ false 146 0 [(0, .ref (Ez E + 112)), (1, .int (nI q)), (2, .int v)] [] _
  refine v_aload_n (pc := 0) 0 dX4_offer_0 rfl rfl ?_
  refine g_X4_15 (pc := 1) (cLr_obj rfl) (by decide) rfl dX4_offer_1 ?_
  refine v_iload_n (pc := 4) 1 dX4_offer_4 rfl rfl ?_
  refine v_ialdN (pc := 5) (cLr_be rfl) (by decide) (by omega) (by decide) dX4_offer_5 ?_
  refine v_iconst (pc := 6) (-1) dX4_offer_6 kI_m1 ?_
  refine v_icmp_eq (pc := 7) (tgt := 20) dX4_offer_7 rfl (fun c_7 => ?_) (fun c_7 => ?_)
  · refine v_aload_n (pc := 20) 0 dX4_offer_20 rfl rfl ?_
    refine g_X4_15 (pc := 21) (cLr_obj rfl) (by decide) rfl dX4_offer_21 ?_
    refine v_iload_n (pc := 24) 1 dX4_offer_24 rfl rfl ?_
    refine v_iload_n (pc := 25) 2 dX4_offer_25 rfl rfl ?_
    refine v_iastN (pc := 26) (cLr_be rfl) (by decide) (by omega) (by decide) dX4_offer_26 (wL_be) ?_
    exact v_vret (pc := 27) dX4_offer_27 (⟨rfl, by first | (rw [show offerB be q v = _ from if_pos (Or.inl (by assumption))]; done) | (rw [show offerB be q v = _ from if_pos (Or.inr (by first | assumption | exact Int32.not_le.mp (by assumption)))]; done) | (rw [show offerB be q v = _ from if_neg (by rintro (q | q) <;> first | exact absurd q (by assumption) | exact absurd q (Int32.not_lt.mpr (by assumption)))])⟩)
  · refine v_iload_n (pc := 10) 2 dX4_offer_10 rfl rfl ?_
    refine v_aload_n (pc := 11) 0 dX4_offer_11 rfl rfl ?_
    refine g_X4_15 (pc := 12) (cLr_obj rfl) (by decide) rfl dX4_offer_12 ?_
    refine v_iload_n (pc := 15) 1 dX4_offer_15 rfl rfl ?_
    refine v_ialdN (pc := 16) (cLr_be rfl) (by decide) (by omega) (by decide) dX4_offer_16 ?_
    refine v_icmp_ge (pc := 17) (tgt := 27) dX4_offer_17 rfl (fun c_17 => ?_) (fun c_17 => ?_)
    · exact v_vret (pc := 27) dX4_offer_27 (⟨rfl, by first | (rw [show offerB be q v = _ from if_pos (Or.inl (by assumption))]; done) | (rw [show offerB be q v = _ from if_pos (Or.inr (by first | assumption | exact Int32.not_le.mp (by assumption)))]; done) | (rw [show offerB be q v = _ from if_neg (by rintro (q | q) <;> first | exact absurd q (by assumption) | exact absurd q (Int32.not_lt.mpr (by assumption)))])⟩)
    · refine v_aload_n (pc := 20) 0 dX4_offer_20 rfl rfl ?_
      refine g_X4_15 (pc := 21) (cLr_obj rfl) (by decide) rfl dX4_offer_21 ?_
      refine v_iload_n (pc := 24) 1 dX4_offer_24 rfl rfl ?_
      refine v_iload_n (pc := 25) 2 dX4_offer_25 rfl rfl ?_
      refine v_iastN (pc := 26) (cLr_be rfl) (by decide) (by omega) (by decide) dX4_offer_26 (wL_be) ?_
      exact v_vret (pc := 27) dX4_offer_27 (⟨rfl, by first | (rw [show offerB be q v = _ from if_pos (Or.inl (by assumption))]; done) | (rw [show offerB be q v = _ from if_pos (Or.inr (by first | assumption | exact Int32.not_le.mp (by assumption)))]; done) | (rw [show offerB be q v = _ from if_neg (by rintro (q | q) <;> first | exact absurd q (by assumption) | exact absurd q (Int32.not_lt.mpr (by assumption)))])⟩)
set_option maxHeartbeats 4000000 in
set_option maxRecDepth 100000 in
theorem c_open {E : Ev} {σ : Sg} {t hr nt rg pe : Int32} {b c o p : Fn} (hG : gF σ 0 = (t, hr, nt, rg, pe, b, c, o, p)) {q d : Nat} (hd_ : d < 9) : Ct E yX4_isOpen cX4_isOpen 3 (some .boolean) ({ frames := 1, cells := 0, slots := 0, locals := 21 } : Room) false 146 [.ref (Ez E + adr 0), .int (nI q), .int (nI d)] (cellOf E σ) 146 0 0 (Ff (some (.int (bI (opB o q d)))) (cellOf E σ)) := by
  refine Ct.ofV (by decide) (Nat.le_of_ble_eq_true rfl) (fun X hnm => ?_)
  show V E X _ RX4 _ _ _ _ _ _ false 146 0 [(0, .ref (Ez E + adr 0)), (1, .int (nI q)), (2, .int (nI d))] [] _
  refine v_aload_n (pc := 0) 0 dX4_isOpen_0 rfl rfl ?_
  refine g_X4_44 (pc := 1) (cFr_obj (k := 0) (by decide) hG) (adr_lt0 (k := 0) (by decide)) rfl dX4_isOpen_1 ?_
  refine v_iload_n (pc := 4) 2 dX4_isOpen_4 rfl rfl ?_
  refine v_ialdN (pc := 5) (cFr_o (k := 0) (by decide) hG) (adr_lt (k := 0) (by decide) (by decide)) (by omega) (by decide) dX4_isOpen_5 ?_
  refine v_if_le (pc := 6) (tgt := 21) dX4_isOpen_6 rfl (fun c_6 => ?_) (fun c_6 => ?_)
  · refine v_iconst (pc := 21) (nI 0) dX4_isOpen_21 kI_0 ?_
    exact v_zret (pc := 22) dX4_isOpen_22 ((by rfl)) (⟨by unfold opB; first | (rw [decide_eq_true (show ¬ o d ≤ 0 by first | assumption | exact Int32.not_le.mpr (by assumption)), show hasB (nI q) (nI d) = true by assumption]; rfl) | (rw [decide_eq_true (show ¬ o d ≤ 0 by first | assumption | exact Int32.not_le.mpr (by assumption)), show hasB (nI q) (nI d) = false by assumption]; rfl) | (rw [decide_eq_false (show ¬ ¬ o d ≤ 0 from fun z => z (by assumption))]; rfl), rfl⟩)
  · refine v_iload_n (pc := 9) 1 dX4_isOpen_9 rfl rfl ?_
    refine v_iload_n (pc := 10) 2 dX4_isOpen_10 rfl rfl ?_
    refine v_callSN (pc := 11) _ _ k_X4_63 (c_has _ _) ⟨rfl, rfl, by decide⟩ rfl rfl (Nat.le_of_ble_eq_true rfl) ⟨Nat.le_of_ble_eq_true rfl, Nat.le_of_ble_eq_true rfl⟩ dX4_isOpen_11 (unS ?_)
    show V E X _ RX4 _ _ _ 0 0 _ false 146 14 _ [_] _
    refine v_if_neB (pc := 14) (tgt := 21) dX4_isOpen_14 rfl (fun c_14 => ?_) (fun c_14 => ?_)
    · refine v_iconst (pc := 21) (nI 0) dX4_isOpen_21 kI_0 ?_
      exact v_zret (pc := 22) dX4_isOpen_22 ((by rfl)) (⟨by unfold opB; first | (rw [decide_eq_true (show ¬ o d ≤ 0 by first | assumption | exact Int32.not_le.mpr (by assumption)), show hasB (nI q) (nI d) = true by assumption]; rfl) | (rw [decide_eq_true (show ¬ o d ≤ 0 by first | assumption | exact Int32.not_le.mpr (by assumption)), show hasB (nI q) (nI d) = false by assumption]; rfl) | (rw [decide_eq_false (show ¬ ¬ o d ≤ 0 from fun z => z (by assumption))]; rfl), rfl⟩)
    · refine v_iconst (pc := 17) (nI 1) dX4_isOpen_17 kI_1 ?_
      refine v_goto (pc := 18) (tgt := 22) dX4_isOpen_18 rfl ?_
      exact v_zret (pc := 22) dX4_isOpen_22 ((by rfl)) (⟨by unfold opB; first | (rw [decide_eq_true (show ¬ o d ≤ 0 by first | assumption | exact Int32.not_le.mpr (by assumption)), show hasB (nI q) (nI d) = true by assumption]; rfl) | (rw [decide_eq_true (show ¬ o d ≤ 0 by first | assumption | exact Int32.not_le.mpr (by assumption)), show hasB (nI q) (nI d) = false by assumption]; rfl) | (rw [decide_eq_false (show ¬ ¬ o d ≤ 0 from fun z => z (by assumption))]; rfl), rfl⟩)
theorem c_openL {E : Ev} {σ : Sg} {S : SettV} {t hr nt rg pe : Int32} {b c o p : Fn} (hG : gF σ 0 = (t, hr, nt, rg, pe, b, c, o, p)) {q d : Nat} (hd_ : d < 9) : Ct E yX4_isOpen cX4_isOpen 3 (some .boolean) ({ frames := 1, cells := 0, slots := 0, locals := 21 } : Room) false 146 [.ref (Ez E + adr 0), .int (nI q), .int (nI d)] (cellOf E (sSt σ S)) 146 0 0 (Ff (some (.int (bI (opB o q d)))) (cellOf E (sSt σ S))) := c_open (σ := sSt σ S) hG hd_
set_option maxHeartbeats 4000000 in
set_option maxRecDepth 100000 in
theorem c_allOpen {E : Ev} {σ : Sg} {ht be : Fn} {j np nd : Nat} {sd du tr : Int32} {kd bd dr dt cr ow : Fn} (hj : j < 2) (hP : gP σ j = (sd, du, tr, nI np, nI nd, kd, bd, dr, dt, cr, ow)) (hnp : np ≤ 7) (hnd : nd ≤ 9) {t hr nt rg pe : Int32} {b c o p : Fn} (hG : gF σ 0 = (t, hr, nt, rg, pe, b, c, o, p)) (hdt : ∀ d, d < nd → vp_in (dt d) 7) (hcr : ∀ d, d < nd → vp_in (cr d) 7) : Ct E yX4_allOpen cX4_allOpen 4 (some .int) ({ frames := 0, cells := 0, slots := 0, locals := 0 } : Room) false 146 [.ref (Ez E + pad j), .ref (Ez E + adr 0)] (cellOf E (sSt σ (ht, be))) 146 0 0 (Ff (some (.int (nI (aoN o nd)))) (cellOf E (sSt σ (ht, be)))) := by
  refine Ct.ofV (by decide) (Nat.le_of_ble_eq_true rfl) (fun X hnm => ?_)
  show V E X _ RX4 _ _ _ _ _ _ false 146 0 [(0, .ref (Ez E + pad j)), (1, .ref (Ez E + adr 0))] [] _
  refine v_iconst (pc := 0) (nI 0) dX4_allOpen_0 kI_0 ?_
  refine v_istore_n (pc := 1) [1, 2, 0] [(0, _), (1, _), (2, _)] dX4_allOpen_1 rfl (by decide) rfl ?_
  refine v_iconst (pc := 2) (nI 0) dX4_allOpen_2 kI_0 ?_
  refine v_istore_n (pc := 3) [1, 2, 3, 0] [(0, _), (1, _), (2, _), (3, _)] dX4_allOpen_3 rfl (by decide) rfl ?_
  refine dn (P := fun i => V E X ({ frames := 0, cells := 0, slots := 0, locals := 0 } : Room) RX4 cX4_allOpen 4 (some .int) 0 0 (QX E X false 146 (Ff (some (.int (nI (aoN o nd)))) (cellOf E (sSt σ (ht, be)))) 0 0) false 146 4 [(0, .ref (Ez E + pad j)), (1, .ref (Ez E + adr 0)), (2, .int (nI (aoN o i))), (3, .int (nI i))] [] (cellOf E (sSt σ (ht, be)))) (N := nd) ?_ ?_
  · refine v_iload_n (pc := 4) 3 dX4_allOpen_4 rfl rfl ?_
    refine v_aload_n (pc := 5) 0 dX4_allOpen_5 rfl rfl ?_
    refine g_X4_21 (pc := 6) (cPr_obj hj hP) (pad_lt0 hj) rfl dX4_allOpen_6 ?_
    refine v_icmp_geN (pc := 9) (by omega) (by omega) (tgt := 37) dX4_allOpen_9 rfl (fun c_9 => ?_) (fun c_9 => False.elim ((fun c => by omega) c_9))
    refine v_iload_n (pc := 37) 2 dX4_allOpen_37 rfl rfl ?_
    exact v_iret (pc := 38) dX4_allOpen_38 (⟨rfl, rfl⟩)
  · intro i hi ih
    refine v_iload_n (pc := 4) 3 dX4_allOpen_4 rfl rfl ?_
    refine v_aload_n (pc := 5) 0 dX4_allOpen_5 rfl rfl ?_
    refine g_X4_21 (pc := 6) (cPr_obj hj hP) (pad_lt0 hj) rfl dX4_allOpen_6 ?_
    refine v_icmp_geN (pc := 9) (by omega) (by omega) (tgt := 37) dX4_allOpen_9 rfl (fun c_9 => False.elim ((fun c => by omega) c_9)) (fun c_9 => ?_)
    refine v_iload_n (pc := 12) 2 dX4_allOpen_12 rfl rfl ?_
    refine v_aload_n (pc := 13) 1 dX4_allOpen_13 rfl rfl ?_
    refine g_X4_44 (pc := 14) (cFr_obj (k := 0) (by decide) hG) (adr_lt0 (k := 0) (by decide)) rfl dX4_allOpen_14 ?_
    refine v_iload_n (pc := 17) 3 dX4_allOpen_17 rfl rfl ?_
    refine v_ialdN (pc := 18) (cFr_o (k := 0) (by decide) hG) (adr_lt (k := 0) (by decide) (by decide)) (by omega) (by decide) dX4_allOpen_18 ?_
    refine v_if_le (pc := 19) (tgt := 28) dX4_allOpen_19 rfl (fun c_19 => ?_) (fun c_19 => ?_)
    · refine v_iconst (pc := 28) (nI 0) dX4_allOpen_28 kI_0 ?_
      refine v_ior (pc := 29) dX4_allOpen_29 ?_
      rw [or_n]
      refine v_istore_n (pc := 30) [1, 2, 0, 3] [(0, _), (1, _), (2, _), (3, _)] dX4_allOpen_30 rfl (by decide) rfl ?_
      refine v_iincN (pc := 31) 3 [1, 2, 3, 0] [(0, _), (1, _), (2, _), (3, _)] kI_1 dX4_allOpen_31 rfl (by decide) rfl ?_
      refine v_goto (pc := 34) (tgt := 4) dX4_allOpen_34 rfl ?_
      first
        | (rw [show aoN o (i + 1) = aoN o i ||| 0 from by show _ ||| (if o i ≤ 0 then _ else _) = _; rw [if_pos (by assumption)]; rfl] at ih; exact ih)
        | (rw [show aoN o (i + 1) = aoN o i ||| 2 ^ i from by show _ ||| (if o i ≤ 0 then _ else _) = _; rw [if_neg (by first | assumption | exact Int32.not_le.mpr (by assumption))]; rfl] at ih; exact ih)
    · refine v_iconst (pc := 22) (nI 1) dX4_allOpen_22 kI_1 ?_
      refine v_iload_n (pc := 23) 3 dX4_allOpen_23 rfl rfl ?_
      refine v_ishl (pc := 24) dX4_allOpen_24 ?_
      rw [shl1 (by omega)]
      refine v_goto (pc := 25) (tgt := 29) dX4_allOpen_25 rfl ?_
      refine v_ior (pc := 29) dX4_allOpen_29 ?_
      rw [or_n]
      refine v_istore_n (pc := 30) [1, 2, 0, 3] [(0, _), (1, _), (2, _), (3, _)] dX4_allOpen_30 rfl (by decide) rfl ?_
      refine v_iincN (pc := 31) 3 [1, 2, 3, 0] [(0, _), (1, _), (2, _), (3, _)] kI_1 dX4_allOpen_31 rfl (by decide) rfl ?_
      refine v_goto (pc := 34) (tgt := 4) dX4_allOpen_34 rfl ?_
      first
        | (rw [show aoN o (i + 1) = aoN o i ||| 0 from by show _ ||| (if o i ≤ 0 then _ else _) = _; rw [if_pos (by assumption)]; rfl] at ih; exact ih)
        | (rw [show aoN o (i + 1) = aoN o i ||| 2 ^ i from by show _ ||| (if o i ≤ 0 then _ else _) = _; rw [if_neg (by first | assumption | exact Int32.not_le.mpr (by assumption))]; rfl] at ih; exact ih)
set_option maxHeartbeats 4000000 in
set_option maxRecDepth 100000 in
theorem c_fill {E : Ev} {σ : Sg} {ht be : Fn} {j np nd : Nat} {sd du tr : Int32} {kd bd dr dt cr ow : Fn} (hj : j < 2) (hP : gP σ j = (sd, du, tr, nI np, nI nd, kd, bd, dr, dt, cr, ow)) (hnp : np ≤ 7) (hnd : nd ≤ 9) {t hr nt rg pe : Int32} {b c o p : Fn} (hG : gF σ 0 = (t, hr, nt, rg, pe, b, c, o, p)) (hdt : ∀ d, d < nd → vp_in (dt d) 7) (hcr : ∀ d, d < nd → vp_in (cr d) 7) {q : Nat} (hq : q < 512) : Ct E yX4_fillHats cX4_fillHats 5 none ({ frames := 1, cells := 0, slots := 0, locals := 40 } : Room) false 146 [.ref (Ez E + 112), .ref (Ez E + pad j), .ref (Ez E + adr 0), .int (nI q)] (cellOf E (sSt σ (ht, be))) 146 0 0 (Ff none (cellOf E (sSt σ (fillH dt cr o b q nd ht, be)))) := by
  refine Ct.ofV (by decide) (Nat.le_of_ble_eq_true rfl) (fun X hnm => ?_)
  show V E X _ RX4 _ _ _ _ _ _ false 146 0 [(0, .ref (Ez E + 112)), (1, .ref (Ez E + pad j)), (2, .ref (Ez E + adr 0)), (3, .int (nI q))] [] _
  refine v_aload_n (pc := 0) 2 dX4_fillHats_0 rfl rfl ?_
  refine g_X4_67 (pc := 1) (cFr_obj (k := 0) (by decide) hG) (adr_lt0 (k := 0) (by decide)) rfl dX4_fillHats_1 ?_
  refine v_iconst (pc := 4) (nI 0) dX4_fillHats_4 kI_0 ?_
  refine v_aload_n (pc := 5) 0 dX4_fillHats_5 rfl rfl ?_
  refine g_X4_9 (pc := 6) (cLr_obj rfl) (by decide) rfl dX4_fillHats_6 ?_
  refine v_iconst (pc := 9) (nI 0) dX4_fillHats_9 kI_0 ?_
  refine v_bipush (pc := 10) (nI 7) dX4_fillHats_10 kB_7 ?_
  refine v_copyN (pc := 12) ml_X4_70 (cFr_b (k := 0) (by decide) hG) (cLr_ht rfl) (adr_lt (k := 0) (by decide) (by decide)) (by decide) (by have := adr_cases (k := 0) (by decide); omega) (by decide) (by decide) (by decide) (by decide) (by decide) (by decide) dX4_fillHats_12 (wL_ht) ?_
  refine v_iconst (pc := 15) (nI 0) dX4_fillHats_15 kI_0 ?_
  refine v_istore (pc := 16) [1, 2, 3, 4, 0] [(0, _), (1, _), (2, _), (3, _), (4, _)] dX4_fillHats_16 (by decide) rfl ?_
  refine dn (P := fun i => V E X ({ frames := 1, cells := 0, slots := 0, locals := 40 } : Room) RX4 cX4_fillHats 5 none 0 0 (QX E X false 146 (Ff none (cellOf E (sSt σ (fillH dt cr o b q nd ht, be)))) 0 0) false 146 18 [(0, .ref (Ez E + 112)), (1, .ref (Ez E + pad j)), (2, .ref (Ez E + adr 0)), (3, .int (nI q)), (4, .int (nI i))] [] (cellOf E (sSt σ (itn (st_fill dt cr o q) i (va_cpy b ht 0 0 7), be)))) (N := nd) ?_ ?_
  · refine v_iload (pc := 18) 4 dX4_fillHats_18 rfl ?_
    refine v_aload_n (pc := 20) 1 dX4_fillHats_20 rfl rfl ?_
    refine g_X4_21 (pc := 21) (cPr_obj hj hP) (pad_lt0 hj) rfl dX4_fillHats_21 ?_
    refine v_icmp_geN (pc := 24) (by omega) (by omega) (tgt := 86) dX4_fillHats_24 rfl (fun c_24 => ?_) (fun c_24 => False.elim ((fun c => by omega) c_24))
    exact v_vret (pc := 86) dX4_fillHats_86 (⟨rfl, rfl⟩)
  · intro i hi ih
    have ih : V E X ({ frames := 1, cells := 0, slots := 0, locals := 40 } : Room) RX4 cX4_fillHats 5 none 0 0 (QX E X false 146 (Ff none (cellOf E (sSt σ (fillH dt cr o b q nd ht, be)))) 0 0) false 146 18 [(0, .ref (Ez E + 112)), (1, .ref (Ez E + pad j)), (2, .ref (Ez E + adr 0)), (3, .int (nI q)), (4, .int (nI (i + 1)))] [] (cellOf E (sSt σ (st_fill dt cr o q i (itn (st_fill dt cr o q) i (va_cpy b ht 0 0 7)), be))) := by rw [itn_s] at ih; exact ih
    generalize itn (st_fill dt cr o q) i (va_cpy b ht 0 0 7) = h1 at ih ⊢
    show V E X _ RX4 _ _ _ _ _ _ false 146 _ [(0, .ref (Ez E + 112)), (1, .ref (Ez E + pad j)), (2, .ref (Ez E + adr 0)), (3, .int (nI q)), (4, .int (nI i))] [] (cellOf E (sSt σ (h1, be)))
    refine v_iload (pc := 18) 4 dX4_fillHats_18 rfl ?_
    refine v_aload_n (pc := 20) 1 dX4_fillHats_20 rfl rfl ?_
    refine g_X4_21 (pc := 21) (cPr_obj hj hP) (pad_lt0 hj) rfl dX4_fillHats_21 ?_
    refine v_icmp_geN (pc := 24) (by omega) (by omega) (tgt := 86) dX4_fillHats_24 rfl (fun c_24 => False.elim ((fun c => by omega) c_24)) (fun c_24 => ?_)
    refine v_iload_n (pc := 27) 3 dX4_fillHats_27 rfl rfl ?_
    refine v_iload (pc := 28) 4 dX4_fillHats_28 rfl ?_
    refine v_callSN (pc := 30) _ _ k_X4_63 (c_has _ _) ⟨rfl, rfl, by decide⟩ rfl rfl (Nat.le_of_ble_eq_true rfl) ⟨Nat.le_of_ble_eq_true rfl, Nat.le_of_ble_eq_true rfl⟩ dX4_fillHats_30 (unS ?_)
    show V E X _ RX4 _ _ _ 0 0 _ false 146 33 _ [_] _
    refine v_if_eqB (pc := 33) (tgt := 80) dX4_fillHats_33 rfl (fun c_33 => ?_) (fun c_33 => ?_)
    · refine v_iincN (pc := 80) 4 [1, 2, 3, 4, 0] [(0, _), (1, _), (2, _), (3, _), (4, _)] kI_1 dX4_fillHats_80 rfl (by decide) rfl ?_
      refine v_goto (pc := 83) (tgt := 18) dX4_fillHats_83 rfl ?_
      first
        | (rw [show st_fill dt cr o q i h1 = _ from if_pos (by assumption)] at ih; exact ih)
        | (rw [show st_fill dt cr o q i h1 = _ from if_neg (by rw [show hasB (nI q) (nI i) = false by assumption]; decide)] at ih; exact ih)
    · refine v_aload_n (pc := 36) 0 dX4_fillHats_36 rfl rfl ?_
      refine g_X4_9 (pc := 37) (cLr_obj rfl) (by decide) rfl dX4_fillHats_37 ?_
      refine v_aload_n (pc := 40) 1 dX4_fillHats_40 rfl rfl ?_
      refine g_X4_41 (pc := 41) (cPr_obj hj hP) (pad_lt0 hj) rfl dX4_fillHats_41 ?_
      refine v_iload (pc := 44) 4 dX4_fillHats_44 rfl ?_
      refine v_ialdN (pc := 46) (cPr_dt hj hP) (pad_lt hj (by decide)) (by omega) (by decide) dX4_fillHats_46 ?_
      refine v_dup2 (pc := 47) dX4_fillHats_47 rfl rfl ?_
      refine v_iald (pc := 48) (cLr_ht rfl) (by decide) (hdt i (by omega)) dX4_fillHats_48 ?_
      refine v_aload_n (pc := 49) 2 dX4_fillHats_49 rfl rfl ?_
      refine g_X4_44 (pc := 50) (cFr_obj (k := 0) (by decide) hG) (adr_lt0 (k := 0) (by decide)) rfl dX4_fillHats_50 ?_
      refine v_iload (pc := 53) 4 dX4_fillHats_53 rfl ?_
      refine v_ialdN (pc := 55) (cFr_o (k := 0) (by decide) hG) (adr_lt (k := 0) (by decide) (by decide)) (by omega) (by decide) dX4_fillHats_55 ?_
      refine v_isub (pc := 56) dX4_fillHats_56 ?_
      refine v_iast (pc := 57) (cLr_ht rfl) (by decide) (hdt i (by omega)) dX4_fillHats_57 (wL_ht) ?_
      refine v_aload_n (pc := 58) 0 dX4_fillHats_58 rfl rfl ?_
      refine g_X4_9 (pc := 59) (cLr_obj rfl) (by decide) rfl dX4_fillHats_59 ?_
      refine v_aload_n (pc := 62) 1 dX4_fillHats_62 rfl rfl ?_
      refine g_X4_76 (pc := 63) (cPr_obj hj hP) (pad_lt0 hj) rfl dX4_fillHats_63 ?_
      refine v_iload (pc := 66) 4 dX4_fillHats_66 rfl ?_
      refine v_ialdN (pc := 68) (cPr_cr hj hP) (pad_lt hj (by decide)) (by omega) (by decide) dX4_fillHats_68 ?_
      refine v_dup2 (pc := 69) dX4_fillHats_69 rfl rfl ?_
      refine v_iald (pc := 70) (cLr_ht rfl) (by decide) (hcr i (by omega)) dX4_fillHats_70 ?_
      refine v_aload_n (pc := 71) 2 dX4_fillHats_71 rfl rfl ?_
      refine g_X4_44 (pc := 72) (cFr_obj (k := 0) (by decide) hG) (adr_lt0 (k := 0) (by decide)) rfl dX4_fillHats_72 ?_
      refine v_iload (pc := 75) 4 dX4_fillHats_75 rfl ?_
      refine v_ialdN (pc := 77) (cFr_o (k := 0) (by decide) hG) (adr_lt (k := 0) (by decide) (by decide)) (by omega) (by decide) dX4_fillHats_77 ?_
      refine v_iadd (pc := 78) dX4_fillHats_78 ?_
      refine v_iast (pc := 79) (cLr_ht rfl) (by decide) (hcr i (by omega)) dX4_fillHats_79 (wL_ht) ?_
      refine v_iincN (pc := 80) 4 [1, 2, 3, 4, 0] [(0, _), (1, _), (2, _), (3, _), (4, _)] kI_1 dX4_fillHats_80 rfl (by decide) rfl ?_
      refine v_goto (pc := 83) (tgt := 18) dX4_fillHats_83 rfl ?_
      first
        | (rw [show st_fill dt cr o q i h1 = _ from if_pos (by assumption)] at ih; exact ih)
        | (rw [show st_fill dt cr o q i h1 = _ from if_neg (by rw [show hasB (nI q) (nI i) = false by assumption]; decide)] at ih; exact ih)
theorem orlt {p d nd : Nat} (hp : p < 2 ^ nd) (hd : d < nd) (hnd : nd ≤ 9) : p ||| 2 ^ d < 512 := by
  have h := Nat.or_lt_two_pow hp (Nat.pow_lt_pow_right (by decide) hd : 2 ^ d < 2 ^ nd)
  have := pow9 hnd
  omega
set_option maxHeartbeats 4000000 in
set_option maxRecDepth 100000 in
theorem c_long {E : Ev} {σ : Sg} {ht be : Fn} {j np nd : Nat} {sd du tr : Int32} {kd bd dr dt cr ow : Fn} (hj : j < 2) (hP : gP σ j = (sd, du, tr, nI np, nI nd, kd, bd, dr, dt, cr, ow)) (hnp : np ≤ 7) (hnd : nd ≤ 9) {t hr nt rg pe : Int32} {b c o p : Fn} (hG : gF σ 0 = (t, hr, nt, rg, pe, b, c, o, p)) (hdt : ∀ d, d < nd → vp_in (dt d) 7) (hcr : ∀ d, d < nd → vp_in (cr d) 7) : Ct E yX4_longestRow cX4_longestRow 9 (some .int) ({ frames := 2, cells := 0, slots := 0, locals := 64 } : Room) false 146 [.ref (Ez E + 112), .ref (Ez E + pad j), .ref (Ez E + adr 0)] (cellOf E (sSt σ (ht, be))) 146 0 0 (Ff (some (.int (longR dt cr o b nd (ht, be)).2.1)) (cellOf E (sSt σ ((longR dt cr o b nd (ht, be)).2.2.1, (longR dt cr o b nd (ht, be)).2.2.2)))) := by
  have h2nd := pow9 hnd
  refine Ct.ofV (by decide) (Nat.le_of_ble_eq_true rfl) (fun X hnm => ?_)
  show V E X _ RX4 _ _ _ _ _ _ false 146 0 [(0, .ref (Ez E + 112)), (1, .ref (Ez E + pad j)), (2, .ref (Ez E + adr 0))] [] _
  refine v_aload_n (pc := 0) 0 dX4_longestRow_0 rfl rfl ?_
  refine v_callV (pc := 1) _ _ k_X4_18 (cLr_obj rfl) rfl (by decide) (c_sets) ⟨rfl, rfl, by decide⟩ rfl rfl (Nat.le_of_ble_eq_true rfl) ⟨Nat.le_of_ble_eq_true rfl, Nat.le_of_ble_eq_true rfl⟩ dX4_longestRow_1 (unS ?_)
  show V E X _ RX4 _ _ _ 0 0 _ false 146 4 _ [] _
  refine v_iconst (pc := 4) (nI 0) dX4_longestRow_4 kI_0 ?_
  refine v_istore_n (pc := 5) [1, 2, 3, 0] [(0, _), (1, _), (2, _), (3, _)] dX4_longestRow_5 rfl (by decide) rfl ?_
  refine v_iconst (pc := 6) (nI 0) dX4_longestRow_6 kI_0 ?_
  refine v_istore (pc := 7) [1, 2, 3, 4, 0] [(0, _), (1, _), (2, _), (3, _), (4, _)] dX4_longestRow_7 (by decide) rfl ?_
  refine v_iconst (pc := 9) (nI 0) dX4_longestRow_9 kI_0 ?_
  refine v_istore (pc := 10) [1, 2, 3, 4, 5, 0] [(0, _), (1, _), (2, _), (3, _), (4, _), (5, _)] dX4_longestRow_10 (by decide) rfl ?_
  refine dn (P := fun i => V E X ({ frames := 2, cells := 0, slots := 0, locals := 64 } : Room) RX4 cX4_longestRow 9 (some .int) 0 0 (QX E X false 146 (Ff (some (.int (longR dt cr o b nd (ht, be)).2.1)) (cellOf E (sSt σ ((longR dt cr o b nd (ht, be)).2.2.1, (longR dt cr o b nd (ht, be)).2.2.2)))) 0 0) false 146 12 [(0, .ref (Ez E + 112)), (1, .ref (Ez E + pad j)), (2, .ref (Ez E + adr 0)), (3, .int (itn (st_long dt cr o b nd) i (nI 0, nI 0, ht, sets0 be)).1), (4, .int (itn (st_long dt cr o b nd) i (nI 0, nI 0, ht, sets0 be)).2.1), (5, .int (nI i))] [] (cellOf E (sSt σ ((itn (st_long dt cr o b nd) i (nI 0, nI 0, ht, sets0 be)).2.2.1, (itn (st_long dt cr o b nd) i (nI 0, nI 0, ht, sets0 be)).2.2.2)))) (N := 2 ^ nd) ?_ ?_
  · refine v_iload (pc := 12) 5 dX4_longestRow_12 rfl ?_
    refine v_iconst (pc := 14) (nI 1) dX4_longestRow_14 kI_1 ?_
    refine v_aload_n (pc := 15) 1 dX4_longestRow_15 rfl rfl ?_
    refine g_X4_21 (pc := 16) (cPr_obj hj hP) (pad_lt0 hj) rfl dX4_longestRow_16 ?_
    refine v_ishl (pc := 19) dX4_longestRow_19 ?_
    rw [shl1 (by omega)]
    refine v_icmp_geN (pc := 20) (by omega) (by omega) (tgt := 160) dX4_longestRow_20 rfl (fun c_20 => ?_) (fun c_20 => False.elim ((fun c => by omega) c_20))
    refine v_iload (pc := 160) 4 dX4_longestRow_160 rfl ?_
    exact v_iret (pc := 162) dX4_longestRow_162 (⟨rfl, rfl⟩)
  · intro i hi ih
    have ih : V E X ({ frames := 2, cells := 0, slots := 0, locals := 64 } : Room) RX4 cX4_longestRow 9 (some .int) 0 0 (QX E X false 146 (Ff (some (.int (longR dt cr o b nd (ht, be)).2.1)) (cellOf E (sSt σ ((longR dt cr o b nd (ht, be)).2.2.1, (longR dt cr o b nd (ht, be)).2.2.2)))) 0 0) false 146 12 [(0, .ref (Ez E + 112)), (1, .ref (Ez E + pad j)), (2, .ref (Ez E + adr 0)), (3, .int (st_long dt cr o b nd i (itn (st_long dt cr o b nd) i (nI 0, nI 0, ht, sets0 be))).1), (4, .int (st_long dt cr o b nd i (itn (st_long dt cr o b nd) i (nI 0, nI 0, ht, sets0 be))).2.1), (5, .int (nI (i + 1)))] [] (cellOf E (sSt σ ((st_long dt cr o b nd i (itn (st_long dt cr o b nd) i (nI 0, nI 0, ht, sets0 be))).2.2.1, (st_long dt cr o b nd i (itn (st_long dt cr o b nd) i (nI 0, nI 0, ht, sets0 be))).2.2.2))) := by rw [itn_s] at ih; exact ih
    generalize itn (st_long dt cr o b nd) i (nI 0, nI 0, ht, sets0 be) = z_ at ih ⊢
    obtain ⟨mp, rw_, h1, be1⟩ := z_
    show V E X _ RX4 _ _ _ _ _ _ false 146 _ [(0, .ref (Ez E + 112)), (1, .ref (Ez E + pad j)), (2, .ref (Ez E + adr 0)), (3, .int mp), (4, .int rw_), (5, .int (nI i))] [] (cellOf E (sSt σ (h1, be1)))
    refine v_iload (pc := 12) 5 dX4_longestRow_12 rfl ?_
    refine v_iconst (pc := 14) (nI 1) dX4_longestRow_14 kI_1 ?_
    refine v_aload_n (pc := 15) 1 dX4_longestRow_15 rfl rfl ?_
    refine g_X4_21 (pc := 16) (cPr_obj hj hP) (pad_lt0 hj) rfl dX4_longestRow_16 ?_
    refine v_ishl (pc := 19) dX4_longestRow_19 ?_
    rw [shl1 (by omega)]
    refine v_icmp_geN (pc := 20) (by omega) (by omega) (tgt := 160) dX4_longestRow_20 rfl (fun c_20 => False.elim ((fun c => by omega) c_20)) (fun c_20 => ?_)
    refine v_aload_n (pc := 23) 0 dX4_longestRow_23 rfl rfl ?_
    refine g_X4_15 (pc := 24) (cLr_obj rfl) (by decide) rfl dX4_longestRow_24 ?_
    refine v_iload (pc := 27) 5 dX4_longestRow_27 rfl ?_
    refine v_ialdN (pc := 29) (cLr_be rfl) (by decide) (by omega) (by decide) dX4_longestRow_29 ?_
    refine v_istore (pc := 30) [1, 2, 3, 4, 5, 6, 0] [(0, _), (1, _), (2, _), (3, _), (4, _), (5, _), (6, _)] dX4_longestRow_30 (by decide) rfl ?_
    refine v_iload (pc := 32) 6 dX4_longestRow_32 rfl ?_
    refine v_iconst (pc := 34) (-1) dX4_longestRow_34 kI_m1 ?_
    refine v_icmp_ne (pc := 35) (tgt := 41) dX4_longestRow_35 rfl (fun c_35 => ?_) (fun c_35 => ?_)
    · refine v_iload (pc := 41) 5 dX4_longestRow_41 rfl ?_
      refine v_callS (pc := 43) _ _ k_X4_27 (c_bitCount _) ⟨rfl, rfl, by decide⟩ rfl rfl (Nat.le_of_ble_eq_true rfl) ⟨Nat.le_of_ble_eq_true rfl, Nat.le_of_ble_eq_true rfl⟩ dX4_longestRow_43 (unS ?_)
      show V E X _ RX4 _ _ _ 0 0 _ false 146 46 _ [_] _
      refine v_istore (pc := 46) [1, 2, 3, 4, 5, 6, 7, 0] [(0, _), (1, _), (2, _), (3, _), (4, _), (5, _), (6, _), (7, _)] dX4_longestRow_46 (by decide) rfl ?_
      refine v_iload (pc := 48) 7 dX4_longestRow_48 rfl ?_
      refine v_iload_n (pc := 50) 3 dX4_longestRow_50 rfl rfl ?_
      refine v_icmp_gt (pc := 51) (tgt := 67) dX4_longestRow_51 rfl (fun c_51 => ?_) (fun c_51 => ?_)
      · refine v_iload (pc := 67) 7 dX4_longestRow_67 rfl ?_
        refine v_istore_n (pc := 69) [1, 2, 3, 0, 4, 5, 6, 7] [(0, _), (1, _), (2, _), (3, _), (4, _), (5, _), (6, _), (7, _)] dX4_longestRow_69 rfl (by decide) rfl ?_
        refine v_iload (pc := 70) 6 dX4_longestRow_70 rfl ?_
        refine v_istore (pc := 72) [1, 2, 3, 4, 0, 5, 6, 7] [(0, _), (1, _), (2, _), (3, _), (4, _), (5, _), (6, _), (7, _)] dX4_longestRow_72 (by decide) rfl ?_
        refine v_aload_n (pc := 74) 0 dX4_longestRow_74 rfl rfl ?_
        refine v_aload_n (pc := 75) 1 dX4_longestRow_75 rfl rfl ?_
        refine v_aload_n (pc := 76) 2 dX4_longestRow_76 rfl rfl ?_
        refine v_iload (pc := 77) 5 dX4_longestRow_77 rfl ?_
        refine v_callV (pc := 79) _ _ k_X4_33 (cLr_obj rfl) rfl (by decide) (c_fill hj hP hnp hnd hG hdt hcr (by omega)) ⟨rfl, rfl, by decide⟩ rfl rfl (Nat.le_of_ble_eq_true rfl) ⟨Nat.le_of_ble_eq_true rfl, Nat.le_of_ble_eq_true rfl⟩ dX4_longestRow_79 (unS ?_)
        show V E X _ RX4 _ _ _ 0 0 _ false 146 82 _ [] _
        refine v_iconst (pc := 82) (nI 0) dX4_longestRow_82 kI_0 ?_
        refine v_istore (pc := 83) [1, 2, 3, 4, 5, 6, 7, 8, 0] [(0, _), (1, _), (2, _), (3, _), (4, _), (5, _), (6, _), (7, _), (8, _)] dX4_longestRow_83 (by decide) rfl ?_
        refine dn (P := fun e => V E X ({ frames := 2, cells := 0, slots := 0, locals := 64 } : Room) RX4 cX4_longestRow 9 (some .int) 0 0 (QX E X false 146 (Ff (some (.int (longR dt cr o b nd (ht, be)).2.1)) (cellOf E (sSt σ ((longR dt cr o b nd (ht, be)).2.2.1, (longR dt cr o b nd (ht, be)).2.2.2)))) 0 0) false 146 85 [(0, .ref (Ez E + 112)), (1, .ref (Ez E + pad j)), (2, .ref (Ez E + adr 0)), (3, .int (bcI (nI i))), (4, .int (be1 i)), (5, .int (nI i)), (6, .int (be1 i)), (7, .int (bcI (nI i))), (8, .int (nI e))] [] (cellOf E (sSt σ ((fillH dt cr o b i nd h1), itn (st_offR dt o (fillH dt cr o b i nd h1) i (be1 i)) e be1)))) (N := nd) ?_ ?_
        · refine v_iload (pc := 85) 8 dX4_longestRow_85 rfl ?_
          refine v_aload_n (pc := 87) 1 dX4_longestRow_87 rfl rfl ?_
          refine g_X4_21 (pc := 88) (cPr_obj hj hP) (pad_lt0 hj) rfl dX4_longestRow_88 ?_
          refine v_icmp_geN (pc := 91) (by omega) (by omega) (tgt := 154) dX4_longestRow_91 rfl (fun c_91 => ?_) (fun c_91 => False.elim ((fun c => by omega) c_91))
          refine v_iincN (pc := 154) 5 [1, 2, 3, 4, 5, 0, 6, 7, 8] [(0, _), (1, _), (2, _), (3, _), (4, _), (5, _), (6, _), (7, _), (8, _)] kI_1 dX4_longestRow_154 rfl (by decide) rfl ?_
          refine v_goto (pc := 157) (tgt := 12) dX4_longestRow_157 rfl ?_
          refine v_sub [0, 1, 2, 3, 4, 5] rfl ?_
          rw [show st_long dt cr o b nd i (mp, rw_, h1, be1) = _ from if_neg c_35, show pickR (bcI (nI i)) mp (be1 i) rw_ = _ from if_pos (Or.inl (by first | exact c_51 | exact Int32.not_le.mp c_51))] at ih
          exact ih
        · intro e he ih
          have ih : V E X ({ frames := 2, cells := 0, slots := 0, locals := 64 } : Room) RX4 cX4_longestRow 9 (some .int) 0 0 (QX E X false 146 (Ff (some (.int (longR dt cr o b nd (ht, be)).2.1)) (cellOf E (sSt σ ((longR dt cr o b nd (ht, be)).2.2.1, (longR dt cr o b nd (ht, be)).2.2.2)))) 0 0) false 146 85 [(0, .ref (Ez E + 112)), (1, .ref (Ez E + pad j)), (2, .ref (Ez E + adr 0)), (3, .int (bcI (nI i))), (4, .int (be1 i)), (5, .int (nI i)), (6, .int (be1 i)), (7, .int (bcI (nI i))), (8, .int (nI (e + 1)))] [] (cellOf E (sSt σ ((fillH dt cr o b i nd h1), st_offR dt o (fillH dt cr o b i nd h1) i (be1 i) e (itn (st_offR dt o (fillH dt cr o b i nd h1) i (be1 i)) e be1)))) := by rw [itn_s] at ih; exact ih
          generalize itn (st_offR dt o (fillH dt cr o b i nd h1) i (be1 i)) e be1 = be2 at ih ⊢
          show V E X _ RX4 _ _ _ _ _ _ false 146 _ [(0, .ref (Ez E + 112)), (1, .ref (Ez E + pad j)), (2, .ref (Ez E + adr 0)), (3, .int (bcI (nI i))), (4, .int (be1 i)), (5, .int (nI i)), (6, .int (be1 i)), (7, .int (bcI (nI i))), (8, .int (nI e))] [] (cellOf E (sSt σ ((fillH dt cr o b i nd h1), be2)))
          refine v_iload (pc := 85) 8 dX4_longestRow_85 rfl ?_
          refine v_aload_n (pc := 87) 1 dX4_longestRow_87 rfl rfl ?_
          refine g_X4_21 (pc := 88) (cPr_obj hj hP) (pad_lt0 hj) rfl dX4_longestRow_88 ?_
          refine v_icmp_geN (pc := 91) (by omega) (by omega) (tgt := 154) dX4_longestRow_91 rfl (fun c_91 => False.elim ((fun c => by omega) c_91)) (fun c_91 => ?_)
          refine v_aload_n (pc := 94) 2 dX4_longestRow_94 rfl rfl ?_
          refine v_iload (pc := 95) 5 dX4_longestRow_95 rfl ?_
          refine v_iload (pc := 97) 8 dX4_longestRow_97 rfl ?_
          refine v_callS (pc := 99) _ _ k_X4_37 (c_openL hG (by omega)) ⟨rfl, rfl, by decide⟩ rfl rfl (Nat.le_of_ble_eq_true rfl) ⟨Nat.le_of_ble_eq_true rfl, Nat.le_of_ble_eq_true rfl⟩ dX4_longestRow_99 (unS ?_)
          show V E X _ RX4 _ _ _ 0 0 _ false 146 102 _ [_] _
          refine v_if_eqB (pc := 102) (tgt := 148) dX4_longestRow_102 rfl (fun c_102 => ?_) (fun c_102 => ?_)
          · refine v_iincN (pc := 148) 8 [1, 2, 3, 4, 5, 6, 7, 8, 0] [(0, _), (1, _), (2, _), (3, _), (4, _), (5, _), (6, _), (7, _), (8, _)] kI_1 dX4_longestRow_148 rfl (by decide) rfl ?_
            refine v_goto (pc := 151) (tgt := 85) dX4_longestRow_151 rfl ?_
            first
              | (rw [show st_offR dt o (fillH dt cr o b i nd h1) i (be1 i) e be2 = _ from if_pos ⟨by assumption, by first | assumption | exact Int32.not_lt.mpr (by assumption)⟩] at ih; exact ih)
              | (rw [show st_offR dt o (fillH dt cr o b i nd h1) i (be1 i) e be2 = _ from if_neg (by rintro ⟨q1, q2⟩; first | exact q2 (by assumption) | exact Bool.noConfusion (q1.symm.trans c_102))] at ih; exact ih)
          · refine v_aload_n (pc := 105) 0 dX4_longestRow_105 rfl rfl ?_
            refine g_X4_9 (pc := 106) (cLr_obj rfl) (by decide) rfl dX4_longestRow_106 ?_
            refine v_aload_n (pc := 109) 1 dX4_longestRow_109 rfl rfl ?_
            refine g_X4_41 (pc := 110) (cPr_obj hj hP) (pad_lt0 hj) rfl dX4_longestRow_110 ?_
            refine v_iload (pc := 113) 8 dX4_longestRow_113 rfl ?_
            refine v_ialdN (pc := 115) (cPr_dt hj hP) (pad_lt hj (by decide)) (by omega) (by decide) dX4_longestRow_115 ?_
            refine v_iald (pc := 116) (cLr_ht rfl) (by decide) (hdt e (by omega)) dX4_longestRow_116 ?_
            refine v_aload_n (pc := 117) 2 dX4_longestRow_117 rfl rfl ?_
            refine g_X4_44 (pc := 118) (cFr_obj (k := 0) (by decide) hG) (adr_lt0 (k := 0) (by decide)) rfl dX4_longestRow_118 ?_
            refine v_iload (pc := 121) 8 dX4_longestRow_121 rfl ?_
            refine v_ialdN (pc := 123) (cFr_o (k := 0) (by decide) hG) (adr_lt (k := 0) (by decide) (by decide)) (by omega) (by decide) dX4_longestRow_123 ?_
            refine v_icmp_lt (pc := 124) (tgt := 148) dX4_longestRow_124 rfl (fun c_124 => ?_) (fun c_124 => ?_)
            · refine v_iincN (pc := 148) 8 [1, 2, 3, 4, 5, 6, 7, 8, 0] [(0, _), (1, _), (2, _), (3, _), (4, _), (5, _), (6, _), (7, _), (8, _)] kI_1 dX4_longestRow_148 rfl (by decide) rfl ?_
              refine v_goto (pc := 151) (tgt := 85) dX4_longestRow_151 rfl ?_
              first
                | (rw [show st_offR dt o (fillH dt cr o b i nd h1) i (be1 i) e be2 = _ from if_pos ⟨by assumption, by first | assumption | exact Int32.not_lt.mpr (by assumption)⟩] at ih; exact ih)
                | (rw [show st_offR dt o (fillH dt cr o b i nd h1) i (be1 i) e be2 = _ from if_neg (by rintro ⟨q1, q2⟩; first | exact q2 (by assumption) | exact Bool.noConfusion (q1.symm.trans c_102))] at ih; exact ih)
            · refine v_aload_n (pc := 127) 0 dX4_longestRow_127 rfl rfl ?_
              refine v_iload (pc := 128) 5 dX4_longestRow_128 rfl ?_
              refine v_iconst (pc := 130) (nI 1) dX4_longestRow_130 kI_1 ?_
              refine v_iload (pc := 131) 8 dX4_longestRow_131 rfl ?_
              refine v_ishl (pc := 133) dX4_longestRow_133 ?_
              rw [shl1 (by omega)]
              refine v_ior (pc := 134) dX4_longestRow_134 ?_
              rw [or_n]
              refine v_iload (pc := 135) 6 dX4_longestRow_135 rfl ?_
              refine v_bipush (pc := 137) (nI 10) dX4_longestRow_137 kB_10 ?_
              refine v_imul (pc := 139) dX4_longestRow_139 ?_
              refine v_iload (pc := 140) 8 dX4_longestRow_140 rfl ?_
              refine v_iadd (pc := 142) dX4_longestRow_142 ?_
              refine v_iconst (pc := 143) (nI 1) dX4_longestRow_143 kI_1 ?_
              refine v_iadd (pc := 144) dX4_longestRow_144 ?_
              refine v_callV (pc := 145) _ _ k_X4_49 (cLr_obj rfl) rfl (by decide) (c_offer (by first | assumption | exact orlt (by omega) (by omega) hnd) _) ⟨rfl, rfl, by decide⟩ rfl rfl (Nat.le_of_ble_eq_true rfl) ⟨Nat.le_of_ble_eq_true rfl, Nat.le_of_ble_eq_true rfl⟩ dX4_longestRow_145 (unS ?_)
              show V E X _ RX4 _ _ _ 0 0 _ false 146 148 _ [] _
              refine v_iincN (pc := 148) 8 [1, 2, 3, 4, 5, 6, 7, 8, 0] [(0, _), (1, _), (2, _), (3, _), (4, _), (5, _), (6, _), (7, _), (8, _)] kI_1 dX4_longestRow_148 rfl (by decide) rfl ?_
              refine v_goto (pc := 151) (tgt := 85) dX4_longestRow_151 rfl ?_
              first
                | (rw [show st_offR dt o (fillH dt cr o b i nd h1) i (be1 i) e be2 = _ from if_pos ⟨by assumption, by first | assumption | exact Int32.not_lt.mpr (by assumption)⟩] at ih; exact ih)
                | (rw [show st_offR dt o (fillH dt cr o b i nd h1) i (be1 i) e be2 = _ from if_neg (by rintro ⟨q1, q2⟩; first | exact q2 (by assumption) | exact Bool.noConfusion (q1.symm.trans c_102))] at ih; exact ih)
      · refine v_iload (pc := 54) 7 dX4_longestRow_54 rfl ?_
        refine v_iload_n (pc := 56) 3 dX4_longestRow_56 rfl rfl ?_
        refine v_icmp_ne (pc := 57) (tgt := 74) dX4_longestRow_57 rfl (fun c_57 => ?_) (fun c_57 => ?_)
        · refine v_aload_n (pc := 74) 0 dX4_longestRow_74 rfl rfl ?_
          refine v_aload_n (pc := 75) 1 dX4_longestRow_75 rfl rfl ?_
          refine v_aload_n (pc := 76) 2 dX4_longestRow_76 rfl rfl ?_
          refine v_iload (pc := 77) 5 dX4_longestRow_77 rfl ?_
          refine v_callV (pc := 79) _ _ k_X4_33 (cLr_obj rfl) rfl (by decide) (c_fill hj hP hnp hnd hG hdt hcr (by omega)) ⟨rfl, rfl, by decide⟩ rfl rfl (Nat.le_of_ble_eq_true rfl) ⟨Nat.le_of_ble_eq_true rfl, Nat.le_of_ble_eq_true rfl⟩ dX4_longestRow_79 (unS ?_)
          show V E X _ RX4 _ _ _ 0 0 _ false 146 82 _ [] _
          refine v_iconst (pc := 82) (nI 0) dX4_longestRow_82 kI_0 ?_
          refine v_istore (pc := 83) [1, 2, 3, 4, 5, 6, 7, 8, 0] [(0, _), (1, _), (2, _), (3, _), (4, _), (5, _), (6, _), (7, _), (8, _)] dX4_longestRow_83 (by decide) rfl ?_
          refine dn (P := fun e => V E X ({ frames := 2, cells := 0, slots := 0, locals := 64 } : Room) RX4 cX4_longestRow 9 (some .int) 0 0 (QX E X false 146 (Ff (some (.int (longR dt cr o b nd (ht, be)).2.1)) (cellOf E (sSt σ ((longR dt cr o b nd (ht, be)).2.2.1, (longR dt cr o b nd (ht, be)).2.2.2)))) 0 0) false 146 85 [(0, .ref (Ez E + 112)), (1, .ref (Ez E + pad j)), (2, .ref (Ez E + adr 0)), (3, .int mp), (4, .int rw_), (5, .int (nI i)), (6, .int (be1 i)), (7, .int (bcI (nI i))), (8, .int (nI e))] [] (cellOf E (sSt σ ((fillH dt cr o b i nd h1), itn (st_offR dt o (fillH dt cr o b i nd h1) i (be1 i)) e be1)))) (N := nd) ?_ ?_
          · refine v_iload (pc := 85) 8 dX4_longestRow_85 rfl ?_
            refine v_aload_n (pc := 87) 1 dX4_longestRow_87 rfl rfl ?_
            refine g_X4_21 (pc := 88) (cPr_obj hj hP) (pad_lt0 hj) rfl dX4_longestRow_88 ?_
            refine v_icmp_geN (pc := 91) (by omega) (by omega) (tgt := 154) dX4_longestRow_91 rfl (fun c_91 => ?_) (fun c_91 => False.elim ((fun c => by omega) c_91))
            refine v_iincN (pc := 154) 5 [1, 2, 3, 4, 5, 0, 6, 7, 8] [(0, _), (1, _), (2, _), (3, _), (4, _), (5, _), (6, _), (7, _), (8, _)] kI_1 dX4_longestRow_154 rfl (by decide) rfl ?_
            refine v_goto (pc := 157) (tgt := 12) dX4_longestRow_157 rfl ?_
            refine v_sub [0, 1, 2, 3, 4, 5] rfl ?_
            rw [show st_long dt cr o b nd i (mp, rw_, h1, be1) = _ from if_neg c_35, show pickR (bcI (nI i)) mp (be1 i) rw_ = _ from if_neg (by rintro (q | q); exact absurd q (by first | exact c_51 | exact Int32.not_lt.mpr c_51); exact c_57 q.1)] at ih
            exact ih
          · intro e he ih
            have ih : V E X ({ frames := 2, cells := 0, slots := 0, locals := 64 } : Room) RX4 cX4_longestRow 9 (some .int) 0 0 (QX E X false 146 (Ff (some (.int (longR dt cr o b nd (ht, be)).2.1)) (cellOf E (sSt σ ((longR dt cr o b nd (ht, be)).2.2.1, (longR dt cr o b nd (ht, be)).2.2.2)))) 0 0) false 146 85 [(0, .ref (Ez E + 112)), (1, .ref (Ez E + pad j)), (2, .ref (Ez E + adr 0)), (3, .int mp), (4, .int rw_), (5, .int (nI i)), (6, .int (be1 i)), (7, .int (bcI (nI i))), (8, .int (nI (e + 1)))] [] (cellOf E (sSt σ ((fillH dt cr o b i nd h1), st_offR dt o (fillH dt cr o b i nd h1) i (be1 i) e (itn (st_offR dt o (fillH dt cr o b i nd h1) i (be1 i)) e be1)))) := by rw [itn_s] at ih; exact ih
            generalize itn (st_offR dt o (fillH dt cr o b i nd h1) i (be1 i)) e be1 = be2 at ih ⊢
            show V E X _ RX4 _ _ _ _ _ _ false 146 _ [(0, .ref (Ez E + 112)), (1, .ref (Ez E + pad j)), (2, .ref (Ez E + adr 0)), (3, .int mp), (4, .int rw_), (5, .int (nI i)), (6, .int (be1 i)), (7, .int (bcI (nI i))), (8, .int (nI e))] [] (cellOf E (sSt σ ((fillH dt cr o b i nd h1), be2)))
            refine v_iload (pc := 85) 8 dX4_longestRow_85 rfl ?_
            refine v_aload_n (pc := 87) 1 dX4_longestRow_87 rfl rfl ?_
            refine g_X4_21 (pc := 88) (cPr_obj hj hP) (pad_lt0 hj) rfl dX4_longestRow_88 ?_
            refine v_icmp_geN (pc := 91) (by omega) (by omega) (tgt := 154) dX4_longestRow_91 rfl (fun c_91 => False.elim ((fun c => by omega) c_91)) (fun c_91 => ?_)
            refine v_aload_n (pc := 94) 2 dX4_longestRow_94 rfl rfl ?_
            refine v_iload (pc := 95) 5 dX4_longestRow_95 rfl ?_
            refine v_iload (pc := 97) 8 dX4_longestRow_97 rfl ?_
            refine v_callS (pc := 99) _ _ k_X4_37 (c_openL hG (by omega)) ⟨rfl, rfl, by decide⟩ rfl rfl (Nat.le_of_ble_eq_true rfl) ⟨Nat.le_of_ble_eq_true rfl, Nat.le_of_ble_eq_true rfl⟩ dX4_longestRow_99 (unS ?_)
            show V E X _ RX4 _ _ _ 0 0 _ false 146 102 _ [_] _
            refine v_if_eqB (pc := 102) (tgt := 148) dX4_longestRow_102 rfl (fun c_102 => ?_) (fun c_102 => ?_)
            · refine v_iincN (pc := 148) 8 [1, 2, 3, 4, 5, 6, 7, 8, 0] [(0, _), (1, _), (2, _), (3, _), (4, _), (5, _), (6, _), (7, _), (8, _)] kI_1 dX4_longestRow_148 rfl (by decide) rfl ?_
              refine v_goto (pc := 151) (tgt := 85) dX4_longestRow_151 rfl ?_
              first
                | (rw [show st_offR dt o (fillH dt cr o b i nd h1) i (be1 i) e be2 = _ from if_pos ⟨by assumption, by first | assumption | exact Int32.not_lt.mpr (by assumption)⟩] at ih; exact ih)
                | (rw [show st_offR dt o (fillH dt cr o b i nd h1) i (be1 i) e be2 = _ from if_neg (by rintro ⟨q1, q2⟩; first | exact q2 (by assumption) | exact Bool.noConfusion (q1.symm.trans c_102))] at ih; exact ih)
            · refine v_aload_n (pc := 105) 0 dX4_longestRow_105 rfl rfl ?_
              refine g_X4_9 (pc := 106) (cLr_obj rfl) (by decide) rfl dX4_longestRow_106 ?_
              refine v_aload_n (pc := 109) 1 dX4_longestRow_109 rfl rfl ?_
              refine g_X4_41 (pc := 110) (cPr_obj hj hP) (pad_lt0 hj) rfl dX4_longestRow_110 ?_
              refine v_iload (pc := 113) 8 dX4_longestRow_113 rfl ?_
              refine v_ialdN (pc := 115) (cPr_dt hj hP) (pad_lt hj (by decide)) (by omega) (by decide) dX4_longestRow_115 ?_
              refine v_iald (pc := 116) (cLr_ht rfl) (by decide) (hdt e (by omega)) dX4_longestRow_116 ?_
              refine v_aload_n (pc := 117) 2 dX4_longestRow_117 rfl rfl ?_
              refine g_X4_44 (pc := 118) (cFr_obj (k := 0) (by decide) hG) (adr_lt0 (k := 0) (by decide)) rfl dX4_longestRow_118 ?_
              refine v_iload (pc := 121) 8 dX4_longestRow_121 rfl ?_
              refine v_ialdN (pc := 123) (cFr_o (k := 0) (by decide) hG) (adr_lt (k := 0) (by decide) (by decide)) (by omega) (by decide) dX4_longestRow_123 ?_
              refine v_icmp_lt (pc := 124) (tgt := 148) dX4_longestRow_124 rfl (fun c_124 => ?_) (fun c_124 => ?_)
              · refine v_iincN (pc := 148) 8 [1, 2, 3, 4, 5, 6, 7, 8, 0] [(0, _), (1, _), (2, _), (3, _), (4, _), (5, _), (6, _), (7, _), (8, _)] kI_1 dX4_longestRow_148 rfl (by decide) rfl ?_
                refine v_goto (pc := 151) (tgt := 85) dX4_longestRow_151 rfl ?_
                first
                  | (rw [show st_offR dt o (fillH dt cr o b i nd h1) i (be1 i) e be2 = _ from if_pos ⟨by assumption, by first | assumption | exact Int32.not_lt.mpr (by assumption)⟩] at ih; exact ih)
                  | (rw [show st_offR dt o (fillH dt cr o b i nd h1) i (be1 i) e be2 = _ from if_neg (by rintro ⟨q1, q2⟩; first | exact q2 (by assumption) | exact Bool.noConfusion (q1.symm.trans c_102))] at ih; exact ih)
              · refine v_aload_n (pc := 127) 0 dX4_longestRow_127 rfl rfl ?_
                refine v_iload (pc := 128) 5 dX4_longestRow_128 rfl ?_
                refine v_iconst (pc := 130) (nI 1) dX4_longestRow_130 kI_1 ?_
                refine v_iload (pc := 131) 8 dX4_longestRow_131 rfl ?_
                refine v_ishl (pc := 133) dX4_longestRow_133 ?_
                rw [shl1 (by omega)]
                refine v_ior (pc := 134) dX4_longestRow_134 ?_
                rw [or_n]
                refine v_iload (pc := 135) 6 dX4_longestRow_135 rfl ?_
                refine v_bipush (pc := 137) (nI 10) dX4_longestRow_137 kB_10 ?_
                refine v_imul (pc := 139) dX4_longestRow_139 ?_
                refine v_iload (pc := 140) 8 dX4_longestRow_140 rfl ?_
                refine v_iadd (pc := 142) dX4_longestRow_142 ?_
                refine v_iconst (pc := 143) (nI 1) dX4_longestRow_143 kI_1 ?_
                refine v_iadd (pc := 144) dX4_longestRow_144 ?_
                refine v_callV (pc := 145) _ _ k_X4_49 (cLr_obj rfl) rfl (by decide) (c_offer (by first | assumption | exact orlt (by omega) (by omega) hnd) _) ⟨rfl, rfl, by decide⟩ rfl rfl (Nat.le_of_ble_eq_true rfl) ⟨Nat.le_of_ble_eq_true rfl, Nat.le_of_ble_eq_true rfl⟩ dX4_longestRow_145 (unS ?_)
                show V E X _ RX4 _ _ _ 0 0 _ false 146 148 _ [] _
                refine v_iincN (pc := 148) 8 [1, 2, 3, 4, 5, 6, 7, 8, 0] [(0, _), (1, _), (2, _), (3, _), (4, _), (5, _), (6, _), (7, _), (8, _)] kI_1 dX4_longestRow_148 rfl (by decide) rfl ?_
                refine v_goto (pc := 151) (tgt := 85) dX4_longestRow_151 rfl ?_
                first
                  | (rw [show st_offR dt o (fillH dt cr o b i nd h1) i (be1 i) e be2 = _ from if_pos ⟨by assumption, by first | assumption | exact Int32.not_lt.mpr (by assumption)⟩] at ih; exact ih)
                  | (rw [show st_offR dt o (fillH dt cr o b i nd h1) i (be1 i) e be2 = _ from if_neg (by rintro ⟨q1, q2⟩; first | exact q2 (by assumption) | exact Bool.noConfusion (q1.symm.trans c_102))] at ih; exact ih)
        · refine v_iload (pc := 60) 6 dX4_longestRow_60 rfl ?_
          refine v_iload (pc := 62) 4 dX4_longestRow_62 rfl ?_
          refine v_icmp_ge (pc := 64) (tgt := 74) dX4_longestRow_64 rfl (fun c_64 => ?_) (fun c_64 => ?_)
          · refine v_aload_n (pc := 74) 0 dX4_longestRow_74 rfl rfl ?_
            refine v_aload_n (pc := 75) 1 dX4_longestRow_75 rfl rfl ?_
            refine v_aload_n (pc := 76) 2 dX4_longestRow_76 rfl rfl ?_
            refine v_iload (pc := 77) 5 dX4_longestRow_77 rfl ?_
            refine v_callV (pc := 79) _ _ k_X4_33 (cLr_obj rfl) rfl (by decide) (c_fill hj hP hnp hnd hG hdt hcr (by omega)) ⟨rfl, rfl, by decide⟩ rfl rfl (Nat.le_of_ble_eq_true rfl) ⟨Nat.le_of_ble_eq_true rfl, Nat.le_of_ble_eq_true rfl⟩ dX4_longestRow_79 (unS ?_)
            show V E X _ RX4 _ _ _ 0 0 _ false 146 82 _ [] _
            refine v_iconst (pc := 82) (nI 0) dX4_longestRow_82 kI_0 ?_
            refine v_istore (pc := 83) [1, 2, 3, 4, 5, 6, 7, 8, 0] [(0, _), (1, _), (2, _), (3, _), (4, _), (5, _), (6, _), (7, _), (8, _)] dX4_longestRow_83 (by decide) rfl ?_
            refine dn (P := fun e => V E X ({ frames := 2, cells := 0, slots := 0, locals := 64 } : Room) RX4 cX4_longestRow 9 (some .int) 0 0 (QX E X false 146 (Ff (some (.int (longR dt cr o b nd (ht, be)).2.1)) (cellOf E (sSt σ ((longR dt cr o b nd (ht, be)).2.2.1, (longR dt cr o b nd (ht, be)).2.2.2)))) 0 0) false 146 85 [(0, .ref (Ez E + 112)), (1, .ref (Ez E + pad j)), (2, .ref (Ez E + adr 0)), (3, .int mp), (4, .int rw_), (5, .int (nI i)), (6, .int (be1 i)), (7, .int (bcI (nI i))), (8, .int (nI e))] [] (cellOf E (sSt σ ((fillH dt cr o b i nd h1), itn (st_offR dt o (fillH dt cr o b i nd h1) i (be1 i)) e be1)))) (N := nd) ?_ ?_
            · refine v_iload (pc := 85) 8 dX4_longestRow_85 rfl ?_
              refine v_aload_n (pc := 87) 1 dX4_longestRow_87 rfl rfl ?_
              refine g_X4_21 (pc := 88) (cPr_obj hj hP) (pad_lt0 hj) rfl dX4_longestRow_88 ?_
              refine v_icmp_geN (pc := 91) (by omega) (by omega) (tgt := 154) dX4_longestRow_91 rfl (fun c_91 => ?_) (fun c_91 => False.elim ((fun c => by omega) c_91))
              refine v_iincN (pc := 154) 5 [1, 2, 3, 4, 5, 0, 6, 7, 8] [(0, _), (1, _), (2, _), (3, _), (4, _), (5, _), (6, _), (7, _), (8, _)] kI_1 dX4_longestRow_154 rfl (by decide) rfl ?_
              refine v_goto (pc := 157) (tgt := 12) dX4_longestRow_157 rfl ?_
              refine v_sub [0, 1, 2, 3, 4, 5] rfl ?_
              rw [show st_long dt cr o b nd i (mp, rw_, h1, be1) = _ from if_neg c_35, show pickR (bcI (nI i)) mp (be1 i) rw_ = _ from if_neg (by rintro (q | q); exact absurd q (by first | exact c_51 | exact Int32.not_lt.mpr c_51); exact absurd q.2 (by first | exact c_64 | exact Int32.not_lt.mpr c_64))] at ih
              exact ih
            · intro e he ih
              have ih : V E X ({ frames := 2, cells := 0, slots := 0, locals := 64 } : Room) RX4 cX4_longestRow 9 (some .int) 0 0 (QX E X false 146 (Ff (some (.int (longR dt cr o b nd (ht, be)).2.1)) (cellOf E (sSt σ ((longR dt cr o b nd (ht, be)).2.2.1, (longR dt cr o b nd (ht, be)).2.2.2)))) 0 0) false 146 85 [(0, .ref (Ez E + 112)), (1, .ref (Ez E + pad j)), (2, .ref (Ez E + adr 0)), (3, .int mp), (4, .int rw_), (5, .int (nI i)), (6, .int (be1 i)), (7, .int (bcI (nI i))), (8, .int (nI (e + 1)))] [] (cellOf E (sSt σ ((fillH dt cr o b i nd h1), st_offR dt o (fillH dt cr o b i nd h1) i (be1 i) e (itn (st_offR dt o (fillH dt cr o b i nd h1) i (be1 i)) e be1)))) := by rw [itn_s] at ih; exact ih
              generalize itn (st_offR dt o (fillH dt cr o b i nd h1) i (be1 i)) e be1 = be2 at ih ⊢
              show V E X _ RX4 _ _ _ _ _ _ false 146 _ [(0, .ref (Ez E + 112)), (1, .ref (Ez E + pad j)), (2, .ref (Ez E + adr 0)), (3, .int mp), (4, .int rw_), (5, .int (nI i)), (6, .int (be1 i)), (7, .int (bcI (nI i))), (8, .int (nI e))] [] (cellOf E (sSt σ ((fillH dt cr o b i nd h1), be2)))
              refine v_iload (pc := 85) 8 dX4_longestRow_85 rfl ?_
              refine v_aload_n (pc := 87) 1 dX4_longestRow_87 rfl rfl ?_
              refine g_X4_21 (pc := 88) (cPr_obj hj hP) (pad_lt0 hj) rfl dX4_longestRow_88 ?_
              refine v_icmp_geN (pc := 91) (by omega) (by omega) (tgt := 154) dX4_longestRow_91 rfl (fun c_91 => False.elim ((fun c => by omega) c_91)) (fun c_91 => ?_)
              refine v_aload_n (pc := 94) 2 dX4_longestRow_94 rfl rfl ?_
              refine v_iload (pc := 95) 5 dX4_longestRow_95 rfl ?_
              refine v_iload (pc := 97) 8 dX4_longestRow_97 rfl ?_
              refine v_callS (pc := 99) _ _ k_X4_37 (c_openL hG (by omega)) ⟨rfl, rfl, by decide⟩ rfl rfl (Nat.le_of_ble_eq_true rfl) ⟨Nat.le_of_ble_eq_true rfl, Nat.le_of_ble_eq_true rfl⟩ dX4_longestRow_99 (unS ?_)
              show V E X _ RX4 _ _ _ 0 0 _ false 146 102 _ [_] _
              refine v_if_eqB (pc := 102) (tgt := 148) dX4_longestRow_102 rfl (fun c_102 => ?_) (fun c_102 => ?_)
              · refine v_iincN (pc := 148) 8 [1, 2, 3, 4, 5, 6, 7, 8, 0] [(0, _), (1, _), (2, _), (3, _), (4, _), (5, _), (6, _), (7, _), (8, _)] kI_1 dX4_longestRow_148 rfl (by decide) rfl ?_
                refine v_goto (pc := 151) (tgt := 85) dX4_longestRow_151 rfl ?_
                first
                  | (rw [show st_offR dt o (fillH dt cr o b i nd h1) i (be1 i) e be2 = _ from if_pos ⟨by assumption, by first | assumption | exact Int32.not_lt.mpr (by assumption)⟩] at ih; exact ih)
                  | (rw [show st_offR dt o (fillH dt cr o b i nd h1) i (be1 i) e be2 = _ from if_neg (by rintro ⟨q1, q2⟩; first | exact q2 (by assumption) | exact Bool.noConfusion (q1.symm.trans c_102))] at ih; exact ih)
              · refine v_aload_n (pc := 105) 0 dX4_longestRow_105 rfl rfl ?_
                refine g_X4_9 (pc := 106) (cLr_obj rfl) (by decide) rfl dX4_longestRow_106 ?_
                refine v_aload_n (pc := 109) 1 dX4_longestRow_109 rfl rfl ?_
                refine g_X4_41 (pc := 110) (cPr_obj hj hP) (pad_lt0 hj) rfl dX4_longestRow_110 ?_
                refine v_iload (pc := 113) 8 dX4_longestRow_113 rfl ?_
                refine v_ialdN (pc := 115) (cPr_dt hj hP) (pad_lt hj (by decide)) (by omega) (by decide) dX4_longestRow_115 ?_
                refine v_iald (pc := 116) (cLr_ht rfl) (by decide) (hdt e (by omega)) dX4_longestRow_116 ?_
                refine v_aload_n (pc := 117) 2 dX4_longestRow_117 rfl rfl ?_
                refine g_X4_44 (pc := 118) (cFr_obj (k := 0) (by decide) hG) (adr_lt0 (k := 0) (by decide)) rfl dX4_longestRow_118 ?_
                refine v_iload (pc := 121) 8 dX4_longestRow_121 rfl ?_
                refine v_ialdN (pc := 123) (cFr_o (k := 0) (by decide) hG) (adr_lt (k := 0) (by decide) (by decide)) (by omega) (by decide) dX4_longestRow_123 ?_
                refine v_icmp_lt (pc := 124) (tgt := 148) dX4_longestRow_124 rfl (fun c_124 => ?_) (fun c_124 => ?_)
                · refine v_iincN (pc := 148) 8 [1, 2, 3, 4, 5, 6, 7, 8, 0] [(0, _), (1, _), (2, _), (3, _), (4, _), (5, _), (6, _), (7, _), (8, _)] kI_1 dX4_longestRow_148 rfl (by decide) rfl ?_
                  refine v_goto (pc := 151) (tgt := 85) dX4_longestRow_151 rfl ?_
                  first
                    | (rw [show st_offR dt o (fillH dt cr o b i nd h1) i (be1 i) e be2 = _ from if_pos ⟨by assumption, by first | assumption | exact Int32.not_lt.mpr (by assumption)⟩] at ih; exact ih)
                    | (rw [show st_offR dt o (fillH dt cr o b i nd h1) i (be1 i) e be2 = _ from if_neg (by rintro ⟨q1, q2⟩; first | exact q2 (by assumption) | exact Bool.noConfusion (q1.symm.trans c_102))] at ih; exact ih)
                · refine v_aload_n (pc := 127) 0 dX4_longestRow_127 rfl rfl ?_
                  refine v_iload (pc := 128) 5 dX4_longestRow_128 rfl ?_
                  refine v_iconst (pc := 130) (nI 1) dX4_longestRow_130 kI_1 ?_
                  refine v_iload (pc := 131) 8 dX4_longestRow_131 rfl ?_
                  refine v_ishl (pc := 133) dX4_longestRow_133 ?_
                  rw [shl1 (by omega)]
                  refine v_ior (pc := 134) dX4_longestRow_134 ?_
                  rw [or_n]
                  refine v_iload (pc := 135) 6 dX4_longestRow_135 rfl ?_
                  refine v_bipush (pc := 137) (nI 10) dX4_longestRow_137 kB_10 ?_
                  refine v_imul (pc := 139) dX4_longestRow_139 ?_
                  refine v_iload (pc := 140) 8 dX4_longestRow_140 rfl ?_
                  refine v_iadd (pc := 142) dX4_longestRow_142 ?_
                  refine v_iconst (pc := 143) (nI 1) dX4_longestRow_143 kI_1 ?_
                  refine v_iadd (pc := 144) dX4_longestRow_144 ?_
                  refine v_callV (pc := 145) _ _ k_X4_49 (cLr_obj rfl) rfl (by decide) (c_offer (by first | assumption | exact orlt (by omega) (by omega) hnd) _) ⟨rfl, rfl, by decide⟩ rfl rfl (Nat.le_of_ble_eq_true rfl) ⟨Nat.le_of_ble_eq_true rfl, Nat.le_of_ble_eq_true rfl⟩ dX4_longestRow_145 (unS ?_)
                  show V E X _ RX4 _ _ _ 0 0 _ false 146 148 _ [] _
                  refine v_iincN (pc := 148) 8 [1, 2, 3, 4, 5, 6, 7, 8, 0] [(0, _), (1, _), (2, _), (3, _), (4, _), (5, _), (6, _), (7, _), (8, _)] kI_1 dX4_longestRow_148 rfl (by decide) rfl ?_
                  refine v_goto (pc := 151) (tgt := 85) dX4_longestRow_151 rfl ?_
                  first
                    | (rw [show st_offR dt o (fillH dt cr o b i nd h1) i (be1 i) e be2 = _ from if_pos ⟨by assumption, by first | assumption | exact Int32.not_lt.mpr (by assumption)⟩] at ih; exact ih)
                    | (rw [show st_offR dt o (fillH dt cr o b i nd h1) i (be1 i) e be2 = _ from if_neg (by rintro ⟨q1, q2⟩; first | exact q2 (by assumption) | exact Bool.noConfusion (q1.symm.trans c_102))] at ih; exact ih)
          · refine v_iload (pc := 67) 7 dX4_longestRow_67 rfl ?_
            refine v_istore_n (pc := 69) [1, 2, 3, 0, 4, 5, 6, 7] [(0, _), (1, _), (2, _), (3, _), (4, _), (5, _), (6, _), (7, _)] dX4_longestRow_69 rfl (by decide) rfl ?_
            refine v_iload (pc := 70) 6 dX4_longestRow_70 rfl ?_
            refine v_istore (pc := 72) [1, 2, 3, 4, 0, 5, 6, 7] [(0, _), (1, _), (2, _), (3, _), (4, _), (5, _), (6, _), (7, _)] dX4_longestRow_72 (by decide) rfl ?_
            refine v_aload_n (pc := 74) 0 dX4_longestRow_74 rfl rfl ?_
            refine v_aload_n (pc := 75) 1 dX4_longestRow_75 rfl rfl ?_
            refine v_aload_n (pc := 76) 2 dX4_longestRow_76 rfl rfl ?_
            refine v_iload (pc := 77) 5 dX4_longestRow_77 rfl ?_
            refine v_callV (pc := 79) _ _ k_X4_33 (cLr_obj rfl) rfl (by decide) (c_fill hj hP hnp hnd hG hdt hcr (by omega)) ⟨rfl, rfl, by decide⟩ rfl rfl (Nat.le_of_ble_eq_true rfl) ⟨Nat.le_of_ble_eq_true rfl, Nat.le_of_ble_eq_true rfl⟩ dX4_longestRow_79 (unS ?_)
            show V E X _ RX4 _ _ _ 0 0 _ false 146 82 _ [] _
            refine v_iconst (pc := 82) (nI 0) dX4_longestRow_82 kI_0 ?_
            refine v_istore (pc := 83) [1, 2, 3, 4, 5, 6, 7, 8, 0] [(0, _), (1, _), (2, _), (3, _), (4, _), (5, _), (6, _), (7, _), (8, _)] dX4_longestRow_83 (by decide) rfl ?_
            refine dn (P := fun e => V E X ({ frames := 2, cells := 0, slots := 0, locals := 64 } : Room) RX4 cX4_longestRow 9 (some .int) 0 0 (QX E X false 146 (Ff (some (.int (longR dt cr o b nd (ht, be)).2.1)) (cellOf E (sSt σ ((longR dt cr o b nd (ht, be)).2.2.1, (longR dt cr o b nd (ht, be)).2.2.2)))) 0 0) false 146 85 [(0, .ref (Ez E + 112)), (1, .ref (Ez E + pad j)), (2, .ref (Ez E + adr 0)), (3, .int (bcI (nI i))), (4, .int (be1 i)), (5, .int (nI i)), (6, .int (be1 i)), (7, .int (bcI (nI i))), (8, .int (nI e))] [] (cellOf E (sSt σ ((fillH dt cr o b i nd h1), itn (st_offR dt o (fillH dt cr o b i nd h1) i (be1 i)) e be1)))) (N := nd) ?_ ?_
            · refine v_iload (pc := 85) 8 dX4_longestRow_85 rfl ?_
              refine v_aload_n (pc := 87) 1 dX4_longestRow_87 rfl rfl ?_
              refine g_X4_21 (pc := 88) (cPr_obj hj hP) (pad_lt0 hj) rfl dX4_longestRow_88 ?_
              refine v_icmp_geN (pc := 91) (by omega) (by omega) (tgt := 154) dX4_longestRow_91 rfl (fun c_91 => ?_) (fun c_91 => False.elim ((fun c => by omega) c_91))
              refine v_iincN (pc := 154) 5 [1, 2, 3, 4, 5, 0, 6, 7, 8] [(0, _), (1, _), (2, _), (3, _), (4, _), (5, _), (6, _), (7, _), (8, _)] kI_1 dX4_longestRow_154 rfl (by decide) rfl ?_
              refine v_goto (pc := 157) (tgt := 12) dX4_longestRow_157 rfl ?_
              refine v_sub [0, 1, 2, 3, 4, 5] rfl ?_
              rw [show st_long dt cr o b nd i (mp, rw_, h1, be1) = _ from if_neg c_35, show pickR (bcI (nI i)) mp (be1 i) rw_ = _ from if_pos (Or.inr ⟨c_57, by first | exact c_64 | exact Int32.not_le.mp c_64⟩)] at ih
              exact ih
            · intro e he ih
              have ih : V E X ({ frames := 2, cells := 0, slots := 0, locals := 64 } : Room) RX4 cX4_longestRow 9 (some .int) 0 0 (QX E X false 146 (Ff (some (.int (longR dt cr o b nd (ht, be)).2.1)) (cellOf E (sSt σ ((longR dt cr o b nd (ht, be)).2.2.1, (longR dt cr o b nd (ht, be)).2.2.2)))) 0 0) false 146 85 [(0, .ref (Ez E + 112)), (1, .ref (Ez E + pad j)), (2, .ref (Ez E + adr 0)), (3, .int (bcI (nI i))), (4, .int (be1 i)), (5, .int (nI i)), (6, .int (be1 i)), (7, .int (bcI (nI i))), (8, .int (nI (e + 1)))] [] (cellOf E (sSt σ ((fillH dt cr o b i nd h1), st_offR dt o (fillH dt cr o b i nd h1) i (be1 i) e (itn (st_offR dt o (fillH dt cr o b i nd h1) i (be1 i)) e be1)))) := by rw [itn_s] at ih; exact ih
              generalize itn (st_offR dt o (fillH dt cr o b i nd h1) i (be1 i)) e be1 = be2 at ih ⊢
              show V E X _ RX4 _ _ _ _ _ _ false 146 _ [(0, .ref (Ez E + 112)), (1, .ref (Ez E + pad j)), (2, .ref (Ez E + adr 0)), (3, .int (bcI (nI i))), (4, .int (be1 i)), (5, .int (nI i)), (6, .int (be1 i)), (7, .int (bcI (nI i))), (8, .int (nI e))] [] (cellOf E (sSt σ ((fillH dt cr o b i nd h1), be2)))
              refine v_iload (pc := 85) 8 dX4_longestRow_85 rfl ?_
              refine v_aload_n (pc := 87) 1 dX4_longestRow_87 rfl rfl ?_
              refine g_X4_21 (pc := 88) (cPr_obj hj hP) (pad_lt0 hj) rfl dX4_longestRow_88 ?_
              refine v_icmp_geN (pc := 91) (by omega) (by omega) (tgt := 154) dX4_longestRow_91 rfl (fun c_91 => False.elim ((fun c => by omega) c_91)) (fun c_91 => ?_)
              refine v_aload_n (pc := 94) 2 dX4_longestRow_94 rfl rfl ?_
              refine v_iload (pc := 95) 5 dX4_longestRow_95 rfl ?_
              refine v_iload (pc := 97) 8 dX4_longestRow_97 rfl ?_
              refine v_callS (pc := 99) _ _ k_X4_37 (c_openL hG (by omega)) ⟨rfl, rfl, by decide⟩ rfl rfl (Nat.le_of_ble_eq_true rfl) ⟨Nat.le_of_ble_eq_true rfl, Nat.le_of_ble_eq_true rfl⟩ dX4_longestRow_99 (unS ?_)
              show V E X _ RX4 _ _ _ 0 0 _ false 146 102 _ [_] _
              refine v_if_eqB (pc := 102) (tgt := 148) dX4_longestRow_102 rfl (fun c_102 => ?_) (fun c_102 => ?_)
              · refine v_iincN (pc := 148) 8 [1, 2, 3, 4, 5, 6, 7, 8, 0] [(0, _), (1, _), (2, _), (3, _), (4, _), (5, _), (6, _), (7, _), (8, _)] kI_1 dX4_longestRow_148 rfl (by decide) rfl ?_
                refine v_goto (pc := 151) (tgt := 85) dX4_longestRow_151 rfl ?_
                first
                  | (rw [show st_offR dt o (fillH dt cr o b i nd h1) i (be1 i) e be2 = _ from if_pos ⟨by assumption, by first | assumption | exact Int32.not_lt.mpr (by assumption)⟩] at ih; exact ih)
                  | (rw [show st_offR dt o (fillH dt cr o b i nd h1) i (be1 i) e be2 = _ from if_neg (by rintro ⟨q1, q2⟩; first | exact q2 (by assumption) | exact Bool.noConfusion (q1.symm.trans c_102))] at ih; exact ih)
              · refine v_aload_n (pc := 105) 0 dX4_longestRow_105 rfl rfl ?_
                refine g_X4_9 (pc := 106) (cLr_obj rfl) (by decide) rfl dX4_longestRow_106 ?_
                refine v_aload_n (pc := 109) 1 dX4_longestRow_109 rfl rfl ?_
                refine g_X4_41 (pc := 110) (cPr_obj hj hP) (pad_lt0 hj) rfl dX4_longestRow_110 ?_
                refine v_iload (pc := 113) 8 dX4_longestRow_113 rfl ?_
                refine v_ialdN (pc := 115) (cPr_dt hj hP) (pad_lt hj (by decide)) (by omega) (by decide) dX4_longestRow_115 ?_
                refine v_iald (pc := 116) (cLr_ht rfl) (by decide) (hdt e (by omega)) dX4_longestRow_116 ?_
                refine v_aload_n (pc := 117) 2 dX4_longestRow_117 rfl rfl ?_
                refine g_X4_44 (pc := 118) (cFr_obj (k := 0) (by decide) hG) (adr_lt0 (k := 0) (by decide)) rfl dX4_longestRow_118 ?_
                refine v_iload (pc := 121) 8 dX4_longestRow_121 rfl ?_
                refine v_ialdN (pc := 123) (cFr_o (k := 0) (by decide) hG) (adr_lt (k := 0) (by decide) (by decide)) (by omega) (by decide) dX4_longestRow_123 ?_
                refine v_icmp_lt (pc := 124) (tgt := 148) dX4_longestRow_124 rfl (fun c_124 => ?_) (fun c_124 => ?_)
                · refine v_iincN (pc := 148) 8 [1, 2, 3, 4, 5, 6, 7, 8, 0] [(0, _), (1, _), (2, _), (3, _), (4, _), (5, _), (6, _), (7, _), (8, _)] kI_1 dX4_longestRow_148 rfl (by decide) rfl ?_
                  refine v_goto (pc := 151) (tgt := 85) dX4_longestRow_151 rfl ?_
                  first
                    | (rw [show st_offR dt o (fillH dt cr o b i nd h1) i (be1 i) e be2 = _ from if_pos ⟨by assumption, by first | assumption | exact Int32.not_lt.mpr (by assumption)⟩] at ih; exact ih)
                    | (rw [show st_offR dt o (fillH dt cr o b i nd h1) i (be1 i) e be2 = _ from if_neg (by rintro ⟨q1, q2⟩; first | exact q2 (by assumption) | exact Bool.noConfusion (q1.symm.trans c_102))] at ih; exact ih)
                · refine v_aload_n (pc := 127) 0 dX4_longestRow_127 rfl rfl ?_
                  refine v_iload (pc := 128) 5 dX4_longestRow_128 rfl ?_
                  refine v_iconst (pc := 130) (nI 1) dX4_longestRow_130 kI_1 ?_
                  refine v_iload (pc := 131) 8 dX4_longestRow_131 rfl ?_
                  refine v_ishl (pc := 133) dX4_longestRow_133 ?_
                  rw [shl1 (by omega)]
                  refine v_ior (pc := 134) dX4_longestRow_134 ?_
                  rw [or_n]
                  refine v_iload (pc := 135) 6 dX4_longestRow_135 rfl ?_
                  refine v_bipush (pc := 137) (nI 10) dX4_longestRow_137 kB_10 ?_
                  refine v_imul (pc := 139) dX4_longestRow_139 ?_
                  refine v_iload (pc := 140) 8 dX4_longestRow_140 rfl ?_
                  refine v_iadd (pc := 142) dX4_longestRow_142 ?_
                  refine v_iconst (pc := 143) (nI 1) dX4_longestRow_143 kI_1 ?_
                  refine v_iadd (pc := 144) dX4_longestRow_144 ?_
                  refine v_callV (pc := 145) _ _ k_X4_49 (cLr_obj rfl) rfl (by decide) (c_offer (by first | assumption | exact orlt (by omega) (by omega) hnd) _) ⟨rfl, rfl, by decide⟩ rfl rfl (Nat.le_of_ble_eq_true rfl) ⟨Nat.le_of_ble_eq_true rfl, Nat.le_of_ble_eq_true rfl⟩ dX4_longestRow_145 (unS ?_)
                  show V E X _ RX4 _ _ _ 0 0 _ false 146 148 _ [] _
                  refine v_iincN (pc := 148) 8 [1, 2, 3, 4, 5, 6, 7, 8, 0] [(0, _), (1, _), (2, _), (3, _), (4, _), (5, _), (6, _), (7, _), (8, _)] kI_1 dX4_longestRow_148 rfl (by decide) rfl ?_
                  refine v_goto (pc := 151) (tgt := 85) dX4_longestRow_151 rfl ?_
                  first
                    | (rw [show st_offR dt o (fillH dt cr o b i nd h1) i (be1 i) e be2 = _ from if_pos ⟨by assumption, by first | assumption | exact Int32.not_lt.mpr (by assumption)⟩] at ih; exact ih)
                    | (rw [show st_offR dt o (fillH dt cr o b i nd h1) i (be1 i) e be2 = _ from if_neg (by rintro ⟨q1, q2⟩; first | exact q2 (by assumption) | exact Bool.noConfusion (q1.symm.trans c_102))] at ih; exact ih)
    · refine v_goto (pc := 38) (tgt := 154) dX4_longestRow_38 rfl ?_
      refine v_iincN (pc := 154) 5 [1, 2, 3, 4, 5, 0, 6] [(0, _), (1, _), (2, _), (3, _), (4, _), (5, _), (6, _)] kI_1 dX4_longestRow_154 rfl (by decide) rfl ?_
      refine v_goto (pc := 157) (tgt := 12) dX4_longestRow_157 rfl ?_
      refine v_sub [0, 1, 2, 3, 4, 5] rfl ?_
      rw [show st_long dt cr o b nd i (mp, rw_, h1, be1) = _ from if_pos (by assumption)] at ih
      exact ih
set_option maxHeartbeats 4000000 in
set_option maxRecDepth 100000 in
theorem c_flo {E : Ev} {σ : Sg} {ht be : Fn} {j np nd : Nat} {sd du tr : Int32} {kd bd dr dt cr ow : Fn} (hj : j < 2) (hP : gP σ j = (sd, du, tr, nI np, nI nd, kd, bd, dr, dt, cr, ow)) (hnp : np ≤ 7) (hnd : nd ≤ 9) {t hr nt rg pe : Int32} {b c o p : Fn} (hG : gF σ 0 = (t, hr, nt, rg, pe, b, c, o, p)) (hdt : ∀ d, d < nd → vp_in (dt d) 7) (hcr : ∀ d, d < nd → vp_in (cr d) 7) (a : Int32) : Ct E yX4_leastFloat cX4_leastFloat 8 (some .int) ({ frames := 2, cells := 0, slots := 0, locals := 64 } : Room) false 146 [.ref (Ez E + 112), .ref (Ez E + pad j), .ref (Ez E + adr 0), .int a] (cellOf E (sSt σ (ht, be))) 146 0 0 (Ff (some (.int (floV o nd (floR dt cr o b nd a (ht, be)).2))) (cellOf E (sSt σ ((floR dt cr o b nd a (ht, be)).1, (floR dt cr o b nd a (ht, be)).2)))) := by
  have h2nd := pow9 hnd
  have hao := aoN_lt o nd
  refine Ct.ofV (by decide) (Nat.le_of_ble_eq_true rfl) (fun X hnm => ?_)
  show V E X _ RX4 _ _ _ _ _ _ false 146 0 [(0, .ref (Ez E + 112)), (1, .ref (Ez E + pad j)), (2, .ref (Ez E + adr 0)), (3, .int a)] [] _
  refine v_aload_n (pc := 0) 0 dX4_leastFloat_0 rfl rfl ?_
  refine v_callV (pc := 1) _ _ k_X4_18 (cLr_obj rfl) rfl (by decide) (c_sets) ⟨rfl, rfl, by decide⟩ rfl rfl (Nat.le_of_ble_eq_true rfl) ⟨Nat.le_of_ble_eq_true rfl, Nat.le_of_ble_eq_true rfl⟩ dX4_leastFloat_1 (unS ?_)
  show V E X _ RX4 _ _ _ 0 0 _ false 146 4 _ [] _
  refine v_iconst (pc := 4) (nI 0) dX4_leastFloat_4 kI_0 ?_
  refine v_istore (pc := 5) [1, 2, 3, 4, 0] [(0, _), (1, _), (2, _), (3, _), (4, _)] dX4_leastFloat_5 (by decide) rfl ?_
  refine dn (P := fun i => V E X ({ frames := 2, cells := 0, slots := 0, locals := 64 } : Room) RX4 cX4_leastFloat 8 (some .int) 0 0 (QX E X false 146 (Ff (some (.int (floV o nd (floR dt cr o b nd a (ht, be)).2))) (cellOf E (sSt σ ((floR dt cr o b nd a (ht, be)).1, (floR dt cr o b nd a (ht, be)).2)))) 0 0) false 146 7 [(0, .ref (Ez E + 112)), (1, .ref (Ez E + pad j)), (2, .ref (Ez E + adr 0)), (3, .int a), (4, .int (nI i))] [] (cellOf E (sSt σ ((itn (st_flo dt cr o b nd a) i (ht, sets0 be)).1, (itn (st_flo dt cr o b nd a) i (ht, sets0 be)).2)))) (N := 2 ^ nd) ?_ ?_
  · generalize hFl : itn (st_flo dt cr o b nd a) (2 ^ nd) (ht, sets0 be) = z_ 
    obtain ⟨h9, be9⟩ := z_
    show V E X _ RX4 _ _ _ _ _ _ false 146 _ [(0, .ref (Ez E + 112)), (1, .ref (Ez E + pad j)), (2, .ref (Ez E + adr 0)), (3, .int a), (4, .int (nI (2 ^ nd)))] [] (cellOf E (sSt σ (h9, be9)))
    refine v_iload (pc := 7) 4 dX4_leastFloat_7 rfl ?_
    refine v_iconst (pc := 9) (nI 1) dX4_leastFloat_9 kI_1 ?_
    refine v_aload_n (pc := 10) 1 dX4_leastFloat_10 rfl rfl ?_
    refine g_X4_21 (pc := 11) (cPr_obj hj hP) (pad_lt0 hj) rfl dX4_leastFloat_11 ?_
    refine v_ishl (pc := 14) dX4_leastFloat_14 ?_
    rw [shl1 (by omega)]
    refine v_icmp_geN (pc := 15) (by omega) (by omega) (tgt := 135) dX4_leastFloat_15 rfl (fun c_15 => ?_) (fun c_15 => False.elim ((fun c => by omega) c_15))
    refine v_aload_n (pc := 135) 0 dX4_leastFloat_135 rfl rfl ?_
    refine g_X4_15 (pc := 136) (cLr_obj rfl) (by decide) rfl dX4_leastFloat_136 ?_
    refine v_aload_n (pc := 139) 1 dX4_leastFloat_139 rfl rfl ?_
    refine v_aload_n (pc := 140) 2 dX4_leastFloat_140 rfl rfl ?_
    refine v_callS (pc := 141) _ _ k_X4_59 (c_allOpen hj hP hnp hnd hG hdt hcr) ⟨rfl, rfl, by decide⟩ rfl rfl (Nat.le_of_ble_eq_true rfl) ⟨Nat.le_of_ble_eq_true rfl, Nat.le_of_ble_eq_true rfl⟩ dX4_leastFloat_141 (unS ?_)
    show V E X _ RX4 _ _ _ 0 0 _ false 146 144 _ [_, _] _
    refine v_ialdN (pc := 144) (cLr_be rfl) (by decide) (by omega) (by decide) dX4_leastFloat_144 ?_
    refine v_istore (pc := 145) [1, 2, 3, 4, 0] [(0, _), (1, _), (2, _), (3, _), (4, _)] dX4_leastFloat_145 (by decide) rfl ?_
    refine v_iload (pc := 147) 4 dX4_leastFloat_147 rfl ?_
    refine v_sipush (pc := 149) (nI 999) dX4_leastFloat_149 kS_999 ?_
    refine v_icmp_gt (pc := 152) (tgt := 160) dX4_leastFloat_152 rfl (fun c_152 => ?_) (fun c_152 => ?_)
    · refine v_iconst (pc := 160) (-1) dX4_leastFloat_160 kI_m1 ?_
      exact v_iret (pc := 161) dX4_leastFloat_161 (⟨by rw [show floR dt cr o b nd a (ht, be) = _ from hFl]; unfold floV; first | (rw [if_pos (by first | assumption | exact Int32.not_le.mp (by assumption))]; done) | (rw [if_neg (by first | assumption | exact Int32.not_lt.mpr (by assumption))]), by rw [show floR dt cr o b nd a (ht, be) = _ from hFl]⟩)
    · refine v_iload (pc := 155) 4 dX4_leastFloat_155 rfl ?_
      refine v_goto (pc := 157) (tgt := 161) dX4_leastFloat_157 rfl ?_
      exact v_iret (pc := 161) dX4_leastFloat_161 (⟨by rw [show floR dt cr o b nd a (ht, be) = _ from hFl]; unfold floV; first | (rw [if_pos (by first | assumption | exact Int32.not_le.mp (by assumption))]; done) | (rw [if_neg (by first | assumption | exact Int32.not_lt.mpr (by assumption))]), by rw [show floR dt cr o b nd a (ht, be) = _ from hFl]⟩)
  · intro i hi ih
    have ih : V E X ({ frames := 2, cells := 0, slots := 0, locals := 64 } : Room) RX4 cX4_leastFloat 8 (some .int) 0 0 (QX E X false 146 (Ff (some (.int (floV o nd (floR dt cr o b nd a (ht, be)).2))) (cellOf E (sSt σ ((floR dt cr o b nd a (ht, be)).1, (floR dt cr o b nd a (ht, be)).2)))) 0 0) false 146 7 [(0, .ref (Ez E + 112)), (1, .ref (Ez E + pad j)), (2, .ref (Ez E + adr 0)), (3, .int a), (4, .int (nI (i + 1)))] [] (cellOf E (sSt σ ((st_flo dt cr o b nd a i (itn (st_flo dt cr o b nd a) i (ht, sets0 be))).1, (st_flo dt cr o b nd a i (itn (st_flo dt cr o b nd a) i (ht, sets0 be))).2))) := by rw [itn_s] at ih; exact ih
    generalize itn (st_flo dt cr o b nd a) i (ht, sets0 be) = z_ at ih ⊢
    obtain ⟨h1, be1⟩ := z_
    show V E X _ RX4 _ _ _ _ _ _ false 146 _ [(0, .ref (Ez E + 112)), (1, .ref (Ez E + pad j)), (2, .ref (Ez E + adr 0)), (3, .int a), (4, .int (nI i))] [] (cellOf E (sSt σ (h1, be1)))
    refine v_iload (pc := 7) 4 dX4_leastFloat_7 rfl ?_
    refine v_iconst (pc := 9) (nI 1) dX4_leastFloat_9 kI_1 ?_
    refine v_aload_n (pc := 10) 1 dX4_leastFloat_10 rfl rfl ?_
    refine g_X4_21 (pc := 11) (cPr_obj hj hP) (pad_lt0 hj) rfl dX4_leastFloat_11 ?_
    refine v_ishl (pc := 14) dX4_leastFloat_14 ?_
    rw [shl1 (by omega)]
    refine v_icmp_geN (pc := 15) (by omega) (by omega) (tgt := 135) dX4_leastFloat_15 rfl (fun c_15 => False.elim ((fun c => by omega) c_15)) (fun c_15 => ?_)
    refine v_aload_n (pc := 18) 0 dX4_leastFloat_18 rfl rfl ?_
    refine g_X4_15 (pc := 19) (cLr_obj rfl) (by decide) rfl dX4_leastFloat_19 ?_
    refine v_iload (pc := 22) 4 dX4_leastFloat_22 rfl ?_
    refine v_ialdN (pc := 24) (cLr_be rfl) (by decide) (by omega) (by decide) dX4_leastFloat_24 ?_
    refine v_istore (pc := 25) [1, 2, 3, 4, 5, 0] [(0, _), (1, _), (2, _), (3, _), (4, _), (5, _)] dX4_leastFloat_25 (by decide) rfl ?_
    refine v_iload (pc := 27) 5 dX4_leastFloat_27 rfl ?_
    refine v_iconst (pc := 29) (-1) dX4_leastFloat_29 kI_m1 ?_
    refine v_icmp_ne (pc := 30) (tgt := 36) dX4_leastFloat_30 rfl (fun c_30 => ?_) (fun c_30 => ?_)
    · refine v_aload_n (pc := 36) 0 dX4_leastFloat_36 rfl rfl ?_
      refine v_aload_n (pc := 37) 1 dX4_leastFloat_37 rfl rfl ?_
      refine v_aload_n (pc := 38) 2 dX4_leastFloat_38 rfl rfl ?_
      refine v_iload (pc := 39) 4 dX4_leastFloat_39 rfl ?_
      refine v_callV (pc := 41) _ _ k_X4_33 (cLr_obj rfl) rfl (by decide) (c_fill hj hP hnp hnd hG hdt hcr (by omega)) ⟨rfl, rfl, by decide⟩ rfl rfl (Nat.le_of_ble_eq_true rfl) ⟨Nat.le_of_ble_eq_true rfl, Nat.le_of_ble_eq_true rfl⟩ dX4_leastFloat_41 (unS ?_)
      show V E X _ RX4 _ _ _ 0 0 _ false 146 44 _ [] _
      refine v_iconst (pc := 44) (nI 0) dX4_leastFloat_44 kI_0 ?_
      refine v_istore (pc := 45) [1, 2, 3, 4, 5, 6, 0] [(0, _), (1, _), (2, _), (3, _), (4, _), (5, _), (6, _)] dX4_leastFloat_45 (by decide) rfl ?_
      refine dn (P := fun e => V E X ({ frames := 2, cells := 0, slots := 0, locals := 64 } : Room) RX4 cX4_leastFloat 8 (some .int) 0 0 (QX E X false 146 (Ff (some (.int (floV o nd (floR dt cr o b nd a (ht, be)).2))) (cellOf E (sSt σ ((floR dt cr o b nd a (ht, be)).1, (floR dt cr o b nd a (ht, be)).2)))) 0 0) false 146 47 [(0, .ref (Ez E + 112)), (1, .ref (Ez E + pad j)), (2, .ref (Ez E + adr 0)), (3, .int a), (4, .int (nI i)), (5, .int (be1 i)), (6, .int (nI e))] [] (cellOf E (sSt σ ((fillH dt cr o b i nd h1), itn (st_offF dt o (fillH dt cr o b i nd h1) i a (be1 i)) e be1)))) (N := nd) ?_ ?_
      · refine v_iload (pc := 47) 6 dX4_leastFloat_47 rfl ?_
        refine v_aload_n (pc := 49) 1 dX4_leastFloat_49 rfl rfl ?_
        refine g_X4_21 (pc := 50) (cPr_obj hj hP) (pad_lt0 hj) rfl dX4_leastFloat_50 ?_
        refine v_icmp_geN (pc := 53) (by omega) (by omega) (tgt := 129) dX4_leastFloat_53 rfl (fun c_53 => ?_) (fun c_53 => False.elim ((fun c => by omega) c_53))
        refine v_iincN (pc := 129) 4 [1, 2, 3, 4, 0, 5, 6] [(0, _), (1, _), (2, _), (3, _), (4, _), (5, _), (6, _)] kI_1 dX4_leastFloat_129 rfl (by decide) rfl ?_
        refine v_goto (pc := 132) (tgt := 7) dX4_leastFloat_132 rfl ?_
        refine v_sub [0, 1, 2, 3, 4] rfl ?_
        rw [show st_flo dt cr o b nd a i (h1, be1) = _ from if_neg c_30] at ih
        exact ih
      · intro e he ih
        have ih : V E X ({ frames := 2, cells := 0, slots := 0, locals := 64 } : Room) RX4 cX4_leastFloat 8 (some .int) 0 0 (QX E X false 146 (Ff (some (.int (floV o nd (floR dt cr o b nd a (ht, be)).2))) (cellOf E (sSt σ ((floR dt cr o b nd a (ht, be)).1, (floR dt cr o b nd a (ht, be)).2)))) 0 0) false 146 47 [(0, .ref (Ez E + 112)), (1, .ref (Ez E + pad j)), (2, .ref (Ez E + adr 0)), (3, .int a), (4, .int (nI i)), (5, .int (be1 i)), (6, .int (nI (e + 1)))] [] (cellOf E (sSt σ ((fillH dt cr o b i nd h1), st_offF dt o (fillH dt cr o b i nd h1) i a (be1 i) e (itn (st_offF dt o (fillH dt cr o b i nd h1) i a (be1 i)) e be1)))) := by rw [itn_s] at ih; exact ih
        generalize itn (st_offF dt o (fillH dt cr o b i nd h1) i a (be1 i)) e be1 = be2 at ih ⊢
        show V E X _ RX4 _ _ _ _ _ _ false 146 _ [(0, .ref (Ez E + 112)), (1, .ref (Ez E + pad j)), (2, .ref (Ez E + adr 0)), (3, .int a), (4, .int (nI i)), (5, .int (be1 i)), (6, .int (nI e))] [] (cellOf E (sSt σ ((fillH dt cr o b i nd h1), be2)))
        refine v_iload (pc := 47) 6 dX4_leastFloat_47 rfl ?_
        refine v_aload_n (pc := 49) 1 dX4_leastFloat_49 rfl rfl ?_
        refine g_X4_21 (pc := 50) (cPr_obj hj hP) (pad_lt0 hj) rfl dX4_leastFloat_50 ?_
        refine v_icmp_geN (pc := 53) (by omega) (by omega) (tgt := 129) dX4_leastFloat_53 rfl (fun c_53 => False.elim ((fun c => by omega) c_53)) (fun c_53 => ?_)
        refine v_aload_n (pc := 56) 2 dX4_leastFloat_56 rfl rfl ?_
        refine g_X4_44 (pc := 57) (cFr_obj (k := 0) (by decide) hG) (adr_lt0 (k := 0) (by decide)) rfl dX4_leastFloat_57 ?_
        refine v_iload (pc := 60) 6 dX4_leastFloat_60 rfl ?_
        refine v_ialdN (pc := 62) (cFr_o (k := 0) (by decide) hG) (adr_lt (k := 0) (by decide) (by decide)) (by omega) (by decide) dX4_leastFloat_62 ?_
        refine v_aload_n (pc := 63) 0 dX4_leastFloat_63 rfl rfl ?_
        refine g_X4_9 (pc := 64) (cLr_obj rfl) (by decide) rfl dX4_leastFloat_64 ?_
        refine v_aload_n (pc := 67) 1 dX4_leastFloat_67 rfl rfl ?_
        refine g_X4_41 (pc := 68) (cPr_obj hj hP) (pad_lt0 hj) rfl dX4_leastFloat_68 ?_
        refine v_iload (pc := 71) 6 dX4_leastFloat_71 rfl ?_
        refine v_ialdN (pc := 73) (cPr_dt hj hP) (pad_lt hj (by decide)) (by omega) (by decide) dX4_leastFloat_73 ?_
        refine v_iald (pc := 74) (cLr_ht rfl) (by decide) (hdt e (by omega)) dX4_leastFloat_74 ?_
        refine v_isub (pc := 75) dX4_leastFloat_75 ?_
        refine v_istore (pc := 76) [1, 2, 3, 4, 5, 6, 7, 0] [(0, _), (1, _), (2, _), (3, _), (4, _), (5, _), (6, _), (7, _)] dX4_leastFloat_76 (by decide) rfl ?_
        refine v_aload_n (pc := 78) 2 dX4_leastFloat_78 rfl rfl ?_
        refine v_iload (pc := 79) 4 dX4_leastFloat_79 rfl ?_
        refine v_iload (pc := 81) 6 dX4_leastFloat_81 rfl ?_
        refine v_callS (pc := 83) _ _ k_X4_37 (c_openL hG (by omega)) ⟨rfl, rfl, by decide⟩ rfl rfl (Nat.le_of_ble_eq_true rfl) ⟨Nat.le_of_ble_eq_true rfl, Nat.le_of_ble_eq_true rfl⟩ dX4_leastFloat_83 (unS ?_)
        show V E X _ RX4 _ _ _ 0 0 _ false 146 86 _ [_] _
        refine v_if_eqB (pc := 86) (tgt := 123) dX4_leastFloat_86 rfl (fun c_86 => ?_) (fun c_86 => ?_)
        · refine v_iincN (pc := 123) 6 [1, 2, 3, 4, 5, 6, 0, 7] [(0, _), (1, _), (2, _), (3, _), (4, _), (5, _), (6, _), (7, _)] kI_1 dX4_leastFloat_123 rfl (by decide) rfl ?_
          refine v_goto (pc := 126) (tgt := 47) dX4_leastFloat_126 rfl ?_
          refine v_sub [0, 1, 2, 3, 4, 5, 6] rfl ?_
          first
            | (rw [show st_offF dt o (fillH dt cr o b i nd h1) i a (be1 i) e be2 = _ from if_pos ⟨by assumption, by first | exact Or.inl (by assumption) | exact Or.inr (by assumption)⟩] at ih; exact ih)
            | (rw [show st_offF dt o (fillH dt cr o b i nd h1) i a (be1 i) e be2 = _ from if_neg (by rintro ⟨q1, q2⟩; first | exact Bool.noConfusion (q1.symm.trans c_86) | (rcases q2 with q2 | q2; exact absurd q2 (by first | exact c_91 | exact Int32.not_le.mpr c_91); exact absurd q2 c_102))] at ih; exact ih)
        · refine v_iload (pc := 89) 7 dX4_leastFloat_89 rfl ?_
          refine v_if_le (pc := 91) (tgt := 105) dX4_leastFloat_91 rfl (fun c_91 => ?_) (fun c_91 => ?_)
          · refine v_aload_n (pc := 105) 0 dX4_leastFloat_105 rfl rfl ?_
            refine v_iload (pc := 106) 4 dX4_leastFloat_106 rfl ?_
            refine v_iconst (pc := 108) (nI 1) dX4_leastFloat_108 kI_1 ?_
            refine v_iload (pc := 109) 6 dX4_leastFloat_109 rfl ?_
            refine v_ishl (pc := 111) dX4_leastFloat_111 ?_
            rw [shl1 (by omega)]
            refine v_ior (pc := 112) dX4_leastFloat_112 ?_
            rw [or_n]
            refine v_iload (pc := 113) 5 dX4_leastFloat_113 rfl ?_
            refine v_iload (pc := 115) 7 dX4_leastFloat_115 rfl ?_
            refine v_callS (pc := 117) _ _ k_X4_53 (c_max _ _) ⟨rfl, rfl, by decide⟩ rfl rfl (Nat.le_of_ble_eq_true rfl) ⟨Nat.le_of_ble_eq_true rfl, Nat.le_of_ble_eq_true rfl⟩ dX4_leastFloat_117 (unS ?_)
            show V E X _ RX4 _ _ _ 0 0 _ false 146 120 _ [_, _, _] _
            refine v_callV (pc := 120) _ _ k_X4_49 (cLr_obj rfl) rfl (by decide) (c_offer (by first | assumption | exact orlt (by omega) (by omega) hnd) _) ⟨rfl, rfl, by decide⟩ rfl rfl (Nat.le_of_ble_eq_true rfl) ⟨Nat.le_of_ble_eq_true rfl, Nat.le_of_ble_eq_true rfl⟩ dX4_leastFloat_120 (unS ?_)
            show V E X _ RX4 _ _ _ 0 0 _ false 146 123 _ [] _
            refine v_iincN (pc := 123) 6 [1, 2, 3, 4, 5, 6, 0, 7] [(0, _), (1, _), (2, _), (3, _), (4, _), (5, _), (6, _), (7, _)] kI_1 dX4_leastFloat_123 rfl (by decide) rfl ?_
            refine v_goto (pc := 126) (tgt := 47) dX4_leastFloat_126 rfl ?_
            refine v_sub [0, 1, 2, 3, 4, 5, 6] rfl ?_
            first
              | (rw [show st_offF dt o (fillH dt cr o b i nd h1) i a (be1 i) e be2 = _ from if_pos ⟨by assumption, by first | exact Or.inl (by assumption) | exact Or.inr (by assumption)⟩] at ih; exact ih)
              | (rw [show st_offF dt o (fillH dt cr o b i nd h1) i a (be1 i) e be2 = _ from if_neg (by rintro ⟨q1, q2⟩; first | exact Bool.noConfusion (q1.symm.trans c_86) | (rcases q2 with q2 | q2; exact absurd q2 (by first | exact c_91 | exact Int32.not_le.mpr c_91); exact absurd q2 c_102))] at ih; exact ih)
          · refine v_aload_n (pc := 94) 1 dX4_leastFloat_94 rfl rfl ?_
            refine g_X4_41 (pc := 95) (cPr_obj hj hP) (pad_lt0 hj) rfl dX4_leastFloat_95 ?_
            refine v_iload (pc := 98) 6 dX4_leastFloat_98 rfl ?_
            refine v_ialdN (pc := 100) (cPr_dt hj hP) (pad_lt hj (by decide)) (by omega) (by decide) dX4_leastFloat_100 ?_
            refine v_iload_n (pc := 101) 3 dX4_leastFloat_101 rfl rfl ?_
            refine v_icmp_ne (pc := 102) (tgt := 123) dX4_leastFloat_102 rfl (fun c_102 => ?_) (fun c_102 => ?_)
            · refine v_iincN (pc := 123) 6 [1, 2, 3, 4, 5, 6, 0, 7] [(0, _), (1, _), (2, _), (3, _), (4, _), (5, _), (6, _), (7, _)] kI_1 dX4_leastFloat_123 rfl (by decide) rfl ?_
              refine v_goto (pc := 126) (tgt := 47) dX4_leastFloat_126 rfl ?_
              refine v_sub [0, 1, 2, 3, 4, 5, 6] rfl ?_
              first
                | (rw [show st_offF dt o (fillH dt cr o b i nd h1) i a (be1 i) e be2 = _ from if_pos ⟨by assumption, by first | exact Or.inl (by assumption) | exact Or.inr (by assumption)⟩] at ih; exact ih)
                | (rw [show st_offF dt o (fillH dt cr o b i nd h1) i a (be1 i) e be2 = _ from if_neg (by rintro ⟨q1, q2⟩; first | exact Bool.noConfusion (q1.symm.trans c_86) | (rcases q2 with q2 | q2; exact absurd q2 (by first | exact c_91 | exact Int32.not_le.mpr c_91); exact absurd q2 c_102))] at ih; exact ih)
            · refine v_aload_n (pc := 105) 0 dX4_leastFloat_105 rfl rfl ?_
              refine v_iload (pc := 106) 4 dX4_leastFloat_106 rfl ?_
              refine v_iconst (pc := 108) (nI 1) dX4_leastFloat_108 kI_1 ?_
              refine v_iload (pc := 109) 6 dX4_leastFloat_109 rfl ?_
              refine v_ishl (pc := 111) dX4_leastFloat_111 ?_
              rw [shl1 (by omega)]
              refine v_ior (pc := 112) dX4_leastFloat_112 ?_
              rw [or_n]
              refine v_iload (pc := 113) 5 dX4_leastFloat_113 rfl ?_
              refine v_iload (pc := 115) 7 dX4_leastFloat_115 rfl ?_
              refine v_callS (pc := 117) _ _ k_X4_53 (c_max _ _) ⟨rfl, rfl, by decide⟩ rfl rfl (Nat.le_of_ble_eq_true rfl) ⟨Nat.le_of_ble_eq_true rfl, Nat.le_of_ble_eq_true rfl⟩ dX4_leastFloat_117 (unS ?_)
              show V E X _ RX4 _ _ _ 0 0 _ false 146 120 _ [_, _, _] _
              refine v_callV (pc := 120) _ _ k_X4_49 (cLr_obj rfl) rfl (by decide) (c_offer (by first | assumption | exact orlt (by omega) (by omega) hnd) _) ⟨rfl, rfl, by decide⟩ rfl rfl (Nat.le_of_ble_eq_true rfl) ⟨Nat.le_of_ble_eq_true rfl, Nat.le_of_ble_eq_true rfl⟩ dX4_leastFloat_120 (unS ?_)
              show V E X _ RX4 _ _ _ 0 0 _ false 146 123 _ [] _
              refine v_iincN (pc := 123) 6 [1, 2, 3, 4, 5, 6, 0, 7] [(0, _), (1, _), (2, _), (3, _), (4, _), (5, _), (6, _), (7, _)] kI_1 dX4_leastFloat_123 rfl (by decide) rfl ?_
              refine v_goto (pc := 126) (tgt := 47) dX4_leastFloat_126 rfl ?_
              refine v_sub [0, 1, 2, 3, 4, 5, 6] rfl ?_
              first
                | (rw [show st_offF dt o (fillH dt cr o b i nd h1) i a (be1 i) e be2 = _ from if_pos ⟨by assumption, by first | exact Or.inl (by assumption) | exact Or.inr (by assumption)⟩] at ih; exact ih)
                | (rw [show st_offF dt o (fillH dt cr o b i nd h1) i a (be1 i) e be2 = _ from if_neg (by rintro ⟨q1, q2⟩; first | exact Bool.noConfusion (q1.symm.trans c_86) | (rcases q2 with q2 | q2; exact absurd q2 (by first | exact c_91 | exact Int32.not_le.mpr c_91); exact absurd q2 c_102))] at ih; exact ih)
    · refine v_goto (pc := 33) (tgt := 129) dX4_leastFloat_33 rfl ?_
      refine v_iincN (pc := 129) 4 [1, 2, 3, 4, 0, 5] [(0, _), (1, _), (2, _), (3, _), (4, _), (5, _)] kI_1 dX4_leastFloat_129 rfl (by decide) rfl ?_
      refine v_goto (pc := 132) (tgt := 7) dX4_leastFloat_132 rfl ?_
      refine v_sub [0, 1, 2, 3, 4] rfl ?_
      rw [show st_flo dt cr o b nd a i (h1, be1) = _ from if_pos (by assumption)] at ih
      exact ih
