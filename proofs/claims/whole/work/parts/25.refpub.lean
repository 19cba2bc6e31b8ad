/-! the reference's calls: each with its refusals apart -/
theorem inB_i {v lo hi : Int32} (h : outB v lo hi = false) : inB v lo hi = true := by unfold inB; rw [h]; rfl
theorem inB_o {v lo hi : Int32} (h : outB v lo hi = true) : inB v lo hi = false := by unfold inB; rw [h]; rfl
theorem inB_n {lo i hi : Nat} (h1 : lo ≤ i) (h2 : i ≤ hi) (hh : hi < 2147483648) : inB (nI i) (nI lo) (nI hi) = true := inB_i (outB_in h1 h2 hh)
theorem perB_t {a n : Nat} (h : a < n) (hn : n < 2147483648) : perB (nI a) n = true := decide_eq_true ⟨fun q => by rw [← nI_0, nI_ltI (by omega) (by omega)] at q; omega, (nI_ltI (by omega) hn).mpr h⟩
theorem inB_p {a : Int32} {n : Nat} (hn : n < 2147483648) : inB a (nI 0) (nI n - nI 1) = perB a n := by
  by_cases h : a < 0
  · rw [show inB a (nI 0) (nI n - nI 1) = false from inB_f (Or.inl h), show perB a n = false from decide_eq_false (fun q => q.1 h)]
  · obtain ⟨i, hi, rfl⟩ := nI_of h
    cases n with
    | zero =>
      rw [show perB (nI i) 0 = false from decide_eq_false (fun q => h q.2)]
      exact inB_f (Or.inr (Int32.lt_of_lt_of_le (by decide : nI 0 - nI 1 < 0) (Int32.not_lt.mp h)))
    | succ k =>
      rw [pk_sub (by omega), Nat.add_sub_cancel]
      by_cases q : i < k + 1
      · rw [perB_t q hn]; exact inB_n (Nat.zero_le _) (by omega) (by omega)
      · rw [show perB (nI i) (k + 1) = false from decide_eq_false (fun z => q ((nI_ltI hi hn).mp z.2))]
        exact inB_f (Or.inr ((nI_ltI (by omega) hi).mpr (by omega)))
set_option maxHeartbeats 4000000 in
set_option maxRecDepth 100000 in
theorem m_isPn {E : Ev} {c : CSt} {xP xR xW xS xZ xG xK xT xQ xF xB xL xC : Fn} {un sz wm fm bm at_ bg fg : Nat} {ft sg vl wr : Int32} {sd : Int64} {np : Nat} (hp : xP 2 = nI np) (hnp : np ≤ 7) (a : Int32) : Ct E yX7_isPerson cX7_isPerson 2 (some .boolean) ({ frames := 1, cells := 0, slots := 0, locals := 25 } : Room) false 146 [.ref (Ez E + 132), .int a] (cellOf E (c, (mkA xP xR xW xS xZ xG xK xT xQ xF xB xL xC, (nI un, nI sz, ft, nI wm, nI fm, nI bm, nI at_, nI bg, sg, nI fg, vl, wr), sd))) 146 0 0 (Ff (some (.int (bI (perB a np)))) (cellOf E (c, (mkA xP xR xW xS xZ xG xK xT xQ xF xB xL xC, (nI un, nI sz, ft, nI wm, nI fm, nI bm, nI at_, nI bg, sg, nI fg, vl, wr), sd)))) := by
  have h := m_isP (E := E) (c := c) (xP := xP) (xR := xR) (xW := xW) (xS := xS) (xZ := xZ) (xG := xG) (xK := xK) (xT := xT) (xQ := xQ) (xF := xF) (xB := xB) (xL := xL) (xC := xC) (un := un) (sz := sz) (ft := ft) (wm := wm) (fm := fm) (bm := bm) (at_ := at_) (bg := bg) (sg := sg) (fg := fg) (vl := vl) (wr := wr) (sd := sd) a
  rw [hp, inB_p (by omega)] at h
  exact h
set_option maxHeartbeats 4000000 in
set_option maxRecDepth 100000 in
theorem m_feed {E : Ev} {c : CSt} {xP xR xW xS xZ xG xK xT xQ xF xB xL xC : Fn} {un sz wm fm bm at_ bg fg : Nat} {ft sg vl wr : Int32} {sd : Int64} {a : Int32} (ha : outB a (nI 0) (nI 255) = false) (hsz : sz < 240) : Ct E yX7_feed cX7_feed 2 (some .int) ({ frames := 1, cells := 0, slots := 0, locals := 25 } : Room) false 146 [.ref (Ez E + 132), .int a] (cellOf E (c, (mkA xP xR xW xS xZ xG xK xT xQ xF xB xL xC, (nI un, nI sz, ft, nI wm, nI fm, nI bm, nI at_, nI bg, sg, nI fg, vl, wr), sd))) 146 0 0 (Ff (some (.int (nI (sz + 1)))) (cellOf E (c, (mkA xP xR xW xS xZ xG xK (upd xT sz a) xQ xF xB xL xC, (nI un, nI (sz + 1), ft, nI wm, nI fm, nI bm, nI at_, nI bg, sg, nI fg, vl, wr), sd)))) := by
  refine Ct.ofV (by decide) (Nat.le_of_ble_eq_true rfl) (fun X hnm => ?_)
  show V E X _ RX7 _ _ _ _ _ _ false 146 0 [(0, .ref (Ez E + 132)), (1, .int a)] [] _
  refine v_iload_n (pc := 0) 1 dX7_feed_0 rfl rfl ?_
  refine v_i2l (pc := 1) dX7_feed_1 ?_
  refine v_lconst (pc := 2) ((nI 0).toInt64) dX7_feed_2 (by decide) ?_
  refine v_ldc2 (pc := 3) ((nI 255).toInt64) kl_X7_70 dX7_feed_3 (by decide) ?_
  refine v_callS (pc := 6) _ _ k_X7_72 (m_in _ _ _) ⟨rfl, rfl, by decide⟩ rfl rfl (Nat.le_of_ble_eq_true rfl) ⟨Nat.le_of_ble_eq_true rfl, Nat.le_of_ble_eq_true rfl⟩ dX7_feed_6 (unS ?_)
  show V E X _ RX7 _ _ _ 0 0 _ false 146 9 _ [_] _
  refine v_if_neB (pc := 9) (tgt := 15) dX7_feed_9 rfl (fun c_9 => ?_) (fun c_9 => False.elim ((fun q => by rw [inB_i ha] at q; exact Bool.noConfusion q) c_9))
  refine v_aload_n (pc := 15) 0 dX7_feed_15 rfl rfl ?_
  refine g_X7_77 (pc := 16) (cMr_obj) (by decide) rfl dX7_feed_16 ?_
  refine v_sipush (pc := 19) (nI 240) dX7_feed_19 kS_240 ?_
  refine v_icmp_neN (pc := 22) (by omega) (by omega) (tgt := 28) dX7_feed_22 rfl (fun c_22 => ?_) (fun c_22 => False.elim ((fun q => by omega) c_22))
  refine v_aload_n (pc := 28) 0 dX7_feed_28 rfl rfl ?_
  refine g_X7_32 (pc := 29) (cMr_obj) (by decide) rfl dX7_feed_29 ?_
  refine v_aload_n (pc := 32) 0 dX7_feed_32 rfl rfl ?_
  refine g_X7_77 (pc := 33) (cMr_obj) (by decide) rfl dX7_feed_33 ?_
  refine v_iload_n (pc := 36) 1 dX7_feed_36 rfl rfl ?_
  refine v_iastN (pc := 37) (cM_text) (by decide) (by omega) (by decide) dX7_feed_37 (wM_text) ?_
  refine v_aload_n (pc := 38) 0 dX7_feed_38 rfl rfl ?_
  refine v_dup (pc := 39) dX7_feed_39 rfl ?_
  refine g_X7_77 (pc := 40) (cMr_obj) (by decide) rfl dX7_feed_40 ?_
  refine v_iconst (pc := 43) (nI 1) dX7_feed_43 kI_1 ?_
  refine v_iaddN (pc := 44) dX7_feed_44 ?_
  refine p_X7_77 (pc := 45) (cMr_obj) (by decide) rfl rfl (Nat.le_of_ble_eq_true rfl) dX7_feed_45 (wM_sz) ?_
  refine v_aload_n (pc := 48) 0 dX7_feed_48 rfl rfl ?_
  refine g_X7_77 (pc := 49) (cMr_obj) (by decide) rfl dX7_feed_49 ?_
  exact v_iret (pc := 52) dX7_feed_52 (⟨rfl, rfl⟩)
set_option maxHeartbeats 4000000 in
set_option maxRecDepth 100000 in
theorem m_feed1 {E : Ev} {c : CSt} {xP xR xW xS xZ xG xK xT xQ xF xB xL xC : Fn} {un sz wm fm bm at_ bg fg : Nat} {ft sg vl wr : Int32} {sd : Int64} {a : Int32} (ha : outB a (nI 0) (nI 255) = true) : Ct E yX7_feed cX7_feed 2 (some .int) ({ frames := 1, cells := 0, slots := 0, locals := 25 } : Room) false 146 [.ref (Ez E + 132), .int a] (cellOf E (c, (mkA xP xR xW xS xZ xG xK xT xQ xF xB xL xC, (nI un, nI sz, ft, nI wm, nI fm, nI bm, nI at_, nI bg, sg, nI fg, vl, wr), sd))) 146 0 0 (Ff (some (.int (cOUT))) (cellOf E (c, (mkA xP xR xW xS xZ xG xK xT xQ xF xB xL xC, (nI un, nI sz, ft, nI wm, nI fm, nI bm, nI at_, nI bg, sg, nI fg, vl, wr), sd)))) := by
  refine Ct.ofV (by decide) (Nat.le_of_ble_eq_true rfl) (fun X hnm => ?_)
  show V E X _ RX7 _ _ _ _ _ _ false 146 0 [(0, .ref (Ez E + 132)), (1, .int a)] [] _
  refine v_iload_n (pc := 0) 1 dX7_feed_0 rfl rfl ?_
  refine v_i2l (pc := 1) dX7_feed_1 ?_
  refine v_lconst (pc := 2) ((nI 0).toInt64) dX7_feed_2 (by decide) ?_
  refine v_ldc2 (pc := 3) ((nI 255).toInt64) kl_X7_70 dX7_feed_3 (by decide) ?_
  refine v_callS (pc := 6) _ _ k_X7_72 (m_in _ _ _) ⟨rfl, rfl, by decide⟩ rfl rfl (Nat.le_of_ble_eq_true rfl) ⟨Nat.le_of_ble_eq_true rfl, Nat.le_of_ble_eq_true rfl⟩ dX7_feed_6 (unS ?_)
  show V E X _ RX7 _ _ _ 0 0 _ false 146 9 _ [_] _
  refine v_if_neB (pc := 9) (tgt := 15) dX7_feed_9 rfl (fun c_9 => False.elim ((fun q => by rw [inB_o ha] at q; exact Bool.noConfusion q) c_9)) (fun c_9 => ?_)
  refine v_ldc (pc := 12) _ kc_X7_76 dX7_feed_12 rfl ?_
  exact v_iret (pc := 14) dX7_feed_14 (⟨rfl, rfl⟩)
set_option maxHeartbeats 4000000 in
set_option maxRecDepth 100000 in
theorem m_feed2 {E : Ev} {c : CSt} {xP xR xW xS xZ xG xK xT xQ xF xB xL xC : Fn} {un sz wm fm bm at_ bg fg : Nat} {ft sg vl wr : Int32} {sd : Int64} {a : Int32} (ha : outB a (nI 0) (nI 255) = false) (hsz : sz = 240) : Ct E yX7_feed cX7_feed 2 (some .int) ({ frames := 1, cells := 0, slots := 0, locals := 25 } : Room) false 146 [.ref (Ez E + 132), .int a] (cellOf E (c, (mkA xP xR xW xS xZ xG xK xT xQ xF xB xL xC, (nI un, nI sz, ft, nI wm, nI fm, nI bm, nI at_, nI bg, sg, nI fg, vl, wr), sd))) 146 0 0 (Ff (some (.int (cFUL))) (cellOf E (c, (mkA xP xR xW xS xZ xG xK xT xQ xF xB xL xC, (nI un, nI sz, ft, nI wm, nI fm, nI bm, nI at_, nI bg, sg, nI fg, vl, wr), sd)))) := by
  refine Ct.ofV (by decide) (Nat.le_of_ble_eq_true rfl) (fun X hnm => ?_)
  show V E X _ RX7 _ _ _ _ _ _ false 146 0 [(0, .ref (Ez E + 132)), (1, .int a)] [] _
  refine v_iload_n (pc := 0) 1 dX7_feed_0 rfl rfl ?_
  refine v_i2l (pc := 1) dX7_feed_1 ?_
  refine v_lconst (pc := 2) ((nI 0).toInt64) dX7_feed_2 (by decide) ?_
  refine v_ldc2 (pc := 3) ((nI 255).toInt64) kl_X7_70 dX7_feed_3 (by decide) ?_
  refine v_callS (pc := 6) _ _ k_X7_72 (m_in _ _ _) ⟨rfl, rfl, by decide⟩ rfl rfl (Nat.le_of_ble_eq_true rfl) ⟨Nat.le_of_ble_eq_true rfl, Nat.le_of_ble_eq_true rfl⟩ dX7_feed_6 (unS ?_)
  show V E X _ RX7 _ _ _ 0 0 _ false 146 9 _ [_] _
  refine v_if_neB (pc := 9) (tgt := 15) dX7_feed_9 rfl (fun c_9 => ?_) (fun c_9 => False.elim ((fun q => by rw [inB_i ha] at q; exact Bool.noConfusion q) c_9))
  refine v_aload_n (pc := 15) 0 dX7_feed_15 rfl rfl ?_
  refine g_X7_77 (pc := 16) (cMr_obj) (by decide) rfl dX7_feed_16 ?_
  refine v_sipush (pc := 19) (nI 240) dX7_feed_19 kS_240 ?_
  refine v_icmp_neN (pc := 22) (by omega) (by omega) (tgt := 28) dX7_feed_22 rfl (fun c_22 => False.elim ((fun q => by omega) c_22)) (fun c_22 => ?_)
  refine v_ldc (pc := 25) _ kc_X7_80 dX7_feed_25 rfl ?_
  exact v_iret (pc := 27) dX7_feed_27 (⟨rfl, rfl⟩)
set_option maxHeartbeats 4000000 in
set_option maxRecDepth 100000 in
theorem m_fault {E : Ev} {c : CSt} {xP xR xW xS xZ xG xK xT xQ xF xB xL xC : Fn} {un sz wm fm bm at_ bg fg : Nat} {ft sg vl wr : Int32} {sd : Int64}  : Ct E yX7_fault cX7_fault 1 (some .int) ({ frames := 0, cells := 0, slots := 0, locals := 0 } : Room) false 146 [.ref (Ez E + 132)] (cellOf E (c, (mkA xP xR xW xS xZ xG xK xT xQ xF xB xL xC, (nI un, nI sz, ft, nI wm, nI fm, nI bm, nI at_, nI bg, sg, nI fg, vl, wr), sd))) 146 0 0 (Ff (some (.int (ft))) (cellOf E (c, (mkA xP xR xW xS xZ xG xK xT xQ xF xB xL xC, (nI un, nI sz, ft, nI wm, nI fm, nI bm, nI at_, nI bg, sg, nI fg, vl, wr), sd)))) := by
  refine Ct.ofV (by decide) (Nat.le_of_ble_eq_true rfl) (fun X hnm => ?_)
  show V E X _ RX7 _ _ _ _ _ _ false 146 0 [(0, .ref (Ez E + 132))] [] _
  refine v_aload_n (pc := 0) 0 dX7_fault_0 rfl rfl ?_
  refine g_X7_35 (pc := 1) (cMr_obj) (by decide) rfl dX7_fault_1 ?_
  exact v_iret (pc := 4) dX7_fault_4 (⟨rfl, rfl⟩)
def mToldI (P W Q : Fn) (np nd wm fm bm un sz : Nat) (w : Int32) : Int32 := if w = nI 0 then P 1 else if w = nI 1 then P 2 else if w = nI 2 then P 3 else if w = nI 3 then nI sz else if w = nI 4 then W 16 else if w = nI 5 then W 15 else if w = nI 6 then hatN W np else if w = nI 7 then W 14 else if w = nI 8 then W 26 else if w = nI 9 then W 27 else if w = nI 10 then riM W np else if w = nI 11 then rgM P W np nd else if w = nI 12 then owM P W (-1) (-1) nd else if w = nI 13 then whM P W Q wm np else if w = nI 14 then nI wm else if w = nI 15 then nI fm else if w = nI 16 then nI bm else if w = nI 17 then nI un else cOUT
set_option maxHeartbeats 4000000 in
set_option maxRecDepth 100000 in
theorem m_told {E : Ev} {c : CSt} {xP xR xW xS xZ xG xK xT xQ xF xB xL xC : Fn} {un sz wm fm bm at_ bg fg : Nat} {ft sg vl wr : Int32} {sd : Int64} {np : Nat} (hp : xP 2 = nI np) (hnp : np ≤ 7) {nd : Nat} (hd : xP 3 = nI nd) (hnd : nd ≤ 9) (hwm : wm ≤ 6) (w : Int32) : Ct E yX7_told cX7_told 2 (some .int) ({ frames := 4, cells := 0, slots := 0, locals := 90 } : Room) false 146 [.ref (Ez E + 132), .int w] (cellOf E (c, (mkA xP xR xW xS xZ xG xK xT xQ xF xB xL xC, (nI un, nI sz, ft, nI wm, nI fm, nI bm, nI at_, nI bg, sg, nI fg, vl, wr), sd))) 146 0 0 (Ff (some (.int (mToldI xP xW xQ np nd wm fm bm un sz w))) (cellOf E (c, (mkA xP xR xW xS xZ xG xK xT xQ xF xB xL xC, (nI un, nI sz, ft, nI wm, nI fm, nI bm, nI at_, nI bg, sg, nI fg, vl, wr), sd)))) := by
  refine Ct.ofV (by decide) (Nat.le_of_ble_eq_true rfl) (fun X hnm => ?_)
  show V E X _ RX7 _ _ _ _ _ _ false 146 0 [(0, .ref (Ez E + 132)), (1, .int w)] [] _
  refine v_iload_n (pc := 0) 1 dX7_told_0 rfl rfl ?_
  rcases sw_0_17 w with s_1 | s_1 | s_1 | s_1 | s_1 | s_1 | s_1 | s_1 | s_1 | s_1 | s_1 | s_1 | s_1 | s_1 | s_1 | s_1 | s_1 | s_1 | s_1
  · refine v_tabIn (pc := 1) (off := 87) (tgt := 88) dX7_told_1 (by rw [s_1]; decide) (by rw [s_1]; decide) (by rw [s_1]; rfl) rfl ?_
    refine v_aload_n (pc := 88) 0 dX7_told_88 rfl rfl ?_
    refine g_X7_7 (pc := 89) (cMr_obj) (by decide) rfl dX7_told_89 ?_
    refine v_iload_n (pc := 92) 1 dX7_told_92 rfl rfl ?_
    refine v_iconst (pc := 93) (nI 1) dX7_told_93 kI_1 ?_
    refine v_iadd (pc := 94) dX7_told_94 ?_
    refine v_iald (pc := 95) (cM_parish) (by decide) (by rw [s_1, nI_add]; exact vp_in_nI (by decide) (by decide)) dX7_told_95 ?_
    exact v_iret (pc := 96) dX7_told_96 (⟨by unfold mToldI; rw [if_pos s_1]; rw [s_1]; rfl, rfl⟩)
  · refine v_tabIn (pc := 1) (off := 87) (tgt := 88) dX7_told_1 (by rw [s_1]; decide) (by rw [s_1]; decide) (by rw [s_1]; rfl) rfl ?_
    refine v_aload_n (pc := 88) 0 dX7_told_88 rfl rfl ?_
    refine g_X7_7 (pc := 89) (cMr_obj) (by decide) rfl dX7_told_89 ?_
    refine v_iload_n (pc := 92) 1 dX7_told_92 rfl rfl ?_
    refine v_iconst (pc := 93) (nI 1) dX7_told_93 kI_1 ?_
    refine v_iadd (pc := 94) dX7_told_94 ?_
    refine v_iald (pc := 95) (cM_parish) (by decide) (by rw [s_1, nI_add]; exact vp_in_nI (by decide) (by decide)) dX7_told_95 ?_
    exact v_iret (pc := 96) dX7_told_96 (⟨by unfold mToldI; rw [if_neg (show ¬ w = nI 0 from fun e => by rw [e] at s_1; revert s_1; decide), if_pos s_1]; rw [s_1]; rfl, rfl⟩)
  · refine v_tabIn (pc := 1) (off := 87) (tgt := 88) dX7_told_1 (by rw [s_1]; decide) (by rw [s_1]; decide) (by rw [s_1]; rfl) rfl ?_
    refine v_aload_n (pc := 88) 0 dX7_told_88 rfl rfl ?_
    refine g_X7_7 (pc := 89) (cMr_obj) (by decide) rfl dX7_told_89 ?_
    refine v_iload_n (pc := 92) 1 dX7_told_92 rfl rfl ?_
    refine v_iconst (pc := 93) (nI 1) dX7_told_93 kI_1 ?_
    refine v_iadd (pc := 94) dX7_told_94 ?_
    refine v_iald (pc := 95) (cM_parish) (by decide) (by rw [s_1, nI_add]; exact vp_in_nI (by decide) (by decide)) dX7_told_95 ?_
    exact v_iret (pc := 96) dX7_told_96 (⟨by unfold mToldI; rw [if_neg (show ¬ w = nI 0 from fun e => by rw [e] at s_1; revert s_1; decide), if_neg (show ¬ w = nI 1 from fun e => by rw [e] at s_1; revert s_1; decide), if_pos s_1]; rw [s_1]; rfl, rfl⟩)
  · refine v_tabIn (pc := 1) (off := 96) (tgt := 97) dX7_told_1 (by rw [s_1]; decide) (by rw [s_1]; decide) (by rw [s_1]; rfl) rfl ?_
    refine v_aload_n (pc := 97) 0 dX7_told_97 rfl rfl ?_
    refine g_X7_77 (pc := 98) (cMr_obj) (by decide) rfl dX7_told_98 ?_
    exact v_iret (pc := 101) dX7_told_101 (⟨by unfold mToldI; rw [if_neg (show ¬ w = nI 0 from fun e => by rw [e] at s_1; revert s_1; decide), if_neg (show ¬ w = nI 1 from fun e => by rw [e] at s_1; revert s_1; decide), if_neg (show ¬ w = nI 2 from fun e => by rw [e] at s_1; revert s_1; decide), if_pos s_1], rfl⟩)
  · refine v_tabIn (pc := 1) (off := 101) (tgt := 102) dX7_told_1 (by rw [s_1]; decide) (by rw [s_1]; decide) (by rw [s_1]; rfl) rfl ?_
    refine v_aload_n (pc := 102) 0 dX7_told_102 rfl rfl ?_
    refine g_X7_16 (pc := 103) (cMr_obj) (by decide) rfl dX7_told_103 ?_
    refine v_bipush (pc := 106) (nI 16) dX7_told_106 kB_16 ?_
    refine v_ialdN (pc := 108) (cM_now) (by decide) (by omega) (by decide) dX7_told_108 ?_
    exact v_iret (pc := 109) dX7_told_109 (⟨by unfold mToldI; rw [if_neg (show ¬ w = nI 0 from fun e => by rw [e] at s_1; revert s_1; decide), if_neg (show ¬ w = nI 1 from fun e => by rw [e] at s_1; revert s_1; decide), if_neg (show ¬ w = nI 2 from fun e => by rw [e] at s_1; revert s_1; decide), if_neg (show ¬ w = nI 3 from fun e => by rw [e] at s_1; revert s_1; decide), if_pos s_1], rfl⟩)
  · refine v_tabIn (pc := 1) (off := 109) (tgt := 110) dX7_told_1 (by rw [s_1]; decide) (by rw [s_1]; decide) (by rw [s_1]; rfl) rfl ?_
    refine v_aload_n (pc := 110) 0 dX7_told_110 rfl rfl ?_
    refine g_X7_16 (pc := 111) (cMr_obj) (by decide) rfl dX7_told_111 ?_
    refine v_bipush (pc := 114) (nI 15) dX7_told_114 kB_15 ?_
    refine v_ialdN (pc := 116) (cM_now) (by decide) (by omega) (by decide) dX7_told_116 ?_
    exact v_iret (pc := 117) dX7_told_117 (⟨by unfold mToldI; rw [if_neg (show ¬ w = nI 0 from fun e => by rw [e] at s_1; revert s_1; decide), if_neg (show ¬ w = nI 1 from fun e => by rw [e] at s_1; revert s_1; decide), if_neg (show ¬ w = nI 2 from fun e => by rw [e] at s_1; revert s_1; decide), if_neg (show ¬ w = nI 3 from fun e => by rw [e] at s_1; revert s_1; decide), if_neg (show ¬ w = nI 4 from fun e => by rw [e] at s_1; revert s_1; decide), if_pos s_1], rfl⟩)
  · refine v_tabIn (pc := 1) (off := 117) (tgt := 118) dX7_told_1 (by rw [s_1]; decide) (by rw [s_1]; decide) (by rw [s_1]; rfl) rfl ?_
    refine v_aload_n (pc := 118) 0 dX7_told_118 rfl rfl ?_
    refine v_aload_n (pc := 119) 0 dX7_told_119 rfl rfl ?_
    refine g_X7_16 (pc := 120) (cMr_obj) (by decide) rfl dX7_told_120 ?_
    refine v_callV (pc := 123) _ _ k_X7_165 (cMr_obj) rfl (by decide) (m_hatsW hp hnp) ⟨rfl, rfl, by decide⟩ rfl rfl (Nat.le_of_ble_eq_true rfl) ⟨Nat.le_of_ble_eq_true rfl, Nat.le_of_ble_eq_true rfl⟩ dX7_told_123 (unS ?_)
    show V E X _ RX7 _ _ _ 0 0 _ false 146 126 _ [_] _
    exact v_iret (pc := 126) dX7_told_126 (⟨by unfold mToldI; rw [if_neg (show ¬ w = nI 0 from fun e => by rw [e] at s_1; revert s_1; decide), if_neg (show ¬ w = nI 1 from fun e => by rw [e] at s_1; revert s_1; decide), if_neg (show ¬ w = nI 2 from fun e => by rw [e] at s_1; revert s_1; decide), if_neg (show ¬ w = nI 3 from fun e => by rw [e] at s_1; revert s_1; decide), if_neg (show ¬ w = nI 4 from fun e => by rw [e] at s_1; revert s_1; decide), if_neg (show ¬ w = nI 5 from fun e => by rw [e] at s_1; revert s_1; decide), if_pos s_1], rfl⟩)
  · refine v_tabIn (pc := 1) (off := 126) (tgt := 127) dX7_told_1 (by rw [s_1]; decide) (by rw [s_1]; decide) (by rw [s_1]; rfl) rfl ?_
    refine v_aload_n (pc := 127) 0 dX7_told_127 rfl rfl ?_
    refine g_X7_16 (pc := 128) (cMr_obj) (by decide) rfl dX7_told_128 ?_
    refine v_bipush (pc := 131) (nI 14) dX7_told_131 kB_14 ?_
    refine v_ialdN (pc := 133) (cM_now) (by decide) (by omega) (by decide) dX7_told_133 ?_
    exact v_iret (pc := 134) dX7_told_134 (⟨by unfold mToldI; rw [if_neg (show ¬ w = nI 0 from fun e => by rw [e] at s_1; revert s_1; decide), if_neg (show ¬ w = nI 1 from fun e => by rw [e] at s_1; revert s_1; decide), if_neg (show ¬ w = nI 2 from fun e => by rw [e] at s_1; revert s_1; decide), if_neg (show ¬ w = nI 3 from fun e => by rw [e] at s_1; revert s_1; decide), if_neg (show ¬ w = nI 4 from fun e => by rw [e] at s_1; revert s_1; decide), if_neg (show ¬ w = nI 5 from fun e => by rw [e] at s_1; revert s_1; decide), if_neg (show ¬ w = nI 6 from fun e => by rw [e] at s_1; revert s_1; decide), if_pos s_1], rfl⟩)
  · refine v_tabIn (pc := 1) (off := 134) (tgt := 135) dX7_told_1 (by rw [s_1]; decide) (by rw [s_1]; decide) (by rw [s_1]; rfl) rfl ?_
    refine v_aload_n (pc := 135) 0 dX7_told_135 rfl rfl ?_
    refine g_X7_16 (pc := 136) (cMr_obj) (by decide) rfl dX7_told_136 ?_
    refine v_bipush (pc := 139) (nI 26) dX7_told_139 kB_26 ?_
    refine v_ialdN (pc := 141) (cM_now) (by decide) (by omega) (by decide) dX7_told_141 ?_
    exact v_iret (pc := 142) dX7_told_142 (⟨by unfold mToldI; rw [if_neg (show ¬ w = nI 0 from fun e => by rw [e] at s_1; revert s_1; decide), if_neg (show ¬ w = nI 1 from fun e => by rw [e] at s_1; revert s_1; decide), if_neg (show ¬ w = nI 2 from fun e => by rw [e] at s_1; revert s_1; decide), if_neg (show ¬ w = nI 3 from fun e => by rw [e] at s_1; revert s_1; decide), if_neg (show ¬ w = nI 4 from fun e => by rw [e] at s_1; revert s_1; decide), if_neg (show ¬ w = nI 5 from fun e => by rw [e] at s_1; revert s_1; decide), if_neg (show ¬ w = nI 6 from fun e => by rw [e] at s_1; revert s_1; decide), if_neg (show ¬ w = nI 7 from fun e => by rw [e] at s_1; revert s_1; decide), if_pos s_1], rfl⟩)
  · refine v_tabIn (pc := 1) (off := 142) (tgt := 143) dX7_told_1 (by rw [s_1]; decide) (by rw [s_1]; decide) (by rw [s_1]; rfl) rfl ?_
    refine v_aload_n (pc := 143) 0 dX7_told_143 rfl rfl ?_
    refine g_X7_16 (pc := 144) (cMr_obj) (by decide) rfl dX7_told_144 ?_
    refine v_bipush (pc := 147) (nI 27) dX7_told_147 kB_27 ?_
    refine v_ialdN (pc := 149) (cM_now) (by decide) (by omega) (by decide) dX7_told_149 ?_
    exact v_iret (pc := 150) dX7_told_150 (⟨by unfold mToldI; rw [if_neg (show ¬ w = nI 0 from fun e => by rw [e] at s_1; revert s_1; decide), if_neg (show ¬ w = nI 1 from fun e => by rw [e] at s_1; revert s_1; decide), if_neg (show ¬ w = nI 2 from fun e => by rw [e] at s_1; revert s_1; decide), if_neg (show ¬ w = nI 3 from fun e => by rw [e] at s_1; revert s_1; decide), if_neg (show ¬ w = nI 4 from fun e => by rw [e] at s_1; revert s_1; decide), if_neg (show ¬ w = nI 5 from fun e => by rw [e] at s_1; revert s_1; decide), if_neg (show ¬ w = nI 6 from fun e => by rw [e] at s_1; revert s_1; decide), if_neg (show ¬ w = nI 7 from fun e => by rw [e] at s_1; revert s_1; decide), if_neg (show ¬ w = nI 8 from fun e => by rw [e] at s_1; revert s_1; decide), if_pos s_1], rfl⟩)
  · refine v_tabIn (pc := 1) (off := 150) (tgt := 151) dX7_told_1 (by rw [s_1]; decide) (by rw [s_1]; decide) (by rw [s_1]; rfl) rfl ?_
    refine v_aload_n (pc := 151) 0 dX7_told_151 rfl rfl ?_
    refine v_callV (pc := 152) _ _ k_X7_168 (cMr_obj) rfl (by decide) (m_rich hp hnp) ⟨rfl, rfl, by decide⟩ rfl rfl (Nat.le_of_ble_eq_true rfl) ⟨Nat.le_of_ble_eq_true rfl, Nat.le_of_ble_eq_true rfl⟩ dX7_told_152 (unS ?_)
    show V E X _ RX7 _ _ _ 0 0 _ false 146 155 _ [_] _
    exact v_iret (pc := 155) dX7_told_155 (⟨by unfold mToldI; rw [if_neg (show ¬ w = nI 0 from fun e => by rw [e] at s_1; revert s_1; decide), if_neg (show ¬ w = nI 1 from fun e => by rw [e] at s_1; revert s_1; decide), if_neg (show ¬ w = nI 2 from fun e => by rw [e] at s_1; revert s_1; decide), if_neg (show ¬ w = nI 3 from fun e => by rw [e] at s_1; revert s_1; decide), if_neg (show ¬ w = nI 4 from fun e => by rw [e] at s_1; revert s_1; decide), if_neg (show ¬ w = nI 5 from fun e => by rw [e] at s_1; revert s_1; decide), if_neg (show ¬ w = nI 6 from fun e => by rw [e] at s_1; revert s_1; decide), if_neg (show ¬ w = nI 7 from fun e => by rw [e] at s_1; revert s_1; decide), if_neg (show ¬ w = nI 8 from fun e => by rw [e] at s_1; revert s_1; decide), if_neg (show ¬ w = nI 9 from fun e => by rw [e] at s_1; revert s_1; decide), if_pos s_1], rfl⟩)
  · refine v_tabIn (pc := 1) (off := 155) (tgt := 156) dX7_told_1 (by rw [s_1]; decide) (by rw [s_1]; decide) (by rw [s_1]; rfl) rfl ?_
    refine v_aload_n (pc := 156) 0 dX7_told_156 rfl rfl ?_
    refine v_callV (pc := 157) _ _ k_X7_171 (cMr_obj) rfl (by decide) (m_rings hp hnp hd hnd) ⟨rfl, rfl, by decide⟩ rfl rfl (Nat.le_of_ble_eq_true rfl) ⟨Nat.le_of_ble_eq_true rfl, Nat.le_of_ble_eq_true rfl⟩ dX7_told_157 (unS ?_)
    show V E X _ RX7 _ _ _ 0 0 _ false 146 160 _ [_] _
    exact v_iret (pc := 160) dX7_told_160 (⟨by unfold mToldI; rw [if_neg (show ¬ w = nI 0 from fun e => by rw [e] at s_1; revert s_1; decide), if_neg (show ¬ w = nI 1 from fun e => by rw [e] at s_1; revert s_1; decide), if_neg (show ¬ w = nI 2 from fun e => by rw [e] at s_1; revert s_1; decide), if_neg (show ¬ w = nI 3 from fun e => by rw [e] at s_1; revert s_1; decide), if_neg (show ¬ w = nI 4 from fun e => by rw [e] at s_1; revert s_1; decide), if_neg (show ¬ w = nI 5 from fun e => by rw [e] at s_1; revert s_1; decide), if_neg (show ¬ w = nI 6 from fun e => by rw [e] at s_1; revert s_1; decide), if_neg (show ¬ w = nI 7 from fun e => by rw [e] at s_1; revert s_1; decide), if_neg (show ¬ w = nI 8 from fun e => by rw [e] at s_1; revert s_1; decide), if_neg (show ¬ w = nI 9 from fun e => by rw [e] at s_1; revert s_1; decide), if_neg (show ¬ w = nI 10 from fun e => by rw [e] at s_1; revert s_1; decide), if_pos s_1], rfl⟩)
  · refine v_tabIn (pc := 1) (off := 160) (tgt := 161) dX7_told_1 (by rw [s_1]; decide) (by rw [s_1]; decide) (by rw [s_1]; rfl) rfl ?_
    refine v_aload_n (pc := 161) 0 dX7_told_161 rfl rfl ?_
    refine v_iconst (pc := 162) (-1) dX7_told_162 kI_m1 ?_
    refine v_iconst (pc := 163) (-1) dX7_told_163 kI_m1 ?_
    refine v_callV (pc := 164) _ _ k_X7_174 (cMr_obj) rfl (by decide) (m_owes hd hnd _ _) ⟨rfl, rfl, by decide⟩ rfl rfl (Nat.le_of_ble_eq_true rfl) ⟨Nat.le_of_ble_eq_true rfl, Nat.le_of_ble_eq_true rfl⟩ dX7_told_164 (unS ?_)
    show V E X _ RX7 _ _ _ 0 0 _ false 146 167 _ [_] _
    exact v_iret (pc := 167) dX7_told_167 (⟨by unfold mToldI; rw [if_neg (show ¬ w = nI 0 from fun e => by rw [e] at s_1; revert s_1; decide), if_neg (show ¬ w = nI 1 from fun e => by rw [e] at s_1; revert s_1; decide), if_neg (show ¬ w = nI 2 from fun e => by rw [e] at s_1; revert s_1; decide), if_neg (show ¬ w = nI 3 from fun e => by rw [e] at s_1; revert s_1; decide), if_neg (show ¬ w = nI 4 from fun e => by rw [e] at s_1; revert s_1; decide), if_neg (show ¬ w = nI 5 from fun e => by rw [e] at s_1; revert s_1; decide), if_neg (show ¬ w = nI 6 from fun e => by rw [e] at s_1; revert s_1; decide), if_neg (show ¬ w = nI 7 from fun e => by rw [e] at s_1; revert s_1; decide), if_neg (show ¬ w = nI 8 from fun e => by rw [e] at s_1; revert s_1; decide), if_neg (show ¬ w = nI 9 from fun e => by rw [e] at s_1; revert s_1; decide), if_neg (show ¬ w = nI 10 from fun e => by rw [e] at s_1; revert s_1; decide), if_neg (show ¬ w = nI 11 from fun e => by rw [e] at s_1; revert s_1; decide), if_pos s_1], rfl⟩)
  · refine v_tabIn (pc := 1) (off := 167) (tgt := 168) dX7_told_1 (by rw [s_1]; decide) (by rw [s_1]; decide) (by rw [s_1]; rfl) rfl ?_
    refine v_aload_n (pc := 168) 0 dX7_told_168 rfl rfl ?_
    refine v_callV (pc := 169) _ _ k_X7_177 (cMr_obj) rfl (by decide) (m_who hp hnp hwm) ⟨rfl, rfl, by decide⟩ rfl rfl (Nat.le_of_ble_eq_true rfl) ⟨Nat.le_of_ble_eq_true rfl, Nat.le_of_ble_eq_true rfl⟩ dX7_told_169 (unS ?_)
    show V E X _ RX7 _ _ _ 0 0 _ false 146 172 _ [_] _
    exact v_iret (pc := 172) dX7_told_172 (⟨by unfold mToldI; rw [if_neg (show ¬ w = nI 0 from fun e => by rw [e] at s_1; revert s_1; decide), if_neg (show ¬ w = nI 1 from fun e => by rw [e] at s_1; revert s_1; decide), if_neg (show ¬ w = nI 2 from fun e => by rw [e] at s_1; revert s_1; decide), if_neg (show ¬ w = nI 3 from fun e => by rw [e] at s_1; revert s_1; decide), if_neg (show ¬ w = nI 4 from fun e => by rw [e] at s_1; revert s_1; decide), if_neg (show ¬ w = nI 5 from fun e => by rw [e] at s_1; revert s_1; decide), if_neg (show ¬ w = nI 6 from fun e => by rw [e] at s_1; revert s_1; decide), if_neg (show ¬ w = nI 7 from fun e => by rw [e] at s_1; revert s_1; decide), if_neg (show ¬ w = nI 8 from fun e => by rw [e] at s_1; revert s_1; decide), if_neg (show ¬ w = nI 9 from fun e => by rw [e] at s_1; revert s_1; decide), if_neg (show ¬ w = nI 10 from fun e => by rw [e] at s_1; revert s_1; decide), if_neg (show ¬ w = nI 11 from fun e => by rw [e] at s_1; revert s_1; decide), if_neg (show ¬ w = nI 12 from fun e => by rw [e] at s_1; revert s_1; decide), if_pos s_1], rfl⟩)
  · refine v_tabIn (pc := 1) (off := 172) (tgt := 173) dX7_told_1 (by rw [s_1]; decide) (by rw [s_1]; decide) (by rw [s_1]; rfl) rfl ?_
    refine v_aload_n (pc := 173) 0 dX7_told_173 rfl rfl ?_
    refine g_X7_61 (pc := 174) (cMr_obj) (by decide) rfl dX7_told_174 ?_
    exact v_iret (pc := 177) dX7_told_177 (⟨by unfold mToldI; rw [if_neg (show ¬ w = nI 0 from fun e => by rw [e] at s_1; revert s_1; decide), if_neg (show ¬ w = nI 1 from fun e => by rw [e] at s_1; revert s_1; decide), if_neg (show ¬ w = nI 2 from fun e => by rw [e] at s_1; revert s_1; decide), if_neg (show ¬ w = nI 3 from fun e => by rw [e] at s_1; revert s_1; decide), if_neg (show ¬ w = nI 4 from fun e => by rw [e] at s_1; revert s_1; decide), if_neg (show ¬ w = nI 5 from fun e => by rw [e] at s_1; revert s_1; decide), if_neg (show ¬ w = nI 6 from fun e => by rw [e] at s_1; revert s_1; decide), if_neg (show ¬ w = nI 7 from fun e => by rw [e] at s_1; revert s_1; decide), if_neg (show ¬ w = nI 8 from fun e => by rw [e] at s_1; revert s_1; decide), if_neg (show ¬ w = nI 9 from fun e => by rw [e] at s_1; revert s_1; decide), if_neg (show ¬ w = nI 10 from fun e => by rw [e] at s_1; revert s_1; decide), if_neg (show ¬ w = nI 11 from fun e => by rw [e] at s_1; revert s_1; decide), if_neg (show ¬ w = nI 12 from fun e => by rw [e] at s_1; revert s_1; decide), if_neg (show ¬ w = nI 13 from fun e => by rw [e] at s_1; revert s_1; decide), if_pos s_1], rfl⟩)
  · refine v_tabIn (pc := 1) (off := 177) (tgt := 178) dX7_told_1 (by rw [s_1]; decide) (by rw [s_1]; decide) (by rw [s_1]; rfl) rfl ?_
    refine v_aload_n (pc := 178) 0 dX7_told_178 rfl rfl ?_
    refine g_X7_64 (pc := 179) (cMr_obj) (by decide) rfl dX7_told_179 ?_
    exact v_iret (pc := 182) dX7_told_182 (⟨by unfold mToldI; rw [if_neg (show ¬ w = nI 0 from fun e => by rw [e] at s_1; revert s_1; decide), if_neg (show ¬ w = nI 1 from fun e => by rw [e] at s_1; revert s_1; decide), if_neg (show ¬ w = nI 2 from fun e => by rw [e] at s_1; revert s_1; decide), if_neg (show ¬ w = nI 3 from fun e => by rw [e] at s_1; revert s_1; decide), if_neg (show ¬ w = nI 4 from fun e => by rw [e] at s_1; revert s_1; decide), if_neg (show ¬ w = nI 5 from fun e => by rw [e] at s_1; revert s_1; decide), if_neg (show ¬ w = nI 6 from fun e => by rw [e] at s_1; revert s_1; decide), if_neg (show ¬ w = nI 7 from fun e => by rw [e] at s_1; revert s_1; decide), if_neg (show ¬ w = nI 8 from fun e => by rw [e] at s_1; revert s_1; decide), if_neg (show ¬ w = nI 9 from fun e => by rw [e] at s_1; revert s_1; decide), if_neg (show ¬ w = nI 10 from fun e => by rw [e] at s_1; revert s_1; decide), if_neg (show ¬ w = nI 11 from fun e => by rw [e] at s_1; revert s_1; decide), if_neg (show ¬ w = nI 12 from fun e => by rw [e] at s_1; revert s_1; decide), if_neg (show ¬ w = nI 13 from fun e => by rw [e] at s_1; revert s_1; decide), if_neg (show ¬ w = nI 14 from fun e => by rw [e] at s_1; revert s_1; decide), if_pos s_1], rfl⟩)
  · refine v_tabIn (pc := 1) (off := 182) (tgt := 183) dX7_told_1 (by rw [s_1]; decide) (by rw [s_1]; decide) (by rw [s_1]; rfl) rfl ?_
    refine v_aload_n (pc := 183) 0 dX7_told_183 rfl rfl ?_
    refine g_X7_67 (pc := 184) (cMr_obj) (by decide) rfl dX7_told_184 ?_
    exact v_iret (pc := 187) dX7_told_187 (⟨by unfold mToldI; rw [if_neg (show ¬ w = nI 0 from fun e => by rw [e] at s_1; revert s_1; decide), if_neg (show ¬ w = nI 1 from fun e => by rw [e] at s_1; revert s_1; decide), if_neg (show ¬ w = nI 2 from fun e => by rw [e] at s_1; revert s_1; decide), if_neg (show ¬ w = nI 3 from fun e => by rw [e] at s_1; revert s_1; decide), if_neg (show ¬ w = nI 4 from fun e => by rw [e] at s_1; revert s_1; decide), if_neg (show ¬ w = nI 5 from fun e => by rw [e] at s_1; revert s_1; decide), if_neg (show ¬ w = nI 6 from fun e => by rw [e] at s_1; revert s_1; decide), if_neg (show ¬ w = nI 7 from fun e => by rw [e] at s_1; revert s_1; decide), if_neg (show ¬ w = nI 8 from fun e => by rw [e] at s_1; revert s_1; decide), if_neg (show ¬ w = nI 9 from fun e => by rw [e] at s_1; revert s_1; decide), if_neg (show ¬ w = nI 10 from fun e => by rw [e] at s_1; revert s_1; decide), if_neg (show ¬ w = nI 11 from fun e => by rw [e] at s_1; revert s_1; decide), if_neg (show ¬ w = nI 12 from fun e => by rw [e] at s_1; revert s_1; decide), if_neg (show ¬ w = nI 13 from fun e => by rw [e] at s_1; revert s_1; decide), if_neg (show ¬ w = nI 14 from fun e => by rw [e] at s_1; revert s_1; decide), if_neg (show ¬ w = nI 15 from fun e => by rw [e] at s_1; revert s_1; decide), if_pos s_1], rfl⟩)
  · refine v_tabIn (pc := 1) (off := 187) (tgt := 188) dX7_told_1 (by rw [s_1]; decide) (by rw [s_1]; decide) (by rw [s_1]; rfl) rfl ?_
    refine v_aload_n (pc := 188) 0 dX7_told_188 rfl rfl ?_
    refine g_X7_58 (pc := 189) (cMr_obj) (by decide) rfl dX7_told_189 ?_
    exact v_iret (pc := 192) dX7_told_192 (⟨by unfold mToldI; rw [if_neg (show ¬ w = nI 0 from fun e => by rw [e] at s_1; revert s_1; decide), if_neg (show ¬ w = nI 1 from fun e => by rw [e] at s_1; revert s_1; decide), if_neg (show ¬ w = nI 2 from fun e => by rw [e] at s_1; revert s_1; decide), if_neg (show ¬ w = nI 3 from fun e => by rw [e] at s_1; revert s_1; decide), if_neg (show ¬ w = nI 4 from fun e => by rw [e] at s_1; revert s_1; decide), if_neg (show ¬ w = nI 5 from fun e => by rw [e] at s_1; revert s_1; decide), if_neg (show ¬ w = nI 6 from fun e => by rw [e] at s_1; revert s_1; decide), if_neg (show ¬ w = nI 7 from fun e => by rw [e] at s_1; revert s_1; decide), if_neg (show ¬ w = nI 8 from fun e => by rw [e] at s_1; revert s_1; decide), if_neg (show ¬ w = nI 9 from fun e => by rw [e] at s_1; revert s_1; decide), if_neg (show ¬ w = nI 10 from fun e => by rw [e] at s_1; revert s_1; decide), if_neg (show ¬ w = nI 11 from fun e => by rw [e] at s_1; revert s_1; decide), if_neg (show ¬ w = nI 12 from fun e => by rw [e] at s_1; revert s_1; decide), if_neg (show ¬ w = nI 13 from fun e => by rw [e] at s_1; revert s_1; decide), if_neg (show ¬ w = nI 14 from fun e => by rw [e] at s_1; revert s_1; decide), if_neg (show ¬ w = nI 15 from fun e => by rw [e] at s_1; revert s_1; decide), if_neg (show ¬ w = nI 16 from fun e => by rw [e] at s_1; revert s_1; decide), if_pos s_1], rfl⟩)
  · refine v_tabOut (pc := 1) (tgt := 193) dX7_told_1 s_1 rfl ?_
    refine v_ldc (pc := 193) _ kc_X7_76 dX7_told_193 rfl ?_
    exact v_iret (pc := 195) dX7_told_195 (⟨by unfold mToldI; rw [if_neg (show ¬ w = nI 0 from fun e => by rw [e] at s_1; revert s_1; decide), if_neg (show ¬ w = nI 1 from fun e => by rw [e] at s_1; revert s_1; decide), if_neg (show ¬ w = nI 2 from fun e => by rw [e] at s_1; revert s_1; decide), if_neg (show ¬ w = nI 3 from fun e => by rw [e] at s_1; revert s_1; decide), if_neg (show ¬ w = nI 4 from fun e => by rw [e] at s_1; revert s_1; decide), if_neg (show ¬ w = nI 5 from fun e => by rw [e] at s_1; revert s_1; decide), if_neg (show ¬ w = nI 6 from fun e => by rw [e] at s_1; revert s_1; decide), if_neg (show ¬ w = nI 7 from fun e => by rw [e] at s_1; revert s_1; decide), if_neg (show ¬ w = nI 8 from fun e => by rw [e] at s_1; revert s_1; decide), if_neg (show ¬ w = nI 9 from fun e => by rw [e] at s_1; revert s_1; decide), if_neg (show ¬ w = nI 10 from fun e => by rw [e] at s_1; revert s_1; decide), if_neg (show ¬ w = nI 11 from fun e => by rw [e] at s_1; revert s_1; decide), if_neg (show ¬ w = nI 12 from fun e => by rw [e] at s_1; revert s_1; decide), if_neg (show ¬ w = nI 13 from fun e => by rw [e] at s_1; revert s_1; decide), if_neg (show ¬ w = nI 14 from fun e => by rw [e] at s_1; revert s_1; decide), if_neg (show ¬ w = nI 15 from fun e => by rw [e] at s_1; revert s_1; decide), if_neg (show ¬ w = nI 16 from fun e => by rw [e] at s_1; revert s_1; decide), if_neg (show ¬ w = nI 17 from fun e => by rw [e] at s_1; revert s_1; decide)]; rfl, rfl⟩)
def mPersI (P W : Fn) (nd a : Nat) (w : Int32) : Int32 := if w = nI 0 then P (4 + a) else if w = nI 1 then W (0 + a) else if w = nI 2 then P (18 + a) else if w = nI 3 then W (7 + a) else if w = nI 4 then (W 14 >>> (nI a &&& 31)) &&& nI 1 else if w = nI 5 then W (0 + a) / nI 9 else if w = nI 6 then W (0 + a) - W (0 + a) / nI 9 * nI 9 else if w = nI 7 then owM P W (nI a) (-1) nd else if w = nI 8 then owM P W (-1) (nI a) nd else if w = nI 9 then loI P W a else cOUT
set_option maxHeartbeats 4000000 in
set_option maxRecDepth 100000 in
theorem m_person {E : Ev} {c : CSt} {xP xR xW xS xZ xG xK xT xQ xF xB xL xC : Fn} {un sz wm fm bm at_ bg fg : Nat} {ft sg vl wr : Int32} {sd : Int64} {np : Nat} (hp : xP 2 = nI np) (hnp : np ≤ 7) {nd : Nat} (hd : xP 3 = nI nd) (hnd : nd ≤ 9) {a : Nat} (ha : a < np) (w : Int32) : Ct E yX7_person cX7_person 3 (some .int) ({ frames := 3, cells := 0, slots := 0, locals := 65 } : Room) false 146 [.ref (Ez E + 132), .int (nI a), .int w] (cellOf E (c, (mkA xP xR xW xS xZ xG xK xT xQ xF xB xL xC, (nI un, nI sz, ft, nI wm, nI fm, nI bm, nI at_, nI bg, sg, nI fg, vl, wr), sd))) 146 0 0 (Ff (some (.int (mPersI xP xW nd a w))) (cellOf E (c, (mkA xP xR xW xS xZ xG xK xT xQ xF xB xL xC, (nI un, nI sz, ft, nI wm, nI fm, nI bm, nI at_, nI bg, sg, nI fg, vl, wr), sd)))) := by
  refine Ct.ofV (by decide) (Nat.le_of_ble_eq_true rfl) (fun X hnm => ?_)
  show V E X _ RX7 _ _ _ _ _ _ false 146 0 [(0, .ref (Ez E + 132)), (1, .int (nI a)), (2, .int w)] [] _
  refine v_aload_n (pc := 0) 0 dX7_person_0 rfl rfl ?_
  refine v_iload_n (pc := 1) 1 dX7_person_1 rfl rfl ?_
  refine v_callV (pc := 2) _ _ k_X7_180 (cMr_obj) rfl (by decide) (m_isPn hp hnp _) ⟨rfl, rfl, by decide⟩ rfl rfl (Nat.le_of_ble_eq_true rfl) ⟨Nat.le_of_ble_eq_true rfl, Nat.le_of_ble_eq_true rfl⟩ dX7_person_2 (unS ?_)
  show V E X _ RX7 _ _ _ 0 0 _ false 146 5 _ [_] _
  refine v_if_neB (pc := 5) (tgt := 11) dX7_person_5 rfl (fun c_5 => ?_) (fun c_5 => False.elim ((fun q => by rw [perB_t ha (by omega)] at q; exact Bool.noConfusion q) c_5))
  refine v_iload_n (pc := 11) 2 dX7_person_11 rfl rfl ?_
  rcases sw_0_9 w with s_12 | s_12 | s_12 | s_12 | s_12 | s_12 | s_12 | s_12 | s_12 | s_12 | s_12
  · refine v_tabIn (pc := 12) (off := 56) (tgt := 68) dX7_person_12 (by rw [s_12]; decide) (by rw [s_12]; decide) (by rw [s_12]; rfl) rfl ?_
    refine v_aload_n (pc := 68) 0 dX7_person_68 rfl rfl ?_
    refine g_X7_7 (pc := 69) (cMr_obj) (by decide) rfl dX7_person_69 ?_
    refine v_iconst (pc := 72) (nI 4) dX7_person_72 kI_4 ?_
    refine v_iload_n (pc := 73) 1 dX7_person_73 rfl rfl ?_
    refine v_iaddN (pc := 74) dX7_person_74 ?_
    refine v_ialdN (pc := 75) (cM_parish) (by decide) (by omega) (by decide) dX7_person_75 ?_
    exact v_iret (pc := 76) dX7_person_76 (⟨by unfold mPersI; rw [if_pos s_12], rfl⟩)
  · refine v_tabIn (pc := 12) (off := 65) (tgt := 77) dX7_person_12 (by rw [s_12]; decide) (by rw [s_12]; decide) (by rw [s_12]; rfl) rfl ?_
    refine v_aload_n (pc := 77) 0 dX7_person_77 rfl rfl ?_
    refine g_X7_16 (pc := 78) (cMr_obj) (by decide) rfl dX7_person_78 ?_
    refine v_iconst (pc := 81) (nI 0) dX7_person_81 kI_0 ?_
    refine v_iload_n (pc := 82) 1 dX7_person_82 rfl rfl ?_
    refine v_iaddN (pc := 83) dX7_person_83 ?_
    refine v_ialdN (pc := 84) (cM_now) (by decide) (by omega) (by decide) dX7_person_84 ?_
    exact v_iret (pc := 85) dX7_person_85 (⟨by unfold mPersI; rw [if_neg (show ¬ w = nI 0 from fun e => by rw [e] at s_12; revert s_12; decide), if_pos s_12], rfl⟩)
  · refine v_tabIn (pc := 12) (off := 74) (tgt := 86) dX7_person_12 (by rw [s_12]; decide) (by rw [s_12]; decide) (by rw [s_12]; rfl) rfl ?_
    refine v_aload_n (pc := 86) 0 dX7_person_86 rfl rfl ?_
    refine g_X7_7 (pc := 87) (cMr_obj) (by decide) rfl dX7_person_87 ?_
    refine v_bipush (pc := 90) (nI 18) dX7_person_90 kB_18 ?_
    refine v_iload_n (pc := 92) 1 dX7_person_92 rfl rfl ?_
    refine v_iaddN (pc := 93) dX7_person_93 ?_
    refine v_ialdN (pc := 94) (cM_parish) (by decide) (by omega) (by decide) dX7_person_94 ?_
    exact v_iret (pc := 95) dX7_person_95 (⟨by unfold mPersI; rw [if_neg (show ¬ w = nI 0 from fun e => by rw [e] at s_12; revert s_12; decide), if_neg (show ¬ w = nI 1 from fun e => by rw [e] at s_12; revert s_12; decide), if_pos s_12], rfl⟩)
  · refine v_tabIn (pc := 12) (off := 84) (tgt := 96) dX7_person_12 (by rw [s_12]; decide) (by rw [s_12]; decide) (by rw [s_12]; rfl) rfl ?_
    refine v_aload_n (pc := 96) 0 dX7_person_96 rfl rfl ?_
    refine g_X7_16 (pc := 97) (cMr_obj) (by decide) rfl dX7_person_97 ?_
    refine v_bipush (pc := 100) (nI 7) dX7_person_100 kB_7 ?_
    refine v_iload_n (pc := 102) 1 dX7_person_102 rfl rfl ?_
    refine v_iaddN (pc := 103) dX7_person_103 ?_
    refine v_ialdN (pc := 104) (cM_now) (by decide) (by omega) (by decide) dX7_person_104 ?_
    exact v_iret (pc := 105) dX7_person_105 (⟨by unfold mPersI; rw [if_neg (show ¬ w = nI 0 from fun e => by rw [e] at s_12; revert s_12; decide), if_neg (show ¬ w = nI 1 from fun e => by rw [e] at s_12; revert s_12; decide), if_neg (show ¬ w = nI 2 from fun e => by rw [e] at s_12; revert s_12; decide), if_pos s_12], rfl⟩)
  · refine v_tabIn (pc := 12) (off := 94) (tgt := 106) dX7_person_12 (by rw [s_12]; decide) (by rw [s_12]; decide) (by rw [s_12]; rfl) rfl ?_
    refine v_aload_n (pc := 106) 0 dX7_person_106 rfl rfl ?_
    refine g_X7_16 (pc := 107) (cMr_obj) (by decide) rfl dX7_person_107 ?_
    refine v_bipush (pc := 110) (nI 14) dX7_person_110 kB_14 ?_
    refine v_ialdN (pc := 112) (cM_now) (by decide) (by omega) (by decide) dX7_person_112 ?_
    refine v_iload_n (pc := 113) 1 dX7_person_113 rfl rfl ?_
    refine v_ishr (pc := 114) dX7_person_114 ?_
    refine v_iconst (pc := 115) (nI 1) dX7_person_115 kI_1 ?_
    refine v_iand (pc := 116) dX7_person_116 ?_
    exact v_iret (pc := 117) dX7_person_117 (⟨by unfold mPersI; rw [if_neg (show ¬ w = nI 0 from fun e => by rw [e] at s_12; revert s_12; decide), if_neg (show ¬ w = nI 1 from fun e => by rw [e] at s_12; revert s_12; decide), if_neg (show ¬ w = nI 2 from fun e => by rw [e] at s_12; revert s_12; decide), if_neg (show ¬ w = nI 3 from fun e => by rw [e] at s_12; revert s_12; decide), if_pos s_12], rfl⟩)
  · refine v_tabIn (pc := 12) (off := 106) (tgt := 118) dX7_person_12 (by rw [s_12]; decide) (by rw [s_12]; decide) (by rw [s_12]; rfl) rfl ?_
    refine v_aload_n (pc := 118) 0 dX7_person_118 rfl rfl ?_
    refine g_X7_16 (pc := 119) (cMr_obj) (by decide) rfl dX7_person_119 ?_
    refine v_iconst (pc := 122) (nI 0) dX7_person_122 kI_0 ?_
    refine v_iload_n (pc := 123) 1 dX7_person_123 rfl rfl ?_
    refine v_iaddN (pc := 124) dX7_person_124 ?_
    refine v_ialdN (pc := 125) (cM_now) (by decide) (by omega) (by decide) dX7_person_125 ?_
    refine v_bipush (pc := 126) (nI 9) dX7_person_126 kB_9 ?_
    refine v_idiv (pc := 128) dX7_person_128 (by decide) ?_
    exact v_iret (pc := 129) dX7_person_129 (⟨by unfold mPersI; rw [if_neg (show ¬ w = nI 0 from fun e => by rw [e] at s_12; revert s_12; decide), if_neg (show ¬ w = nI 1 from fun e => by rw [e] at s_12; revert s_12; decide), if_neg (show ¬ w = nI 2 from fun e => by rw [e] at s_12; revert s_12; decide), if_neg (show ¬ w = nI 3 from fun e => by rw [e] at s_12; revert s_12; decide), if_neg (show ¬ w = nI 4 from fun e => by rw [e] at s_12; revert s_12; decide), if_pos s_12], rfl⟩)
  · refine v_tabIn (pc := 12) (off := 118) (tgt := 130) dX7_person_12 (by rw [s_12]; decide) (by rw [s_12]; decide) (by rw [s_12]; rfl) rfl ?_
    refine v_aload_n (pc := 130) 0 dX7_person_130 rfl rfl ?_
    refine g_X7_16 (pc := 131) (cMr_obj) (by decide) rfl dX7_person_131 ?_
    refine v_iconst (pc := 134) (nI 0) dX7_person_134 kI_0 ?_
    refine v_iload_n (pc := 135) 1 dX7_person_135 rfl rfl ?_
    refine v_iaddN (pc := 136) dX7_person_136 ?_
    refine v_ialdN (pc := 137) (cM_now) (by decide) (by omega) (by decide) dX7_person_137 ?_
    refine v_bipush (pc := 138) (nI 9) dX7_person_138 kB_9 ?_
    refine v_irem (pc := 140) dX7_person_140 (by decide) ?_
    exact v_iret (pc := 141) dX7_person_141 (⟨by unfold mPersI; rw [if_neg (show ¬ w = nI 0 from fun e => by rw [e] at s_12; revert s_12; decide), if_neg (show ¬ w = nI 1 from fun e => by rw [e] at s_12; revert s_12; decide), if_neg (show ¬ w = nI 2 from fun e => by rw [e] at s_12; revert s_12; decide), if_neg (show ¬ w = nI 3 from fun e => by rw [e] at s_12; revert s_12; decide), if_neg (show ¬ w = nI 4 from fun e => by rw [e] at s_12; revert s_12; decide), if_neg (show ¬ w = nI 5 from fun e => by rw [e] at s_12; revert s_12; decide), if_pos s_12], rfl⟩)
  · refine v_tabIn (pc := 12) (off := 130) (tgt := 142) dX7_person_12 (by rw [s_12]; decide) (by rw [s_12]; decide) (by rw [s_12]; rfl) rfl ?_
    refine v_aload_n (pc := 142) 0 dX7_person_142 rfl rfl ?_
    refine v_iload_n (pc := 143) 1 dX7_person_143 rfl rfl ?_
    refine v_iconst (pc := 144) (-1) dX7_person_144 kI_m1 ?_
    refine v_callV (pc := 145) _ _ k_X7_174 (cMr_obj) rfl (by decide) (m_owes hd hnd _ _) ⟨rfl, rfl, by decide⟩ rfl rfl (Nat.le_of_ble_eq_true rfl) ⟨Nat.le_of_ble_eq_true rfl, Nat.le_of_ble_eq_true rfl⟩ dX7_person_145 (unS ?_)
    show V E X _ RX7 _ _ _ 0 0 _ false 146 148 _ [_] _
    exact v_iret (pc := 148) dX7_person_148 (⟨by unfold mPersI; rw [if_neg (show ¬ w = nI 0 from fun e => by rw [e] at s_12; revert s_12; decide), if_neg (show ¬ w = nI 1 from fun e => by rw [e] at s_12; revert s_12; decide), if_neg (show ¬ w = nI 2 from fun e => by rw [e] at s_12; revert s_12; decide), if_neg (show ¬ w = nI 3 from fun e => by rw [e] at s_12; revert s_12; decide), if_neg (show ¬ w = nI 4 from fun e => by rw [e] at s_12; revert s_12; decide), if_neg (show ¬ w = nI 5 from fun e => by rw [e] at s_12; revert s_12; decide), if_neg (show ¬ w = nI 6 from fun e => by rw [e] at s_12; revert s_12; decide), if_pos s_12], rfl⟩)
  · refine v_tabIn (pc := 12) (off := 137) (tgt := 149) dX7_person_12 (by rw [s_12]; decide) (by rw [s_12]; decide) (by rw [s_12]; rfl) rfl ?_
    refine v_aload_n (pc := 149) 0 dX7_person_149 rfl rfl ?_
    refine v_iconst (pc := 150) (-1) dX7_person_150 kI_m1 ?_
    refine v_iload_n (pc := 151) 1 dX7_person_151 rfl rfl ?_
    refine v_callV (pc := 152) _ _ k_X7_174 (cMr_obj) rfl (by decide) (m_owes hd hnd _ _) ⟨rfl, rfl, by decide⟩ rfl rfl (Nat.le_of_ble_eq_true rfl) ⟨Nat.le_of_ble_eq_true rfl, Nat.le_of_ble_eq_true rfl⟩ dX7_person_152 (unS ?_)
    show V E X _ RX7 _ _ _ 0 0 _ false 146 155 _ [_] _
    exact v_iret (pc := 155) dX7_person_155 (⟨by unfold mPersI; rw [if_neg (show ¬ w = nI 0 from fun e => by rw [e] at s_12; revert s_12; decide), if_neg (show ¬ w = nI 1 from fun e => by rw [e] at s_12; revert s_12; decide), if_neg (show ¬ w = nI 2 from fun e => by rw [e] at s_12; revert s_12; decide), if_neg (show ¬ w = nI 3 from fun e => by rw [e] at s_12; revert s_12; decide), if_neg (show ¬ w = nI 4 from fun e => by rw [e] at s_12; revert s_12; decide), if_neg (show ¬ w = nI 5 from fun e => by rw [e] at s_12; revert s_12; decide), if_neg (show ¬ w = nI 6 from fun e => by rw [e] at s_12; revert s_12; decide), if_neg (show ¬ w = nI 7 from fun e => by rw [e] at s_12; revert s_12; decide), if_pos s_12], rfl⟩)
  · refine v_tabIn (pc := 12) (off := 144) (tgt := 156) dX7_person_12 (by rw [s_12]; decide) (by rw [s_12]; decide) (by rw [s_12]; rfl) rfl ?_
    refine v_aload_n (pc := 156) 0 dX7_person_156 rfl rfl ?_
    refine v_aload_n (pc := 157) 0 dX7_person_157 rfl rfl ?_
    refine g_X7_16 (pc := 158) (cMr_obj) (by decide) rfl dX7_person_158 ?_
    refine v_iload_n (pc := 161) 1 dX7_person_161 rfl rfl ?_
    refine v_callV (pc := 162) _ _ k_X7_154 (cMr_obj) rfl (by decide) (m_lossOnW (by omega)) ⟨rfl, rfl, by decide⟩ rfl rfl (Nat.le_of_ble_eq_true rfl) ⟨Nat.le_of_ble_eq_true rfl, Nat.le_of_ble_eq_true rfl⟩ dX7_person_162 (unS ?_)
    show V E X _ RX7 _ _ _ 0 0 _ false 146 165 _ [_] _
    exact v_iret (pc := 165) dX7_person_165 (⟨by unfold mPersI; rw [if_neg (show ¬ w = nI 0 from fun e => by rw [e] at s_12; revert s_12; decide), if_neg (show ¬ w = nI 1 from fun e => by rw [e] at s_12; revert s_12; decide), if_neg (show ¬ w = nI 2 from fun e => by rw [e] at s_12; revert s_12; decide), if_neg (show ¬ w = nI 3 from fun e => by rw [e] at s_12; revert s_12; decide), if_neg (show ¬ w = nI 4 from fun e => by rw [e] at s_12; revert s_12; decide), if_neg (show ¬ w = nI 5 from fun e => by rw [e] at s_12; revert s_12; decide), if_neg (show ¬ w = nI 6 from fun e => by rw [e] at s_12; revert s_12; decide), if_neg (show ¬ w = nI 7 from fun e => by rw [e] at s_12; revert s_12; decide), if_neg (show ¬ w = nI 8 from fun e => by rw [e] at s_12; revert s_12; decide), if_pos s_12], rfl⟩)
  · refine v_tabOut (pc := 12) (tgt := 166) dX7_person_12 s_12 rfl ?_
    refine v_ldc (pc := 166) _ kc_X7_76 dX7_person_166 rfl ?_
    exact v_iret (pc := 168) dX7_person_168 (⟨by unfold mPersI; rw [if_neg (show ¬ w = nI 0 from fun e => by rw [e] at s_12; revert s_12; decide), if_neg (show ¬ w = nI 1 from fun e => by rw [e] at s_12; revert s_12; decide), if_neg (show ¬ w = nI 2 from fun e => by rw [e] at s_12; revert s_12; decide), if_neg (show ¬ w = nI 3 from fun e => by rw [e] at s_12; revert s_12; decide), if_neg (show ¬ w = nI 4 from fun e => by rw [e] at s_12; revert s_12; decide), if_neg (show ¬ w = nI 5 from fun e => by rw [e] at s_12; revert s_12; decide), if_neg (show ¬ w = nI 6 from fun e => by rw [e] at s_12; revert s_12; decide), if_neg (show ¬ w = nI 7 from fun e => by rw [e] at s_12; revert s_12; decide), if_neg (show ¬ w = nI 8 from fun e => by rw [e] at s_12; revert s_12; decide), if_neg (show ¬ w = nI 9 from fun e => by rw [e] at s_12; revert s_12; decide)]; rfl, rfl⟩)
set_option maxHeartbeats 4000000 in
set_option maxRecDepth 100000 in
theorem m_person1 {E : Ev} {c : CSt} {xP xR xW xS xZ xG xK xT xQ xF xB xL xC : Fn} {un sz wm fm bm at_ bg fg : Nat} {ft sg vl wr : Int32} {sd : Int64} {np : Nat} (hp : xP 2 = nI np) (hnp : np ≤ 7) {a : Int32} (ha : perB a np = false) (w : Int32) : Ct E yX7_person cX7_person 3 (some .int) ({ frames := 3, cells := 0, slots := 0, locals := 65 } : Room) false 146 [.ref (Ez E + 132), .int a, .int w] (cellOf E (c, (mkA xP xR xW xS xZ xG xK xT xQ xF xB xL xC, (nI un, nI sz, ft, nI wm, nI fm, nI bm, nI at_, nI bg, sg, nI fg, vl, wr), sd))) 146 0 0 (Ff (some (.int (cUNK))) (cellOf E (c, (mkA xP xR xW xS xZ xG xK xT xQ xF xB xL xC, (nI un, nI sz, ft, nI wm, nI fm, nI bm, nI at_, nI bg, sg, nI fg, vl, wr), sd)))) := by
  refine Ct.ofV (by decide) (Nat.le_of_ble_eq_true rfl) (fun X hnm => ?_)
  show V E X _ RX7 _ _ _ _ _ _ false 146 0 [(0, .ref (Ez E + 132)), (1, .int a), (2, .int w)] [] _
  refine v_aload_n (pc := 0) 0 dX7_person_0 rfl rfl ?_
  refine v_iload_n (pc := 1) 1 dX7_person_1 rfl rfl ?_
  refine v_callV (pc := 2) _ _ k_X7_180 (cMr_obj) rfl (by decide) (m_isPn hp hnp _) ⟨rfl, rfl, by decide⟩ rfl rfl (Nat.le_of_ble_eq_true rfl) ⟨Nat.le_of_ble_eq_true rfl, Nat.le_of_ble_eq_true rfl⟩ dX7_person_2 (unS ?_)
  show V E X _ RX7 _ _ _ 0 0 _ false 146 5 _ [_] _
  refine v_if_neB (pc := 5) (tgt := 11) dX7_person_5 rfl (fun c_5 => False.elim ((fun q => by rw [ha] at q; exact Bool.noConfusion q) c_5)) (fun c_5 => ?_)
  refine v_ldc (pc := 8) _ kc_X7_183 dX7_person_8 rfl ?_
  exact v_iret (pc := 10) dX7_person_10 (⟨rfl, rfl⟩)
set_option maxHeartbeats 4000000 in
set_option maxRecDepth 100000 in
theorem m_debt {E : Ev} {c : CSt} {xP xR xW xS xZ xG xK xT xQ xF xB xL xC : Fn} {un sz wm fm bm at_ bg fg : Nat} {ft sg vl wr : Int32} {sd : Int64} {nd : Nat} (hd : xP 3 = nI nd) (hnd : nd ≤ 9) {a w : Nat} (ha : a < nd) (hw : w ≤ 2) : Ct E yX7_debt cX7_debt 3 (some .int) ({ frames := 1, cells := 0, slots := 0, locals := 25 } : Room) false 146 [.ref (Ez E + 132), .int (nI a), .int (nI w)] (cellOf E (c, (mkA xP xR xW xS xZ xG xK xT xQ xF xB xL xC, (nI un, nI sz, ft, nI wm, nI fm, nI bm, nI at_, nI bg, sg, nI fg, vl, wr), sd))) 146 0 0 (Ff (some (.int ((if w < 2 then xP (25 + 9 * w + a) else xW (17 + a))))) (cellOf E (c, (mkA xP xR xW xS xZ xG xK xT xQ xF xB xL xC, (nI un, nI sz, ft, nI wm, nI fm, nI bm, nI at_, nI bg, sg, nI fg, vl, wr), sd)))) := by
  refine Ct.ofV (by decide) (Nat.le_of_ble_eq_true rfl) (fun X hnm => ?_)
  show V E X _ RX7 _ _ _ _ _ _ false 146 0 [(0, .ref (Ez E + 132)), (1, .int (nI a)), (2, .int (nI w))] [] _
  refine v_iload_n (pc := 0) 1 dX7_debt_0 rfl rfl ?_
  refine v_i2l (pc := 1) dX7_debt_1 ?_
  refine v_lconst (pc := 2) ((nI 0).toInt64) dX7_debt_2 (by decide) ?_
  refine v_aload_n (pc := 3) 0 dX7_debt_3 rfl rfl ?_
  refine g_X7_7 (pc := 4) (cMr_obj) (by decide) rfl dX7_debt_4 ?_
  refine v_iconst (pc := 7) (nI 3) dX7_debt_7 kI_3 ?_
  refine v_ialdN (pc := 8) (cM_parish) (by decide) (by omega) (by decide) dX7_debt_8 ?_
  rw [hd]
  refine v_iconst (pc := 9) (nI 1) dX7_debt_9 kI_1 ?_
  refine v_isub (pc := 10) dX7_debt_10 ?_
  refine v_i2l (pc := 11) dX7_debt_11 ?_
  refine v_callS (pc := 12) _ _ k_X7_72 (m_in _ _ _) ⟨rfl, rfl, by decide⟩ rfl rfl (Nat.le_of_ble_eq_true rfl) ⟨Nat.le_of_ble_eq_true rfl, Nat.le_of_ble_eq_true rfl⟩ dX7_debt_12 (unS ?_)
  show V E X _ RX7 _ _ _ 0 0 _ false 146 15 _ [_] _
  refine v_if_neB (pc := 15) (tgt := 21) dX7_debt_15 rfl (fun c_15 => ?_) (fun c_15 => False.elim ((fun q => by rw [inB_p (by omega), perB_t ha (by omega)] at q; exact Bool.noConfusion q) c_15))
  refine v_iload_n (pc := 21) 2 dX7_debt_21 rfl rfl ?_
  refine v_i2l (pc := 22) dX7_debt_22 ?_
  refine v_lconst (pc := 23) ((nI 0).toInt64) dX7_debt_23 (by decide) ?_
  refine v_ldc2 (pc := 24) ((nI 2).toInt64) kl_X7_184 dX7_debt_24 (by decide) ?_
  refine v_callS (pc := 27) _ _ k_X7_72 (m_in _ _ _) ⟨rfl, rfl, by decide⟩ rfl rfl (Nat.le_of_ble_eq_true rfl) ⟨Nat.le_of_ble_eq_true rfl, Nat.le_of_ble_eq_true rfl⟩ dX7_debt_27 (unS ?_)
  show V E X _ RX7 _ _ _ 0 0 _ false 146 30 _ [_] _
  refine v_if_neB (pc := 30) (tgt := 36) dX7_debt_30 rfl (fun c_30 => ?_) (fun c_30 => False.elim ((fun q => by rw [inB_n (by omega) (by omega) (by omega)] at q; exact Bool.noConfusion q) c_30))
  refine v_iload_n (pc := 36) 2 dX7_debt_36 rfl rfl ?_
  refine v_iconst (pc := 37) (nI 2) dX7_debt_37 kI_2 ?_
  refine v_icmp_geN (pc := 38) (by omega) (by omega) (tgt := 58) dX7_debt_38 rfl (fun c_38 => ?_) (fun c_38 => ?_)
  · refine v_aload_n (pc := 58) 0 dX7_debt_58 rfl rfl ?_
    refine g_X7_16 (pc := 59) (cMr_obj) (by decide) rfl dX7_debt_59 ?_
    refine v_bipush (pc := 62) (nI 17) dX7_debt_62 kB_17 ?_
    refine v_iload_n (pc := 64) 1 dX7_debt_64 rfl rfl ?_
    refine v_iaddN (pc := 65) dX7_debt_65 ?_
    refine v_ialdN (pc := 66) (cM_now) (by decide) (by omega) (by decide) dX7_debt_66 ?_
    exact v_iret (pc := 67) dX7_debt_67 (⟨by rw [if_neg (by omega)], rfl⟩)
  · refine v_aload_n (pc := 41) 0 dX7_debt_41 rfl rfl ?_
    refine g_X7_7 (pc := 42) (cMr_obj) (by decide) rfl dX7_debt_42 ?_
    refine v_bipush (pc := 45) (nI 25) dX7_debt_45 kB_25 ?_
    refine v_bipush (pc := 47) (nI 9) dX7_debt_47 kB_9 ?_
    refine v_iload_n (pc := 49) 2 dX7_debt_49 rfl rfl ?_
    refine v_imulN (pc := 50) dX7_debt_50 ?_
    refine v_iaddN (pc := 51) dX7_debt_51 ?_
    refine v_iload_n (pc := 52) 1 dX7_debt_52 rfl rfl ?_
    refine v_iaddN (pc := 53) dX7_debt_53 ?_
    refine v_ialdN (pc := 54) (cM_parish) (by decide) (by omega) (by decide) dX7_debt_54 ?_
    refine v_goto (pc := 55) (tgt := 67) dX7_debt_55 rfl ?_
    exact v_iret (pc := 67) dX7_debt_67 (⟨by rw [if_pos (by omega)], rfl⟩)
set_option maxHeartbeats 4000000 in
set_option maxRecDepth 100000 in
theorem m_debt1 {E : Ev} {c : CSt} {xP xR xW xS xZ xG xK xT xQ xF xB xL xC : Fn} {un sz wm fm bm at_ bg fg : Nat} {ft sg vl wr : Int32} {sd : Int64} {nd : Nat} (hd : xP 3 = nI nd) (hnd : nd ≤ 9) {a w : Int32} (ha : perB a nd = false) : Ct E yX7_debt cX7_debt 3 (some .int) ({ frames := 1, cells := 0, slots := 0, locals := 25 } : Room) false 146 [.ref (Ez E + 132), .int a, .int w] (cellOf E (c, (mkA xP xR xW xS xZ xG xK xT xQ xF xB xL xC, (nI un, nI sz, ft, nI wm, nI fm, nI bm, nI at_, nI bg, sg, nI fg, vl, wr), sd))) 146 0 0 (Ff (some (.int (cUNK))) (cellOf E (c, (mkA xP xR xW xS xZ xG xK xT xQ xF xB xL xC, (nI un, nI sz, ft, nI wm, nI fm, nI bm, nI at_, nI bg, sg, nI fg, vl, wr), sd)))) := by
  refine Ct.ofV (by decide) (Nat.le_of_ble_eq_true rfl) (fun X hnm => ?_)
  show V E X _ RX7 _ _ _ _ _ _ false 146 0 [(0, .ref (Ez E + 132)), (1, .int a), (2, .int w)] [] _
  refine v_iload_n (pc := 0) 1 dX7_debt_0 rfl rfl ?_
  refine v_i2l (pc := 1) dX7_debt_1 ?_
  refine v_lconst (pc := 2) ((nI 0).toInt64) dX7_debt_2 (by decide) ?_
  refine v_aload_n (pc := 3) 0 dX7_debt_3 rfl rfl ?_
  refine g_X7_7 (pc := 4) (cMr_obj) (by decide) rfl dX7_debt_4 ?_
  refine v_iconst (pc := 7) (nI 3) dX7_debt_7 kI_3 ?_
  refine v_ialdN (pc := 8) (cM_parish) (by decide) (by omega) (by decide) dX7_debt_8 ?_
  rw [hd]
  refine v_iconst (pc := 9) (nI 1) dX7_debt_9 kI_1 ?_
  refine v_isub (pc := 10) dX7_debt_10 ?_
  refine v_i2l (pc := 11) dX7_debt_11 ?_
  refine v_callS (pc := 12) _ _ k_X7_72 (m_in _ _ _) ⟨rfl, rfl, by decide⟩ rfl rfl (Nat.le_of_ble_eq_true rfl) ⟨Nat.le_of_ble_eq_true rfl, Nat.le_of_ble_eq_true rfl⟩ dX7_debt_12 (unS ?_)
  show V E X _ RX7 _ _ _ 0 0 _ false 146 15 _ [_] _
  refine v_if_neB (pc := 15) (tgt := 21) dX7_debt_15 rfl (fun c_15 => False.elim ((fun q => by rw [inB_p (by omega), ha] at q; exact Bool.noConfusion q) c_15)) (fun c_15 => ?_)
  refine v_ldc (pc := 18) _ kc_X7_183 dX7_debt_18 rfl ?_
  exact v_iret (pc := 20) dX7_debt_20 (⟨rfl, rfl⟩)
set_option maxHeartbeats 4000000 in
set_option maxRecDepth 100000 in
theorem m_debt2 {E : Ev} {c : CSt} {xP xR xW xS xZ xG xK xT xQ xF xB xL xC : Fn} {un sz wm fm bm at_ bg fg : Nat} {ft sg vl wr : Int32} {sd : Int64} {nd : Nat} (hd : xP 3 = nI nd) (hnd : nd ≤ 9) {a w : Int32} (ha : perB a nd = true) (hw : outB w (nI 0) (nI 2) = true) : Ct E yX7_debt cX7_debt 3 (some .int) ({ frames := 1, cells := 0, slots := 0, locals := 25 } : Room) false 146 [.ref (Ez E + 132), .int a, .int w] (cellOf E (c, (mkA xP xR xW xS xZ xG xK xT xQ xF xB xL xC, (nI un, nI sz, ft, nI wm, nI fm, nI bm, nI at_, nI bg, sg, nI fg, vl, wr), sd))) 146 0 0 (Ff (some (.int (cOUT))) (cellOf E (c, (mkA xP xR xW xS xZ xG xK xT xQ xF xB xL xC, (nI un, nI sz, ft, nI wm, nI fm, nI bm, nI at_, nI bg, sg, nI fg, vl, wr), sd)))) := by
  refine Ct.ofV (by decide) (Nat.le_of_ble_eq_true rfl) (fun X hnm => ?_)
  show V E X _ RX7 _ _ _ _ _ _ false 146 0 [(0, .ref (Ez E + 132)), (1, .int a), (2, .int w)] [] _
  refine v_iload_n (pc := 0) 1 dX7_debt_0 rfl rfl ?_
  refine v_i2l (pc := 1) dX7_debt_1 ?_
  refine v_lconst (pc := 2) ((nI 0).toInt64) dX7_debt_2 (by decide) ?_
  refine v_aload_n (pc := 3) 0 dX7_debt_3 rfl rfl ?_
  refine g_X7_7 (pc := 4) (cMr_obj) (by decide) rfl dX7_debt_4 ?_
  refine v_iconst (pc := 7) (nI 3) dX7_debt_7 kI_3 ?_
  refine v_ialdN (pc := 8) (cM_parish) (by decide) (by omega) (by decide) dX7_debt_8 ?_
  rw [hd]
  refine v_iconst (pc := 9) (nI 1) dX7_debt_9 kI_1 ?_
  refine v_isub (pc := 10) dX7_debt_10 ?_
  refine v_i2l (pc := 11) dX7_debt_11 ?_
  refine v_callS (pc := 12) _ _ k_X7_72 (m_in _ _ _) ⟨rfl, rfl, by decide⟩ rfl rfl (Nat.le_of_ble_eq_true rfl) ⟨Nat.le_of_ble_eq_true rfl, Nat.le_of_ble_eq_true rfl⟩ dX7_debt_12 (unS ?_)
  show V E X _ RX7 _ _ _ 0 0 _ false 146 15 _ [_] _
  refine v_if_neB (pc := 15) (tgt := 21) dX7_debt_15 rfl (fun c_15 => ?_) (fun c_15 => False.elim ((fun q => by rw [inB_p (by omega), ha] at q; exact Bool.noConfusion q) c_15))
  refine v_iload_n (pc := 21) 2 dX7_debt_21 rfl rfl ?_
  refine v_i2l (pc := 22) dX7_debt_22 ?_
  refine v_lconst (pc := 23) ((nI 0).toInt64) dX7_debt_23 (by decide) ?_
  refine v_ldc2 (pc := 24) ((nI 2).toInt64) kl_X7_184 dX7_debt_24 (by decide) ?_
  refine v_callS (pc := 27) _ _ k_X7_72 (m_in _ _ _) ⟨rfl, rfl, by decide⟩ rfl rfl (Nat.le_of_ble_eq_true rfl) ⟨Nat.le_of_ble_eq_true rfl, Nat.le_of_ble_eq_true rfl⟩ dX7_debt_27 (unS ?_)
  show V E X _ RX7 _ _ _ 0 0 _ false 146 30 _ [_] _
  refine v_if_neB (pc := 30) (tgt := 36) dX7_debt_30 rfl (fun c_30 => False.elim ((fun q => by rw [inB_o hw] at q; exact Bool.noConfusion q) c_30)) (fun c_30 => ?_)
  refine v_ldc (pc := 33) _ kc_X7_76 dX7_debt_33 rfl ?_
  exact v_iret (pc := 35) dX7_debt_35 (⟨rfl, rfl⟩)
set_option maxHeartbeats 4000000 in
set_option maxRecDepth 100000 in
theorem m_trace {E : Ev} {c : CSt} {xP xR xW xS xZ xG xK xT xQ xF xB xL xC : Fn} {un sz wm fm bm at_ bg fg : Nat} {ft sg vl wr : Int32} {sd : Int64} {t i : Nat} (ht : xW 27 = nI t) (ht20 : t ≤ 20) (hi : i < t) : Ct E yX7_trace cX7_trace 2 (some .int) ({ frames := 1, cells := 0, slots := 0, locals := 25 } : Room) false 146 [.ref (Ez E + 132), .int (nI i)] (cellOf E (c, (mkA xP xR xW xS xZ xG xK xT xQ xF xB xL xC, (nI un, nI sz, ft, nI wm, nI fm, nI bm, nI at_, nI bg, sg, nI fg, vl, wr), sd))) 146 0 0 (Ff (some (.int (xW (28 + t - 1 - i)))) (cellOf E (c, (mkA xP xR xW xS xZ xG xK xT xQ xF xB xL xC, (nI un, nI sz, ft, nI wm, nI fm, nI bm, nI at_, nI bg, sg, nI fg, vl, wr), sd)))) := by
  refine Ct.ofV (by decide) (Nat.le_of_ble_eq_true rfl) (fun X hnm => ?_)
  show V E X _ RX7 _ _ _ _ _ _ false 146 0 [(0, .ref (Ez E + 132)), (1, .int (nI i))] [] _
  refine v_iload_n (pc := 0) 1 dX7_trace_0 rfl rfl ?_
  refine v_i2l (pc := 1) dX7_trace_1 ?_
  refine v_lconst (pc := 2) ((nI 0).toInt64) dX7_trace_2 (by decide) ?_
  refine v_aload_n (pc := 3) 0 dX7_trace_3 rfl rfl ?_
  refine g_X7_16 (pc := 4) (cMr_obj) (by decide) rfl dX7_trace_4 ?_
  refine v_bipush (pc := 7) (nI 27) dX7_trace_7 kB_27 ?_
  refine v_ialdN (pc := 9) (cM_now) (by decide) (by omega) (by decide) dX7_trace_9 ?_
  rw [ht]
  refine v_iconst (pc := 10) (nI 1) dX7_trace_10 kI_1 ?_
  refine v_isub (pc := 11) dX7_trace_11 ?_
  refine v_i2l (pc := 12) dX7_trace_12 ?_
  refine v_callS (pc := 13) _ _ k_X7_72 (m_in _ _ _) ⟨rfl, rfl, by decide⟩ rfl rfl (Nat.le_of_ble_eq_true rfl) ⟨Nat.le_of_ble_eq_true rfl, Nat.le_of_ble_eq_true rfl⟩ dX7_trace_13 (unS ?_)
  show V E X _ RX7 _ _ _ 0 0 _ false 146 16 _ [_] _
  refine v_if_eqB (pc := 16) (tgt := 41) dX7_trace_16 rfl (fun c_16 => False.elim ((fun q => by rw [inB_p (by omega), perB_t hi (by omega)] at q; exact Bool.noConfusion q) c_16)) (fun c_16 => ?_)
  refine v_aload_n (pc := 19) 0 dX7_trace_19 rfl rfl ?_
  refine g_X7_16 (pc := 20) (cMr_obj) (by decide) rfl dX7_trace_20 ?_
  refine v_bipush (pc := 23) (nI 28) dX7_trace_23 kB_28 ?_
  refine v_aload_n (pc := 25) 0 dX7_trace_25 rfl rfl ?_
  refine g_X7_16 (pc := 26) (cMr_obj) (by decide) rfl dX7_trace_26 ?_
  refine v_bipush (pc := 29) (nI 27) dX7_trace_29 kB_27 ?_
  refine v_ialdN (pc := 31) (cM_now) (by decide) (by omega) (by decide) dX7_trace_31 ?_
  rw [ht]
  refine v_iaddN (pc := 32) dX7_trace_32 ?_
  refine v_iconst (pc := 33) (nI 1) dX7_trace_33 kI_1 ?_
  refine v_isubN (pc := 34) (by omega) dX7_trace_34 ?_
  refine v_iload_n (pc := 35) 1 dX7_trace_35 rfl rfl ?_
  refine v_isubN (pc := 36) (by omega) dX7_trace_36 ?_
  refine v_ialdN (pc := 37) (cM_now) (by decide) (by omega) (by decide) dX7_trace_37 ?_
  refine v_goto (pc := 38) (tgt := 42) dX7_trace_38 rfl ?_
  exact v_iret (pc := 42) dX7_trace_42 (⟨rfl, rfl⟩)
set_option maxHeartbeats 4000000 in
set_option maxRecDepth 100000 in
theorem m_trace1 {E : Ev} {c : CSt} {xP xR xW xS xZ xG xK xT xQ xF xB xL xC : Fn} {un sz wm fm bm at_ bg fg : Nat} {ft sg vl wr : Int32} {sd : Int64} {t : Nat} {i : Int32} (ht : xW 27 = nI t) (ht20 : t ≤ 20) (hi : perB i t = false) : Ct E yX7_trace cX7_trace 2 (some .int) ({ frames := 1, cells := 0, slots := 0, locals := 25 } : Room) false 146 [.ref (Ez E + 132), .int i] (cellOf E (c, (mkA xP xR xW xS xZ xG xK xT xQ xF xB xL xC, (nI un, nI sz, ft, nI wm, nI fm, nI bm, nI at_, nI bg, sg, nI fg, vl, wr), sd))) 146 0 0 (Ff (some (.int (-1))) (cellOf E (c, (mkA xP xR xW xS xZ xG xK xT xQ xF xB xL xC, (nI un, nI sz, ft, nI wm, nI fm, nI bm, nI at_, nI bg, sg, nI fg, vl, wr), sd)))) := by
  refine Ct.ofV (by decide) (Nat.le_of_ble_eq_true rfl) (fun X hnm => ?_)
  show V E X _ RX7 _ _ _ _ _ _ false 146 0 [(0, .ref (Ez E + 132)), (1, .int i)] [] _
  refine v_iload_n (pc := 0) 1 dX7_trace_0 rfl rfl ?_
  refine v_i2l (pc := 1) dX7_trace_1 ?_
  refine v_lconst (pc := 2) ((nI 0).toInt64) dX7_trace_2 (by decide) ?_
  refine v_aload_n (pc := 3) 0 dX7_trace_3 rfl rfl ?_
  refine g_X7_16 (pc := 4) (cMr_obj) (by decide) rfl dX7_trace_4 ?_
  refine v_bipush (pc := 7) (nI 27) dX7_trace_7 kB_27 ?_
  refine v_ialdN (pc := 9) (cM_now) (by decide) (by omega) (by decide) dX7_trace_9 ?_
  rw [ht]
  refine v_iconst (pc := 10) (nI 1) dX7_trace_10 kI_1 ?_
  refine v_isub (pc := 11) dX7_trace_11 ?_
  refine v_i2l (pc := 12) dX7_trace_12 ?_
  refine v_callS (pc := 13) _ _ k_X7_72 (m_in _ _ _) ⟨rfl, rfl, by decide⟩ rfl rfl (Nat.le_of_ble_eq_true rfl) ⟨Nat.le_of_ble_eq_true rfl, Nat.le_of_ble_eq_true rfl⟩ dX7_trace_13 (unS ?_)
  show V E X _ RX7 _ _ _ 0 0 _ false 146 16 _ [_] _
  refine v_if_eqB (pc := 16) (tgt := 41) dX7_trace_16 rfl (fun c_16 => ?_) (fun c_16 => False.elim ((fun q => by rw [inB_p (by omega), hi] at q; exact Bool.noConfusion q) c_16))
  refine v_iconst (pc := 41) (-1) dX7_trace_41 kI_m1 ?_
  exact v_iret (pc := 42) dX7_trace_42 (⟨rfl, rfl⟩)
set_option maxHeartbeats 4000000 in
set_option maxRecDepth 100000 in
theorem m_count {E : Ev} {c : CSt} {xP xR xW xS xZ xG xK xT xQ xF xB xL xC : Fn} {un sz wm fm bm at_ bg fg : Nat} {ft sg vl wr : Int32} {sd : Int64} {np : Nat} (hp : xP 2 = nI np) (hnp : np ≤ 7) (hun : un ≤ 16) (ht : Trc xW) {a n : Nat} (ha : a < np) (h1 : 1 ≤ n) (h2 : n ≤ 999) (hw : ¬ xW 15 < nI n) : Ct E yX7_count cX7_count 3 (some .int) ({ frames := 2, cells := 0, slots := 0, locals := 46 } : Room) false 146 [.ref (Ez E + 132), .int (nI a), .int (nI n)] (cellOf E (c, (mkA xP xR xW xS xZ xG xK xT xQ xF xB xL xC, (nI un, nI sz, ft, nI wm, nI fm, nI bm, nI at_, nI bg, sg, nI fg, vl, wr), sd))) 146 0 0 (Ff (some (.int (m_fly xW (-2) (nI a) (nI n) (0 + a)))) (cellOf E (c, (mkA xP xR (m_fly xW (-2) (nI a) (nI n)) xS (remZ xZ xW un) xG xK xT xQ xF xB xL xC, (nI (remU un), nI sz, ft, nI wm, nI fm, nI bm, nI at_, nI bg, sg, nI fg, vl, wr), sd)))) := by
  refine Ct.ofV (by decide) (Nat.le_of_ble_eq_true rfl) (fun X hnm => ?_)
  show V E X _ RX7 _ _ _ _ _ _ false 146 0 [(0, .ref (Ez E + 132)), (1, .int (nI a)), (2, .int (nI n))] [] _
  refine v_aload_n (pc := 0) 0 dX7_count_0 rfl rfl ?_
  refine v_iload_n (pc := 1) 1 dX7_count_1 rfl rfl ?_
  refine v_callV (pc := 2) _ _ k_X7_180 (cMr_obj) rfl (by decide) (m_isPn hp hnp _) ⟨rfl, rfl, by decide⟩ rfl rfl (Nat.le_of_ble_eq_true rfl) ⟨Nat.le_of_ble_eq_true rfl, Nat.le_of_ble_eq_true rfl⟩ dX7_count_2 (unS ?_)
  show V E X _ RX7 _ _ _ 0 0 _ false 146 5 _ [_] _
  refine v_if_neB (pc := 5) (tgt := 11) dX7_count_5 rfl (fun c_5 => ?_) (fun c_5 => False.elim ((fun q => by rw [perB_t ha (by omega)] at q; exact Bool.noConfusion q) c_5))
  refine v_iload_n (pc := 11) 2 dX7_count_11 rfl rfl ?_
  refine v_i2l (pc := 12) dX7_count_12 ?_
  refine v_lconst (pc := 13) ((nI 1).toInt64) dX7_count_13 (by decide) ?_
  refine v_ldc2 (pc := 14) ((nI 999).toInt64) kl_X7_186 dX7_count_14 (by decide) ?_
  refine v_callS (pc := 17) _ _ k_X7_72 (m_in _ _ _) ⟨rfl, rfl, by decide⟩ rfl rfl (Nat.le_of_ble_eq_true rfl) ⟨Nat.le_of_ble_eq_true rfl, Nat.le_of_ble_eq_true rfl⟩ dX7_count_17 (unS ?_)
  show V E X _ RX7 _ _ _ 0 0 _ false 146 20 _ [_] _
  refine v_if_neB (pc := 20) (tgt := 26) dX7_count_20 rfl (fun c_20 => ?_) (fun c_20 => False.elim ((fun q => by rw [inB_n (by omega) (by omega) (by omega)] at q; exact Bool.noConfusion q) c_20))
  refine v_aload_n (pc := 26) 0 dX7_count_26 rfl rfl ?_
  refine g_X7_16 (pc := 27) (cMr_obj) (by decide) rfl dX7_count_27 ?_
  refine v_bipush (pc := 30) (nI 15) dX7_count_30 kB_15 ?_
  refine v_ialdN (pc := 32) (cM_now) (by decide) (by omega) (by decide) dX7_count_32 ?_
  refine v_iload_n (pc := 33) 2 dX7_count_33 rfl rfl ?_
  refine v_icmp_ge (pc := 34) (tgt := 40) dX7_count_34 rfl (fun c_34 => ?_) (fun c_34 => False.elim ((fun q => hw (by first | exact q | exact Int32.not_le.mp q)) c_34))
  refine v_aload_n (pc := 40) 0 dX7_count_40 rfl rfl ?_
  refine v_callV (pc := 41) _ _ k_X7_189 (cMr_obj) rfl (by decide) (m_remember hun) ⟨rfl, rfl, by decide⟩ rfl rfl (Nat.le_of_ble_eq_true rfl) ⟨Nat.le_of_ble_eq_true rfl, Nat.le_of_ble_eq_true rfl⟩ dX7_count_41 (unS ?_)
  show V E X _ RX7 _ _ _ 0 0 _ false 146 44 _ [] _
  refine v_aload_n (pc := 44) 0 dX7_count_44 rfl rfl ?_
  refine g_X7_16 (pc := 45) (cMr_obj) (by decide) rfl dX7_count_45 ?_
  refine v_bipush (pc := 48) (-2) dX7_count_48 kB_m2 ?_
  refine v_iload_n (pc := 50) 1 dX7_count_50 rfl rfl ?_
  refine v_iload_n (pc := 51) 2 dX7_count_51 rfl rfl ?_
  refine v_callS (pc := 52) _ _ k_X7_158 (m_fliesW ht plc_t (plc_n (by omega)) _) ⟨rfl, rfl, by decide⟩ rfl rfl (Nat.le_of_ble_eq_true rfl) ⟨Nat.le_of_ble_eq_true rfl, Nat.le_of_ble_eq_true rfl⟩ dX7_count_52 (unS ?_)
  show V E X _ RX7 _ _ _ 0 0 _ false 146 55 _ [] _
  refine v_aload_n (pc := 55) 0 dX7_count_55 rfl rfl ?_
  refine g_X7_16 (pc := 56) (cMr_obj) (by decide) rfl dX7_count_56 ?_
  refine v_iconst (pc := 59) (nI 0) dX7_count_59 kI_0 ?_
  refine v_iload_n (pc := 60) 1 dX7_count_60 rfl rfl ?_
  refine v_iaddN (pc := 61) dX7_count_61 ?_
  refine v_ialdN (pc := 62) (cM_now) (by decide) (by omega) (by decide) dX7_count_62 ?_
  exact v_iret (pc := 63) dX7_count_63 (⟨rfl, rfl⟩)
set_option maxHeartbeats 4000000 in
set_option maxRecDepth 100000 in
theorem m_count1 {E : Ev} {c : CSt} {xP xR xW xS xZ xG xK xT xQ xF xB xL xC : Fn} {un sz wm fm bm at_ bg fg : Nat} {ft sg vl wr : Int32} {sd : Int64} {np : Nat} (hp : xP 2 = nI np) (hnp : np ≤ 7) {a n : Int32} (ha : perB a np = false) : Ct E yX7_count cX7_count 3 (some .int) ({ frames := 2, cells := 0, slots := 0, locals := 46 } : Room) false 146 [.ref (Ez E + 132), .int a, .int n] (cellOf E (c, (mkA xP xR xW xS xZ xG xK xT xQ xF xB xL xC, (nI un, nI sz, ft, nI wm, nI fm, nI bm, nI at_, nI bg, sg, nI fg, vl, wr), sd))) 146 0 0 (Ff (some (.int (cUNK))) (cellOf E (c, (mkA xP xR xW xS xZ xG xK xT xQ xF xB xL xC, (nI un, nI sz, ft, nI wm, nI fm, nI bm, nI at_, nI bg, sg, nI fg, vl, wr), sd)))) := by
  refine Ct.ofV (by decide) (Nat.le_of_ble_eq_true rfl) (fun X hnm => ?_)
  show V E X _ RX7 _ _ _ _ _ _ false 146 0 [(0, .ref (Ez E + 132)), (1, .int a), (2, .int n)] [] _
  refine v_aload_n (pc := 0) 0 dX7_count_0 rfl rfl ?_
  refine v_iload_n (pc := 1) 1 dX7_count_1 rfl rfl ?_
  refine v_callV (pc := 2) _ _ k_X7_180 (cMr_obj) rfl (by decide) (m_isPn hp hnp _) ⟨rfl, rfl, by decide⟩ rfl rfl (Nat.le_of_ble_eq_true rfl) ⟨Nat.le_of_ble_eq_true rfl, Nat.le_of_ble_eq_true rfl⟩ dX7_count_2 (unS ?_)
  show V E X _ RX7 _ _ _ 0 0 _ false 146 5 _ [_] _
  refine v_if_neB (pc := 5) (tgt := 11) dX7_count_5 rfl (fun c_5 => False.elim ((fun q => by rw [ha] at q; exact Bool.noConfusion q) c_5)) (fun c_5 => ?_)
  refine v_ldc (pc := 8) _ kc_X7_183 dX7_count_8 rfl ?_
  exact v_iret (pc := 10) dX7_count_10 (⟨rfl, rfl⟩)
set_option maxHeartbeats 4000000 in
set_option maxRecDepth 100000 in
theorem m_count2 {E : Ev} {c : CSt} {xP xR xW xS xZ xG xK xT xQ xF xB xL xC : Fn} {un sz wm fm bm at_ bg fg : Nat} {ft sg vl wr : Int32} {sd : Int64} {np : Nat} (hp : xP 2 = nI np) (hnp : np ≤ 7) {a n : Int32} (ha : perB a np = true) (hn : outB n (nI 1) (nI 999) = true) : Ct E yX7_count cX7_count 3 (some .int) ({ frames := 2, cells := 0, slots := 0, locals := 46 } : Room) false 146 [.ref (Ez E + 132), .int a, .int n] (cellOf E (c, (mkA xP xR xW xS xZ xG xK xT xQ xF xB xL xC, (nI un, nI sz, ft, nI wm, nI fm, nI bm, nI at_, nI bg, sg, nI fg, vl, wr), sd))) 146 0 0 (Ff (some (.int (cOUT))) (cellOf E (c, (mkA xP xR xW xS xZ xG xK xT xQ xF xB xL xC, (nI un, nI sz, ft, nI wm, nI fm, nI bm, nI at_, nI bg, sg, nI fg, vl, wr), sd)))) := by
  refine Ct.ofV (by decide) (Nat.le_of_ble_eq_true rfl) (fun X hnm => ?_)
  show V E X _ RX7 _ _ _ _ _ _ false 146 0 [(0, .ref (Ez E + 132)), (1, .int a), (2, .int n)] [] _
  refine v_aload_n (pc := 0) 0 dX7_count_0 rfl rfl ?_
  refine v_iload_n (pc := 1) 1 dX7_count_1 rfl rfl ?_
  refine v_callV (pc := 2) _ _ k_X7_180 (cMr_obj) rfl (by decide) (m_isPn hp hnp _) ⟨rfl, rfl, by decide⟩ rfl rfl (Nat.le_of_ble_eq_true rfl) ⟨Nat.le_of_ble_eq_true rfl, Nat.le_of_ble_eq_true rfl⟩ dX7_count_2 (unS ?_)
  show V E X _ RX7 _ _ _ 0 0 _ false 146 5 _ [_] _
  refine v_if_neB (pc := 5) (tgt := 11) dX7_count_5 rfl (fun c_5 => ?_) (fun c_5 => False.elim ((fun q => by rw [ha] at q; exact Bool.noConfusion q) c_5))
  refine v_iload_n (pc := 11) 2 dX7_count_11 rfl rfl ?_
  refine v_i2l (pc := 12) dX7_count_12 ?_
  refine v_lconst (pc := 13) ((nI 1).toInt64) dX7_count_13 (by decide) ?_
  refine v_ldc2 (pc := 14) ((nI 999).toInt64) kl_X7_186 dX7_count_14 (by decide) ?_
  refine v_callS (pc := 17) _ _ k_X7_72 (m_in _ _ _) ⟨rfl, rfl, by decide⟩ rfl rfl (Nat.le_of_ble_eq_true rfl) ⟨Nat.le_of_ble_eq_true rfl, Nat.le_of_ble_eq_true rfl⟩ dX7_count_17 (unS ?_)
  show V E X _ RX7 _ _ _ 0 0 _ false 146 20 _ [_] _
  refine v_if_neB (pc := 20) (tgt := 26) dX7_count_20 rfl (fun c_20 => False.elim ((fun q => by rw [inB_o hn] at q; exact Bool.noConfusion q) c_20)) (fun c_20 => ?_)
  refine v_ldc (pc := 23) _ kc_X7_76 dX7_count_23 rfl ?_
  exact v_iret (pc := 25) dX7_count_25 (⟨rfl, rfl⟩)
set_option maxHeartbeats 4000000 in
set_option maxRecDepth 100000 in
theorem m_count3 {E : Ev} {c : CSt} {xP xR xW xS xZ xG xK xT xQ xF xB xL xC : Fn} {un sz wm fm bm at_ bg fg : Nat} {ft sg vl wr : Int32} {sd : Int64} {np : Nat} (hp : xP 2 = nI np) (hnp : np ≤ 7) {a n : Int32} (ha : perB a np = true) (hn : outB n (nI 1) (nI 999) = false) (hw : xW 15 < n) : Ct E yX7_count cX7_count 3 (some .int) ({ frames := 2, cells := 0, slots := 0, locals := 46 } : Room) false 146 [.ref (Ez E + 132), .int a, .int n] (cellOf E (c, (mkA xP xR xW xS xZ xG xK xT xQ xF xB xL xC, (nI un, nI sz, ft, nI wm, nI fm, nI bm, nI at_, nI bg, sg, nI fg, vl, wr), sd))) 146 0 0 (Ff (some (.int (cNOT))) (cellOf E (c, (mkA xP xR xW xS xZ xG xK xT xQ xF xB xL xC, (nI un, nI sz, ft, nI wm, nI fm, nI bm, nI at_, nI bg, sg, nI fg, vl, wr), sd)))) := by
  refine Ct.ofV (by decide) (Nat.le_of_ble_eq_true rfl) (fun X hnm => ?_)
  show V E X _ RX7 _ _ _ _ _ _ false 146 0 [(0, .ref (Ez E + 132)), (1, .int a), (2, .int n)] [] _
  refine v_aload_n (pc := 0) 0 dX7_count_0 rfl rfl ?_
  refine v_iload_n (pc := 1) 1 dX7_count_1 rfl rfl ?_
  refine v_callV (pc := 2) _ _ k_X7_180 (cMr_obj) rfl (by decide) (m_isPn hp hnp _) ⟨rfl, rfl, by decide⟩ rfl rfl (Nat.le_of_ble_eq_true rfl) ⟨Nat.le_of_ble_eq_true rfl, Nat.le_of_ble_eq_true rfl⟩ dX7_count_2 (unS ?_)
  show V E X _ RX7 _ _ _ 0 0 _ false 146 5 _ [_] _
  refine v_if_neB (pc := 5) (tgt := 11) dX7_count_5 rfl (fun c_5 => ?_) (fun c_5 => False.elim ((fun q => by rw [ha] at q; exact Bool.noConfusion q) c_5))
  refine v_iload_n (pc := 11) 2 dX7_count_11 rfl rfl ?_
  refine v_i2l (pc := 12) dX7_count_12 ?_
  refine v_lconst (pc := 13) ((nI 1).toInt64) dX7_count_13 (by decide) ?_
  refine v_ldc2 (pc := 14) ((nI 999).toInt64) kl_X7_186 dX7_count_14 (by decide) ?_
  refine v_callS (pc := 17) _ _ k_X7_72 (m_in _ _ _) ⟨rfl, rfl, by decide⟩ rfl rfl (Nat.le_of_ble_eq_true rfl) ⟨Nat.le_of_ble_eq_true rfl, Nat.le_of_ble_eq_true rfl⟩ dX7_count_17 (unS ?_)
  show V E X _ RX7 _ _ _ 0 0 _ false 146 20 _ [_] _
  refine v_if_neB (pc := 20) (tgt := 26) dX7_count_20 rfl (fun c_20 => ?_) (fun c_20 => False.elim ((fun q => by rw [inB_i hn] at q; exact Bool.noConfusion q) c_20))
  refine v_aload_n (pc := 26) 0 dX7_count_26 rfl rfl ?_
  refine g_X7_16 (pc := 27) (cMr_obj) (by decide) rfl dX7_count_27 ?_
  refine v_bipush (pc := 30) (nI 15) dX7_count_30 kB_15 ?_
  refine v_ialdN (pc := 32) (cM_now) (by decide) (by omega) (by decide) dX7_count_32 ?_
  refine v_iload_n (pc := 33) 2 dX7_count_33 rfl rfl ?_
  refine v_icmp_ge (pc := 34) (tgt := 40) dX7_count_34 rfl (fun c_34 => False.elim ((fun q => Int32.not_le.mpr hw q) c_34)) (fun c_34 => ?_)
  refine v_ldc (pc := 37) _ kc_X7_188 dX7_count_37 rfl ?_
  exact v_iret (pc := 39) dX7_count_39 (⟨rfl, rfl⟩)
def st_mpay (P : Fn) (a z : Int32) (d : Nat) (s : Int32 × Fn) : Int32 × Fn := if P (25 + d) = a ∧ P (34 + d) = z then (s.1 - lsI s.1 (s.2 (17 + d)), upd s.2 (17 + d) (s.2 (17 + d) - lsI s.1 (s.2 (17 + d)))) else s
set_option maxHeartbeats 4000000 in
set_option maxRecDepth 100000 in
theorem m_pay {E : Ev} {c : CSt} {xP xR xW xS xZ xG xK xT xQ xF xB xL xC : Fn} {un sz wm fm bm at_ bg fg : Nat} {ft sg vl wr : Int32} {sd : Int64} {np : Nat} (hp : xP 2 = nI np) (hnp : np ≤ 7) {nd : Nat} (hd : xP 3 = nI nd) (hnd : nd ≤ 9) (hun : un ≤ 16) (ht : Trc xW) {a z n : Nat} (ha : a < np) (hz : z < np) (haz : a ≠ z) (h1 : 1 ≤ n) (h2 : n ≤ 999) (hw : ¬ xW (0 + a) < nI n) : Ct E yX7_pay cX7_pay 7 (some .int) ({ frames := 2, cells := 0, slots := 0, locals := 46 } : Room) false 146 [.ref (Ez E + 132), .int (nI a), .int (nI z), .int (nI n)] (cellOf E (c, (mkA xP xR xW xS xZ xG xK xT xQ xF xB xL xC, (nI un, nI sz, ft, nI wm, nI fm, nI bm, nI at_, nI bg, sg, nI fg, vl, wr), sd))) 146 0 0 (Ff (some (.int (owM xP (itn (st_mpay xP (nI a) (nI z)) nd (nI n, m_fly xW (nI a) (nI z) (nI n))).2 (nI a) (nI z) nd))) (cellOf E (c, (mkA xP xR ((itn (st_mpay xP (nI a) (nI z)) nd (nI n, m_fly xW (nI a) (nI z) (nI n))).2) xS (remZ xZ xW un) xG xK xT xQ xF xB xL xC, (nI (remU un), nI sz, ft, nI wm, nI fm, nI bm, nI at_, nI bg, sg, nI fg, vl, wr), sd)))) := by
  refine Ct.ofV (by decide) (Nat.le_of_ble_eq_true rfl) (fun X hnm => ?_)
  show V E X _ RX7 _ _ _ _ _ _ false 146 0 [(0, .ref (Ez E + 132)), (1, .int (nI a)), (2, .int (nI z)), (3, .int (nI n))] [] _
  refine v_aload_n (pc := 0) 0 dX7_pay_0 rfl rfl ?_
  refine v_iload_n (pc := 1) 1 dX7_pay_1 rfl rfl ?_
  refine v_callV (pc := 2) _ _ k_X7_180 (cMr_obj) rfl (by decide) (m_isPn hp hnp _) ⟨rfl, rfl, by decide⟩ rfl rfl (Nat.le_of_ble_eq_true rfl) ⟨Nat.le_of_ble_eq_true rfl, Nat.le_of_ble_eq_true rfl⟩ dX7_pay_2 (unS ?_)
  show V E X _ RX7 _ _ _ 0 0 _ false 146 5 _ [_] _
  refine v_if_eqB (pc := 5) (tgt := 21) dX7_pay_5 rfl (fun c_5 => False.elim ((fun q => by rw [perB_t ha (by omega)] at q; exact Bool.noConfusion q) c_5)) (fun c_5 => ?_)
  refine v_aload_n (pc := 8) 0 dX7_pay_8 rfl rfl ?_
  refine v_iload_n (pc := 9) 2 dX7_pay_9 rfl rfl ?_
  refine v_callV (pc := 10) _ _ k_X7_180 (cMr_obj) rfl (by decide) (m_isPn hp hnp _) ⟨rfl, rfl, by decide⟩ rfl rfl (Nat.le_of_ble_eq_true rfl) ⟨Nat.le_of_ble_eq_true rfl, Nat.le_of_ble_eq_true rfl⟩ dX7_pay_10 (unS ?_)
  show V E X _ RX7 _ _ _ 0 0 _ false 146 13 _ [_] _
  refine v_if_eqB (pc := 13) (tgt := 21) dX7_pay_13 rfl (fun c_13 => False.elim ((fun q => by rw [perB_t hz (by omega)] at q; exact Bool.noConfusion q) c_13)) (fun c_13 => ?_)
  refine v_iload_n (pc := 16) 1 dX7_pay_16 rfl rfl ?_
  refine v_iload_n (pc := 17) 2 dX7_pay_17 rfl rfl ?_
  refine v_icmp_neN (pc := 18) (by omega) (by omega) (tgt := 24) dX7_pay_18 rfl (fun c_18 => ?_) (fun c_18 => False.elim ((fun q => haz q) c_18))
  refine v_iload_n (pc := 24) 3 dX7_pay_24 rfl rfl ?_
  refine v_i2l (pc := 25) dX7_pay_25 ?_
  refine v_lconst (pc := 26) ((nI 1).toInt64) dX7_pay_26 (by decide) ?_
  refine v_ldc2 (pc := 27) ((nI 999).toInt64) kl_X7_186 dX7_pay_27 (by decide) ?_
  refine v_callS (pc := 30) _ _ k_X7_72 (m_in _ _ _) ⟨rfl, rfl, by decide⟩ rfl rfl (Nat.le_of_ble_eq_true rfl) ⟨Nat.le_of_ble_eq_true rfl, Nat.le_of_ble_eq_true rfl⟩ dX7_pay_30 (unS ?_)
  show V E X _ RX7 _ _ _ 0 0 _ false 146 33 _ [_] _
  refine v_if_neB (pc := 33) (tgt := 39) dX7_pay_33 rfl (fun c_33 => ?_) (fun c_33 => False.elim ((fun q => by rw [inB_n (by omega) (by omega) (by omega)] at q; exact Bool.noConfusion q) c_33))
  refine v_aload_n (pc := 39) 0 dX7_pay_39 rfl rfl ?_
  refine g_X7_16 (pc := 40) (cMr_obj) (by decide) rfl dX7_pay_40 ?_
  refine v_iconst (pc := 43) (nI 0) dX7_pay_43 kI_0 ?_
  refine v_iload_n (pc := 44) 1 dX7_pay_44 rfl rfl ?_
  refine v_iaddN (pc := 45) dX7_pay_45 ?_
  refine v_ialdN (pc := 46) (cM_now) (by decide) (by omega) (by decide) dX7_pay_46 ?_
  refine v_iload_n (pc := 47) 3 dX7_pay_47 rfl rfl ?_
  refine v_icmp_ge (pc := 48) (tgt := 54) dX7_pay_48 rfl (fun c_48 => ?_) (fun c_48 => False.elim ((fun q => hw (by first | exact q | exact Int32.not_le.mp q)) c_48))
  refine v_aload_n (pc := 54) 0 dX7_pay_54 rfl rfl ?_
  refine v_callV (pc := 55) _ _ k_X7_189 (cMr_obj) rfl (by decide) (m_remember hun) ⟨rfl, rfl, by decide⟩ rfl rfl (Nat.le_of_ble_eq_true rfl) ⟨Nat.le_of_ble_eq_true rfl, Nat.le_of_ble_eq_true rfl⟩ dX7_pay_55 (unS ?_)
  show V E X _ RX7 _ _ _ 0 0 _ false 146 58 _ [] _
  refine v_aload_n (pc := 58) 0 dX7_pay_58 rfl rfl ?_
  refine g_X7_16 (pc := 59) (cMr_obj) (by decide) rfl dX7_pay_59 ?_
  refine v_iload_n (pc := 62) 1 dX7_pay_62 rfl rfl ?_
  refine v_iload_n (pc := 63) 2 dX7_pay_63 rfl rfl ?_
  refine v_iload_n (pc := 64) 3 dX7_pay_64 rfl rfl ?_
  refine v_callS (pc := 65) _ _ k_X7_158 (m_fliesW ht (plc_n (by omega)) (plc_n (by omega)) _) ⟨rfl, rfl, by decide⟩ rfl rfl (Nat.le_of_ble_eq_true rfl) ⟨Nat.le_of_ble_eq_true rfl, Nat.le_of_ble_eq_true rfl⟩ dX7_pay_65 (unS ?_)
  show V E X _ RX7 _ _ _ 0 0 _ false 146 68 _ [] _
  refine v_iload_n (pc := 68) 3 dX7_pay_68 rfl rfl ?_
  refine v_istore (pc := 69) [1, 2, 3, 4, 0] [(0, _), (1, _), (2, _), (3, _), (4, _)] dX7_pay_69 (by decide) rfl ?_
  refine v_iconst (pc := 71) (nI 0) dX7_pay_71 kI_0 ?_
  refine v_istore (pc := 72) [1, 2, 3, 4, 5, 0] [(0, _), (1, _), (2, _), (3, _), (4, _), (5, _)] dX7_pay_72 (by decide) rfl ?_
  refine dn (P := fun i => V E X ({ frames := 2, cells := 0, slots := 0, locals := 46 } : Room) RX7 cX7_pay 7 (some .int) 0 0 (QX E X false 146 (Ff (some (.int (owM xP (itn (st_mpay xP (nI a) (nI z)) nd (nI n, m_fly xW (nI a) (nI z) (nI n))).2 (nI a) (nI z) nd))) (cellOf E (c, (mkA xP xR ((itn (st_mpay xP (nI a) (nI z)) nd (nI n, m_fly xW (nI a) (nI z) (nI n))).2) xS (remZ xZ xW un) xG xK xT xQ xF xB xL xC, (nI (remU un), nI sz, ft, nI wm, nI fm, nI bm, nI at_, nI bg, sg, nI fg, vl, wr), sd)))) 0 0) false 146 74 [(0, .ref (Ez E + 132)), (1, .int (nI a)), (2, .int (nI z)), (3, .int (nI n)), (4, .int (itn (st_mpay xP (nI a) (nI z)) i (nI n, m_fly xW (nI a) (nI z) (nI n))).1), (5, .int (nI i))] [] (cellOf E (c, (mkA xP xR ((itn (st_mpay xP (nI a) (nI z)) i (nI n, m_fly xW (nI a) (nI z) (nI n))).2) xS (remZ xZ xW un) xG xK xT xQ xF xB xL xC, (nI (remU un), nI sz, ft, nI wm, nI fm, nI bm, nI at_, nI bg, sg, nI fg, vl, wr), sd)))) (N := nd) ?_ ?_
  · refine v_iload (pc := 74) 5 dX7_pay_74 rfl ?_
    refine v_aload_n (pc := 76) 0 dX7_pay_76 rfl rfl ?_
    refine g_X7_7 (pc := 77) (cMr_obj) (by decide) rfl dX7_pay_77 ?_
    refine v_iconst (pc := 80) (nI 3) dX7_pay_80 kI_3 ?_
    refine v_ialdN (pc := 81) (cM_parish) (by decide) (by omega) (by decide) dX7_pay_81 ?_
    rw [hd]
    refine v_icmp_geN (pc := 82) (by omega) (by omega) (tgt := 158) dX7_pay_82 rfl (fun c_82 => ?_) (fun c_82 => False.elim ((fun c => by omega) c_82))
    refine v_aload_n (pc := 158) 0 dX7_pay_158 rfl rfl ?_
    refine v_iload_n (pc := 159) 1 dX7_pay_159 rfl rfl ?_
    refine v_iload_n (pc := 160) 2 dX7_pay_160 rfl rfl ?_
    refine v_callV (pc := 161) _ _ k_X7_174 (cMr_obj) rfl (by decide) (m_owes hd hnd _ _) ⟨rfl, rfl, by decide⟩ rfl rfl (Nat.le_of_ble_eq_true rfl) ⟨Nat.le_of_ble_eq_true rfl, Nat.le_of_ble_eq_true rfl⟩ dX7_pay_161 (unS ?_)
    show V E X _ RX7 _ _ _ 0 0 _ false 146 164 _ [_] _
    exact v_iret (pc := 164) dX7_pay_164 (⟨rfl, rfl⟩)
  · intro i hi ih
    have ih : V E X ({ frames := 2, cells := 0, slots := 0, locals := 46 } : Room) RX7 cX7_pay 7 (some .int) 0 0 (QX E X false 146 (Ff (some (.int (owM xP (itn (st_mpay xP (nI a) (nI z)) nd (nI n, m_fly xW (nI a) (nI z) (nI n))).2 (nI a) (nI z) nd))) (cellOf E (c, (mkA xP xR ((itn (st_mpay xP (nI a) (nI z)) nd (nI n, m_fly xW (nI a) (nI z) (nI n))).2) xS (remZ xZ xW un) xG xK xT xQ xF xB xL xC, (nI (remU un), nI sz, ft, nI wm, nI fm, nI bm, nI at_, nI bg, sg, nI fg, vl, wr), sd)))) 0 0) false 146 74 [(0, .ref (Ez E + 132)), (1, .int (nI a)), (2, .int (nI z)), (3, .int (nI n)), (4, .int (st_mpay xP (nI a) (nI z) i (itn (st_mpay xP (nI a) (nI z)) i (nI n, m_fly xW (nI a) (nI z) (nI n)))).1), (5, .int (nI (i + 1)))] [] (cellOf E (c, (mkA xP xR ((st_mpay xP (nI a) (nI z) i (itn (st_mpay xP (nI a) (nI z)) i (nI n, m_fly xW (nI a) (nI z) (nI n)))).2) xS (remZ xZ xW un) xG xK xT xQ xF xB xL xC, (nI (remU un), nI sz, ft, nI wm, nI fm, nI bm, nI at_, nI bg, sg, nI fg, vl, wr), sd))) := by rw [itn_s] at ih; exact ih
    generalize itn (st_mpay xP (nI a) (nI z)) i (nI n, m_fly xW (nI a) (nI z) (nI n)) = z_ at ih ⊢
    obtain ⟨l1, f1⟩ := z_
    show V E X _ RX7 _ _ _ _ _ _ false 146 _ [(0, .ref (Ez E + 132)), (1, .int (nI a)), (2, .int (nI z)), (3, .int (nI n)), (4, .int l1), (5, .int (nI i))] [] (cellOf E (c, (mkA xP xR f1 xS (remZ xZ xW un) xG xK xT xQ xF xB xL xC, (nI (remU un), nI sz, ft, nI wm, nI fm, nI bm, nI at_, nI bg, sg, nI fg, vl, wr), sd)))
    refine v_iload (pc := 74) 5 dX7_pay_74 rfl ?_
    refine v_aload_n (pc := 76) 0 dX7_pay_76 rfl rfl ?_
    refine g_X7_7 (pc := 77) (cMr_obj) (by decide) rfl dX7_pay_77 ?_
    refine v_iconst (pc := 80) (nI 3) dX7_pay_80 kI_3 ?_
    refine v_ialdN (pc := 81) (cM_parish) (by decide) (by omega) (by decide) dX7_pay_81 ?_
    rw [hd]
    refine v_icmp_geN (pc := 82) (by omega) (by omega) (tgt := 158) dX7_pay_82 rfl (fun c_82 => False.elim ((fun c => by omega) c_82)) (fun c_82 => ?_)
    refine v_aload_n (pc := 85) 0 dX7_pay_85 rfl rfl ?_
    refine g_X7_7 (pc := 86) (cMr_obj) (by decide) rfl dX7_pay_86 ?_
    refine v_bipush (pc := 89) (nI 25) dX7_pay_89 kB_25 ?_
    refine v_iload (pc := 91) 5 dX7_pay_91 rfl ?_
    refine v_iaddN (pc := 93) dX7_pay_93 ?_
    refine v_ialdN (pc := 94) (cM_parish) (by decide) (by omega) (by decide) dX7_pay_94 ?_
    refine v_iload_n (pc := 95) 1 dX7_pay_95 rfl rfl ?_
    refine v_icmp_ne (pc := 96) (tgt := 152) dX7_pay_96 rfl (fun c_96 => ?_) (fun c_96 => ?_)
    · refine v_iincN (pc := 152) 5 [1, 2, 3, 4, 5, 0] [(0, _), (1, _), (2, _), (3, _), (4, _), (5, _)] kI_1 dX7_pay_152 rfl (by decide) rfl ?_
      refine v_goto (pc := 155) (tgt := 74) dX7_pay_155 rfl ?_
      rw [show st_mpay xP (nI a) (nI z) i (l1, f1) = _ from if_neg (by rintro ⟨q, -⟩; exact c_96 q)] at ih
      exact ih
    · refine v_aload_n (pc := 99) 0 dX7_pay_99 rfl rfl ?_
      refine g_X7_7 (pc := 100) (cMr_obj) (by decide) rfl dX7_pay_100 ?_
      refine v_bipush (pc := 103) (nI 34) dX7_pay_103 kB_34 ?_
      refine v_iload (pc := 105) 5 dX7_pay_105 rfl ?_
      refine v_iaddN (pc := 107) dX7_pay_107 ?_
      refine v_ialdN (pc := 108) (cM_parish) (by decide) (by omega) (by decide) dX7_pay_108 ?_
      refine v_iload_n (pc := 109) 2 dX7_pay_109 rfl rfl ?_
      refine v_icmp_ne (pc := 110) (tgt := 152) dX7_pay_110 rfl (fun c_110 => ?_) (fun c_110 => ?_)
      · refine v_iincN (pc := 152) 5 [1, 2, 3, 4, 5, 0] [(0, _), (1, _), (2, _), (3, _), (4, _), (5, _)] kI_1 dX7_pay_152 rfl (by decide) rfl ?_
        refine v_goto (pc := 155) (tgt := 74) dX7_pay_155 rfl ?_
        rw [show st_mpay xP (nI a) (nI z) i (l1, f1) = _ from if_neg (by rintro ⟨-, q⟩; exact c_110 q)] at ih
        exact ih
      · refine v_iload (pc := 113) 4 dX7_pay_113 rfl ?_
        refine v_aload_n (pc := 115) 0 dX7_pay_115 rfl rfl ?_
        refine g_X7_16 (pc := 116) (cMr_obj) (by decide) rfl dX7_pay_116 ?_
        refine v_bipush (pc := 119) (nI 17) dX7_pay_119 kB_17 ?_
        refine v_iload (pc := 121) 5 dX7_pay_121 rfl ?_
        refine v_iaddN (pc := 123) dX7_pay_123 ?_
        refine v_ialdN (pc := 124) (cM_now) (by decide) (by omega) (by decide) dX7_pay_124 ?_
        refine v_callS (pc := 125) _ _ k_X7_138 (m_lesser _ _) ⟨rfl, rfl, by decide⟩ rfl rfl (Nat.le_of_ble_eq_true rfl) ⟨Nat.le_of_ble_eq_true rfl, Nat.le_of_ble_eq_true rfl⟩ dX7_pay_125 (unS ?_)
        show V E X _ RX7 _ _ _ 0 0 _ false 146 128 _ [_] _
        refine v_istore (pc := 128) [1, 2, 3, 4, 5, 6, 0] [(0, _), (1, _), (2, _), (3, _), (4, _), (5, _), (6, _)] dX7_pay_128 (by decide) rfl ?_
        refine v_aload_n (pc := 130) 0 dX7_pay_130 rfl rfl ?_
        refine g_X7_16 (pc := 131) (cMr_obj) (by decide) rfl dX7_pay_131 ?_
        refine v_bipush (pc := 134) (nI 17) dX7_pay_134 kB_17 ?_
        refine v_iload (pc := 136) 5 dX7_pay_136 rfl ?_
        refine v_iaddN (pc := 138) dX7_pay_138 ?_
        refine v_dup2 (pc := 139) dX7_pay_139 rfl rfl ?_
        refine v_ialdN (pc := 140) (cM_now) (by decide) (by omega) (by decide) dX7_pay_140 ?_
        refine v_iload (pc := 141) 6 dX7_pay_141 rfl ?_
        refine v_isub (pc := 143) dX7_pay_143 ?_
        refine v_iastN (pc := 144) (cM_now) (by decide) (by omega) (by decide) dX7_pay_144 (wM_now) ?_
        refine v_iload (pc := 145) 4 dX7_pay_145 rfl ?_
        refine v_iload (pc := 147) 6 dX7_pay_147 rfl ?_
        refine v_isub (pc := 149) dX7_pay_149 ?_
        refine v_istore (pc := 150) [1, 2, 3, 4, 0, 5, 6] [(0, _), (1, _), (2, _), (3, _), (4, _), (5, _), (6, _)] dX7_pay_150 (by decide) rfl ?_
        refine v_iincN (pc := 152) 5 [1, 2, 3, 4, 5, 0, 6] [(0, _), (1, _), (2, _), (3, _), (4, _), (5, _), (6, _)] kI_1 dX7_pay_152 rfl (by decide) rfl ?_
        refine v_goto (pc := 155) (tgt := 74) dX7_pay_155 rfl ?_
        refine v_sub [0, 1, 2, 3, 4, 5] rfl ?_
        rw [show st_mpay xP (nI a) (nI z) i (l1, f1) = _ from if_pos ⟨c_96, c_110⟩] at ih
        exact ih
set_option maxHeartbeats 4000000 in
set_option maxRecDepth 100000 in
theorem m_pay1 {E : Ev} {c : CSt} {xP xR xW xS xZ xG xK xT xQ xF xB xL xC : Fn} {un sz wm fm bm at_ bg fg : Nat} {ft sg vl wr : Int32} {sd : Int64} {np : Nat} (hp : xP 2 = nI np) (hnp : np ≤ 7) {a z n : Int32} (ha : perB a np = false) : Ct E yX7_pay cX7_pay 7 (some .int) ({ frames := 2, cells := 0, slots := 0, locals := 46 } : Room) false 146 [.ref (Ez E + 132), .int a, .int z, .int n] (cellOf E (c, (mkA xP xR xW xS xZ xG xK xT xQ xF xB xL xC, (nI un, nI sz, ft, nI wm, nI fm, nI bm, nI at_, nI bg, sg, nI fg, vl, wr), sd))) 146 0 0 (Ff (some (.int (cUNK))) (cellOf E (c, (mkA xP xR xW xS xZ xG xK xT xQ xF xB xL xC, (nI un, nI sz, ft, nI wm, nI fm, nI bm, nI at_, nI bg, sg, nI fg, vl, wr), sd)))) := by
  refine Ct.ofV (by decide) (Nat.le_of_ble_eq_true rfl) (fun X hnm => ?_)
  show V E X _ RX7 _ _ _ _ _ _ false 146 0 [(0, .ref (Ez E + 132)), (1, .int a), (2, .int z), (3, .int n)] [] _
  refine v_aload_n (pc := 0) 0 dX7_pay_0 rfl rfl ?_
  refine v_iload_n (pc := 1) 1 dX7_pay_1 rfl rfl ?_
  refine v_callV (pc := 2) _ _ k_X7_180 (cMr_obj) rfl (by decide) (m_isPn hp hnp _) ⟨rfl, rfl, by decide⟩ rfl rfl (Nat.le_of_ble_eq_true rfl) ⟨Nat.le_of_ble_eq_true rfl, Nat.le_of_ble_eq_true rfl⟩ dX7_pay_2 (unS ?_)
  show V E X _ RX7 _ _ _ 0 0 _ false 146 5 _ [_] _
  refine v_if_eqB (pc := 5) (tgt := 21) dX7_pay_5 rfl (fun c_5 => ?_) (fun c_5 => False.elim ((fun q => by rw [ha] at q; exact Bool.noConfusion q) c_5))
  refine v_ldc (pc := 21) _ kc_X7_183 dX7_pay_21 rfl ?_
  exact v_iret (pc := 23) dX7_pay_23 (⟨rfl, rfl⟩)
set_option maxHeartbeats 4000000 in
set_option maxRecDepth 100000 in
theorem m_pay2 {E : Ev} {c : CSt} {xP xR xW xS xZ xG xK xT xQ xF xB xL xC : Fn} {un sz wm fm bm at_ bg fg : Nat} {ft sg vl wr : Int32} {sd : Int64} {np : Nat} (hp : xP 2 = nI np) (hnp : np ≤ 7) {a z n : Int32} (ha : perB a np = true) (hz : perB z np = false) : Ct E yX7_pay cX7_pay 7 (some .int) ({ frames := 2, cells := 0, slots := 0, locals := 46 } : Room) false 146 [.ref (Ez E + 132), .int a, .int z, .int n] (cellOf E (c, (mkA xP xR xW xS xZ xG xK xT xQ xF xB xL xC, (nI un, nI sz, ft, nI wm, nI fm, nI bm, nI at_, nI bg, sg, nI fg, vl, wr), sd))) 146 0 0 (Ff (some (.int (cUNK))) (cellOf E (c, (mkA xP xR xW xS xZ xG xK xT xQ xF xB xL xC, (nI un, nI sz, ft, nI wm, nI fm, nI bm, nI at_, nI bg, sg, nI fg, vl, wr), sd)))) := by
  refine Ct.ofV (by decide) (Nat.le_of_ble_eq_true rfl) (fun X hnm => ?_)
  show V E X _ RX7 _ _ _ _ _ _ false 146 0 [(0, .ref (Ez E + 132)), (1, .int a), (2, .int z), (3, .int n)] [] _
  refine v_aload_n (pc := 0) 0 dX7_pay_0 rfl rfl ?_
  refine v_iload_n (pc := 1) 1 dX7_pay_1 rfl rfl ?_
  refine v_callV (pc := 2) _ _ k_X7_180 (cMr_obj) rfl (by decide) (m_isPn hp hnp _) ⟨rfl, rfl, by decide⟩ rfl rfl (Nat.le_of_ble_eq_true rfl) ⟨Nat.le_of_ble_eq_true rfl, Nat.le_of_ble_eq_true rfl⟩ dX7_pay_2 (unS ?_)
  show V E X _ RX7 _ _ _ 0 0 _ false 146 5 _ [_] _
  refine v_if_eqB (pc := 5) (tgt := 21) dX7_pay_5 rfl (fun c_5 => False.elim ((fun q => by rw [ha] at q; exact Bool.noConfusion q) c_5)) (fun c_5 => ?_)
  refine v_aload_n (pc := 8) 0 dX7_pay_8 rfl rfl ?_
  refine v_iload_n (pc := 9) 2 dX7_pay_9 rfl rfl ?_
  refine v_callV (pc := 10) _ _ k_X7_180 (cMr_obj) rfl (by decide) (m_isPn hp hnp _) ⟨rfl, rfl, by decide⟩ rfl rfl (Nat.le_of_ble_eq_true rfl) ⟨Nat.le_of_ble_eq_true rfl, Nat.le_of_ble_eq_true rfl⟩ dX7_pay_10 (unS ?_)
  show V E X _ RX7 _ _ _ 0 0 _ false 146 13 _ [_] _
  refine v_if_eqB (pc := 13) (tgt := 21) dX7_pay_13 rfl (fun c_13 => ?_) (fun c_13 => False.elim ((fun q => by rw [hz] at q; exact Bool.noConfusion q) c_13))
  refine v_ldc (pc := 21) _ kc_X7_183 dX7_pay_21 rfl ?_
  exact v_iret (pc := 23) dX7_pay_23 (⟨rfl, rfl⟩)
set_option maxHeartbeats 4000000 in
set_option maxRecDepth 100000 in
theorem m_pay3 {E : Ev} {c : CSt} {xP xR xW xS xZ xG xK xT xQ xF xB xL xC : Fn} {un sz wm fm bm at_ bg fg : Nat} {ft sg vl wr : Int32} {sd : Int64} {np : Nat} (hp : xP 2 = nI np) (hnp : np ≤ 7) {a z n : Int32} (ha : perB a np = true) (hz : perB z np = true) (haz : a = z) : Ct E yX7_pay cX7_pay 7 (some .int) ({ frames := 2, cells := 0, slots := 0, locals := 46 } : Room) false 146 [.ref (Ez E + 132), .int a, .int z, .int n] (cellOf E (c, (mkA xP xR xW xS xZ xG xK xT xQ xF xB xL xC, (nI un, nI sz, ft, nI wm, nI fm, nI bm, nI at_, nI bg, sg, nI fg, vl, wr), sd))) 146 0 0 (Ff (some (.int (cUNK))) (cellOf E (c, (mkA xP xR xW xS xZ xG xK xT xQ xF xB xL xC, (nI un, nI sz, ft, nI wm, nI fm, nI bm, nI at_, nI bg, sg, nI fg, vl, wr), sd)))) := by
  refine Ct.ofV (by decide) (Nat.le_of_ble_eq_true rfl) (fun X hnm => ?_)
  show V E X _ RX7 _ _ _ _ _ _ false 146 0 [(0, .ref (Ez E + 132)), (1, .int a), (2, .int z), (3, .int n)] [] _
  refine v_aload_n (pc := 0) 0 dX7_pay_0 rfl rfl ?_
  refine v_iload_n (pc := 1) 1 dX7_pay_1 rfl rfl ?_
  refine v_callV (pc := 2) _ _ k_X7_180 (cMr_obj) rfl (by decide) (m_isPn hp hnp _) ⟨rfl, rfl, by decide⟩ rfl rfl (Nat.le_of_ble_eq_true rfl) ⟨Nat.le_of_ble_eq_true rfl, Nat.le_of_ble_eq_true rfl⟩ dX7_pay_2 (unS ?_)
  show V E X _ RX7 _ _ _ 0 0 _ false 146 5 _ [_] _
  refine v_if_eqB (pc := 5) (tgt := 21) dX7_pay_5 rfl (fun c_5 => False.elim ((fun q => by rw [ha] at q; exact Bool.noConfusion q) c_5)) (fun c_5 => ?_)
  refine v_aload_n (pc := 8) 0 dX7_pay_8 rfl rfl ?_
  refine v_iload_n (pc := 9) 2 dX7_pay_9 rfl rfl ?_
  refine v_callV (pc := 10) _ _ k_X7_180 (cMr_obj) rfl (by decide) (m_isPn hp hnp _) ⟨rfl, rfl, by decide⟩ rfl rfl (Nat.le_of_ble_eq_true rfl) ⟨Nat.le_of_ble_eq_true rfl, Nat.le_of_ble_eq_true rfl⟩ dX7_pay_10 (unS ?_)
  show V E X _ RX7 _ _ _ 0 0 _ false 146 13 _ [_] _
  refine v_if_eqB (pc := 13) (tgt := 21) dX7_pay_13 rfl (fun c_13 => False.elim ((fun q => by rw [hz] at q; exact Bool.noConfusion q) c_13)) (fun c_13 => ?_)
  refine v_iload_n (pc := 16) 1 dX7_pay_16 rfl rfl ?_
  refine v_iload_n (pc := 17) 2 dX7_pay_17 rfl rfl ?_
  refine v_icmp_ne (pc := 18) (tgt := 24) dX7_pay_18 rfl (fun c_18 => False.elim ((fun q => q haz) c_18)) (fun c_18 => ?_)
  refine v_ldc (pc := 21) _ kc_X7_183 dX7_pay_21 rfl ?_
  exact v_iret (pc := 23) dX7_pay_23 (⟨rfl, rfl⟩)
set_option maxHeartbeats 4000000 in
set_option maxRecDepth 100000 in
theorem m_pay4 {E : Ev} {c : CSt} {xP xR xW xS xZ xG xK xT xQ xF xB xL xC : Fn} {un sz wm fm bm at_ bg fg : Nat} {ft sg vl wr : Int32} {sd : Int64} {np : Nat} (hp : xP 2 = nI np) (hnp : np ≤ 7) {a z n : Int32} (ha : perB a np = true) (hz : perB z np = true) (haz : ¬ a = z) (hn : outB n (nI 1) (nI 999) = true) : Ct E yX7_pay cX7_pay 7 (some .int) ({ frames := 2, cells := 0, slots := 0, locals := 46 } : Room) false 146 [.ref (Ez E + 132), .int a, .int z, .int n] (cellOf E (c, (mkA xP xR xW xS xZ xG xK xT xQ xF xB xL xC, (nI un, nI sz, ft, nI wm, nI fm, nI bm, nI at_, nI bg, sg, nI fg, vl, wr), sd))) 146 0 0 (Ff (some (.int (cOUT))) (cellOf E (c, (mkA xP xR xW xS xZ xG xK xT xQ xF xB xL xC, (nI un, nI sz, ft, nI wm, nI fm, nI bm, nI at_, nI bg, sg, nI fg, vl, wr), sd)))) := by
  refine Ct.ofV (by decide) (Nat.le_of_ble_eq_true rfl) (fun X hnm => ?_)
  show V E X _ RX7 _ _ _ _ _ _ false 146 0 [(0, .ref (Ez E + 132)), (1, .int a), (2, .int z), (3, .int n)] [] _
  refine v_aload_n (pc := 0) 0 dX7_pay_0 rfl rfl ?_
  refine v_iload_n (pc := 1) 1 dX7_pay_1 rfl rfl ?_
  refine v_callV (pc := 2) _ _ k_X7_180 (cMr_obj) rfl (by decide) (m_isPn hp hnp _) ⟨rfl, rfl, by decide⟩ rfl rfl (Nat.le_of_ble_eq_true rfl) ⟨Nat.le_of_ble_eq_true rfl, Nat.le_of_ble_eq_true rfl⟩ dX7_pay_2 (unS ?_)
  show V E X _ RX7 _ _ _ 0 0 _ false 146 5 _ [_] _
  refine v_if_eqB (pc := 5) (tgt := 21) dX7_pay_5 rfl (fun c_5 => False.elim ((fun q => by rw [ha] at q; exact Bool.noConfusion q) c_5)) (fun c_5 => ?_)
  refine v_aload_n (pc := 8) 0 dX7_pay_8 rfl rfl ?_
  refine v_iload_n (pc := 9) 2 dX7_pay_9 rfl rfl ?_
  refine v_callV (pc := 10) _ _ k_X7_180 (cMr_obj) rfl (by decide) (m_isPn hp hnp _) ⟨rfl, rfl, by decide⟩ rfl rfl (Nat.le_of_ble_eq_true rfl) ⟨Nat.le_of_ble_eq_true rfl, Nat.le_of_ble_eq_true rfl⟩ dX7_pay_10 (unS ?_)
  show V E X _ RX7 _ _ _ 0 0 _ false 146 13 _ [_] _
  refine v_if_eqB (pc := 13) (tgt := 21) dX7_pay_13 rfl (fun c_13 => False.elim ((fun q => by rw [hz] at q; exact Bool.noConfusion q) c_13)) (fun c_13 => ?_)
  refine v_iload_n (pc := 16) 1 dX7_pay_16 rfl rfl ?_
  refine v_iload_n (pc := 17) 2 dX7_pay_17 rfl rfl ?_
  refine v_icmp_ne (pc := 18) (tgt := 24) dX7_pay_18 rfl (fun c_18 => ?_) (fun c_18 => False.elim ((fun q => haz q) c_18))
  refine v_iload_n (pc := 24) 3 dX7_pay_24 rfl rfl ?_
  refine v_i2l (pc := 25) dX7_pay_25 ?_
  refine v_lconst (pc := 26) ((nI 1).toInt64) dX7_pay_26 (by decide) ?_
  refine v_ldc2 (pc := 27) ((nI 999).toInt64) kl_X7_186 dX7_pay_27 (by decide) ?_
  refine v_callS (pc := 30) _ _ k_X7_72 (m_in _ _ _) ⟨rfl, rfl, by decide⟩ rfl rfl (Nat.le_of_ble_eq_true rfl) ⟨Nat.le_of_ble_eq_true rfl, Nat.le_of_ble_eq_true rfl⟩ dX7_pay_30 (unS ?_)
  show V E X _ RX7 _ _ _ 0 0 _ false 146 33 _ [_] _
  refine v_if_neB (pc := 33) (tgt := 39) dX7_pay_33 rfl (fun c_33 => False.elim ((fun q => by rw [inB_o hn] at q; exact Bool.noConfusion q) c_33)) (fun c_33 => ?_)
  refine v_ldc (pc := 36) _ kc_X7_76 dX7_pay_36 rfl ?_
  exact v_iret (pc := 38) dX7_pay_38 (⟨rfl, rfl⟩)
set_option maxHeartbeats 4000000 in
set_option maxRecDepth 100000 in
theorem m_pay5 {E : Ev} {c : CSt} {xP xR xW xS xZ xG xK xT xQ xF xB xL xC : Fn} {un sz wm fm bm at_ bg fg : Nat} {ft sg vl wr : Int32} {sd : Int64} {np : Nat} (hp : xP 2 = nI np) (hnp : np ≤ 7) {a z : Nat} {n : Int32} (ha : a < np) (hz : z < np) (haz : a ≠ z) (hn : outB n (nI 1) (nI 999) = false) (hw : xW (0 + a) < n) : Ct E yX7_pay cX7_pay 7 (some .int) ({ frames := 2, cells := 0, slots := 0, locals := 46 } : Room) false 146 [.ref (Ez E + 132), .int (nI a), .int (nI z), .int n] (cellOf E (c, (mkA xP xR xW xS xZ xG xK xT xQ xF xB xL xC, (nI un, nI sz, ft, nI wm, nI fm, nI bm, nI at_, nI bg, sg, nI fg, vl, wr), sd))) 146 0 0 (Ff (some (.int (cNOT))) (cellOf E (c, (mkA xP xR xW xS xZ xG xK xT xQ xF xB xL xC, (nI un, nI sz, ft, nI wm, nI fm, nI bm, nI at_, nI bg, sg, nI fg, vl, wr), sd)))) := by
  refine Ct.ofV (by decide) (Nat.le_of_ble_eq_true rfl) (fun X hnm => ?_)
  show V E X _ RX7 _ _ _ _ _ _ false 146 0 [(0, .ref (Ez E + 132)), (1, .int (nI a)), (2, .int (nI z)), (3, .int n)] [] _
  refine v_aload_n (pc := 0) 0 dX7_pay_0 rfl rfl ?_
  refine v_iload_n (pc := 1) 1 dX7_pay_1 rfl rfl ?_
  refine v_callV (pc := 2) _ _ k_X7_180 (cMr_obj) rfl (by decide) (m_isPn hp hnp _) ⟨rfl, rfl, by decide⟩ rfl rfl (Nat.le_of_ble_eq_true rfl) ⟨Nat.le_of_ble_eq_true rfl, Nat.le_of_ble_eq_true rfl⟩ dX7_pay_2 (unS ?_)
  show V E X _ RX7 _ _ _ 0 0 _ false 146 5 _ [_] _
  refine v_if_eqB (pc := 5) (tgt := 21) dX7_pay_5 rfl (fun c_5 => False.elim ((fun q => by rw [perB_t ha (by omega)] at q; exact Bool.noConfusion q) c_5)) (fun c_5 => ?_)
  refine v_aload_n (pc := 8) 0 dX7_pay_8 rfl rfl ?_
  refine v_iload_n (pc := 9) 2 dX7_pay_9 rfl rfl ?_
  refine v_callV (pc := 10) _ _ k_X7_180 (cMr_obj) rfl (by decide) (m_isPn hp hnp _) ⟨rfl, rfl, by decide⟩ rfl rfl (Nat.le_of_ble_eq_true rfl) ⟨Nat.le_of_ble_eq_true rfl, Nat.le_of_ble_eq_true rfl⟩ dX7_pay_10 (unS ?_)
  show V E X _ RX7 _ _ _ 0 0 _ false 146 13 _ [_] _
  refine v_if_eqB (pc := 13) (tgt := 21) dX7_pay_13 rfl (fun c_13 => False.elim ((fun q => by rw [perB_t hz (by omega)] at q; exact Bool.noConfusion q) c_13)) (fun c_13 => ?_)
  refine v_iload_n (pc := 16) 1 dX7_pay_16 rfl rfl ?_
  refine v_iload_n (pc := 17) 2 dX7_pay_17 rfl rfl ?_
  refine v_icmp_neN (pc := 18) (by omega) (by omega) (tgt := 24) dX7_pay_18 rfl (fun c_18 => ?_) (fun c_18 => False.elim ((fun q => haz q) c_18))
  refine v_iload_n (pc := 24) 3 dX7_pay_24 rfl rfl ?_
  refine v_i2l (pc := 25) dX7_pay_25 ?_
  refine v_lconst (pc := 26) ((nI 1).toInt64) dX7_pay_26 (by decide) ?_
  refine v_ldc2 (pc := 27) ((nI 999).toInt64) kl_X7_186 dX7_pay_27 (by decide) ?_
  refine v_callS (pc := 30) _ _ k_X7_72 (m_in _ _ _) ⟨rfl, rfl, by decide⟩ rfl rfl (Nat.le_of_ble_eq_true rfl) ⟨Nat.le_of_ble_eq_true rfl, Nat.le_of_ble_eq_true rfl⟩ dX7_pay_30 (unS ?_)
  show V E X _ RX7 _ _ _ 0 0 _ false 146 33 _ [_] _
  refine v_if_neB (pc := 33) (tgt := 39) dX7_pay_33 rfl (fun c_33 => ?_) (fun c_33 => False.elim ((fun q => by rw [inB_i hn] at q; exact Bool.noConfusion q) c_33))
  refine v_aload_n (pc := 39) 0 dX7_pay_39 rfl rfl ?_
  refine g_X7_16 (pc := 40) (cMr_obj) (by decide) rfl dX7_pay_40 ?_
  refine v_iconst (pc := 43) (nI 0) dX7_pay_43 kI_0 ?_
  refine v_iload_n (pc := 44) 1 dX7_pay_44 rfl rfl ?_
  refine v_iaddN (pc := 45) dX7_pay_45 ?_
  refine v_ialdN (pc := 46) (cM_now) (by decide) (by omega) (by decide) dX7_pay_46 ?_
  refine v_iload_n (pc := 47) 3 dX7_pay_47 rfl rfl ?_
  refine v_icmp_ge (pc := 48) (tgt := 54) dX7_pay_48 rfl (fun c_48 => False.elim ((fun q => Int32.not_le.mpr hw q) c_48)) (fun c_48 => ?_)
  refine v_ldc (pc := 51) _ kc_X7_188 dX7_pay_51 rfl ?_
  exact v_iret (pc := 53) dX7_pay_53 (⟨rfl, rfl⟩)
set_option maxHeartbeats 4000000 in
set_option maxRecDepth 100000 in
theorem m_strew {E : Ev} {c : CSt} {xP xR xW xS xZ xG xK xT xQ xF xB xL xC : Fn} {un sz wm fm bm at_ bg fg : Nat} {ft sg vl wr : Int32} {sd : Int64} {np : Nat} (hp : xP 2 = nI np) (hnp : np ≤ 7) (hun : un ≤ 16) {a n : Nat} (ha : a < np) (h1 : 1 ≤ n) (h2 : n ≤ 99) : Ct E yX7_strew cX7_strew 3 (some .int) ({ frames := 2, cells := 0, slots := 0, locals := 46 } : Room) false 146 [.ref (Ez E + 132), .int (nI a), .int (nI n)] (cellOf E (c, (mkA xP xR xW xS xZ xG xK xT xQ xF xB xL xC, (nI un, nI sz, ft, nI wm, nI fm, nI bm, nI at_, nI bg, sg, nI fg, vl, wr), sd))) 146 0 0 (Ff (some (.int (stW xW a (nI n) (7 + a)))) (cellOf E (c, (mkA xP xR (stW xW a (nI n)) xS (remZ xZ xW un) xG xK xT xQ xF xB xL xC, (nI (remU un), nI sz, ft, nI wm, nI fm, nI bm, nI at_, nI bg, sg, nI fg, vl, wr), sd)))) := by
  refine Ct.ofV (by decide) (Nat.le_of_ble_eq_true rfl) (fun X hnm => ?_)
  show V E X _ RX7 _ _ _ _ _ _ false 146 0 [(0, .ref (Ez E + 132)), (1, .int (nI a)), (2, .int (nI n))] [] _
  refine v_aload_n (pc := 0) 0 dX7_strew_0 rfl rfl ?_
  refine v_iload_n (pc := 1) 1 dX7_strew_1 rfl rfl ?_
  refine v_callV (pc := 2) _ _ k_X7_180 (cMr_obj) rfl (by decide) (m_isPn hp hnp _) ⟨rfl, rfl, by decide⟩ rfl rfl (Nat.le_of_ble_eq_true rfl) ⟨Nat.le_of_ble_eq_true rfl, Nat.le_of_ble_eq_true rfl⟩ dX7_strew_2 (unS ?_)
  show V E X _ RX7 _ _ _ 0 0 _ false 146 5 _ [_] _
  refine v_if_neB (pc := 5) (tgt := 11) dX7_strew_5 rfl (fun c_5 => ?_) (fun c_5 => False.elim ((fun q => by rw [perB_t ha (by omega)] at q; exact Bool.noConfusion q) c_5))
  refine v_iload_n (pc := 11) 2 dX7_strew_11 rfl rfl ?_
  refine v_i2l (pc := 12) dX7_strew_12 ?_
  refine v_lconst (pc := 13) ((nI 1).toInt64) dX7_strew_13 (by decide) ?_
  refine v_ldc2 (pc := 14) ((nI 99).toInt64) kl_X7_192 dX7_strew_14 (by decide) ?_
  refine v_callS (pc := 17) _ _ k_X7_72 (m_in _ _ _) ⟨rfl, rfl, by decide⟩ rfl rfl (Nat.le_of_ble_eq_true rfl) ⟨Nat.le_of_ble_eq_true rfl, Nat.le_of_ble_eq_true rfl⟩ dX7_strew_17 (unS ?_)
  show V E X _ RX7 _ _ _ 0 0 _ false 146 20 _ [_] _
  refine v_if_neB (pc := 20) (tgt := 26) dX7_strew_20 rfl (fun c_20 => ?_) (fun c_20 => False.elim ((fun q => by rw [inB_n (by omega) (by omega) (by omega)] at q; exact Bool.noConfusion q) c_20))
  refine v_aload_n (pc := 26) 0 dX7_strew_26 rfl rfl ?_
  refine v_callV (pc := 27) _ _ k_X7_189 (cMr_obj) rfl (by decide) (m_remember hun) ⟨rfl, rfl, by decide⟩ rfl rfl (Nat.le_of_ble_eq_true rfl) ⟨Nat.le_of_ble_eq_true rfl, Nat.le_of_ble_eq_true rfl⟩ dX7_strew_27 (unS ?_)
  show V E X _ RX7 _ _ _ 0 0 _ false 146 30 _ [] _
  refine v_aload_n (pc := 30) 0 dX7_strew_30 rfl rfl ?_
  refine v_iload_n (pc := 31) 1 dX7_strew_31 rfl rfl ?_
  refine v_iload_n (pc := 32) 2 dX7_strew_32 rfl rfl ?_
  refine v_callV (pc := 33) _ _ k_X7_194 (cMr_obj) rfl (by decide) (m_strews (by omega) _) ⟨rfl, rfl, by decide⟩ rfl rfl (Nat.le_of_ble_eq_true rfl) ⟨Nat.le_of_ble_eq_true rfl, Nat.le_of_ble_eq_true rfl⟩ dX7_strew_33 (unS ?_)
  show V E X _ RX7 _ _ _ 0 0 _ false 146 36 _ [] _
  refine v_aload_n (pc := 36) 0 dX7_strew_36 rfl rfl ?_
  refine g_X7_16 (pc := 37) (cMr_obj) (by decide) rfl dX7_strew_37 ?_
  refine v_bipush (pc := 40) (nI 7) dX7_strew_40 kB_7 ?_
  refine v_iload_n (pc := 42) 1 dX7_strew_42 rfl rfl ?_
  refine v_iaddN (pc := 43) dX7_strew_43 ?_
  refine v_ialdN (pc := 44) (cM_now) (by decide) (by omega) (by decide) dX7_strew_44 ?_
  exact v_iret (pc := 45) dX7_strew_45 (⟨rfl, rfl⟩)
set_option maxHeartbeats 4000000 in
set_option maxRecDepth 100000 in
theorem m_strew1 {E : Ev} {c : CSt} {xP xR xW xS xZ xG xK xT xQ xF xB xL xC : Fn} {un sz wm fm bm at_ bg fg : Nat} {ft sg vl wr : Int32} {sd : Int64} {np : Nat} (hp : xP 2 = nI np) (hnp : np ≤ 7) {a n : Int32} (ha : perB a np = false) : Ct E yX7_strew cX7_strew 3 (some .int) ({ frames := 2, cells := 0, slots := 0, locals := 46 } : Room) false 146 [.ref (Ez E + 132), .int a, .int n] (cellOf E (c, (mkA xP xR xW xS xZ xG xK xT xQ xF xB xL xC, (nI un, nI sz, ft, nI wm, nI fm, nI bm, nI at_, nI bg, sg, nI fg, vl, wr), sd))) 146 0 0 (Ff (some (.int (cUNK))) (cellOf E (c, (mkA xP xR xW xS xZ xG xK xT xQ xF xB xL xC, (nI un, nI sz, ft, nI wm, nI fm, nI bm, nI at_, nI bg, sg, nI fg, vl, wr), sd)))) := by
  refine Ct.ofV (by decide) (Nat.le_of_ble_eq_true rfl) (fun X hnm => ?_)
  show V E X _ RX7 _ _ _ _ _ _ false 146 0 [(0, .ref (Ez E + 132)), (1, .int a), (2, .int n)] [] _
  refine v_aload_n (pc := 0) 0 dX7_strew_0 rfl rfl ?_
  refine v_iload_n (pc := 1) 1 dX7_strew_1 rfl rfl ?_
  refine v_callV (pc := 2) _ _ k_X7_180 (cMr_obj) rfl (by decide) (m_isPn hp hnp _) ⟨rfl, rfl, by decide⟩ rfl rfl (Nat.le_of_ble_eq_true rfl) ⟨Nat.le_of_ble_eq_true rfl, Nat.le_of_ble_eq_true rfl⟩ dX7_strew_2 (unS ?_)
  show V E X _ RX7 _ _ _ 0 0 _ false 146 5 _ [_] _
  refine v_if_neB (pc := 5) (tgt := 11) dX7_strew_5 rfl (fun c_5 => False.elim ((fun q => by rw [ha] at q; exact Bool.noConfusion q) c_5)) (fun c_5 => ?_)
  refine v_ldc (pc := 8) _ kc_X7_183 dX7_strew_8 rfl ?_
  exact v_iret (pc := 10) dX7_strew_10 (⟨rfl, rfl⟩)
set_option maxHeartbeats 4000000 in
set_option maxRecDepth 100000 in
theorem m_strew2 {E : Ev} {c : CSt} {xP xR xW xS xZ xG xK xT xQ xF xB xL xC : Fn} {un sz wm fm bm at_ bg fg : Nat} {ft sg vl wr : Int32} {sd : Int64} {np : Nat} (hp : xP 2 = nI np) (hnp : np ≤ 7) {a n : Int32} (ha : perB a np = true) (hn : outB n (nI 1) (nI 99) = true) : Ct E yX7_strew cX7_strew 3 (some .int) ({ frames := 2, cells := 0, slots := 0, locals := 46 } : Room) false 146 [.ref (Ez E + 132), .int a, .int n] (cellOf E (c, (mkA xP xR xW xS xZ xG xK xT xQ xF xB xL xC, (nI un, nI sz, ft, nI wm, nI fm, nI bm, nI at_, nI bg, sg, nI fg, vl, wr), sd))) 146 0 0 (Ff (some (.int (cOUT))) (cellOf E (c, (mkA xP xR xW xS xZ xG xK xT xQ xF xB xL xC, (nI un, nI sz, ft, nI wm, nI fm, nI bm, nI at_, nI bg, sg, nI fg, vl, wr), sd)))) := by
  refine Ct.ofV (by decide) (Nat.le_of_ble_eq_true rfl) (fun X hnm => ?_)
  show V E X _ RX7 _ _ _ _ _ _ false 146 0 [(0, .ref (Ez E + 132)), (1, .int a), (2, .int n)] [] _
  refine v_aload_n (pc := 0) 0 dX7_strew_0 rfl rfl ?_
  refine v_iload_n (pc := 1) 1 dX7_strew_1 rfl rfl ?_
  refine v_callV (pc := 2) _ _ k_X7_180 (cMr_obj) rfl (by decide) (m_isPn hp hnp _) ⟨rfl, rfl, by decide⟩ rfl rfl (Nat.le_of_ble_eq_true rfl) ⟨Nat.le_of_ble_eq_true rfl, Nat.le_of_ble_eq_true rfl⟩ dX7_strew_2 (unS ?_)
  show V E X _ RX7 _ _ _ 0 0 _ false 146 5 _ [_] _
  refine v_if_neB (pc := 5) (tgt := 11) dX7_strew_5 rfl (fun c_5 => ?_) (fun c_5 => False.elim ((fun q => by rw [ha] at q; exact Bool.noConfusion q) c_5))
  refine v_iload_n (pc := 11) 2 dX7_strew_11 rfl rfl ?_
  refine v_i2l (pc := 12) dX7_strew_12 ?_
  refine v_lconst (pc := 13) ((nI 1).toInt64) dX7_strew_13 (by decide) ?_
  refine v_ldc2 (pc := 14) ((nI 99).toInt64) kl_X7_192 dX7_strew_14 (by decide) ?_
  refine v_callS (pc := 17) _ _ k_X7_72 (m_in _ _ _) ⟨rfl, rfl, by decide⟩ rfl rfl (Nat.le_of_ble_eq_true rfl) ⟨Nat.le_of_ble_eq_true rfl, Nat.le_of_ble_eq_true rfl⟩ dX7_strew_17 (unS ?_)
  show V E X _ RX7 _ _ _ 0 0 _ false 146 20 _ [_] _
  refine v_if_neB (pc := 20) (tgt := 26) dX7_strew_20 rfl (fun c_20 => False.elim ((fun q => by rw [inB_o hn] at q; exact Bool.noConfusion q) c_20)) (fun c_20 => ?_)
  refine v_ldc (pc := 23) _ kc_X7_76 dX7_strew_23 rfl ?_
  exact v_iret (pc := 25) dX7_strew_25 (⟨rfl, rfl⟩)
def netW (W : Fn) (a : Nat) (y : Bool) : Fn := upd W 14 (if y = true then W 14 ||| (nI 1 <<< (nI a &&& 31)) else W 14 &&& ((nI 1 <<< (nI a &&& 31)) ^^^ (-1)))
set_option maxHeartbeats 4000000 in
set_option maxRecDepth 100000 in
theorem m_net {E : Ev} {c : CSt} {xP xR xW xS xZ xG xK xT xQ xF xB xL xC : Fn} {un sz wm fm bm at_ bg fg : Nat} {ft sg vl wr : Int32} {sd : Int64} {np : Nat} (hp : xP 2 = nI np) (hnp : np ≤ 7) (hun : un ≤ 16) {a : Nat} (ha : a < np) (y : Bool) : Ct E yX7_net cX7_net 4 (some .int) ({ frames := 2, cells := 0, slots := 0, locals := 46 } : Room) false 146 [.ref (Ez E + 132), .int (nI a), .int (bI y)] (cellOf E (c, (mkA xP xR xW xS xZ xG xK xT xQ xF xB xL xC, (nI un, nI sz, ft, nI wm, nI fm, nI bm, nI at_, nI bg, sg, nI fg, vl, wr), sd))) 146 0 0 (Ff (some (.int ((xW 14 >>> (nI a &&& 31)) &&& nI 1))) (cellOf E (c, (mkA xP xR (netW xW a y) xS (remZ xZ xW un) xG xK xT xQ xF xB xL xC, (nI (remU un), nI sz, ft, nI wm, nI fm, nI bm, nI at_, nI bg, sg, nI fg, vl, wr), sd)))) := by
  refine Ct.ofV (by decide) (Nat.le_of_ble_eq_true rfl) (fun X hnm => ?_)
  show V E X _ RX7 _ _ _ _ _ _ false 146 0 [(0, .ref (Ez E + 132)), (1, .int (nI a)), (2, .int (bI y))] [] _
  refine v_aload_n (pc := 0) 0 dX7_net_0 rfl rfl ?_
  refine v_iload_n (pc := 1) 1 dX7_net_1 rfl rfl ?_
  refine v_callV (pc := 2) _ _ k_X7_180 (cMr_obj) rfl (by decide) (m_isPn hp hnp _) ⟨rfl, rfl, by decide⟩ rfl rfl (Nat.le_of_ble_eq_true rfl) ⟨Nat.le_of_ble_eq_true rfl, Nat.le_of_ble_eq_true rfl⟩ dX7_net_2 (unS ?_)
  show V E X _ RX7 _ _ _ 0 0 _ false 146 5 _ [_] _
  refine v_if_neB (pc := 5) (tgt := 11) dX7_net_5 rfl (fun c_5 => ?_) (fun c_5 => False.elim ((fun q => by rw [perB_t ha (by omega)] at q; exact Bool.noConfusion q) c_5))
  refine v_aload_n (pc := 11) 0 dX7_net_11 rfl rfl ?_
  refine v_callV (pc := 12) _ _ k_X7_189 (cMr_obj) rfl (by decide) (m_remember hun) ⟨rfl, rfl, by decide⟩ rfl rfl (Nat.le_of_ble_eq_true rfl) ⟨Nat.le_of_ble_eq_true rfl, Nat.le_of_ble_eq_true rfl⟩ dX7_net_12 (unS ?_)
  show V E X _ RX7 _ _ _ 0 0 _ false 146 15 _ [] _
  refine v_aload_n (pc := 15) 0 dX7_net_15 rfl rfl ?_
  refine g_X7_16 (pc := 16) (cMr_obj) (by decide) rfl dX7_net_16 ?_
  refine v_bipush (pc := 19) (nI 14) dX7_net_19 kB_14 ?_
  refine v_ialdN (pc := 21) (cM_now) (by decide) (by omega) (by decide) dX7_net_21 ?_
  refine v_iload_n (pc := 22) 1 dX7_net_22 rfl rfl ?_
  refine v_ishr (pc := 23) dX7_net_23 ?_
  refine v_iconst (pc := 24) (nI 1) dX7_net_24 kI_1 ?_
  refine v_iand (pc := 25) dX7_net_25 ?_
  refine v_istore_n (pc := 26) [1, 2, 3, 0] [(0, _), (1, _), (2, _), (3, _)] dX7_net_26 rfl (by decide) rfl ?_
  refine v_aload_n (pc := 27) 0 dX7_net_27 rfl rfl ?_
  refine g_X7_16 (pc := 28) (cMr_obj) (by decide) rfl dX7_net_28 ?_
  refine v_bipush (pc := 31) (nI 14) dX7_net_31 kB_14 ?_
  refine v_iload_n (pc := 33) 2 dX7_net_33 rfl rfl ?_
  refine v_if_eqB (pc := 34) (tgt := 51) dX7_net_34 rfl (fun c_34 => ?_) (fun c_34 => ?_)
  · refine v_aload_n (pc := 51) 0 dX7_net_51 rfl rfl ?_
    refine g_X7_16 (pc := 52) (cMr_obj) (by decide) rfl dX7_net_52 ?_
    refine v_bipush (pc := 55) (nI 14) dX7_net_55 kB_14 ?_
    refine v_ialdN (pc := 57) (cM_now) (by decide) (by omega) (by decide) dX7_net_57 ?_
    refine v_iconst (pc := 58) (nI 1) dX7_net_58 kI_1 ?_
    refine v_iload_n (pc := 59) 1 dX7_net_59 rfl rfl ?_
    refine v_ishl (pc := 60) dX7_net_60 ?_
    refine v_iconst (pc := 61) (-1) dX7_net_61 kI_m1 ?_
    refine v_ixor (pc := 62) dX7_net_62 ?_
    refine v_iand (pc := 63) dX7_net_63 ?_
    refine v_iastN (pc := 64) (cM_now) (by decide) (by omega) (by decide) dX7_net_64 (wM_now) ?_
    refine v_iload_n (pc := 65) 3 dX7_net_65 rfl rfl ?_
    exact v_iret (pc := 66) dX7_net_66 (⟨rfl, by unfold netW; rw [if_neg (by rw [c_34]; decide)]⟩)
  · refine v_aload_n (pc := 37) 0 dX7_net_37 rfl rfl ?_
    refine g_X7_16 (pc := 38) (cMr_obj) (by decide) rfl dX7_net_38 ?_
    refine v_bipush (pc := 41) (nI 14) dX7_net_41 kB_14 ?_
    refine v_ialdN (pc := 43) (cM_now) (by decide) (by omega) (by decide) dX7_net_43 ?_
    refine v_iconst (pc := 44) (nI 1) dX7_net_44 kI_1 ?_
    refine v_iload_n (pc := 45) 1 dX7_net_45 rfl rfl ?_
    refine v_ishl (pc := 46) dX7_net_46 ?_
    refine v_ior (pc := 47) dX7_net_47 ?_
    refine v_goto (pc := 48) (tgt := 64) dX7_net_48 rfl ?_
    refine v_iastN (pc := 64) (cM_now) (by decide) (by omega) (by decide) dX7_net_64 (wM_now) ?_
    refine v_iload_n (pc := 65) 3 dX7_net_65 rfl rfl ?_
    exact v_iret (pc := 66) dX7_net_66 (⟨rfl, by unfold netW; rw [if_pos c_34]⟩)
set_option maxHeartbeats 4000000 in
set_option maxRecDepth 100000 in
theorem m_net1 {E : Ev} {c : CSt} {xP xR xW xS xZ xG xK xT xQ xF xB xL xC : Fn} {un sz wm fm bm at_ bg fg : Nat} {ft sg vl wr : Int32} {sd : Int64} {np : Nat} (hp : xP 2 = nI np) (hnp : np ≤ 7) {a : Int32} (ha : perB a np = false) (y : Bool) : Ct E yX7_net cX7_net 4 (some .int) ({ frames := 2, cells := 0, slots := 0, locals := 46 } : Room) false 146 [.ref (Ez E + 132), .int a, .int (bI y)] (cellOf E (c, (mkA xP xR xW xS xZ xG xK xT xQ xF xB xL xC, (nI un, nI sz, ft, nI wm, nI fm, nI bm, nI at_, nI bg, sg, nI fg, vl, wr), sd))) 146 0 0 (Ff (some (.int (cUNK))) (cellOf E (c, (mkA xP xR xW xS xZ xG xK xT xQ xF xB xL xC, (nI un, nI sz, ft, nI wm, nI fm, nI bm, nI at_, nI bg, sg, nI fg, vl, wr), sd)))) := by
  refine Ct.ofV (by decide) (Nat.le_of_ble_eq_true rfl) (fun X hnm => ?_)
  show V E X _ RX7 _ _ _ _ _ _ false 146 0 [(0, .ref (Ez E + 132)), (1, .int a), (2, .int (bI y))] [] _
  refine v_aload_n (pc := 0) 0 dX7_net_0 rfl rfl ?_
  refine v_iload_n (pc := 1) 1 dX7_net_1 rfl rfl ?_
  refine v_callV (pc := 2) _ _ k_X7_180 (cMr_obj) rfl (by decide) (m_isPn hp hnp _) ⟨rfl, rfl, by decide⟩ rfl rfl (Nat.le_of_ble_eq_true rfl) ⟨Nat.le_of_ble_eq_true rfl, Nat.le_of_ble_eq_true rfl⟩ dX7_net_2 (unS ?_)
  show V E X _ RX7 _ _ _ 0 0 _ false 146 5 _ [_] _
  refine v_if_neB (pc := 5) (tgt := 11) dX7_net_5 rfl (fun c_5 => False.elim ((fun q => by rw [ha] at q; exact Bool.noConfusion q) c_5)) (fun c_5 => ?_)
  refine v_ldc (pc := 8) _ kc_X7_183 dX7_net_8 rfl ?_
  exact v_iret (pc := 10) dX7_net_10 (⟨rfl, rfl⟩)
set_option maxHeartbeats 4000000 in
set_option maxRecDepth 100000 in
theorem m_hawk {E : Ev} {c : CSt} {xP xR xW xS xZ xG xK xT xQ xF xB xL xC : Fn} {un sz wm fm bm at_ bg fg : Nat} {ft sg vl wr : Int32} {sd : Int64} {np : Nat} (hp : xP 2 = nI np) (hnp : np ≤ 7) (hun : un ≤ 16) (ht : Trc xW) {x n : Nat} (hx : x ≤ 50) (hn : n ≤ 50) (hdu : ¬ xP 1 = 0) : Ct E yX7_hawk cX7_hawk 3 (some .int) ({ frames := 2, cells := 0, slots := 0, locals := 50 } : Room) false 146 [.ref (Ez E + 132), .int (nI x), .int (nI n)] (cellOf E (c, (mkA xP xR xW xS xZ xG xK xT xQ xF xB xL xC, (nI un, nI sz, ft, nI wm, nI fm, nI bm, nI at_, nI bg, sg, nI fg, vl, wr), sd))) 146 0 0 (Ff (some (.int ((hwM xP xW (nI x) (nI n) np).1))) (cellOf E (c, (mkA xP xR ((hwM xP xW (nI x) (nI n) np).2) xS (remZ xZ xW un) xG xK xT xQ xF xB xL xC, (nI (remU un), nI sz, ft, nI wm, nI fm, nI bm, nI at_, nI bg, sg, nI fg, vl, wr), sd)))) := by
  refine Ct.ofV (by decide) (Nat.le_of_ble_eq_true rfl) (fun X hnm => ?_)
  show V E X _ RX7 _ _ _ _ _ _ false 146 0 [(0, .ref (Ez E + 132)), (1, .int (nI x)), (2, .int (nI n))] [] _
  refine v_iload_n (pc := 0) 1 dX7_hawk_0 rfl rfl ?_
  refine v_i2l (pc := 1) dX7_hawk_1 ?_
  refine v_lconst (pc := 2) ((nI 0).toInt64) dX7_hawk_2 (by decide) ?_
  refine v_ldc2 (pc := 3) ((nI 50).toInt64) kl_X7_198 dX7_hawk_3 (by decide) ?_
  refine v_callS (pc := 6) _ _ k_X7_72 (m_in _ _ _) ⟨rfl, rfl, by decide⟩ rfl rfl (Nat.le_of_ble_eq_true rfl) ⟨Nat.le_of_ble_eq_true rfl, Nat.le_of_ble_eq_true rfl⟩ dX7_hawk_6 (unS ?_)
  show V E X _ RX7 _ _ _ 0 0 _ false 146 9 _ [_] _
  refine v_if_eqB (pc := 9) (tgt := 24) dX7_hawk_9 rfl (fun c_9 => False.elim ((fun q => by rw [inB_n (by omega) (by omega) (by omega)] at q; exact Bool.noConfusion q) c_9)) (fun c_9 => ?_)
  refine v_iload_n (pc := 12) 2 dX7_hawk_12 rfl rfl ?_
  refine v_i2l (pc := 13) dX7_hawk_13 ?_
  refine v_lconst (pc := 14) ((nI 0).toInt64) dX7_hawk_14 (by decide) ?_
  refine v_ldc2 (pc := 15) ((nI 50).toInt64) kl_X7_198 dX7_hawk_15 (by decide) ?_
  refine v_callS (pc := 18) _ _ k_X7_72 (m_in _ _ _) ⟨rfl, rfl, by decide⟩ rfl rfl (Nat.le_of_ble_eq_true rfl) ⟨Nat.le_of_ble_eq_true rfl, Nat.le_of_ble_eq_true rfl⟩ dX7_hawk_18 (unS ?_)
  show V E X _ RX7 _ _ _ 0 0 _ false 146 21 _ [_] _
  refine v_if_neB (pc := 21) (tgt := 27) dX7_hawk_21 rfl (fun c_21 => ?_) (fun c_21 => False.elim ((fun q => by rw [inB_n (by omega) (by omega) (by omega)] at q; exact Bool.noConfusion q) c_21))
  refine v_aload_n (pc := 27) 0 dX7_hawk_27 rfl rfl ?_
  refine g_X7_7 (pc := 28) (cMr_obj) (by decide) rfl dX7_hawk_28 ?_
  refine v_iconst (pc := 31) (nI 1) dX7_hawk_31 kI_1 ?_
  refine v_ialdN (pc := 32) (cM_parish) (by decide) (by omega) (by decide) dX7_hawk_32 ?_
  refine v_if_ne (pc := 33) (tgt := 39) dX7_hawk_33 rfl (fun c_33 => ?_) (fun c_33 => False.elim ((fun q => hdu q) c_33))
  refine v_aload_n (pc := 39) 0 dX7_hawk_39 rfl rfl ?_
  refine v_callV (pc := 40) _ _ k_X7_189 (cMr_obj) rfl (by decide) (m_remember hun) ⟨rfl, rfl, by decide⟩ rfl rfl (Nat.le_of_ble_eq_true rfl) ⟨Nat.le_of_ble_eq_true rfl, Nat.le_of_ble_eq_true rfl⟩ dX7_hawk_40 (unS ?_)
  show V E X _ RX7 _ _ _ 0 0 _ false 146 43 _ [] _
  refine v_aload_n (pc := 43) 0 dX7_hawk_43 rfl rfl ?_
  refine v_iload_n (pc := 44) 1 dX7_hawk_44 rfl rfl ?_
  refine v_iload_n (pc := 45) 2 dX7_hawk_45 rfl rfl ?_
  refine v_callV (pc := 46) _ _ k_X7_200 (cMr_obj) rfl (by decide) (m_hawks hp hnp ht _ _) ⟨rfl, rfl, by decide⟩ rfl rfl (Nat.le_of_ble_eq_true rfl) ⟨Nat.le_of_ble_eq_true rfl, Nat.le_of_ble_eq_true rfl⟩ dX7_hawk_46 (unS ?_)
  show V E X _ RX7 _ _ _ 0 0 _ false 146 49 _ [_] _
  exact v_iret (pc := 49) dX7_hawk_49 (⟨rfl, rfl⟩)
set_option maxHeartbeats 4000000 in
set_option maxRecDepth 100000 in
theorem m_hawk1 {E : Ev} {c : CSt} {xP xR xW xS xZ xG xK xT xQ xF xB xL xC : Fn} {un sz wm fm bm at_ bg fg : Nat} {ft sg vl wr : Int32} {sd : Int64} {x n : Int32} (hx : outB x (nI 0) (nI 50) = true) : Ct E yX7_hawk cX7_hawk 3 (some .int) ({ frames := 2, cells := 0, slots := 0, locals := 50 } : Room) false 146 [.ref (Ez E + 132), .int x, .int n] (cellOf E (c, (mkA xP xR xW xS xZ xG xK xT xQ xF xB xL xC, (nI un, nI sz, ft, nI wm, nI fm, nI bm, nI at_, nI bg, sg, nI fg, vl, wr), sd))) 146 0 0 (Ff (some (.int (cOUT))) (cellOf E (c, (mkA xP xR xW xS xZ xG xK xT xQ xF xB xL xC, (nI un, nI sz, ft, nI wm, nI fm, nI bm, nI at_, nI bg, sg, nI fg, vl, wr), sd)))) := by
  refine Ct.ofV (by decide) (Nat.le_of_ble_eq_true rfl) (fun X hnm => ?_)
  show V E X _ RX7 _ _ _ _ _ _ false 146 0 [(0, .ref (Ez E + 132)), (1, .int x), (2, .int n)] [] _
  refine v_iload_n (pc := 0) 1 dX7_hawk_0 rfl rfl ?_
  refine v_i2l (pc := 1) dX7_hawk_1 ?_
  refine v_lconst (pc := 2) ((nI 0).toInt64) dX7_hawk_2 (by decide) ?_
  refine v_ldc2 (pc := 3) ((nI 50).toInt64) kl_X7_198 dX7_hawk_3 (by decide) ?_
  refine v_callS (pc := 6) _ _ k_X7_72 (m_in _ _ _) ⟨rfl, rfl, by decide⟩ rfl rfl (Nat.le_of_ble_eq_true rfl) ⟨Nat.le_of_ble_eq_true rfl, Nat.le_of_ble_eq_true rfl⟩ dX7_hawk_6 (unS ?_)
  show V E X _ RX7 _ _ _ 0 0 _ false 146 9 _ [_] _
  refine v_if_eqB (pc := 9) (tgt := 24) dX7_hawk_9 rfl (fun c_9 => ?_) (fun c_9 => False.elim ((fun q => by rw [inB_o hx] at q; exact Bool.noConfusion q) c_9))
  refine v_ldc (pc := 24) _ kc_X7_76 dX7_hawk_24 rfl ?_
  exact v_iret (pc := 26) dX7_hawk_26 (⟨rfl, rfl⟩)
set_option maxHeartbeats 4000000 in
set_option maxRecDepth 100000 in
theorem m_hawk2 {E : Ev} {c : CSt} {xP xR xW xS xZ xG xK xT xQ xF xB xL xC : Fn} {un sz wm fm bm at_ bg fg : Nat} {ft sg vl wr : Int32} {sd : Int64} {x n : Int32} (hx : outB x (nI 0) (nI 50) = false) (hn : outB n (nI 0) (nI 50) = true) : Ct E yX7_hawk cX7_hawk 3 (some .int) ({ frames := 2, cells := 0, slots := 0, locals := 50 } : Room) false 146 [.ref (Ez E + 132), .int x, .int n] (cellOf E (c, (mkA xP xR xW xS xZ xG xK xT xQ xF xB xL xC, (nI un, nI sz, ft, nI wm, nI fm, nI bm, nI at_, nI bg, sg, nI fg, vl, wr), sd))) 146 0 0 (Ff (some (.int (cOUT))) (cellOf E (c, (mkA xP xR xW xS xZ xG xK xT xQ xF xB xL xC, (nI un, nI sz, ft, nI wm, nI fm, nI bm, nI at_, nI bg, sg, nI fg, vl, wr), sd)))) := by
  refine Ct.ofV (by decide) (Nat.le_of_ble_eq_true rfl) (fun X hnm => ?_)
  show V E X _ RX7 _ _ _ _ _ _ false 146 0 [(0, .ref (Ez E + 132)), (1, .int x), (2, .int n)] [] _
  refine v_iload_n (pc := 0) 1 dX7_hawk_0 rfl rfl ?_
  refine v_i2l (pc := 1) dX7_hawk_1 ?_
  refine v_lconst (pc := 2) ((nI 0).toInt64) dX7_hawk_2 (by decide) ?_
  refine v_ldc2 (pc := 3) ((nI 50).toInt64) kl_X7_198 dX7_hawk_3 (by decide) ?_
  refine v_callS (pc := 6) _ _ k_X7_72 (m_in _ _ _) ⟨rfl, rfl, by decide⟩ rfl rfl (Nat.le_of_ble_eq_true rfl) ⟨Nat.le_of_ble_eq_true rfl, Nat.le_of_ble_eq_true rfl⟩ dX7_hawk_6 (unS ?_)
  show V E X _ RX7 _ _ _ 0 0 _ false 146 9 _ [_] _
  refine v_if_eqB (pc := 9) (tgt := 24) dX7_hawk_9 rfl (fun c_9 => False.elim ((fun q => by rw [inB_i hx] at q; exact Bool.noConfusion q) c_9)) (fun c_9 => ?_)
  refine v_iload_n (pc := 12) 2 dX7_hawk_12 rfl rfl ?_
  refine v_i2l (pc := 13) dX7_hawk_13 ?_
  refine v_lconst (pc := 14) ((nI 0).toInt64) dX7_hawk_14 (by decide) ?_
  refine v_ldc2 (pc := 15) ((nI 50).toInt64) kl_X7_198 dX7_hawk_15 (by decide) ?_
  refine v_callS (pc := 18) _ _ k_X7_72 (m_in _ _ _) ⟨rfl, rfl, by decide⟩ rfl rfl (Nat.le_of_ble_eq_true rfl) ⟨Nat.le_of_ble_eq_true rfl, Nat.le_of_ble_eq_true rfl⟩ dX7_hawk_18 (unS ?_)
  show V E X _ RX7 _ _ _ 0 0 _ false 146 21 _ [_] _
  refine v_if_neB (pc := 21) (tgt := 27) dX7_hawk_21 rfl (fun c_21 => False.elim ((fun q => by rw [inB_o hn] at q; exact Bool.noConfusion q) c_21)) (fun c_21 => ?_)
  refine v_ldc (pc := 24) _ kc_X7_76 dX7_hawk_24 rfl ?_
  exact v_iret (pc := 26) dX7_hawk_26 (⟨rfl, rfl⟩)
set_option maxHeartbeats 4000000 in
set_option maxRecDepth 100000 in
theorem m_hawk3 {E : Ev} {c : CSt} {xP xR xW xS xZ xG xK xT xQ xF xB xL xC : Fn} {un sz wm fm bm at_ bg fg : Nat} {ft sg vl wr : Int32} {sd : Int64} {x n : Int32} (hx : outB x (nI 0) (nI 50) = false) (hn : outB n (nI 0) (nI 50) = false) (hdu : xP 1 = 0) : Ct E yX7_hawk cX7_hawk 3 (some .int) ({ frames := 2, cells := 0, slots := 0, locals := 50 } : Room) false 146 [.ref (Ez E + 132), .int x, .int n] (cellOf E (c, (mkA xP xR xW xS xZ xG xK xT xQ xF xB xL xC, (nI un, nI sz, ft, nI wm, nI fm, nI bm, nI at_, nI bg, sg, nI fg, vl, wr), sd))) 146 0 0 (Ff (some (.int (cNOT))) (cellOf E (c, (mkA xP xR xW xS xZ xG xK xT xQ xF xB xL xC, (nI un, nI sz, ft, nI wm, nI fm, nI bm, nI at_, nI bg, sg, nI fg, vl, wr), sd)))) := by
  refine Ct.ofV (by decide) (Nat.le_of_ble_eq_true rfl) (fun X hnm => ?_)
  show V E X _ RX7 _ _ _ _ _ _ false 146 0 [(0, .ref (Ez E + 132)), (1, .int x), (2, .int n)] [] _
  refine v_iload_n (pc := 0) 1 dX7_hawk_0 rfl rfl ?_
  refine v_i2l (pc := 1) dX7_hawk_1 ?_
  refine v_lconst (pc := 2) ((nI 0).toInt64) dX7_hawk_2 (by decide) ?_
  refine v_ldc2 (pc := 3) ((nI 50).toInt64) kl_X7_198 dX7_hawk_3 (by decide) ?_
  refine v_callS (pc := 6) _ _ k_X7_72 (m_in _ _ _) ⟨rfl, rfl, by decide⟩ rfl rfl (Nat.le_of_ble_eq_true rfl) ⟨Nat.le_of_ble_eq_true rfl, Nat.le_of_ble_eq_true rfl⟩ dX7_hawk_6 (unS ?_)
  show V E X _ RX7 _ _ _ 0 0 _ false 146 9 _ [_] _
  refine v_if_eqB (pc := 9) (tgt := 24) dX7_hawk_9 rfl (fun c_9 => False.elim ((fun q => by rw [inB_i hx] at q; exact Bool.noConfusion q) c_9)) (fun c_9 => ?_)
  refine v_iload_n (pc := 12) 2 dX7_hawk_12 rfl rfl ?_
  refine v_i2l (pc := 13) dX7_hawk_13 ?_
  refine v_lconst (pc := 14) ((nI 0).toInt64) dX7_hawk_14 (by decide) ?_
  refine v_ldc2 (pc := 15) ((nI 50).toInt64) kl_X7_198 dX7_hawk_15 (by decide) ?_
  refine v_callS (pc := 18) _ _ k_X7_72 (m_in _ _ _) ⟨rfl, rfl, by decide⟩ rfl rfl (Nat.le_of_ble_eq_true rfl) ⟨Nat.le_of_ble_eq_true rfl, Nat.le_of_ble_eq_true rfl⟩ dX7_hawk_18 (unS ?_)
  show V E X _ RX7 _ _ _ 0 0 _ false 146 21 _ [_] _
  refine v_if_neB (pc := 21) (tgt := 27) dX7_hawk_21 rfl (fun c_21 => ?_) (fun c_21 => False.elim ((fun q => by rw [inB_i hn] at q; exact Bool.noConfusion q) c_21))
  refine v_aload_n (pc := 27) 0 dX7_hawk_27 rfl rfl ?_
  refine g_X7_7 (pc := 28) (cMr_obj) (by decide) rfl dX7_hawk_28 ?_
  refine v_iconst (pc := 31) (nI 1) dX7_hawk_31 kI_1 ?_
  refine v_ialdN (pc := 32) (cM_parish) (by decide) (by omega) (by decide) dX7_hawk_32 ?_
  refine v_if_ne (pc := 33) (tgt := 39) dX7_hawk_33 rfl (fun c_33 => False.elim ((fun q => q hdu) c_33)) (fun c_33 => ?_)
  refine v_ldc (pc := 36) _ kc_X7_188 dX7_hawk_36 rfl ?_
  exact v_iret (pc := 38) dX7_hawk_38 (⟨rfl, rfl⟩)
def mh2 (P : Fn) (np : Nat) (z : Fn × Fn) : Fn × Fn := (m_hrD P z.1 z.2 np, m_lo P z.1 z.2 np)
def mhN (P : Fn) (np n : Nat) (z : Fn × Fn) : Fn × Fn := itn (fun _ y => mh2 P np y) n z
theorem mhN_trc {P : Fn} {np : Nat} (hnp : np ≤ 7) {z : Fn × Fn} (h : Trc z.1) : ∀ n, Trc (mhN P np n z).1
  | 0 => h
  | n + 1 => m_hrD_trc (mhN_trc hnp h n) hnp
set_option maxHeartbeats 4000000 in
set_option maxRecDepth 100000 in
theorem m_hour {E : Ev} {c : CSt} {xP xR xW xS xZ xG xK xT xQ xF xB xL xC : Fn} {un sz wm fm bm at_ bg fg : Nat} {ft sg vl wr : Int32} {sd : Int64} {np : Nat} (hp : xP 2 = nI np) (hnp : np ≤ 7) (hun : un ≤ 16) (htb : Trc xW) (hdu : ¬ xP 1 = 0) {n : Nat} (hn : n ≤ 60) (hr : rfM xP xW (nI n) = 0) : Ct E yX7_hour cX7_hour 4 (some .int) ({ frames := 4, cells := 0, slots := 0, locals := 89 } : Room) false 146 [.ref (Ez E + 132), .int (nI n)] (cellOf E (c, (mkA xP xR xW xS xZ xG xK xT xQ xF xB xL xC, (nI un, nI sz, ft, nI wm, nI fm, nI bm, nI at_, nI bg, sg, nI fg, vl, wr), sd))) 146 0 0 (Ff (some (.int ((mhN xP np n (xW, xL)).1 15))) (cellOf E (c, (mkA xP xR ((mhN xP np n (xW, xL)).1) xS (remZ xZ xW un) xG xK xT xQ xF xB ((mhN xP np n (xW, xL)).2) xC, (nI (remU un), nI sz, ft, nI wm, nI fm, nI bm, nI at_, nI bg, sg, nI fg, vl, wr), sd)))) := by
  refine Ct.ofV (by decide) (Nat.le_of_ble_eq_true rfl) (fun X hnm => ?_)
  show V E X _ RX7 _ _ _ _ _ _ false 146 0 [(0, .ref (Ez E + 132)), (1, .int (nI n))] [] _
  refine v_aload_n (pc := 0) 0 dX7_hour_0 rfl rfl ?_
  refine v_iload_n (pc := 1) 1 dX7_hour_1 rfl rfl ?_
  refine v_callV (pc := 2) _ _ k_X7_205 (cMr_obj) rfl (by decide) (m_refuses _) ⟨rfl, rfl, by decide⟩ rfl rfl (Nat.le_of_ble_eq_true rfl) ⟨Nat.le_of_ble_eq_true rfl, Nat.le_of_ble_eq_true rfl⟩ dX7_hour_2 (unS ?_)
  show V E X _ RX7 _ _ _ 0 0 _ false 146 5 _ [_] _
  refine v_istore_n (pc := 5) [1, 2, 0] [(0, _), (1, _), (2, _)] dX7_hour_5 rfl (by decide) rfl ?_
  refine v_iload_n (pc := 6) 2 dX7_hour_6 rfl rfl ?_
  refine v_if_eq (pc := 7) (tgt := 12) dX7_hour_7 rfl (fun c_7 => ?_) (fun c_7 => False.elim ((fun q => q hr) c_7))
  refine v_aload_n (pc := 12) 0 dX7_hour_12 rfl rfl ?_
  refine v_callV (pc := 13) _ _ k_X7_189 (cMr_obj) rfl (by decide) (m_remember hun) ⟨rfl, rfl, by decide⟩ rfl rfl (Nat.le_of_ble_eq_true rfl) ⟨Nat.le_of_ble_eq_true rfl, Nat.le_of_ble_eq_true rfl⟩ dX7_hour_13 (unS ?_)
  show V E X _ RX7 _ _ _ 0 0 _ false 146 16 _ [] _
  refine v_iconst (pc := 16) (nI 0) dX7_hour_16 kI_0 ?_
  refine v_istore_n (pc := 17) [1, 2, 3, 0] [(0, _), (1, _), (2, _), (3, _)] dX7_hour_17 rfl (by decide) rfl ?_
  refine v_sub [0, 1, 3] rfl ?_
  refine dn (P := fun i => V E X ({ frames := 4, cells := 0, slots := 0, locals := 89 } : Room) RX7 cX7_hour 4 (some .int) 0 0 (QX E X false 146 (Ff (some (.int ((mhN xP np n (xW, xL)).1 15))) (cellOf E (c, (mkA xP xR ((mhN xP np n (xW, xL)).1) xS (remZ xZ xW un) xG xK xT xQ xF xB ((mhN xP np n (xW, xL)).2) xC, (nI (remU un), nI sz, ft, nI wm, nI fm, nI bm, nI at_, nI bg, sg, nI fg, vl, wr), sd)))) 0 0) false 146 18 [(0, .ref (Ez E + 132)), (1, .int (nI n)), (3, .int (nI i))] [] (cellOf E (c, (mkA xP xR ((itn (fun _ y => mh2 xP np y) i (xW, xL)).1) xS (remZ xZ xW un) xG xK xT xQ xF xB ((itn (fun _ y => mh2 xP np y) i (xW, xL)).2) xC, (nI (remU un), nI sz, ft, nI wm, nI fm, nI bm, nI at_, nI bg, sg, nI fg, vl, wr), sd)))) (N := n) ?_ ?_
  · refine v_iload_n (pc := 18) 2 dX7_hour_18 rfl rfl ?_
    refine v_iload_n (pc := 19) 1 dX7_hour_19 rfl rfl ?_
    refine v_icmp_geN (pc := 20) (by omega) (by omega) (tgt := 38) dX7_hour_20 rfl (fun c_20 => ?_) (fun c_20 => False.elim ((fun c => by omega) c_20))
    refine v_aload_n (pc := 38) 0 dX7_hour_38 rfl rfl ?_
    refine g_X7_16 (pc := 39) (cMr_obj) (by decide) rfl dX7_hour_39 ?_
    refine v_bipush (pc := 42) (nI 15) dX7_hour_42 kB_15 ?_
    refine v_ialdN (pc := 44) (cM_now) (by decide) (by omega) (by decide) dX7_hour_44 ?_
    exact v_iret (pc := 45) dX7_hour_45 (⟨rfl, rfl⟩)
  · intro i hi ih
    have ih : V E X ({ frames := 4, cells := 0, slots := 0, locals := 89 } : Room) RX7 cX7_hour 4 (some .int) 0 0 (QX E X false 146 (Ff (some (.int ((mhN xP np n (xW, xL)).1 15))) (cellOf E (c, (mkA xP xR ((mhN xP np n (xW, xL)).1) xS (remZ xZ xW un) xG xK xT xQ xF xB ((mhN xP np n (xW, xL)).2) xC, (nI (remU un), nI sz, ft, nI wm, nI fm, nI bm, nI at_, nI bg, sg, nI fg, vl, wr), sd)))) 0 0) false 146 18 [(0, .ref (Ez E + 132)), (1, .int (nI n)), (3, .int (nI (i + 1)))] [] (cellOf E (c, (mkA xP xR ((mh2 xP np (itn (fun _ y => mh2 xP np y) i (xW, xL))).1) xS (remZ xZ xW un) xG xK xT xQ xF xB ((mh2 xP np (itn (fun _ y => mh2 xP np y) i (xW, xL))).2) xC, (nI (remU un), nI sz, ft, nI wm, nI fm, nI bm, nI at_, nI bg, sg, nI fg, vl, wr), sd))) := by rw [itn_s] at ih; exact ih
    generalize hg : itn (fun _ y => mh2 xP np y) i (xW, xL) = z_ at ih ⊢
    obtain ⟨f1, l1⟩ := z_
    show V E X _ RX7 _ _ _ _ _ _ false 146 _ [(0, .ref (Ez E + 132)), (1, .int (nI n)), (3, .int (nI i))] [] (cellOf E (c, (mkA xP xR f1 xS (remZ xZ xW un) xG xK xT xQ xF xB l1 xC, (nI (remU un), nI sz, ft, nI wm, nI fm, nI bm, nI at_, nI bg, sg, nI fg, vl, wr), sd)))
    have hT1 : Trc f1 := by have q := mhN_trc (P := xP) hnp (z := (xW, xL)) htb i; rw [show mhN xP np i (xW, xL) = (f1, l1) from hg] at q; exact q
    refine v_iload_n (pc := 18) 2 dX7_hour_18 rfl rfl ?_
    refine v_iload_n (pc := 19) 1 dX7_hour_19 rfl rfl ?_
    refine v_icmp_geN (pc := 20) (by omega) (by omega) (tgt := 38) dX7_hour_20 rfl (fun c_20 => False.elim ((fun c => by omega) c_20)) (fun c_20 => ?_)
    refine v_aload_n (pc := 23) 0 dX7_hour_23 rfl rfl ?_
    refine v_aload_n (pc := 24) 0 dX7_hour_24 rfl rfl ?_
    refine g_X7_16 (pc := 25) (cMr_obj) (by decide) rfl dX7_hour_25 ?_
    refine v_iconst (pc := 28) (nI 1) dX7_hour_28 kI_1 ?_
    refine v_callV (pc := 29) _ _ k_X7_208 (cMr_obj) rfl (by decide) (m_hourWT hp hnp hT1 hdu) ⟨rfl, rfl, by decide⟩ rfl rfl (Nat.le_of_ble_eq_true rfl) ⟨Nat.le_of_ble_eq_true rfl, Nat.le_of_ble_eq_true rfl⟩ dX7_hour_29 (unS ?_)
    show V E X _ RX7 _ _ _ 0 0 _ false 146 32 _ [] _
    refine v_iincN (pc := 32) 2 [1, 2, 0] [(0, _), (1, _), (3, _)] kI_1 dX7_hour_32 rfl (by decide) rfl ?_
    refine v_goto (pc := 35) (tgt := 18) dX7_hour_35 rfl ?_
    exact ih
set_option maxHeartbeats 4000000 in
set_option maxRecDepth 100000 in
theorem m_hour1 {E : Ev} {c : CSt} {xP xR xW xS xZ xG xK xT xQ xF xB xL xC : Fn} {un sz wm fm bm at_ bg fg : Nat} {ft sg vl wr : Int32} {sd : Int64} {n : Int32} (hr : ¬ rfM xP xW n = 0) : Ct E yX7_hour cX7_hour 4 (some .int) ({ frames := 4, cells := 0, slots := 0, locals := 89 } : Room) false 146 [.ref (Ez E + 132), .int n] (cellOf E (c, (mkA xP xR xW xS xZ xG xK xT xQ xF xB xL xC, (nI un, nI sz, ft, nI wm, nI fm, nI bm, nI at_, nI bg, sg, nI fg, vl, wr), sd))) 146 0 0 (Ff (some (.int (rfM xP xW n))) (cellOf E (c, (mkA xP xR xW xS xZ xG xK xT xQ xF xB xL xC, (nI un, nI sz, ft, nI wm, nI fm, nI bm, nI at_, nI bg, sg, nI fg, vl, wr), sd)))) := by
  refine Ct.ofV (by decide) (Nat.le_of_ble_eq_true rfl) (fun X hnm => ?_)
  show V E X _ RX7 _ _ _ _ _ _ false 146 0 [(0, .ref (Ez E + 132)), (1, .int n)] [] _
  refine v_aload_n (pc := 0) 0 dX7_hour_0 rfl rfl ?_
  refine v_iload_n (pc := 1) 1 dX7_hour_1 rfl rfl ?_
  refine v_callV (pc := 2) _ _ k_X7_205 (cMr_obj) rfl (by decide) (m_refuses _) ⟨rfl, rfl, by decide⟩ rfl rfl (Nat.le_of_ble_eq_true rfl) ⟨Nat.le_of_ble_eq_true rfl, Nat.le_of_ble_eq_true rfl⟩ dX7_hour_2 (unS ?_)
  show V E X _ RX7 _ _ _ 0 0 _ false 146 5 _ [_] _
  refine v_istore_n (pc := 5) [1, 2, 0] [(0, _), (1, _), (2, _)] dX7_hour_5 rfl (by decide) rfl ?_
  refine v_iload_n (pc := 6) 2 dX7_hour_6 rfl rfl ?_
  refine v_if_eq (pc := 7) (tgt := 12) dX7_hour_7 rfl (fun c_7 => False.elim ((fun q => hr q) c_7)) (fun c_7 => ?_)
  refine v_iload_n (pc := 10) 2 dX7_hour_10 rfl rfl ?_
  exact v_iret (pc := 11) dX7_hour_11 (⟨rfl, rfl⟩)
def mdS (P : Fn) (np : Nat) (z : Int64 × Fn × Fn) : Int64 × Fn := if np = 0 then (z.1, z.2.1) else drS P np (z.1, z.2.1)
def st_mdf (P : Fn) (np : Nat) (z : Int64 × Fn × Fn) : Int64 × Fn × Fn := ((mdS P np z).1, m_hrD P (mdS P np z).2 z.2.2 np, m_lo P (mdS P np z).2 z.2.2 np)
def mdN (P : Fn) (np n : Nat) (z : Int64 × Fn × Fn) : Int64 × Fn × Fn := itn (fun _ y => st_mdf P np y) n z
theorem mdS_ok {P : Fn} {np : Nat} (hnp : np ≤ 7) {z : Int64 × Fn × Fn} (hs : sdOk z.1) (h : Trc z.2.1) : sdOk (mdS P np z).1 ∧ Trc (mdS P np z).2 := by
  unfold mdS
  by_cases e : np = 0
  · rw [if_pos e]; exact ⟨hs, h⟩
  · rw [if_neg e]; exact drS_ok (by omega) hnp hs h
theorem mdN_ok {P : Fn} {np : Nat} (hnp : np ≤ 7) {z : Int64 × Fn × Fn} (hs : sdOk z.1) (h : Trc z.2.1) : ∀ n, sdOk (mdN P np n z).1 ∧ Trc (mdN P np n z).2.1
  | 0 => ⟨hs, h⟩
  | n + 1 => by
    have ih := mdN_ok (P := P) hnp hs h n
    have q := mdS_ok (P := P) hnp ih.1 ih.2
    exact ⟨q.1, m_hrD_trc q.2 hnp⟩
set_option maxHeartbeats 4000000 in
set_option maxRecDepth 100000 in
theorem m_drift {E : Ev} {c : CSt} {xP xR xW xS xZ xG xK xT xQ xF xB xL xC : Fn} {un sz wm fm bm at_ bg fg : Nat} {ft sg vl wr : Int32} {sd : Int64} {np : Nat} (hp : xP 2 = nI np) (hnp : np ≤ 7) (hun : un ≤ 16) (htb : Trc xW) (hsd : sdOk sd) (hdu : ¬ xP 1 = 0) {n : Nat} (hn : n ≤ 60) (hr : rfM xP xW (nI n) = 0) : Ct E yX7_drift cX7_drift 4 (some .int) ({ frames := 4, cells := 0, slots := 0, locals := 89 } : Room) false 146 [.ref (Ez E + 132), .int (nI n)] (cellOf E (c, (mkA xP xR xW xS xZ xG xK xT xQ xF xB xL xC, (nI un, nI sz, ft, nI wm, nI fm, nI bm, nI at_, nI bg, sg, nI fg, vl, wr), sd))) 146 0 0 (Ff (some (.int ((mdN xP np n (sd, xW, xL)).2.1 15))) (cellOf E (c, (mkA xP xR ((mdN xP np n (sd, xW, xL)).2.1) xS (remZ xZ xW un) xG xK xT xQ xF xB ((mdN xP np n (sd, xW, xL)).2.2) xC, (nI (remU un), nI sz, ft, nI wm, nI fm, nI bm, nI at_, nI bg, sg, nI fg, vl, wr), (mdN xP np n (sd, xW, xL)).1)))) := by
  refine Ct.ofV (by decide) (Nat.le_of_ble_eq_true rfl) (fun X hnm => ?_)
  show V E X _ RX7 _ _ _ _ _ _ false 146 0 [(0, .ref (Ez E + 132)), (1, .int (nI n))] [] _
  refine v_aload_n (pc := 0) 0 dX7_drift_0 rfl rfl ?_
  refine v_iload_n (pc := 1) 1 dX7_drift_1 rfl rfl ?_
  refine v_callV (pc := 2) _ _ k_X7_205 (cMr_obj) rfl (by decide) (m_refuses _) ⟨rfl, rfl, by decide⟩ rfl rfl (Nat.le_of_ble_eq_true rfl) ⟨Nat.le_of_ble_eq_true rfl, Nat.le_of_ble_eq_true rfl⟩ dX7_drift_2 (unS ?_)
  show V E X _ RX7 _ _ _ 0 0 _ false 146 5 _ [_] _
  refine v_istore_n (pc := 5) [1, 2, 0] [(0, _), (1, _), (2, _)] dX7_drift_5 rfl (by decide) rfl ?_
  refine v_iload_n (pc := 6) 2 dX7_drift_6 rfl rfl ?_
  refine v_if_eq (pc := 7) (tgt := 12) dX7_drift_7 rfl (fun c_7 => ?_) (fun c_7 => False.elim ((fun q => q hr) c_7))
  refine v_aload_n (pc := 12) 0 dX7_drift_12 rfl rfl ?_
  refine v_callV (pc := 13) _ _ k_X7_189 (cMr_obj) rfl (by decide) (m_remember hun) ⟨rfl, rfl, by decide⟩ rfl rfl (Nat.le_of_ble_eq_true rfl) ⟨Nat.le_of_ble_eq_true rfl, Nat.le_of_ble_eq_true rfl⟩ dX7_drift_13 (unS ?_)
  show V E X _ RX7 _ _ _ 0 0 _ false 146 16 _ [] _
  refine v_iconst (pc := 16) (nI 0) dX7_drift_16 kI_0 ?_
  refine v_istore_n (pc := 17) [1, 2, 3, 0] [(0, _), (1, _), (2, _), (3, _)] dX7_drift_17 rfl (by decide) rfl ?_
  refine v_sub [0, 1, 3] rfl ?_
  refine dn (P := fun i => V E X ({ frames := 4, cells := 0, slots := 0, locals := 89 } : Room) RX7 cX7_drift 4 (some .int) 0 0 (QX E X false 146 (Ff (some (.int ((mdN xP np n (sd, xW, xL)).2.1 15))) (cellOf E (c, (mkA xP xR ((mdN xP np n (sd, xW, xL)).2.1) xS (remZ xZ xW un) xG xK xT xQ xF xB ((mdN xP np n (sd, xW, xL)).2.2) xC, (nI (remU un), nI sz, ft, nI wm, nI fm, nI bm, nI at_, nI bg, sg, nI fg, vl, wr), (mdN xP np n (sd, xW, xL)).1)))) 0 0) false 146 18 [(0, .ref (Ez E + 132)), (1, .int (nI n)), (3, .int (nI i))] [] (cellOf E (c, (mkA xP xR ((itn (fun _ y => st_mdf xP np y) i (sd, xW, xL)).2.1) xS (remZ xZ xW un) xG xK xT xQ xF xB ((itn (fun _ y => st_mdf xP np y) i (sd, xW, xL)).2.2) xC, (nI (remU un), nI sz, ft, nI wm, nI fm, nI bm, nI at_, nI bg, sg, nI fg, vl, wr), (itn (fun _ y => st_mdf xP np y) i (sd, xW, xL)).1)))) (N := n) ?_ ?_
  · refine v_iload_n (pc := 18) 2 dX7_drift_18 rfl rfl ?_
    refine v_iload_n (pc := 19) 1 dX7_drift_19 rfl rfl ?_
    refine v_icmp_geN (pc := 20) (by omega) (by omega) (tgt := 51) dX7_drift_20 rfl (fun c_20 => ?_) (fun c_20 => False.elim ((fun c => by omega) c_20))
    refine v_aload_n (pc := 51) 0 dX7_drift_51 rfl rfl ?_
    refine g_X7_16 (pc := 52) (cMr_obj) (by decide) rfl dX7_drift_52 ?_
    refine v_bipush (pc := 55) (nI 15) dX7_drift_55 kB_15 ?_
    refine v_ialdN (pc := 57) (cM_now) (by decide) (by omega) (by decide) dX7_drift_57 ?_
    exact v_iret (pc := 58) dX7_drift_58 (⟨rfl, rfl⟩)
  · intro i hi ih
    have ih : V E X ({ frames := 4, cells := 0, slots := 0, locals := 89 } : Room) RX7 cX7_drift 4 (some .int) 0 0 (QX E X false 146 (Ff (some (.int ((mdN xP np n (sd, xW, xL)).2.1 15))) (cellOf E (c, (mkA xP xR ((mdN xP np n (sd, xW, xL)).2.1) xS (remZ xZ xW un) xG xK xT xQ xF xB ((mdN xP np n (sd, xW, xL)).2.2) xC, (nI (remU un), nI sz, ft, nI wm, nI fm, nI bm, nI at_, nI bg, sg, nI fg, vl, wr), (mdN xP np n (sd, xW, xL)).1)))) 0 0) false 146 18 [(0, .ref (Ez E + 132)), (1, .int (nI n)), (3, .int (nI (i + 1)))] [] (cellOf E (c, (mkA xP xR ((st_mdf xP np (itn (fun _ y => st_mdf xP np y) i (sd, xW, xL))).2.1) xS (remZ xZ xW un) xG xK xT xQ xF xB ((st_mdf xP np (itn (fun _ y => st_mdf xP np y) i (sd, xW, xL))).2.2) xC, (nI (remU un), nI sz, ft, nI wm, nI fm, nI bm, nI at_, nI bg, sg, nI fg, vl, wr), (st_mdf xP np (itn (fun _ y => st_mdf xP np y) i (sd, xW, xL))).1))) := by rw [itn_s] at ih; exact ih
    generalize hg : itn (fun _ y => st_mdf xP np y) i (sd, xW, xL) = z_ at ih ⊢
    obtain ⟨s1, f1, l1⟩ := z_
    show V E X _ RX7 _ _ _ _ _ _ false 146 _ [(0, .ref (Ez E + 132)), (1, .int (nI n)), (3, .int (nI i))] [] (cellOf E (c, (mkA xP xR f1 xS (remZ xZ xW un) xG xK xT xQ xF xB l1 xC, (nI (remU un), nI sz, ft, nI wm, nI fm, nI bm, nI at_, nI bg, sg, nI fg, vl, wr), s1)))
    have hT1 := mdN_ok (P := xP) hnp (z := (sd, xW, xL)) hsd htb i
    rw [show mdN xP np i (sd, xW, xL) = (s1, f1, l1) from hg] at hT1
    have hS1 : sdOk s1 := hT1.1
    have hF1 : Trc f1 := hT1.2
    refine v_iload_n (pc := 18) 2 dX7_drift_18 rfl rfl ?_
    refine v_iload_n (pc := 19) 1 dX7_drift_19 rfl rfl ?_
    refine v_icmp_geN (pc := 20) (by omega) (by omega) (tgt := 51) dX7_drift_20 rfl (fun c_20 => False.elim ((fun c => by omega) c_20)) (fun c_20 => ?_)
    refine v_aload_n (pc := 23) 0 dX7_drift_23 rfl rfl ?_
    refine g_X7_7 (pc := 24) (cMr_obj) (by decide) rfl dX7_drift_24 ?_
    refine v_iconst (pc := 27) (nI 2) dX7_drift_27 kI_2 ?_
    refine v_ialdN (pc := 28) (cM_parish) (by decide) (by omega) (by decide) dX7_drift_28 ?_
    rw [hp]
    refine v_if_leN (pc := 29) (by omega) (tgt := 36) dX7_drift_29 rfl (fun c_29 => ?_) (fun c_29 => ?_)
    · refine v_aload_n (pc := 36) 0 dX7_drift_36 rfl rfl ?_
      refine v_aload_n (pc := 37) 0 dX7_drift_37 rfl rfl ?_
      refine g_X7_16 (pc := 38) (cMr_obj) (by decide) rfl dX7_drift_38 ?_
      refine v_iconst (pc := 41) (nI 1) dX7_drift_41 kI_1 ?_
      refine v_callV (pc := 42) _ _ k_X7_208 (cMr_obj) rfl (by decide) (m_hourWT hp hnp hF1 hdu) ⟨rfl, rfl, by decide⟩ rfl rfl (Nat.le_of_ble_eq_true rfl) ⟨Nat.le_of_ble_eq_true rfl, Nat.le_of_ble_eq_true rfl⟩ dX7_drift_42 (unS ?_)
      show V E X _ RX7 _ _ _ 0 0 _ false 146 45 _ [] _
      refine v_iincN (pc := 45) 2 [1, 2, 0] [(0, _), (1, _), (3, _)] kI_1 dX7_drift_45 rfl (by decide) rfl ?_
      refine v_goto (pc := 48) (tgt := 18) dX7_drift_48 rfl ?_
      rw [show st_mdf xP np (s1, f1, l1) = (s1, m_hrD xP f1 l1 np, m_lo xP f1 l1 np) from by unfold st_mdf; rw [show mdS xP np (s1, f1, l1) = (s1, f1) from if_pos c_29]] at ih
      exact ih
    · refine v_aload_n (pc := 32) 0 dX7_drift_32 rfl rfl ?_
      refine v_callV (pc := 33) _ _ k_X7_227 (cMr_obj) rfl (by decide) (m_draws hp hnp (by omega) hF1 hS1) ⟨rfl, rfl, by decide⟩ rfl rfl (Nat.le_of_ble_eq_true rfl) ⟨Nat.le_of_ble_eq_true rfl, Nat.le_of_ble_eq_true rfl⟩ dX7_drift_33 (unS ?_)
      show V E X _ RX7 _ _ _ 0 0 _ false 146 36 _ [] _
      have hF2 := (drS_ok (P := xP) (np := np) (z := (s1, f1)) (by omega) hnp hS1 hF1).2
      generalize hz2 : drS xP np (s1, f1) = z2 at hF2 ⊢
      obtain ⟨s2, f2⟩ := z2
      show V E X _ RX7 _ _ _ _ _ _ false 146 36 _ [] (cellOf E (c, (mkA xP xR f2 xS (remZ xZ xW un) xG xK xT xQ xF xB l1 xC, (nI (remU un), nI sz, ft, nI wm, nI fm, nI bm, nI at_, nI bg, sg, nI fg, vl, wr), s2)))
      refine v_aload_n (pc := 36) 0 dX7_drift_36 rfl rfl ?_
      refine v_aload_n (pc := 37) 0 dX7_drift_37 rfl rfl ?_
      refine g_X7_16 (pc := 38) (cMr_obj) (by decide) rfl dX7_drift_38 ?_
      refine v_iconst (pc := 41) (nI 1) dX7_drift_41 kI_1 ?_
      refine v_callV (pc := 42) _ _ k_X7_208 (cMr_obj) rfl (by decide) (m_hourWT hp hnp hF2 hdu) ⟨rfl, rfl, by decide⟩ rfl rfl (Nat.le_of_ble_eq_true rfl) ⟨Nat.le_of_ble_eq_true rfl, Nat.le_of_ble_eq_true rfl⟩ dX7_drift_42 (unS ?_)
      show V E X _ RX7 _ _ _ 0 0 _ false 146 45 _ [] _
      refine v_iincN (pc := 45) 2 [1, 2, 0] [(0, _), (1, _), (3, _)] kI_1 dX7_drift_45 rfl (by decide) rfl ?_
      refine v_goto (pc := 48) (tgt := 18) dX7_drift_48 rfl ?_
      rw [show st_mdf xP np (s1, f1, l1) = (s2, m_hrD xP f2 l1 np, m_lo xP f2 l1 np) from by unfold st_mdf; rw [show mdS xP np (s1, f1, l1) = (s2, f2) from (if_neg (by omega)).trans hz2]] at ih
      exact ih
set_option maxHeartbeats 4000000 in
set_option maxRecDepth 100000 in
theorem m_drift1 {E : Ev} {c : CSt} {xP xR xW xS xZ xG xK xT xQ xF xB xL xC : Fn} {un sz wm fm bm at_ bg fg : Nat} {ft sg vl wr : Int32} {sd : Int64} {n : Int32} (hr : ¬ rfM xP xW n = 0) : Ct E yX7_drift cX7_drift 4 (some .int) ({ frames := 4, cells := 0, slots := 0, locals := 89 } : Room) false 146 [.ref (Ez E + 132), .int n] (cellOf E (c, (mkA xP xR xW xS xZ xG xK xT xQ xF xB xL xC, (nI un, nI sz, ft, nI wm, nI fm, nI bm, nI at_, nI bg, sg, nI fg, vl, wr), sd))) 146 0 0 (Ff (some (.int (rfM xP xW n))) (cellOf E (c, (mkA xP xR xW xS xZ xG xK xT xQ xF xB xL xC, (nI un, nI sz, ft, nI wm, nI fm, nI bm, nI at_, nI bg, sg, nI fg, vl, wr), sd)))) := by
  refine Ct.ofV (by decide) (Nat.le_of_ble_eq_true rfl) (fun X hnm => ?_)
  show V E X _ RX7 _ _ _ _ _ _ false 146 0 [(0, .ref (Ez E + 132)), (1, .int n)] [] _
  refine v_aload_n (pc := 0) 0 dX7_drift_0 rfl rfl ?_
  refine v_iload_n (pc := 1) 1 dX7_drift_1 rfl rfl ?_
  refine v_callV (pc := 2) _ _ k_X7_205 (cMr_obj) rfl (by decide) (m_refuses _) ⟨rfl, rfl, by decide⟩ rfl rfl (Nat.le_of_ble_eq_true rfl) ⟨Nat.le_of_ble_eq_true rfl, Nat.le_of_ble_eq_true rfl⟩ dX7_drift_2 (unS ?_)
  show V E X _ RX7 _ _ _ 0 0 _ false 146 5 _ [_] _
  refine v_istore_n (pc := 5) [1, 2, 0] [(0, _), (1, _), (2, _)] dX7_drift_5 rfl (by decide) rfl ?_
  refine v_iload_n (pc := 6) 2 dX7_drift_6 rfl rfl ?_
  refine v_if_eq (pc := 7) (tgt := 12) dX7_drift_7 rfl (fun c_7 => False.elim ((fun q => hr q) c_7)) (fun c_7 => ?_)
  refine v_iload_n (pc := 10) 2 dX7_drift_10 rfl rfl ?_
  exact v_iret (pc := 11) dX7_drift_11 (⟨rfl, rfl⟩)
set_option maxHeartbeats 4000000 in
set_option maxRecDepth 100000 in
theorem m_undo {E : Ev} {c : CSt} {xP xR xW xS xZ xG xK xT xQ xF xB xL xC : Fn} {un sz wm fm bm at_ bg fg : Nat} {ft sg vl wr : Int32} {sd : Int64} (hun : un ≤ 16) (h0 : 0 < un) : Ct E yX7_undo cX7_undo 1 (some .int) ({ frames := 1, cells := 0, slots := 0, locals := 25 } : Room) false 146 [.ref (Ez E + 132)] (cellOf E (c, (mkA xP xR xW xS xZ xG xK xT xQ xF xB xL xC, (nI un, nI sz, ft, nI wm, nI fm, nI bm, nI at_, nI bg, sg, nI fg, vl, wr), sd))) 146 0 0 (Ff (some (.int (nI (un - 1)))) (cellOf E (c, (mkA xP xR (cpA xZ (48 * (un - 1)) xW 0 48) xS xZ xG xK xT xQ xF xB xL xC, (nI (un - 1), nI sz, ft, nI wm, nI fm, nI bm, nI at_, nI bg, sg, nI fg, vl, wr), sd)))) := by
  refine Ct.ofV (by decide) (Nat.le_of_ble_eq_true rfl) (fun X hnm => ?_)
  show V E X _ RX7 _ _ _ _ _ _ false 146 0 [(0, .ref (Ez E + 132))] [] _
  refine v_aload_n (pc := 0) 0 dX7_undo_0 rfl rfl ?_
  refine g_X7_58 (pc := 1) (cMr_obj) (by decide) rfl dX7_undo_1 ?_
  refine v_if_neN (pc := 4) (by omega) (tgt := 10) dX7_undo_4 rfl (fun c_4 => ?_) (fun c_4 => False.elim ((fun q => by omega) c_4))
  refine v_aload_n (pc := 10) 0 dX7_undo_10 rfl rfl ?_
  refine v_dup (pc := 11) dX7_undo_11 rfl ?_
  refine g_X7_58 (pc := 12) (cMr_obj) (by decide) rfl dX7_undo_12 ?_
  refine v_iconst (pc := 15) (nI 1) dX7_undo_15 kI_1 ?_
  refine v_isubN (pc := 16) (by omega) dX7_undo_16 ?_
  refine p_X7_58 (pc := 17) (cMr_obj) (by decide) rfl rfl (Nat.le_of_ble_eq_true rfl) dX7_undo_17 (wM_un) ?_
  refine v_aload_n (pc := 20) 0 dX7_undo_20 rfl rfl ?_
  refine g_X7_22 (pc := 21) (cMr_obj) (by decide) rfl dX7_undo_21 ?_
  refine v_bipush (pc := 24) (nI 48) dX7_undo_24 kB_48 ?_
  refine v_aload_n (pc := 26) 0 dX7_undo_26 rfl rfl ?_
  refine g_X7_58 (pc := 27) (cMr_obj) (by decide) rfl dX7_undo_27 ?_
  refine v_imulN (pc := 30) dX7_undo_30 ?_
  refine v_aload_n (pc := 31) 0 dX7_undo_31 rfl rfl ?_
  refine g_X7_16 (pc := 32) (cMr_obj) (by decide) rfl dX7_undo_32 ?_
  refine v_iconst (pc := 35) (nI 0) dX7_undo_35 kI_0 ?_
  refine v_bipush (pc := 36) (nI 48) dX7_undo_36 kB_48 ?_
  refine v_callS (pc := 38) _ _ k_X7_54 (m_cp_past_now (by omega) (by omega)) ⟨rfl, rfl, by decide⟩ rfl rfl (Nat.le_of_ble_eq_true rfl) ⟨Nat.le_of_ble_eq_true rfl, Nat.le_of_ble_eq_true rfl⟩ dX7_undo_38 (unS ?_)
  show V E X _ RX7 _ _ _ 0 0 _ false 146 41 _ [] _
  refine v_aload_n (pc := 41) 0 dX7_undo_41 rfl rfl ?_
  refine g_X7_58 (pc := 42) (cMr_obj) (by decide) rfl dX7_undo_42 ?_
  exact v_iret (pc := 45) dX7_undo_45 (⟨rfl, rfl⟩)
set_option maxHeartbeats 4000000 in
set_option maxRecDepth 100000 in
theorem m_undo1 {E : Ev} {c : CSt} {xP xR xW xS xZ xG xK xT xQ xF xB xL xC : Fn} {un sz wm fm bm at_ bg fg : Nat} {ft sg vl wr : Int32} {sd : Int64} (h0 : un = 0) : Ct E yX7_undo cX7_undo 1 (some .int) ({ frames := 1, cells := 0, slots := 0, locals := 25 } : Room) false 146 [.ref (Ez E + 132)] (cellOf E (c, (mkA xP xR xW xS xZ xG xK xT xQ xF xB xL xC, (nI un, nI sz, ft, nI wm, nI fm, nI bm, nI at_, nI bg, sg, nI fg, vl, wr), sd))) 146 0 0 (Ff (some (.int (cNOT))) (cellOf E (c, (mkA xP xR xW xS xZ xG xK xT xQ xF xB xL xC, (nI un, nI sz, ft, nI wm, nI fm, nI bm, nI at_, nI bg, sg, nI fg, vl, wr), sd)))) := by
  refine Ct.ofV (by decide) (Nat.le_of_ble_eq_true rfl) (fun X hnm => ?_)
  show V E X _ RX7 _ _ _ _ _ _ false 146 0 [(0, .ref (Ez E + 132))] [] _
  refine v_aload_n (pc := 0) 0 dX7_undo_0 rfl rfl ?_
  refine g_X7_58 (pc := 1) (cMr_obj) (by decide) rfl dX7_undo_1 ?_
  refine v_if_neN (pc := 4) (by omega) (tgt := 10) dX7_undo_4 rfl (fun c_4 => False.elim ((fun q => by omega) c_4)) (fun c_4 => ?_)
  refine v_ldc (pc := 7) _ kc_X7_188 dX7_undo_7 rfl ?_
  exact v_iret (pc := 9) dX7_undo_9 (⟨rfl, rfl⟩)
theorem cpA_at {a b : Fn} {i j : Nat} : ∀ {n k : Nat}, k < n → cpA a i b j n (j + k) = a (i + k) := by
  intro n
  induction n with
  | zero => intro k h; omega
  | succ n ih =>
    intro k h
    show upd _ (j + n) _ (j + k) = _
    by_cases e : k = n
    · rw [e, upd_self]
    · rw [upd_ne (by omega)]; exact ih (by omega)
theorem cpA_out {a b : Fn} {i j n k : Nat} (h : k < j ∨ j + n ≤ k) : cpA a i b j n k = b k := by
  induction n with
  | zero => rfl
  | succ n ih =>
    show upd _ (j + n) _ k = _
    rw [upd_ne (by omega)]; exact ih (by omega)
theorem lay_trc {W S : Fn} (h : Trc W) : Trc (cpA W 0 S 0 48) := by
  obtain ⟨t, ht, e⟩ := h
  have q := cpA_at (a := W) (b := S) (i := 0) (j := 0) (n := 48) (k := 27) (by decide)
  exact ⟨t, ht, by rw [Nat.zero_add] at q; rw [q, e]⟩
set_option maxHeartbeats 4000000 in
set_option maxRecDepth 100000 in
theorem m_hat {E : Ev} {c : CSt} {xP xR xW xS xZ xG xK xT xQ xF xB xL xC : Fn} {un sz wm fm bm at_ bg fg : Nat} {ft sg vl wr : Int32} {sd : Int64} {np : Nat} (hp : xP 2 = nI np) (hnp : np ≤ 7) (htw : Trc xW) (hdu : ¬ xP 1 = 0) {a n : Nat} (ha : a < np) (hn : n ≤ 100) : Ct E yX7_hat cX7_hat 4 (some .int) ({ frames := 4, cells := 0, slots := 0, locals := 89 } : Room) false 146 [.ref (Ez E + 132), .int (nI a), .int (nI n)] (cellOf E (c, (mkA xP xR xW xS xZ xG xK xT xQ xF xB xL xC, (nI un, nI sz, ft, nI wm, nI fm, nI bm, nI at_, nI bg, sg, nI fg, vl, wr), sd))) 146 0 0 (Ff (some (.int ((mhN xP np n (cpA xW 0 xS 0 48, xL)).1 (0 + a)))) (cellOf E (c, (mkA xP xR xW ((mhN xP np n (cpA xW 0 xS 0 48, xL)).1) xZ xG xK xT xQ xF xB ((mhN xP np n (cpA xW 0 xS 0 48, xL)).2) xC, (nI un, nI sz, ft, nI wm, nI fm, nI bm, nI at_, nI bg, sg, nI fg, vl, wr), sd)))) := by
  have htb := lay_trc (S := xS) htw
  refine Ct.ofV (by decide) (Nat.le_of_ble_eq_true rfl) (fun X hnm => ?_)
  show V E X _ RX7 _ _ _ _ _ _ false 146 0 [(0, .ref (Ez E + 132)), (1, .int (nI a)), (2, .int (nI n))] [] _
  refine v_aload_n (pc := 0) 0 dX7_hat_0 rfl rfl ?_
  refine v_iload_n (pc := 1) 1 dX7_hat_1 rfl rfl ?_
  refine v_callV (pc := 2) _ _ k_X7_180 (cMr_obj) rfl (by decide) (m_isPn hp hnp _) ⟨rfl, rfl, by decide⟩ rfl rfl (Nat.le_of_ble_eq_true rfl) ⟨Nat.le_of_ble_eq_true rfl, Nat.le_of_ble_eq_true rfl⟩ dX7_hat_2 (unS ?_)
  show V E X _ RX7 _ _ _ 0 0 _ false 146 5 _ [_] _
  refine v_if_neB (pc := 5) (tgt := 11) dX7_hat_5 rfl (fun c_5 => ?_) (fun c_5 => False.elim ((fun q => by rw [perB_t ha (by omega)] at q; exact Bool.noConfusion q) c_5))
  refine v_iload_n (pc := 11) 2 dX7_hat_11 rfl rfl ?_
  refine v_i2l (pc := 12) dX7_hat_12 ?_
  refine v_lconst (pc := 13) ((nI 0).toInt64) dX7_hat_13 (by decide) ?_
  refine v_ldc2 (pc := 14) ((nI 100).toInt64) kl_X7_230 dX7_hat_14 (by decide) ?_
  refine v_callS (pc := 17) _ _ k_X7_72 (m_in _ _ _) ⟨rfl, rfl, by decide⟩ rfl rfl (Nat.le_of_ble_eq_true rfl) ⟨Nat.le_of_ble_eq_true rfl, Nat.le_of_ble_eq_true rfl⟩ dX7_hat_17 (unS ?_)
  show V E X _ RX7 _ _ _ 0 0 _ false 146 20 _ [_] _
  refine v_if_neB (pc := 20) (tgt := 26) dX7_hat_20 rfl (fun c_20 => ?_) (fun c_20 => False.elim ((fun q => by rw [inB_n (by omega) (by omega) (by omega)] at q; exact Bool.noConfusion q) c_20))
  refine v_aload_n (pc := 26) 0 dX7_hat_26 rfl rfl ?_
  refine v_callV (pc := 27) _ _ k_X7_232 (cMr_obj) rfl (by decide) (m_lay) ⟨rfl, rfl, by decide⟩ rfl rfl (Nat.le_of_ble_eq_true rfl) ⟨Nat.le_of_ble_eq_true rfl, Nat.le_of_ble_eq_true rfl⟩ dX7_hat_27 (unS ?_)
  show V E X _ RX7 _ _ _ 0 0 _ false 146 30 _ [] _
  refine v_iconst (pc := 30) (nI 0) dX7_hat_30 kI_0 ?_
  refine v_istore_n (pc := 31) [1, 2, 3, 0] [(0, _), (1, _), (2, _), (3, _)] dX7_hat_31 rfl (by decide) rfl ?_
  refine dn (P := fun i => V E X ({ frames := 4, cells := 0, slots := 0, locals := 89 } : Room) RX7 cX7_hat 4 (some .int) 0 0 (QX E X false 146 (Ff (some (.int ((mhN xP np n (cpA xW 0 xS 0 48, xL)).1 (0 + a)))) (cellOf E (c, (mkA xP xR xW ((mhN xP np n (cpA xW 0 xS 0 48, xL)).1) xZ xG xK xT xQ xF xB ((mhN xP np n (cpA xW 0 xS 0 48, xL)).2) xC, (nI un, nI sz, ft, nI wm, nI fm, nI bm, nI at_, nI bg, sg, nI fg, vl, wr), sd)))) 0 0) false 146 32 [(0, .ref (Ez E + 132)), (1, .int (nI a)), (2, .int (nI n)), (3, .int (nI i))] [] (cellOf E (c, (mkA xP xR xW ((itn (fun _ y => mh2 xP np y) i (cpA xW 0 xS 0 48, xL)).1) xZ xG xK xT xQ xF xB ((itn (fun _ y => mh2 xP np y) i (cpA xW 0 xS 0 48, xL)).2) xC, (nI un, nI sz, ft, nI wm, nI fm, nI bm, nI at_, nI bg, sg, nI fg, vl, wr), sd)))) (N := n) ?_ ?_
  · refine v_iload_n (pc := 32) 3 dX7_hat_32 rfl rfl ?_
    refine v_iload_n (pc := 33) 2 dX7_hat_33 rfl rfl ?_
    refine v_icmp_geN (pc := 34) (by omega) (by omega) (tgt := 52) dX7_hat_34 rfl (fun c_34 => ?_) (fun c_34 => False.elim ((fun c => by omega) c_34))
    refine v_aload_n (pc := 52) 0 dX7_hat_52 rfl rfl ?_
    refine g_X7_19 (pc := 53) (cMr_obj) (by decide) rfl dX7_hat_53 ?_
    refine v_iconst (pc := 56) (nI 0) dX7_hat_56 kI_0 ?_
    refine v_iload_n (pc := 57) 1 dX7_hat_57 rfl rfl ?_
    refine v_iaddN (pc := 58) dX7_hat_58 ?_
    refine v_ialdN (pc := 59) (cM_aside) (by decide) (by omega) (by decide) dX7_hat_59 ?_
    exact v_iret (pc := 60) dX7_hat_60 (⟨rfl, rfl⟩)
  · intro i hi ih
    have ih : V E X ({ frames := 4, cells := 0, slots := 0, locals := 89 } : Room) RX7 cX7_hat 4 (some .int) 0 0 (QX E X false 146 (Ff (some (.int ((mhN xP np n (cpA xW 0 xS 0 48, xL)).1 (0 + a)))) (cellOf E (c, (mkA xP xR xW ((mhN xP np n (cpA xW 0 xS 0 48, xL)).1) xZ xG xK xT xQ xF xB ((mhN xP np n (cpA xW 0 xS 0 48, xL)).2) xC, (nI un, nI sz, ft, nI wm, nI fm, nI bm, nI at_, nI bg, sg, nI fg, vl, wr), sd)))) 0 0) false 146 32 [(0, .ref (Ez E + 132)), (1, .int (nI a)), (2, .int (nI n)), (3, .int (nI (i + 1)))] [] (cellOf E (c, (mkA xP xR xW ((mh2 xP np (itn (fun _ y => mh2 xP np y) i (cpA xW 0 xS 0 48, xL))).1) xZ xG xK xT xQ xF xB ((mh2 xP np (itn (fun _ y => mh2 xP np y) i (cpA xW 0 xS 0 48, xL))).2) xC, (nI un, nI sz, ft, nI wm, nI fm, nI bm, nI at_, nI bg, sg, nI fg, vl, wr), sd))) := by rw [itn_s] at ih; exact ih
    generalize hg : itn (fun _ y => mh2 xP np y) i (cpA xW 0 xS 0 48, xL) = z_ at ih ⊢
    obtain ⟨f1, l1⟩ := z_
    show V E X _ RX7 _ _ _ _ _ _ false 146 _ [(0, .ref (Ez E + 132)), (1, .int (nI a)), (2, .int (nI n)), (3, .int (nI i))] [] (cellOf E (c, (mkA xP xR xW f1 xZ xG xK xT xQ xF xB l1 xC, (nI un, nI sz, ft, nI wm, nI fm, nI bm, nI at_, nI bg, sg, nI fg, vl, wr), sd)))
    have hT1 : Trc f1 := by have q := mhN_trc (P := xP) hnp (z := (cpA xW 0 xS 0 48, xL)) htb i; rw [show mhN xP np i (cpA xW 0 xS 0 48, xL) = (f1, l1) from hg] at q; exact q
    refine v_iload_n (pc := 32) 3 dX7_hat_32 rfl rfl ?_
    refine v_iload_n (pc := 33) 2 dX7_hat_33 rfl rfl ?_
    refine v_icmp_geN (pc := 34) (by omega) (by omega) (tgt := 52) dX7_hat_34 rfl (fun c_34 => False.elim ((fun c => by omega) c_34)) (fun c_34 => ?_)
    refine v_aload_n (pc := 37) 0 dX7_hat_37 rfl rfl ?_
    refine v_aload_n (pc := 38) 0 dX7_hat_38 rfl rfl ?_
    refine g_X7_19 (pc := 39) (cMr_obj) (by decide) rfl dX7_hat_39 ?_
    refine v_iconst (pc := 42) (nI 1) dX7_hat_42 kI_1 ?_
    refine v_callV (pc := 43) _ _ k_X7_208 (cMr_obj) rfl (by decide) (m_hourST hp hnp hT1 hdu) ⟨rfl, rfl, by decide⟩ rfl rfl (Nat.le_of_ble_eq_true rfl) ⟨Nat.le_of_ble_eq_true rfl, Nat.le_of_ble_eq_true rfl⟩ dX7_hat_43 (unS ?_)
    show V E X _ RX7 _ _ _ 0 0 _ false 146 46 _ [] _
    refine v_iincN (pc := 46) 3 [1, 2, 3, 0] [(0, _), (1, _), (2, _), (3, _)] kI_1 dX7_hat_46 rfl (by decide) rfl ?_
    refine v_goto (pc := 49) (tgt := 32) dX7_hat_49 rfl ?_
    exact ih
set_option maxHeartbeats 4000000 in
set_option maxRecDepth 100000 in
theorem m_hat1 {E : Ev} {c : CSt} {xP xR xW xS xZ xG xK xT xQ xF xB xL xC : Fn} {un sz wm fm bm at_ bg fg : Nat} {ft sg vl wr : Int32} {sd : Int64} {np : Nat} (hp : xP 2 = nI np) (hnp : np ≤ 7) {a n : Int32} (ha : perB a np = false) : Ct E yX7_hat cX7_hat 4 (some .int) ({ frames := 4, cells := 0, slots := 0, locals := 89 } : Room) false 146 [.ref (Ez E + 132), .int a, .int n] (cellOf E (c, (mkA xP xR xW xS xZ xG xK xT xQ xF xB xL xC, (nI un, nI sz, ft, nI wm, nI fm, nI bm, nI at_, nI bg, sg, nI fg, vl, wr), sd))) 146 0 0 (Ff (some (.int (cUNK))) (cellOf E (c, (mkA xP xR xW xS xZ xG xK xT xQ xF xB xL xC, (nI un, nI sz, ft, nI wm, nI fm, nI bm, nI at_, nI bg, sg, nI fg, vl, wr), sd)))) := by
  refine Ct.ofV (by decide) (Nat.le_of_ble_eq_true rfl) (fun X hnm => ?_)
  show V E X _ RX7 _ _ _ _ _ _ false 146 0 [(0, .ref (Ez E + 132)), (1, .int a), (2, .int n)] [] _
  refine v_aload_n (pc := 0) 0 dX7_hat_0 rfl rfl ?_
  refine v_iload_n (pc := 1) 1 dX7_hat_1 rfl rfl ?_
  refine v_callV (pc := 2) _ _ k_X7_180 (cMr_obj) rfl (by decide) (m_isPn hp hnp _) ⟨rfl, rfl, by decide⟩ rfl rfl (Nat.le_of_ble_eq_true rfl) ⟨Nat.le_of_ble_eq_true rfl, Nat.le_of_ble_eq_true rfl⟩ dX7_hat_2 (unS ?_)
  show V E X _ RX7 _ _ _ 0 0 _ false 146 5 _ [_] _
  refine v_if_neB (pc := 5) (tgt := 11) dX7_hat_5 rfl (fun c_5 => False.elim ((fun q => by rw [ha] at q; exact Bool.noConfusion q) c_5)) (fun c_5 => ?_)
  refine v_ldc (pc := 8) _ kc_X7_183 dX7_hat_8 rfl ?_
  exact v_iret (pc := 10) dX7_hat_10 (⟨rfl, rfl⟩)
set_option maxHeartbeats 4000000 in
set_option maxRecDepth 100000 in
theorem m_hat2 {E : Ev} {c : CSt} {xP xR xW xS xZ xG xK xT xQ xF xB xL xC : Fn} {un sz wm fm bm at_ bg fg : Nat} {ft sg vl wr : Int32} {sd : Int64} {np : Nat} (hp : xP 2 = nI np) (hnp : np ≤ 7) {a n : Int32} (ha : perB a np = true) (hn : outB n (nI 0) (nI 100) = true) : Ct E yX7_hat cX7_hat 4 (some .int) ({ frames := 4, cells := 0, slots := 0, locals := 89 } : Room) false 146 [.ref (Ez E + 132), .int a, .int n] (cellOf E (c, (mkA xP xR xW xS xZ xG xK xT xQ xF xB xL xC, (nI un, nI sz, ft, nI wm, nI fm, nI bm, nI at_, nI bg, sg, nI fg, vl, wr), sd))) 146 0 0 (Ff (some (.int (cOUT))) (cellOf E (c, (mkA xP xR xW xS xZ xG xK xT xQ xF xB xL xC, (nI un, nI sz, ft, nI wm, nI fm, nI bm, nI at_, nI bg, sg, nI fg, vl, wr), sd)))) := by
  refine Ct.ofV (by decide) (Nat.le_of_ble_eq_true rfl) (fun X hnm => ?_)
  show V E X _ RX7 _ _ _ _ _ _ false 146 0 [(0, .ref (Ez E + 132)), (1, .int a), (2, .int n)] [] _
  refine v_aload_n (pc := 0) 0 dX7_hat_0 rfl rfl ?_
  refine v_iload_n (pc := 1) 1 dX7_hat_1 rfl rfl ?_
  refine v_callV (pc := 2) _ _ k_X7_180 (cMr_obj) rfl (by decide) (m_isPn hp hnp _) ⟨rfl, rfl, by decide⟩ rfl rfl (Nat.le_of_ble_eq_true rfl) ⟨Nat.le_of_ble_eq_true rfl, Nat.le_of_ble_eq_true rfl⟩ dX7_hat_2 (unS ?_)
  show V E X _ RX7 _ _ _ 0 0 _ false 146 5 _ [_] _
  refine v_if_neB (pc := 5) (tgt := 11) dX7_hat_5 rfl (fun c_5 => ?_) (fun c_5 => False.elim ((fun q => by rw [ha] at q; exact Bool.noConfusion q) c_5))
  refine v_iload_n (pc := 11) 2 dX7_hat_11 rfl rfl ?_
  refine v_i2l (pc := 12) dX7_hat_12 ?_
  refine v_lconst (pc := 13) ((nI 0).toInt64) dX7_hat_13 (by decide) ?_
  refine v_ldc2 (pc := 14) ((nI 100).toInt64) kl_X7_230 dX7_hat_14 (by decide) ?_
  refine v_callS (pc := 17) _ _ k_X7_72 (m_in _ _ _) ⟨rfl, rfl, by decide⟩ rfl rfl (Nat.le_of_ble_eq_true rfl) ⟨Nat.le_of_ble_eq_true rfl, Nat.le_of_ble_eq_true rfl⟩ dX7_hat_17 (unS ?_)
  show V E X _ RX7 _ _ _ 0 0 _ false 146 20 _ [_] _
  refine v_if_neB (pc := 20) (tgt := 26) dX7_hat_20 rfl (fun c_20 => False.elim ((fun q => by rw [inB_o hn] at q; exact Bool.noConfusion q) c_20)) (fun c_20 => ?_)
  refine v_ldc (pc := 23) _ kc_X7_76 dX7_hat_23 rfl ?_
  exact v_iret (pc := 25) dX7_hat_25 (⟨rfl, rfl⟩)
def st_mmo (P : Fn) (np a k : Nat) (z : Int32 × Int32 × Fn × Fn) : Int32 × Int32 × Fn × Fn := (grI z.1 (z.2.2.1 (0 + a)), (if z.2.2.1 (0 + a) ≤ z.1 then z.2.1 else nI k), mh2 P np z.2.2)
def mmoN (P : Fn) (np a n : Nat) (z : Fn × Fn) : Int32 × Int32 × Fn × Fn := itn (st_mmo P np a) n (-1, nI 0, z)
theorem mmoN_z {P : Fn} {np a : Nat} {z : Fn × Fn} : ∀ n, (mmoN P np a n z).2.2 = mhN P np n z
  | 0 => rfl
  | n + 1 => by show mh2 P np (mmoN P np a n z).2.2 = _; rw [mmoN_z n]; rfl
set_option maxHeartbeats 4000000 in
set_option maxRecDepth 100000 in
theorem m_most {E : Ev} {c : CSt} {xP xR xW xS xZ xG xK xT xQ xF xB xL xC : Fn} {un sz wm fm bm at_ bg fg : Nat} {ft sg vl wr : Int32} {sd : Int64} {np : Nat} (hp : xP 2 = nI np) (hnp : np ≤ 7) (htw : Trc xW) (hdu : ¬ xP 1 = 0) {a n w : Nat} (ha : a < np) (hn : n ≤ 100) (hw : w ≤ 1) : Ct E yX7_most cX7_most 7 (some .int) ({ frames := 4, cells := 0, slots := 0, locals := 89 } : Room) false 146 [.ref (Ez E + 132), .int (nI a), .int (nI n), .int (nI w)] (cellOf E (c, (mkA xP xR xW xS xZ xG xK xT xQ xF xB xL xC, (nI un, nI sz, ft, nI wm, nI fm, nI bm, nI at_, nI bg, sg, nI fg, vl, wr), sd))) 146 0 0 (Ff (some (.int ((if w = 0 then (mmoN xP np a (n + 1) (cpA xW 0 xS 0 48, xL)).2.1 else (mmoN xP np a (n + 1) (cpA xW 0 xS 0 48, xL)).1)))) (cellOf E (c, (mkA xP xR xW ((mmoN xP np a (n + 1) (cpA xW 0 xS 0 48, xL)).2.2.1) xZ xG xK xT xQ xF xB ((mmoN xP np a (n + 1) (cpA xW 0 xS 0 48, xL)).2.2.2) xC, (nI un, nI sz, ft, nI wm, nI fm, nI bm, nI at_, nI bg, sg, nI fg, vl, wr), sd)))) := by
  have htb := lay_trc (S := xS) htw
  refine Ct.ofV (by decide) (Nat.le_of_ble_eq_true rfl) (fun X hnm => ?_)
  show V E X _ RX7 _ _ _ _ _ _ false 146 0 [(0, .ref (Ez E + 132)), (1, .int (nI a)), (2, .int (nI n)), (3, .int (nI w))] [] _
  refine v_aload_n (pc := 0) 0 dX7_most_0 rfl rfl ?_
  refine v_iload_n (pc := 1) 1 dX7_most_1 rfl rfl ?_
  refine v_callV (pc := 2) _ _ k_X7_180 (cMr_obj) rfl (by decide) (m_isPn hp hnp _) ⟨rfl, rfl, by decide⟩ rfl rfl (Nat.le_of_ble_eq_true rfl) ⟨Nat.le_of_ble_eq_true rfl, Nat.le_of_ble_eq_true rfl⟩ dX7_most_2 (unS ?_)
  show V E X _ RX7 _ _ _ 0 0 _ false 146 5 _ [_] _
  refine v_if_neB (pc := 5) (tgt := 11) dX7_most_5 rfl (fun c_5 => ?_) (fun c_5 => False.elim ((fun q => by rw [perB_t ha (by omega)] at q; exact Bool.noConfusion q) c_5))
  refine v_iload_n (pc := 11) 2 dX7_most_11 rfl rfl ?_
  refine v_i2l (pc := 12) dX7_most_12 ?_
  refine v_lconst (pc := 13) ((nI 0).toInt64) dX7_most_13 (by decide) ?_
  refine v_ldc2 (pc := 14) ((nI 100).toInt64) kl_X7_230 dX7_most_14 (by decide) ?_
  refine v_callS (pc := 17) _ _ k_X7_72 (m_in _ _ _) ⟨rfl, rfl, by decide⟩ rfl rfl (Nat.le_of_ble_eq_true rfl) ⟨Nat.le_of_ble_eq_true rfl, Nat.le_of_ble_eq_true rfl⟩ dX7_most_17 (unS ?_)
  show V E X _ RX7 _ _ _ 0 0 _ false 146 20 _ [_] _
  refine v_if_eqB (pc := 20) (tgt := 33) dX7_most_20 rfl (fun c_20 => False.elim ((fun q => by rw [inB_n (by omega) (by omega) (by omega)] at q; exact Bool.noConfusion q) c_20)) (fun c_20 => ?_)
  refine v_iload_n (pc := 23) 3 dX7_most_23 rfl rfl ?_
  refine v_i2l (pc := 24) dX7_most_24 ?_
  refine v_lconst (pc := 25) ((nI 0).toInt64) dX7_most_25 (by decide) ?_
  refine v_lconst (pc := 26) ((nI 1).toInt64) dX7_most_26 (by decide) ?_
  refine v_callS (pc := 27) _ _ k_X7_72 (m_in _ _ _) ⟨rfl, rfl, by decide⟩ rfl rfl (Nat.le_of_ble_eq_true rfl) ⟨Nat.le_of_ble_eq_true rfl, Nat.le_of_ble_eq_true rfl⟩ dX7_most_27 (unS ?_)
  show V E X _ RX7 _ _ _ 0 0 _ false 146 30 _ [_] _
  refine v_if_neB (pc := 30) (tgt := 36) dX7_most_30 rfl (fun c_30 => ?_) (fun c_30 => False.elim ((fun q => by rw [inB_n (by omega) (by omega) (by omega)] at q; exact Bool.noConfusion q) c_30))
  refine v_aload_n (pc := 36) 0 dX7_most_36 rfl rfl ?_
  refine v_callV (pc := 37) _ _ k_X7_232 (cMr_obj) rfl (by decide) (m_lay) ⟨rfl, rfl, by decide⟩ rfl rfl (Nat.le_of_ble_eq_true rfl) ⟨Nat.le_of_ble_eq_true rfl, Nat.le_of_ble_eq_true rfl⟩ dX7_most_37 (unS ?_)
  show V E X _ RX7 _ _ _ 0 0 _ false 146 40 _ [] _
  refine v_iconst (pc := 40) (-1) dX7_most_40 kI_m1 ?_
  refine v_istore (pc := 41) [1, 2, 3, 4, 0] [(0, _), (1, _), (2, _), (3, _), (4, _)] dX7_most_41 (by decide) rfl ?_
  refine v_iconst (pc := 43) (nI 0) dX7_most_43 kI_0 ?_
  refine v_istore (pc := 44) [1, 2, 3, 4, 5, 0] [(0, _), (1, _), (2, _), (3, _), (4, _), (5, _)] dX7_most_44 (by decide) rfl ?_
  refine v_iconst (pc := 46) (nI 0) dX7_most_46 kI_0 ?_
  refine v_istore (pc := 47) [1, 2, 3, 4, 5, 6, 0] [(0, _), (1, _), (2, _), (3, _), (4, _), (5, _), (6, _)] dX7_most_47 (by decide) rfl ?_
  refine dn (P := fun i => V E X ({ frames := 4, cells := 0, slots := 0, locals := 89 } : Room) RX7 cX7_most 7 (some .int) 0 0 (QX E X false 146 (Ff (some (.int ((if w = 0 then (mmoN xP np a (n + 1) (cpA xW 0 xS 0 48, xL)).2.1 else (mmoN xP np a (n + 1) (cpA xW 0 xS 0 48, xL)).1)))) (cellOf E (c, (mkA xP xR xW ((mmoN xP np a (n + 1) (cpA xW 0 xS 0 48, xL)).2.2.1) xZ xG xK xT xQ xF xB ((mmoN xP np a (n + 1) (cpA xW 0 xS 0 48, xL)).2.2.2) xC, (nI un, nI sz, ft, nI wm, nI fm, nI bm, nI at_, nI bg, sg, nI fg, vl, wr), sd)))) 0 0) false 146 49 [(0, .ref (Ez E + 132)), (1, .int (nI a)), (2, .int (nI n)), (3, .int (nI w)), (4, .int (itn (st_mmo xP np a) i (-1, nI 0, cpA xW 0 xS 0 48, xL)).1), (5, .int (itn (st_mmo xP np a) i (-1, nI 0, cpA xW 0 xS 0 48, xL)).2.1), (6, .int (nI i))] [] (cellOf E (c, (mkA xP xR xW ((itn (st_mmo xP np a) i (-1, nI 0, cpA xW 0 xS 0 48, xL)).2.2.1) xZ xG xK xT xQ xF xB ((itn (st_mmo xP np a) i (-1, nI 0, cpA xW 0 xS 0 48, xL)).2.2.2) xC, (nI un, nI sz, ft, nI wm, nI fm, nI bm, nI at_, nI bg, sg, nI fg, vl, wr), sd)))) (N := (n + 1)) ?_ ?_
  · generalize hg9 : itn (st_mmo xP np a) (n + 1) (-1, nI 0, cpA xW 0 xS 0 48, xL) = z_ 
    obtain ⟨b9, w9, f9, l9⟩ := z_
    show V E X _ RX7 _ _ _ _ _ _ false 146 _ [(0, .ref (Ez E + 132)), (1, .int (nI a)), (2, .int (nI n)), (3, .int (nI w)), (4, .int b9), (5, .int w9), (6, .int (nI (n + 1)))] [] (cellOf E (c, (mkA xP xR xW f9 xZ xG xK xT xQ xF xB l9 xC, (nI un, nI sz, ft, nI wm, nI fm, nI bm, nI at_, nI bg, sg, nI fg, vl, wr), sd)))
    refine v_iload (pc := 49) 6 dX7_most_49 rfl ?_
    refine v_iload_n (pc := 51) 2 dX7_most_51 rfl rfl ?_
    refine v_icmp_gtN (pc := 52) (by omega) (by omega) (tgt := 107) dX7_most_52 rfl (fun c_52 => ?_) (fun c_52 => False.elim ((fun c => by omega) c_52))
    refine v_iload_n (pc := 107) 3 dX7_most_107 rfl rfl ?_
    refine v_if_neN (pc := 108) (by omega) (tgt := 116) dX7_most_108 rfl (fun c_108 => ?_) (fun c_108 => ?_)
    · refine v_iload (pc := 116) 4 dX7_most_116 rfl ?_
      exact v_iret (pc := 118) dX7_most_118 (⟨by rw [show (mmoN xP np a (n + 1) (cpA xW 0 xS 0 48, xL)) = (b9, w9, f9, l9) from hg9, if_neg (by omega)], by rw [show (mmoN xP np a (n + 1) (cpA xW 0 xS 0 48, xL)) = (b9, w9, f9, l9) from hg9]⟩)
    · refine v_iload (pc := 111) 5 dX7_most_111 rfl ?_
      refine v_goto (pc := 113) (tgt := 118) dX7_most_113 rfl ?_
      exact v_iret (pc := 118) dX7_most_118 (⟨by rw [show (mmoN xP np a (n + 1) (cpA xW 0 xS 0 48, xL)) = (b9, w9, f9, l9) from hg9, if_pos (by omega)], by rw [show (mmoN xP np a (n + 1) (cpA xW 0 xS 0 48, xL)) = (b9, w9, f9, l9) from hg9]⟩)
  · intro i hi ih
    have ih : V E X ({ frames := 4, cells := 0, slots := 0, locals := 89 } : Room) RX7 cX7_most 7 (some .int) 0 0 (QX E X false 146 (Ff (some (.int ((if w = 0 then (mmoN xP np a (n + 1) (cpA xW 0 xS 0 48, xL)).2.1 else (mmoN xP np a (n + 1) (cpA xW 0 xS 0 48, xL)).1)))) (cellOf E (c, (mkA xP xR xW ((mmoN xP np a (n + 1) (cpA xW 0 xS 0 48, xL)).2.2.1) xZ xG xK xT xQ xF xB ((mmoN xP np a (n + 1) (cpA xW 0 xS 0 48, xL)).2.2.2) xC, (nI un, nI sz, ft, nI wm, nI fm, nI bm, nI at_, nI bg, sg, nI fg, vl, wr), sd)))) 0 0) false 146 49 [(0, .ref (Ez E + 132)), (1, .int (nI a)), (2, .int (nI n)), (3, .int (nI w)), (4, .int (st_mmo xP np a i (itn (st_mmo xP np a) i (-1, nI 0, cpA xW 0 xS 0 48, xL))).1), (5, .int (st_mmo xP np a i (itn (st_mmo xP np a) i (-1, nI 0, cpA xW 0 xS 0 48, xL))).2.1), (6, .int (nI (i + 1)))] [] (cellOf E (c, (mkA xP xR xW ((st_mmo xP np a i (itn (st_mmo xP np a) i (-1, nI 0, cpA xW 0 xS 0 48, xL))).2.2.1) xZ xG xK xT xQ xF xB ((st_mmo xP np a i (itn (st_mmo xP np a) i (-1, nI 0, cpA xW 0 xS 0 48, xL))).2.2.2) xC, (nI un, nI sz, ft, nI wm, nI fm, nI bm, nI at_, nI bg, sg, nI fg, vl, wr), sd))) := by rw [itn_s] at ih; exact ih
    generalize hg : itn (st_mmo xP np a) i (-1, nI 0, cpA xW 0 xS 0 48, xL) = z_ at ih ⊢
    obtain ⟨b1, w1, f1, l1⟩ := z_
    show V E X _ RX7 _ _ _ _ _ _ false 146 _ [(0, .ref (Ez E + 132)), (1, .int (nI a)), (2, .int (nI n)), (3, .int (nI w)), (4, .int b1), (5, .int w1), (6, .int (nI i))] [] (cellOf E (c, (mkA xP xR xW f1 xZ xG xK xT xQ xF xB l1 xC, (nI un, nI sz, ft, nI wm, nI fm, nI bm, nI at_, nI bg, sg, nI fg, vl, wr), sd)))
    have hT1 : Trc f1 := by have q := mhN_trc (P := xP) hnp (z := (cpA xW 0 xS 0 48, xL)) htb i; rw [← mmoN_z (a := a), show mmoN xP np a i (cpA xW 0 xS 0 48, xL) = (b1, w1, f1, l1) from hg] at q; exact q
    refine v_iload (pc := 49) 6 dX7_most_49 rfl ?_
    refine v_iload_n (pc := 51) 2 dX7_most_51 rfl rfl ?_
    refine v_icmp_gtN (pc := 52) (by omega) (by omega) (tgt := 107) dX7_most_52 rfl (fun c_52 => False.elim ((fun c => by omega) c_52)) (fun c_52 => ?_)
    refine v_aload_n (pc := 55) 0 dX7_most_55 rfl rfl ?_
    refine g_X7_19 (pc := 56) (cMr_obj) (by decide) rfl dX7_most_56 ?_
    refine v_iconst (pc := 59) (nI 0) dX7_most_59 kI_0 ?_
    refine v_iload_n (pc := 60) 1 dX7_most_60 rfl rfl ?_
    refine v_iaddN (pc := 61) dX7_most_61 ?_
    refine v_ialdN (pc := 62) (cM_aside) (by decide) (by omega) (by decide) dX7_most_62 ?_
    refine v_iload (pc := 63) 4 dX7_most_63 rfl ?_
    refine v_icmp_le (pc := 65) (tgt := 73) dX7_most_65 rfl (fun c_65 => ?_) (fun c_65 => ?_)
    · refine v_iload (pc := 73) 5 dX7_most_73 rfl ?_
      refine v_istore (pc := 75) [1, 2, 3, 4, 5, 0, 6] [(0, _), (1, _), (2, _), (3, _), (4, _), (5, _), (6, _)] dX7_most_75 (by decide) rfl ?_
      refine v_iload (pc := 77) 4 dX7_most_77 rfl ?_
      refine v_aload_n (pc := 79) 0 dX7_most_79 rfl rfl ?_
      refine g_X7_19 (pc := 80) (cMr_obj) (by decide) rfl dX7_most_80 ?_
      refine v_iconst (pc := 83) (nI 0) dX7_most_83 kI_0 ?_
      refine v_iload_n (pc := 84) 1 dX7_most_84 rfl rfl ?_
      refine v_iaddN (pc := 85) dX7_most_85 ?_
      refine v_ialdN (pc := 86) (cM_aside) (by decide) (by omega) (by decide) dX7_most_86 ?_
      refine v_callS (pc := 87) _ _ k_X7_235 (m_greater _ _) ⟨rfl, rfl, by decide⟩ rfl rfl (Nat.le_of_ble_eq_true rfl) ⟨Nat.le_of_ble_eq_true rfl, Nat.le_of_ble_eq_true rfl⟩ dX7_most_87 (unS ?_)
      show V E X _ RX7 _ _ _ 0 0 _ false 146 90 _ [_] _
      refine v_istore (pc := 90) [1, 2, 3, 4, 0, 5, 6] [(0, _), (1, _), (2, _), (3, _), (4, _), (5, _), (6, _)] dX7_most_90 (by decide) rfl ?_
      refine v_aload_n (pc := 92) 0 dX7_most_92 rfl rfl ?_
      refine v_aload_n (pc := 93) 0 dX7_most_93 rfl rfl ?_
      refine g_X7_19 (pc := 94) (cMr_obj) (by decide) rfl dX7_most_94 ?_
      refine v_iconst (pc := 97) (nI 1) dX7_most_97 kI_1 ?_
      refine v_callV (pc := 98) _ _ k_X7_208 (cMr_obj) rfl (by decide) (m_hourST hp hnp hT1 hdu) ⟨rfl, rfl, by decide⟩ rfl rfl (Nat.le_of_ble_eq_true rfl) ⟨Nat.le_of_ble_eq_true rfl, Nat.le_of_ble_eq_true rfl⟩ dX7_most_98 (unS ?_)
      show V E X _ RX7 _ _ _ 0 0 _ false 146 101 _ [] _
      refine v_iincN (pc := 101) 6 [1, 2, 3, 4, 5, 6, 0] [(0, _), (1, _), (2, _), (3, _), (4, _), (5, _), (6, _)] kI_1 dX7_most_101 rfl (by decide) rfl ?_
      refine v_goto (pc := 104) (tgt := 49) dX7_most_104 rfl ?_
      rw [show st_mmo xP np a i (b1, w1, f1, l1) = _ from by unfold st_mmo; rw [if_pos (show _ from c_65)]] at ih
      exact ih
    · refine v_iload (pc := 68) 6 dX7_most_68 rfl ?_
      refine v_goto (pc := 70) (tgt := 75) dX7_most_70 rfl ?_
      refine v_istore (pc := 75) [1, 2, 3, 4, 5, 0, 6] [(0, _), (1, _), (2, _), (3, _), (4, _), (5, _), (6, _)] dX7_most_75 (by decide) rfl ?_
      refine v_iload (pc := 77) 4 dX7_most_77 rfl ?_
      refine v_aload_n (pc := 79) 0 dX7_most_79 rfl rfl ?_
      refine g_X7_19 (pc := 80) (cMr_obj) (by decide) rfl dX7_most_80 ?_
      refine v_iconst (pc := 83) (nI 0) dX7_most_83 kI_0 ?_
      refine v_iload_n (pc := 84) 1 dX7_most_84 rfl rfl ?_
      refine v_iaddN (pc := 85) dX7_most_85 ?_
      refine v_ialdN (pc := 86) (cM_aside) (by decide) (by omega) (by decide) dX7_most_86 ?_
      refine v_callS (pc := 87) _ _ k_X7_235 (m_greater _ _) ⟨rfl, rfl, by decide⟩ rfl rfl (Nat.le_of_ble_eq_true rfl) ⟨Nat.le_of_ble_eq_true rfl, Nat.le_of_ble_eq_true rfl⟩ dX7_most_87 (unS ?_)
      show V E X _ RX7 _ _ _ 0 0 _ false 146 90 _ [_] _
      refine v_istore (pc := 90) [1, 2, 3, 4, 0, 5, 6] [(0, _), (1, _), (2, _), (3, _), (4, _), (5, _), (6, _)] dX7_most_90 (by decide) rfl ?_
      refine v_aload_n (pc := 92) 0 dX7_most_92 rfl rfl ?_
      refine v_aload_n (pc := 93) 0 dX7_most_93 rfl rfl ?_
      refine g_X7_19 (pc := 94) (cMr_obj) (by decide) rfl dX7_most_94 ?_
      refine v_iconst (pc := 97) (nI 1) dX7_most_97 kI_1 ?_
      refine v_callV (pc := 98) _ _ k_X7_208 (cMr_obj) rfl (by decide) (m_hourST hp hnp hT1 hdu) ⟨rfl, rfl, by decide⟩ rfl rfl (Nat.le_of_ble_eq_true rfl) ⟨Nat.le_of_ble_eq_true rfl, Nat.le_of_ble_eq_true rfl⟩ dX7_most_98 (unS ?_)
      show V E X _ RX7 _ _ _ 0 0 _ false 146 101 _ [] _
      refine v_iincN (pc := 101) 6 [1, 2, 3, 4, 5, 6, 0] [(0, _), (1, _), (2, _), (3, _), (4, _), (5, _), (6, _)] kI_1 dX7_most_101 rfl (by decide) rfl ?_
      refine v_goto (pc := 104) (tgt := 49) dX7_most_104 rfl ?_
      rw [show st_mmo xP np a i (b1, w1, f1, l1) = _ from by unfold st_mmo; rw [if_neg (show _ from c_65)]] at ih
      exact ih
set_option maxHeartbeats 4000000 in
set_option maxRecDepth 100000 in
theorem m_most1 {E : Ev} {c : CSt} {xP xR xW xS xZ xG xK xT xQ xF xB xL xC : Fn} {un sz wm fm bm at_ bg fg : Nat} {ft sg vl wr : Int32} {sd : Int64} {np : Nat} (hp : xP 2 = nI np) (hnp : np ≤ 7) {a n w : Int32} (ha : perB a np = false) : Ct E yX7_most cX7_most 7 (some .int) ({ frames := 4, cells := 0, slots := 0, locals := 89 } : Room) false 146 [.ref (Ez E + 132), .int a, .int n, .int w] (cellOf E (c, (mkA xP xR xW xS xZ xG xK xT xQ xF xB xL xC, (nI un, nI sz, ft, nI wm, nI fm, nI bm, nI at_, nI bg, sg, nI fg, vl, wr), sd))) 146 0 0 (Ff (some (.int (cUNK))) (cellOf E (c, (mkA xP xR xW xS xZ xG xK xT xQ xF xB xL xC, (nI un, nI sz, ft, nI wm, nI fm, nI bm, nI at_, nI bg, sg, nI fg, vl, wr), sd)))) := by
  refine Ct.ofV (by decide) (Nat.le_of_ble_eq_true rfl) (fun X hnm => ?_)
  show V E X _ RX7 _ _ _ _ _ _ false 146 0 [(0, .ref (Ez E + 132)), (1, .int a), (2, .int n), (3, .int w)] [] _
  refine v_aload_n (pc := 0) 0 dX7_most_0 rfl rfl ?_
  refine v_iload_n (pc := 1) 1 dX7_most_1 rfl rfl ?_
  refine v_callV (pc := 2) _ _ k_X7_180 (cMr_obj) rfl (by decide) (m_isPn hp hnp _) ⟨rfl, rfl, by decide⟩ rfl rfl (Nat.le_of_ble_eq_true rfl) ⟨Nat.le_of_ble_eq_true rfl, Nat.le_of_ble_eq_true rfl⟩ dX7_most_2 (unS ?_)
  show V E X _ RX7 _ _ _ 0 0 _ false 146 5 _ [_] _
  refine v_if_neB (pc := 5) (tgt := 11) dX7_most_5 rfl (fun c_5 => False.elim ((fun q => by rw [ha] at q; exact Bool.noConfusion q) c_5)) (fun c_5 => ?_)
  refine v_ldc (pc := 8) _ kc_X7_183 dX7_most_8 rfl ?_
  exact v_iret (pc := 10) dX7_most_10 (⟨rfl, rfl⟩)
set_option maxHeartbeats 4000000 in
set_option maxRecDepth 100000 in
theorem m_most2 {E : Ev} {c : CSt} {xP xR xW xS xZ xG xK xT xQ xF xB xL xC : Fn} {un sz wm fm bm at_ bg fg : Nat} {ft sg vl wr : Int32} {sd : Int64} {np : Nat} (hp : xP 2 = nI np) (hnp : np ≤ 7) {a n w : Int32} (ha : perB a np = true) (hn : outB n (nI 0) (nI 100) = true) : Ct E yX7_most cX7_most 7 (some .int) ({ frames := 4, cells := 0, slots := 0, locals := 89 } : Room) false 146 [.ref (Ez E + 132), .int a, .int n, .int w] (cellOf E (c, (mkA xP xR xW xS xZ xG xK xT xQ xF xB xL xC, (nI un, nI sz, ft, nI wm, nI fm, nI bm, nI at_, nI bg, sg, nI fg, vl, wr), sd))) 146 0 0 (Ff (some (.int (cOUT))) (cellOf E (c, (mkA xP xR xW xS xZ xG xK xT xQ xF xB xL xC, (nI un, nI sz, ft, nI wm, nI fm, nI bm, nI at_, nI bg, sg, nI fg, vl, wr), sd)))) := by
  refine Ct.ofV (by decide) (Nat.le_of_ble_eq_true rfl) (fun X hnm => ?_)
  show V E X _ RX7 _ _ _ _ _ _ false 146 0 [(0, .ref (Ez E + 132)), (1, .int a), (2, .int n), (3, .int w)] [] _
  refine v_aload_n (pc := 0) 0 dX7_most_0 rfl rfl ?_
  refine v_iload_n (pc := 1) 1 dX7_most_1 rfl rfl ?_
  refine v_callV (pc := 2) _ _ k_X7_180 (cMr_obj) rfl (by decide) (m_isPn hp hnp _) ⟨rfl, rfl, by decide⟩ rfl rfl (Nat.le_of_ble_eq_true rfl) ⟨Nat.le_of_ble_eq_true rfl, Nat.le_of_ble_eq_true rfl⟩ dX7_most_2 (unS ?_)
  show V E X _ RX7 _ _ _ 0 0 _ false 146 5 _ [_] _
  refine v_if_neB (pc := 5) (tgt := 11) dX7_most_5 rfl (fun c_5 => ?_) (fun c_5 => False.elim ((fun q => by rw [ha] at q; exact Bool.noConfusion q) c_5))
  refine v_iload_n (pc := 11) 2 dX7_most_11 rfl rfl ?_
  refine v_i2l (pc := 12) dX7_most_12 ?_
  refine v_lconst (pc := 13) ((nI 0).toInt64) dX7_most_13 (by decide) ?_
  refine v_ldc2 (pc := 14) ((nI 100).toInt64) kl_X7_230 dX7_most_14 (by decide) ?_
  refine v_callS (pc := 17) _ _ k_X7_72 (m_in _ _ _) ⟨rfl, rfl, by decide⟩ rfl rfl (Nat.le_of_ble_eq_true rfl) ⟨Nat.le_of_ble_eq_true rfl, Nat.le_of_ble_eq_true rfl⟩ dX7_most_17 (unS ?_)
  show V E X _ RX7 _ _ _ 0 0 _ false 146 20 _ [_] _
  refine v_if_eqB (pc := 20) (tgt := 33) dX7_most_20 rfl (fun c_20 => ?_) (fun c_20 => False.elim ((fun q => by rw [inB_o hn] at q; exact Bool.noConfusion q) c_20))
  refine v_ldc (pc := 33) _ kc_X7_76 dX7_most_33 rfl ?_
  exact v_iret (pc := 35) dX7_most_35 (⟨rfl, rfl⟩)
set_option maxHeartbeats 4000000 in
set_option maxRecDepth 100000 in
theorem m_most3 {E : Ev} {c : CSt} {xP xR xW xS xZ xG xK xT xQ xF xB xL xC : Fn} {un sz wm fm bm at_ bg fg : Nat} {ft sg vl wr : Int32} {sd : Int64} {np : Nat} (hp : xP 2 = nI np) (hnp : np ≤ 7) {a n w : Int32} (ha : perB a np = true) (hn : outB n (nI 0) (nI 100) = false) (hw : outB w (nI 0) (nI 1) = true) : Ct E yX7_most cX7_most 7 (some .int) ({ frames := 4, cells := 0, slots := 0, locals := 89 } : Room) false 146 [.ref (Ez E + 132), .int a, .int n, .int w] (cellOf E (c, (mkA xP xR xW xS xZ xG xK xT xQ xF xB xL xC, (nI un, nI sz, ft, nI wm, nI fm, nI bm, nI at_, nI bg, sg, nI fg, vl, wr), sd))) 146 0 0 (Ff (some (.int (cOUT))) (cellOf E (c, (mkA xP xR xW xS xZ xG xK xT xQ xF xB xL xC, (nI un, nI sz, ft, nI wm, nI fm, nI bm, nI at_, nI bg, sg, nI fg, vl, wr), sd)))) := by
  refine Ct.ofV (by decide) (Nat.le_of_ble_eq_true rfl) (fun X hnm => ?_)
  show V E X _ RX7 _ _ _ _ _ _ false 146 0 [(0, .ref (Ez E + 132)), (1, .int a), (2, .int n), (3, .int w)] [] _
  refine v_aload_n (pc := 0) 0 dX7_most_0 rfl rfl ?_
  refine v_iload_n (pc := 1) 1 dX7_most_1 rfl rfl ?_
  refine v_callV (pc := 2) _ _ k_X7_180 (cMr_obj) rfl (by decide) (m_isPn hp hnp _) ⟨rfl, rfl, by decide⟩ rfl rfl (Nat.le_of_ble_eq_true rfl) ⟨Nat.le_of_ble_eq_true rfl, Nat.le_of_ble_eq_true rfl⟩ dX7_most_2 (unS ?_)
  show V E X _ RX7 _ _ _ 0 0 _ false 146 5 _ [_] _
  refine v_if_neB (pc := 5) (tgt := 11) dX7_most_5 rfl (fun c_5 => ?_) (fun c_5 => False.elim ((fun q => by rw [ha] at q; exact Bool.noConfusion q) c_5))
  refine v_iload_n (pc := 11) 2 dX7_most_11 rfl rfl ?_
  refine v_i2l (pc := 12) dX7_most_12 ?_
  refine v_lconst (pc := 13) ((nI 0).toInt64) dX7_most_13 (by decide) ?_
  refine v_ldc2 (pc := 14) ((nI 100).toInt64) kl_X7_230 dX7_most_14 (by decide) ?_
  refine v_callS (pc := 17) _ _ k_X7_72 (m_in _ _ _) ⟨rfl, rfl, by decide⟩ rfl rfl (Nat.le_of_ble_eq_true rfl) ⟨Nat.le_of_ble_eq_true rfl, Nat.le_of_ble_eq_true rfl⟩ dX7_most_17 (unS ?_)
  show V E X _ RX7 _ _ _ 0 0 _ false 146 20 _ [_] _
  refine v_if_eqB (pc := 20) (tgt := 33) dX7_most_20 rfl (fun c_20 => False.elim ((fun q => by rw [inB_i hn] at q; exact Bool.noConfusion q) c_20)) (fun c_20 => ?_)
  refine v_iload_n (pc := 23) 3 dX7_most_23 rfl rfl ?_
  refine v_i2l (pc := 24) dX7_most_24 ?_
  refine v_lconst (pc := 25) ((nI 0).toInt64) dX7_most_25 (by decide) ?_
  refine v_lconst (pc := 26) ((nI 1).toInt64) dX7_most_26 (by decide) ?_
  refine v_callS (pc := 27) _ _ k_X7_72 (m_in _ _ _) ⟨rfl, rfl, by decide⟩ rfl rfl (Nat.le_of_ble_eq_true rfl) ⟨Nat.le_of_ble_eq_true rfl, Nat.le_of_ble_eq_true rfl⟩ dX7_most_27 (unS ?_)
  show V E X _ RX7 _ _ _ 0 0 _ false 146 30 _ [_] _
  refine v_if_neB (pc := 30) (tgt := 36) dX7_most_30 rfl (fun c_30 => False.elim ((fun q => by rw [inB_o hw] at q; exact Bool.noConfusion q) c_30)) (fun c_30 => ?_)
  refine v_ldc (pc := 33) _ kc_X7_76 dX7_most_33 rfl ?_
  exact v_iret (pc := 35) dX7_most_35 (⟨rfl, rfl⟩)
