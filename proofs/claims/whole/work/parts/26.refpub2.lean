set_option maxHeartbeats 4000000 in
set_option maxRecDepth 100000 in
theorem m_calm {E : Ev} {c : CSt} {xP xR xW xS xZ xG xK xT xQ xF xB xL xC : Fn} {un sz wm fm bm at_ bg fg : Nat} {ft sg vl wr : Int32} {sd : Int64} {n q : Nat} (hn : n ≤ 60) (hq : q ≤ 100) : Ct E yX7_calm cX7_calm 6 (some .int) ({ frames := 1, cells := 0, slots := 0, locals := 25 } : Room) false 146 [.ref (Ez E + 132), .int (nI n), .int (nI q)] (cellOf E (c, (mkA xP xR xW xS xZ xG xK xT xQ xF xB xL xC, (nI un, nI sz, ft, nI wm, nI fm, nI bm, nI at_, nI bg, sg, nI fg, vl, wr), sd))) 146 0 0 (Ff (some (.int ((calmL (nI q) n).toInt32))) (cellOf E (c, (mkA xP xR xW xS xZ xG xK xT xQ xF xB xL xC, (nI un, nI sz, ft, nI wm, nI fm, nI bm, nI at_, nI bg, sg, nI fg, vl, wr), sd)))) := by
  refine Ct.ofV (by decide) (Nat.le_of_ble_eq_true rfl) (fun X hnm => ?_)
  show V E X _ RX7 _ _ _ _ _ _ false 146 0 [(0, .ref (Ez E + 132)), (1, .int (nI n)), (2, .int (nI q))] [] _
  refine v_iload_n (pc := 0) 1 dX7_calm_0 rfl rfl ?_
  refine v_i2l (pc := 1) dX7_calm_1 ?_
  refine v_lconst (pc := 2) ((nI 0).toInt64) dX7_calm_2 (by decide) ?_
  refine v_ldc2 (pc := 3) ((nI 60).toInt64) kl_X7_203 dX7_calm_3 (by decide) ?_
  refine v_callS (pc := 6) _ _ k_X7_72 (m_in _ _ _) ⟨rfl, rfl, by decide⟩ rfl rfl (Nat.le_of_ble_eq_true rfl) ⟨Nat.le_of_ble_eq_true rfl, Nat.le_of_ble_eq_true rfl⟩ dX7_calm_6 (unS ?_)
  show V E X _ RX7 _ _ _ 0 0 _ false 146 9 _ [_] _
  refine v_if_eqB (pc := 9) (tgt := 24) dX7_calm_9 rfl (fun c_9 => False.elim ((fun q => by rw [inB_n (by omega) (by omega) (by omega)] at q; exact Bool.noConfusion q) c_9)) (fun c_9 => ?_)
  refine v_iload_n (pc := 12) 2 dX7_calm_12 rfl rfl ?_
  refine v_i2l (pc := 13) dX7_calm_13 ?_
  refine v_lconst (pc := 14) ((nI 0).toInt64) dX7_calm_14 (by decide) ?_
  refine v_ldc2 (pc := 15) ((nI 100).toInt64) kl_X7_230 dX7_calm_15 (by decide) ?_
  refine v_callS (pc := 18) _ _ k_X7_72 (m_in _ _ _) ⟨rfl, rfl, by decide⟩ rfl rfl (Nat.le_of_ble_eq_true rfl) ⟨Nat.le_of_ble_eq_true rfl, Nat.le_of_ble_eq_true rfl⟩ dX7_calm_18 (unS ?_)
  show V E X _ RX7 _ _ _ 0 0 _ false 146 21 _ [_] _
  refine v_if_neB (pc := 21) (tgt := 27) dX7_calm_21 rfl (fun c_21 => ?_) (fun c_21 => False.elim ((fun q => by rw [inB_n (by omega) (by omega) (by omega)] at q; exact Bool.noConfusion q) c_21))
  refine v_ldc2 (pc := 27) _ kl_X7_255 dX7_calm_27 rfl ?_
  refine v_lstore_n (pc := 30) [1, 2, 3, 0] [(0, _), (1, _), (2, _), (3, _)] dX7_calm_30 rfl (by decide) rfl ?_
  refine v_iconst (pc := 31) (nI 0) dX7_calm_31 kI_0 ?_
  refine v_istore (pc := 32) [1, 2, 3, 4, 0] [(0, _), (1, _), (2, _), (3, _), (5, _)] dX7_calm_32 (by decide) rfl ?_
  refine dn (P := fun i => V E X ({ frames := 1, cells := 0, slots := 0, locals := 25 } : Room) RX7 cX7_calm 6 (some .int) 0 0 (QX E X false 146 (Ff (some (.int ((calmL (nI q) n).toInt32))) (cellOf E (c, (mkA xP xR xW xS xZ xG xK xT xQ xF xB xL xC, (nI un, nI sz, ft, nI wm, nI fm, nI bm, nI at_, nI bg, sg, nI fg, vl, wr), sd)))) 0 0) false 146 34 [(0, .ref (Ez E + 132)), (1, .int (nI n)), (2, .int (nI q)), (3, .long (calmL (nI q) i)), (5, .int (nI i))] [] (cellOf E (c, (mkA xP xR xW xS xZ xG xK xT xQ xF xB xL xC, (nI un, nI sz, ft, nI wm, nI fm, nI bm, nI at_, nI bg, sg, nI fg, vl, wr), sd)))) (N := n) ?_ ?_
  · refine v_iload (pc := 34) 4 dX7_calm_34 rfl ?_
    refine v_iload_n (pc := 36) 1 dX7_calm_36 rfl rfl ?_
    refine v_icmp_geN (pc := 37) (by omega) (by omega) (tgt := 55) dX7_calm_37 rfl (fun c_37 => ?_) (fun c_37 => False.elim ((fun c => by omega) c_37))
    refine v_lload_n (pc := 55) 3 dX7_calm_55 rfl rfl ?_
    refine v_l2i (pc := 56) dX7_calm_56 ?_
    exact v_iret (pc := 57) dX7_calm_57 (⟨rfl, rfl⟩)
  · intro i hi ih
    refine v_iload (pc := 34) 4 dX7_calm_34 rfl ?_
    refine v_iload_n (pc := 36) 1 dX7_calm_36 rfl rfl ?_
    refine v_icmp_geN (pc := 37) (by omega) (by omega) (tgt := 55) dX7_calm_37 rfl (fun c_37 => False.elim ((fun c => by omega) c_37)) (fun c_37 => ?_)
    refine v_lload_n (pc := 40) 3 dX7_calm_40 rfl rfl ?_
    refine v_iload_n (pc := 41) 2 dX7_calm_41 rfl rfl ?_
    refine v_i2l (pc := 42) dX7_calm_42 ?_
    refine v_lmul (pc := 43) dX7_calm_43 ?_
    refine v_ldc2 (pc := 44) _ kl_X7_230 dX7_calm_44 rfl ?_
    refine v_ldiv (pc := 47) dX7_calm_47 (by decide) ?_
    refine v_lstore_n (pc := 48) [1, 2, 3, 0, 4] [(0, _), (1, _), (2, _), (3, _), (5, _)] dX7_calm_48 rfl (by decide) rfl ?_
    refine v_iincN (pc := 49) 4 [1, 2, 3, 4, 0] [(0, _), (1, _), (2, _), (3, _), (5, _)] kI_1 dX7_calm_49 rfl (by decide) rfl ?_
    refine v_goto (pc := 52) (tgt := 34) dX7_calm_52 rfl ?_
    exact ih
set_option maxHeartbeats 4000000 in
set_option maxRecDepth 100000 in
theorem m_calm1 {E : Ev} {c : CSt} {xP xR xW xS xZ xG xK xT xQ xF xB xL xC : Fn} {un sz wm fm bm at_ bg fg : Nat} {ft sg vl wr : Int32} {sd : Int64} {n q : Int32} (hn : outB n (nI 0) (nI 60) = true) : Ct E yX7_calm cX7_calm 6 (some .int) ({ frames := 1, cells := 0, slots := 0, locals := 25 } : Room) false 146 [.ref (Ez E + 132), .int n, .int q] (cellOf E (c, (mkA xP xR xW xS xZ xG xK xT xQ xF xB xL xC, (nI un, nI sz, ft, nI wm, nI fm, nI bm, nI at_, nI bg, sg, nI fg, vl, wr), sd))) 146 0 0 (Ff (some (.int (cOUT))) (cellOf E (c, (mkA xP xR xW xS xZ xG xK xT xQ xF xB xL xC, (nI un, nI sz, ft, nI wm, nI fm, nI bm, nI at_, nI bg, sg, nI fg, vl, wr), sd)))) := by
  refine Ct.ofV (by decide) (Nat.le_of_ble_eq_true rfl) (fun X hnm => ?_)
  show V E X _ RX7 _ _ _ _ _ _ false 146 0 [(0, .ref (Ez E + 132)), (1, .int n), (2, .int q)] [] _
  refine v_iload_n (pc := 0) 1 dX7_calm_0 rfl rfl ?_
  refine v_i2l (pc := 1) dX7_calm_1 ?_
  refine v_lconst (pc := 2) ((nI 0).toInt64) dX7_calm_2 (by decide) ?_
  refine v_ldc2 (pc := 3) ((nI 60).toInt64) kl_X7_203 dX7_calm_3 (by decide) ?_
  refine v_callS (pc := 6) _ _ k_X7_72 (m_in _ _ _) ⟨rfl, rfl, by decide⟩ rfl rfl (Nat.le_of_ble_eq_true rfl) ⟨Nat.le_of_ble_eq_true rfl, Nat.le_of_ble_eq_true rfl⟩ dX7_calm_6 (unS ?_)
  show V E X _ RX7 _ _ _ 0 0 _ false 146 9 _ [_] _
  refine v_if_eqB (pc := 9) (tgt := 24) dX7_calm_9 rfl (fun c_9 => ?_) (fun c_9 => False.elim ((fun q => by rw [inB_o hn] at q; exact Bool.noConfusion q) c_9))
  refine v_ldc (pc := 24) _ kc_X7_76 dX7_calm_24 rfl ?_
  exact v_iret (pc := 26) dX7_calm_26 (⟨rfl, rfl⟩)
set_option maxHeartbeats 4000000 in
set_option maxRecDepth 100000 in
theorem m_calm2 {E : Ev} {c : CSt} {xP xR xW xS xZ xG xK xT xQ xF xB xL xC : Fn} {un sz wm fm bm at_ bg fg : Nat} {ft sg vl wr : Int32} {sd : Int64} {n q : Int32} (hn : outB n (nI 0) (nI 60) = false) (hq : outB q (nI 0) (nI 100) = true) : Ct E yX7_calm cX7_calm 6 (some .int) ({ frames := 1, cells := 0, slots := 0, locals := 25 } : Room) false 146 [.ref (Ez E + 132), .int n, .int q] (cellOf E (c, (mkA xP xR xW xS xZ xG xK xT xQ xF xB xL xC, (nI un, nI sz, ft, nI wm, nI fm, nI bm, nI at_, nI bg, sg, nI fg, vl, wr), sd))) 146 0 0 (Ff (some (.int (cOUT))) (cellOf E (c, (mkA xP xR xW xS xZ xG xK xT xQ xF xB xL xC, (nI un, nI sz, ft, nI wm, nI fm, nI bm, nI at_, nI bg, sg, nI fg, vl, wr), sd)))) := by
  refine Ct.ofV (by decide) (Nat.le_of_ble_eq_true rfl) (fun X hnm => ?_)
  show V E X _ RX7 _ _ _ _ _ _ false 146 0 [(0, .ref (Ez E + 132)), (1, .int n), (2, .int q)] [] _
  refine v_iload_n (pc := 0) 1 dX7_calm_0 rfl rfl ?_
  refine v_i2l (pc := 1) dX7_calm_1 ?_
  refine v_lconst (pc := 2) ((nI 0).toInt64) dX7_calm_2 (by decide) ?_
  refine v_ldc2 (pc := 3) ((nI 60).toInt64) kl_X7_203 dX7_calm_3 (by decide) ?_
  refine v_callS (pc := 6) _ _ k_X7_72 (m_in _ _ _) ⟨rfl, rfl, by decide⟩ rfl rfl (Nat.le_of_ble_eq_true rfl) ⟨Nat.le_of_ble_eq_true rfl, Nat.le_of_ble_eq_true rfl⟩ dX7_calm_6 (unS ?_)
  show V E X _ RX7 _ _ _ 0 0 _ false 146 9 _ [_] _
  refine v_if_eqB (pc := 9) (tgt := 24) dX7_calm_9 rfl (fun c_9 => False.elim ((fun q => by rw [inB_i hn] at q; exact Bool.noConfusion q) c_9)) (fun c_9 => ?_)
  refine v_iload_n (pc := 12) 2 dX7_calm_12 rfl rfl ?_
  refine v_i2l (pc := 13) dX7_calm_13 ?_
  refine v_lconst (pc := 14) ((nI 0).toInt64) dX7_calm_14 (by decide) ?_
  refine v_ldc2 (pc := 15) ((nI 100).toInt64) kl_X7_230 dX7_calm_15 (by decide) ?_
  refine v_callS (pc := 18) _ _ k_X7_72 (m_in _ _ _) ⟨rfl, rfl, by decide⟩ rfl rfl (Nat.le_of_ble_eq_true rfl) ⟨Nat.le_of_ble_eq_true rfl, Nat.le_of_ble_eq_true rfl⟩ dX7_calm_18 (unS ?_)
  show V E X _ RX7 _ _ _ 0 0 _ false 146 21 _ [_] _
  refine v_if_neB (pc := 21) (tgt := 27) dX7_calm_21 rfl (fun c_21 => False.elim ((fun q => by rw [inB_o hq] at q; exact Bool.noConfusion q) c_21)) (fun c_21 => ?_)
  refine v_ldc (pc := 24) _ kc_X7_76 dX7_calm_24 rfl ?_
  exact v_iret (pc := 26) dX7_calm_26 (⟨rfl, rfl⟩)
set_option maxHeartbeats 4000000 in
set_option maxRecDepth 100000 in
theorem m_watch {E : Ev} {c : CSt} {xP xR xW xS xZ xG xK xT xQ xF xB xL xC : Fn} {un sz wm fm bm at_ bg fg : Nat} {ft sg vl wr : Int32} {sd : Int64} {a : Int32} (ha : outB a (nI 0) (nI 99) = false) (hwm : wm < 6) : Ct E yX7_watch cX7_watch 2 (some .int) ({ frames := 1, cells := 0, slots := 0, locals := 25 } : Room) false 146 [.ref (Ez E + 132), .int a] (cellOf E (c, (mkA xP xR xW xS xZ xG xK xT xQ xF xB xL xC, (nI un, nI sz, ft, nI wm, nI fm, nI bm, nI at_, nI bg, sg, nI fg, vl, wr), sd))) 146 0 0 (Ff (some (.int (nI (wm + 1)))) (cellOf E (c, (mkA xP xR xW xS xZ xG xK xT (upd xQ wm a) xF xB xL xC, (nI un, nI sz, ft, nI (wm + 1), nI fm, nI bm, nI at_, nI bg, sg, nI fg, vl, wr), sd)))) := by
  refine Ct.ofV (by decide) (Nat.le_of_ble_eq_true rfl) (fun X hnm => ?_)
  show V E X _ RX7 _ _ _ _ _ _ false 146 0 [(0, .ref (Ez E + 132)), (1, .int a)] [] _
  refine v_iload_n (pc := 0) 1 dX7_watch_0 rfl rfl ?_
  refine v_i2l (pc := 1) dX7_watch_1 ?_
  refine v_lconst (pc := 2) ((nI 0).toInt64) dX7_watch_2 (by decide) ?_
  refine v_ldc2 (pc := 3) ((nI 99).toInt64) kl_X7_192 dX7_watch_3 (by decide) ?_
  refine v_callS (pc := 6) _ _ k_X7_72 (m_in _ _ _) ⟨rfl, rfl, by decide⟩ rfl rfl (Nat.le_of_ble_eq_true rfl) ⟨Nat.le_of_ble_eq_true rfl, Nat.le_of_ble_eq_true rfl⟩ dX7_watch_6 (unS ?_)
  show V E X _ RX7 _ _ _ 0 0 _ false 146 9 _ [_] _
  refine v_if_neB (pc := 9) (tgt := 15) dX7_watch_9 rfl (fun c_9 => ?_) (fun c_9 => False.elim ((fun q => by rw [inB_i ha] at q; exact Bool.noConfusion q) c_9))
  refine v_aload_n (pc := 15) 0 dX7_watch_15 rfl rfl ?_
  refine g_X7_61 (pc := 16) (cMr_obj) (by decide) rfl dX7_watch_16 ?_
  refine v_bipush (pc := 19) (nI 6) dX7_watch_19 kB_6 ?_
  refine v_icmp_neN (pc := 21) (by omega) (by omega) (tgt := 27) dX7_watch_21 rfl (fun c_21 => ?_) (fun c_21 => False.elim ((fun q => by omega) c_21))
  refine v_aload_n (pc := 27) 0 dX7_watch_27 rfl rfl ?_
  refine g_X7_39 (pc := 28) (cMr_obj) (by decide) rfl dX7_watch_28 ?_
  refine v_aload_n (pc := 31) 0 dX7_watch_31 rfl rfl ?_
  refine g_X7_61 (pc := 32) (cMr_obj) (by decide) rfl dX7_watch_32 ?_
  refine v_iload_n (pc := 35) 1 dX7_watch_35 rfl rfl ?_
  refine v_iastN (pc := 36) (cM_watched) (by decide) (by omega) (by decide) dX7_watch_36 (wM_watched) ?_
  refine v_aload_n (pc := 37) 0 dX7_watch_37 rfl rfl ?_
  refine v_dup (pc := 38) dX7_watch_38 rfl ?_
  refine g_X7_61 (pc := 39) (cMr_obj) (by decide) rfl dX7_watch_39 ?_
  refine v_iconst (pc := 42) (nI 1) dX7_watch_42 kI_1 ?_
  refine v_iaddN (pc := 43) dX7_watch_43 ?_
  refine p_X7_61 (pc := 44) (cMr_obj) (by decide) rfl rfl (Nat.le_of_ble_eq_true rfl) dX7_watch_44 (wM_wm) ?_
  refine v_aload_n (pc := 47) 0 dX7_watch_47 rfl rfl ?_
  refine g_X7_61 (pc := 48) (cMr_obj) (by decide) rfl dX7_watch_48 ?_
  exact v_iret (pc := 51) dX7_watch_51 (⟨rfl, rfl⟩)
set_option maxHeartbeats 4000000 in
set_option maxRecDepth 100000 in
theorem m_watch1 {E : Ev} {c : CSt} {xP xR xW xS xZ xG xK xT xQ xF xB xL xC : Fn} {un sz wm fm bm at_ bg fg : Nat} {ft sg vl wr : Int32} {sd : Int64} {a : Int32} (ha : outB a (nI 0) (nI 99) = true) : Ct E yX7_watch cX7_watch 2 (some .int) ({ frames := 1, cells := 0, slots := 0, locals := 25 } : Room) false 146 [.ref (Ez E + 132), .int a] (cellOf E (c, (mkA xP xR xW xS xZ xG xK xT xQ xF xB xL xC, (nI un, nI sz, ft, nI wm, nI fm, nI bm, nI at_, nI bg, sg, nI fg, vl, wr), sd))) 146 0 0 (Ff (some (.int (cOUT))) (cellOf E (c, (mkA xP xR xW xS xZ xG xK xT xQ xF xB xL xC, (nI un, nI sz, ft, nI wm, nI fm, nI bm, nI at_, nI bg, sg, nI fg, vl, wr), sd)))) := by
  refine Ct.ofV (by decide) (Nat.le_of_ble_eq_true rfl) (fun X hnm => ?_)
  show V E X _ RX7 _ _ _ _ _ _ false 146 0 [(0, .ref (Ez E + 132)), (1, .int a)] [] _
  refine v_iload_n (pc := 0) 1 dX7_watch_0 rfl rfl ?_
  refine v_i2l (pc := 1) dX7_watch_1 ?_
  refine v_lconst (pc := 2) ((nI 0).toInt64) dX7_watch_2 (by decide) ?_
  refine v_ldc2 (pc := 3) ((nI 99).toInt64) kl_X7_192 dX7_watch_3 (by decide) ?_
  refine v_callS (pc := 6) _ _ k_X7_72 (m_in _ _ _) ⟨rfl, rfl, by decide⟩ rfl rfl (Nat.le_of_ble_eq_true rfl) ⟨Nat.le_of_ble_eq_true rfl, Nat.le_of_ble_eq_true rfl⟩ dX7_watch_6 (unS ?_)
  show V E X _ RX7 _ _ _ 0 0 _ false 146 9 _ [_] _
  refine v_if_neB (pc := 9) (tgt := 15) dX7_watch_9 rfl (fun c_9 => False.elim ((fun q => by rw [inB_o ha] at q; exact Bool.noConfusion q) c_9)) (fun c_9 => ?_)
  refine v_ldc (pc := 12) _ kc_X7_76 dX7_watch_12 rfl ?_
  exact v_iret (pc := 14) dX7_watch_14 (⟨rfl, rfl⟩)
set_option maxHeartbeats 4000000 in
set_option maxRecDepth 100000 in
theorem m_watch2 {E : Ev} {c : CSt} {xP xR xW xS xZ xG xK xT xQ xF xB xL xC : Fn} {un sz wm fm bm at_ bg fg : Nat} {ft sg vl wr : Int32} {sd : Int64} {a : Int32} (ha : outB a (nI 0) (nI 99) = false) (hwm : wm = 6) : Ct E yX7_watch cX7_watch 2 (some .int) ({ frames := 1, cells := 0, slots := 0, locals := 25 } : Room) false 146 [.ref (Ez E + 132), .int a] (cellOf E (c, (mkA xP xR xW xS xZ xG xK xT xQ xF xB xL xC, (nI un, nI sz, ft, nI wm, nI fm, nI bm, nI at_, nI bg, sg, nI fg, vl, wr), sd))) 146 0 0 (Ff (some (.int (cFUL))) (cellOf E (c, (mkA xP xR xW xS xZ xG xK xT xQ xF xB xL xC, (nI un, nI sz, ft, nI wm, nI fm, nI bm, nI at_, nI bg, sg, nI fg, vl, wr), sd)))) := by
  refine Ct.ofV (by decide) (Nat.le_of_ble_eq_true rfl) (fun X hnm => ?_)
  show V E X _ RX7 _ _ _ _ _ _ false 146 0 [(0, .ref (Ez E + 132)), (1, .int a)] [] _
  refine v_iload_n (pc := 0) 1 dX7_watch_0 rfl rfl ?_
  refine v_i2l (pc := 1) dX7_watch_1 ?_
  refine v_lconst (pc := 2) ((nI 0).toInt64) dX7_watch_2 (by decide) ?_
  refine v_ldc2 (pc := 3) ((nI 99).toInt64) kl_X7_192 dX7_watch_3 (by decide) ?_
  refine v_callS (pc := 6) _ _ k_X7_72 (m_in _ _ _) ⟨rfl, rfl, by decide⟩ rfl rfl (Nat.le_of_ble_eq_true rfl) ⟨Nat.le_of_ble_eq_true rfl, Nat.le_of_ble_eq_true rfl⟩ dX7_watch_6 (unS ?_)
  show V E X _ RX7 _ _ _ 0 0 _ false 146 9 _ [_] _
  refine v_if_neB (pc := 9) (tgt := 15) dX7_watch_9 rfl (fun c_9 => ?_) (fun c_9 => False.elim ((fun q => by rw [inB_i ha] at q; exact Bool.noConfusion q) c_9))
  refine v_aload_n (pc := 15) 0 dX7_watch_15 rfl rfl ?_
  refine g_X7_61 (pc := 16) (cMr_obj) (by decide) rfl dX7_watch_16 ?_
  refine v_bipush (pc := 19) (nI 6) dX7_watch_19 kB_6 ?_
  refine v_icmp_neN (pc := 21) (by omega) (by omega) (tgt := 27) dX7_watch_21 rfl (fun c_21 => False.elim ((fun q => by omega) c_21)) (fun c_21 => ?_)
  refine v_ldc (pc := 24) _ kc_X7_80 dX7_watch_24 rfl ?_
  exact v_iret (pc := 26) dX7_watch_26 (⟨rfl, rfl⟩)
set_option maxHeartbeats 4000000 in
set_option maxRecDepth 100000 in
theorem m_feel {E : Ev} {c : CSt} {xP xR xW xS xZ xG xK xT xQ xF xB xL xC : Fn} {un sz wm fm bm at_ bg fg : Nat} {ft sg vl wr : Int32} {sd : Int64} {x y : Int32} (hx : outB x (nI 0) (nI 50) = false) (hy : outB y (nI 0) (nI 50) = false) (hfm : fm < 6) (w : Bool) : Ct E yX7_feel cX7_feel 4 (some .int) ({ frames := 1, cells := 0, slots := 0, locals := 25 } : Room) false 146 [.ref (Ez E + 132), .int x, .int y, .int (bI w)] (cellOf E (c, (mkA xP xR xW xS xZ xG xK xT xQ xF xB xL xC, (nI un, nI sz, ft, nI wm, nI fm, nI bm, nI at_, nI bg, sg, nI fg, vl, wr), sd))) 146 0 0 (Ff (some (.int (nI (fm + 1)))) (cellOf E (c, (mkA xP xR xW xS xZ xG xK xT xQ (upd (upd (upd xF (3 * fm) x) (3 * fm + 1) y) (3 * fm + 2) (bI w)) xB xL xC, (nI un, nI sz, ft, nI wm, nI (fm + 1), nI bm, nI at_, nI bg, sg, nI fg, vl, wr), sd)))) := by
  refine Ct.ofV (by decide) (Nat.le_of_ble_eq_true rfl) (fun X hnm => ?_)
  show V E X _ RX7 _ _ _ _ _ _ false 146 0 [(0, .ref (Ez E + 132)), (1, .int x), (2, .int y), (3, .int (bI w))] [] _
  refine v_iload_n (pc := 0) 1 dX7_feel_0 rfl rfl ?_
  refine v_i2l (pc := 1) dX7_feel_1 ?_
  refine v_lconst (pc := 2) ((nI 0).toInt64) dX7_feel_2 (by decide) ?_
  refine v_ldc2 (pc := 3) ((nI 50).toInt64) kl_X7_198 dX7_feel_3 (by decide) ?_
  refine v_callS (pc := 6) _ _ k_X7_72 (m_in _ _ _) ⟨rfl, rfl, by decide⟩ rfl rfl (Nat.le_of_ble_eq_true rfl) ⟨Nat.le_of_ble_eq_true rfl, Nat.le_of_ble_eq_true rfl⟩ dX7_feel_6 (unS ?_)
  show V E X _ RX7 _ _ _ 0 0 _ false 146 9 _ [_] _
  refine v_if_eqB (pc := 9) (tgt := 24) dX7_feel_9 rfl (fun c_9 => False.elim ((fun q => by rw [inB_i hx] at q; exact Bool.noConfusion q) c_9)) (fun c_9 => ?_)
  refine v_iload_n (pc := 12) 2 dX7_feel_12 rfl rfl ?_
  refine v_i2l (pc := 13) dX7_feel_13 ?_
  refine v_lconst (pc := 14) ((nI 0).toInt64) dX7_feel_14 (by decide) ?_
  refine v_ldc2 (pc := 15) ((nI 50).toInt64) kl_X7_198 dX7_feel_15 (by decide) ?_
  refine v_callS (pc := 18) _ _ k_X7_72 (m_in _ _ _) ⟨rfl, rfl, by decide⟩ rfl rfl (Nat.le_of_ble_eq_true rfl) ⟨Nat.le_of_ble_eq_true rfl, Nat.le_of_ble_eq_true rfl⟩ dX7_feel_18 (unS ?_)
  show V E X _ RX7 _ _ _ 0 0 _ false 146 21 _ [_] _
  refine v_if_neB (pc := 21) (tgt := 27) dX7_feel_21 rfl (fun c_21 => ?_) (fun c_21 => False.elim ((fun q => by rw [inB_i hy] at q; exact Bool.noConfusion q) c_21))
  refine v_aload_n (pc := 27) 0 dX7_feel_27 rfl rfl ?_
  refine g_X7_64 (pc := 28) (cMr_obj) (by decide) rfl dX7_feel_28 ?_
  refine v_bipush (pc := 31) (nI 6) dX7_feel_31 kB_6 ?_
  refine v_icmp_neN (pc := 33) (by omega) (by omega) (tgt := 39) dX7_feel_33 rfl (fun c_33 => ?_) (fun c_33 => False.elim ((fun q => by omega) c_33))
  refine v_aload_n (pc := 39) 0 dX7_feel_39 rfl rfl ?_
  refine g_X7_42 (pc := 40) (cMr_obj) (by decide) rfl dX7_feel_40 ?_
  refine v_iconst (pc := 43) (nI 3) dX7_feel_43 kI_3 ?_
  refine v_aload_n (pc := 44) 0 dX7_feel_44 rfl rfl ?_
  refine g_X7_64 (pc := 45) (cMr_obj) (by decide) rfl dX7_feel_45 ?_
  refine v_imulN (pc := 48) dX7_feel_48 ?_
  refine v_iload_n (pc := 49) 1 dX7_feel_49 rfl rfl ?_
  refine v_iastN (pc := 50) (cM_felt) (by decide) (by omega) (by decide) dX7_feel_50 (wM_felt) ?_
  refine v_aload_n (pc := 51) 0 dX7_feel_51 rfl rfl ?_
  refine g_X7_42 (pc := 52) (cMr_obj) (by decide) rfl dX7_feel_52 ?_
  refine v_iconst (pc := 55) (nI 3) dX7_feel_55 kI_3 ?_
  refine v_aload_n (pc := 56) 0 dX7_feel_56 rfl rfl ?_
  refine g_X7_64 (pc := 57) (cMr_obj) (by decide) rfl dX7_feel_57 ?_
  refine v_imulN (pc := 60) dX7_feel_60 ?_
  refine v_iconst (pc := 61) (nI 1) dX7_feel_61 kI_1 ?_
  refine v_iaddN (pc := 62) dX7_feel_62 ?_
  refine v_iload_n (pc := 63) 2 dX7_feel_63 rfl rfl ?_
  refine v_iastN (pc := 64) (cM_felt) (by decide) (by omega) (by decide) dX7_feel_64 (wM_felt) ?_
  refine v_aload_n (pc := 65) 0 dX7_feel_65 rfl rfl ?_
  refine g_X7_42 (pc := 66) (cMr_obj) (by decide) rfl dX7_feel_66 ?_
  refine v_iconst (pc := 69) (nI 3) dX7_feel_69 kI_3 ?_
  refine v_aload_n (pc := 70) 0 dX7_feel_70 rfl rfl ?_
  refine g_X7_64 (pc := 71) (cMr_obj) (by decide) rfl dX7_feel_71 ?_
  refine v_imulN (pc := 74) dX7_feel_74 ?_
  refine v_iconst (pc := 75) (nI 2) dX7_feel_75 kI_2 ?_
  refine v_iaddN (pc := 76) dX7_feel_76 ?_
  refine v_iload_n (pc := 77) 3 dX7_feel_77 rfl rfl ?_
  refine v_if_eqB (pc := 78) (tgt := 85) dX7_feel_78 rfl (fun c_78 => ?_) (fun c_78 => ?_)
  · refine v_iconst (pc := 85) (nI 0) dX7_feel_85 kI_0 ?_
    refine v_iastN (pc := 86) (cM_felt) (by decide) (by omega) (by decide) dX7_feel_86 (wM_felt) ?_
    refine v_aload_n (pc := 87) 0 dX7_feel_87 rfl rfl ?_
    refine v_dup (pc := 88) dX7_feel_88 rfl ?_
    refine g_X7_64 (pc := 89) (cMr_obj) (by decide) rfl dX7_feel_89 ?_
    refine v_iconst (pc := 92) (nI 1) dX7_feel_92 kI_1 ?_
    refine v_iaddN (pc := 93) dX7_feel_93 ?_
    refine p_X7_64 (pc := 94) (cMr_obj) (by decide) rfl rfl (Nat.le_of_ble_eq_true rfl) dX7_feel_94 (wM_fm) ?_
    refine v_aload_n (pc := 97) 0 dX7_feel_97 rfl rfl ?_
    refine g_X7_64 (pc := 98) (cMr_obj) (by decide) rfl dX7_feel_98 ?_
    exact v_iret (pc := 101) dX7_feel_101 (⟨rfl, by rw [c_78]; rfl⟩)
  · refine v_iconst (pc := 81) (nI 1) dX7_feel_81 kI_1 ?_
    refine v_goto (pc := 82) (tgt := 86) dX7_feel_82 rfl ?_
    refine v_iastN (pc := 86) (cM_felt) (by decide) (by omega) (by decide) dX7_feel_86 (wM_felt) ?_
    refine v_aload_n (pc := 87) 0 dX7_feel_87 rfl rfl ?_
    refine v_dup (pc := 88) dX7_feel_88 rfl ?_
    refine g_X7_64 (pc := 89) (cMr_obj) (by decide) rfl dX7_feel_89 ?_
    refine v_iconst (pc := 92) (nI 1) dX7_feel_92 kI_1 ?_
    refine v_iaddN (pc := 93) dX7_feel_93 ?_
    refine p_X7_64 (pc := 94) (cMr_obj) (by decide) rfl rfl (Nat.le_of_ble_eq_true rfl) dX7_feel_94 (wM_fm) ?_
    refine v_aload_n (pc := 97) 0 dX7_feel_97 rfl rfl ?_
    refine g_X7_64 (pc := 98) (cMr_obj) (by decide) rfl dX7_feel_98 ?_
    exact v_iret (pc := 101) dX7_feel_101 (⟨rfl, by rw [c_78]; rfl⟩)
set_option maxHeartbeats 4000000 in
set_option maxRecDepth 100000 in
theorem m_feel1 {E : Ev} {c : CSt} {xP xR xW xS xZ xG xK xT xQ xF xB xL xC : Fn} {un sz wm fm bm at_ bg fg : Nat} {ft sg vl wr : Int32} {sd : Int64} {x y : Int32} (hx : outB x (nI 0) (nI 50) = true) (w : Bool) : Ct E yX7_feel cX7_feel 4 (some .int) ({ frames := 1, cells := 0, slots := 0, locals := 25 } : Room) false 146 [.ref (Ez E + 132), .int x, .int y, .int (bI w)] (cellOf E (c, (mkA xP xR xW xS xZ xG xK xT xQ xF xB xL xC, (nI un, nI sz, ft, nI wm, nI fm, nI bm, nI at_, nI bg, sg, nI fg, vl, wr), sd))) 146 0 0 (Ff (some (.int (cOUT))) (cellOf E (c, (mkA xP xR xW xS xZ xG xK xT xQ xF xB xL xC, (nI un, nI sz, ft, nI wm, nI fm, nI bm, nI at_, nI bg, sg, nI fg, vl, wr), sd)))) := by
  refine Ct.ofV (by decide) (Nat.le_of_ble_eq_true rfl) (fun X hnm => ?_)
  show V E X _ RX7 _ _ _ _ _ _ false 146 0 [(0, .ref (Ez E + 132)), (1, .int x), (2, .int y), (3, .int (bI w))] [] _
  refine v_iload_n (pc := 0) 1 dX7_feel_0 rfl rfl ?_
  refine v_i2l (pc := 1) dX7_feel_1 ?_
  refine v_lconst (pc := 2) ((nI 0).toInt64) dX7_feel_2 (by decide) ?_
  refine v_ldc2 (pc := 3) ((nI 50).toInt64) kl_X7_198 dX7_feel_3 (by decide) ?_
  refine v_callS (pc := 6) _ _ k_X7_72 (m_in _ _ _) ⟨rfl, rfl, by decide⟩ rfl rfl (Nat.le_of_ble_eq_true rfl) ⟨Nat.le_of_ble_eq_true rfl, Nat.le_of_ble_eq_true rfl⟩ dX7_feel_6 (unS ?_)
  show V E X _ RX7 _ _ _ 0 0 _ false 146 9 _ [_] _
  refine v_if_eqB (pc := 9) (tgt := 24) dX7_feel_9 rfl (fun c_9 => ?_) (fun c_9 => False.elim ((fun q => by rw [inB_o hx] at q; exact Bool.noConfusion q) c_9))
  refine v_ldc (pc := 24) _ kc_X7_76 dX7_feel_24 rfl ?_
  exact v_iret (pc := 26) dX7_feel_26 (⟨rfl, rfl⟩)
set_option maxHeartbeats 4000000 in
set_option maxRecDepth 100000 in
theorem m_feel2 {E : Ev} {c : CSt} {xP xR xW xS xZ xG xK xT xQ xF xB xL xC : Fn} {un sz wm fm bm at_ bg fg : Nat} {ft sg vl wr : Int32} {sd : Int64} {x y : Int32} (hx : outB x (nI 0) (nI 50) = false) (hy : outB y (nI 0) (nI 50) = true) (w : Bool) : Ct E yX7_feel cX7_feel 4 (some .int) ({ frames := 1, cells := 0, slots := 0, locals := 25 } : Room) false 146 [.ref (Ez E + 132), .int x, .int y, .int (bI w)] (cellOf E (c, (mkA xP xR xW xS xZ xG xK xT xQ xF xB xL xC, (nI un, nI sz, ft, nI wm, nI fm, nI bm, nI at_, nI bg, sg, nI fg, vl, wr), sd))) 146 0 0 (Ff (some (.int (cOUT))) (cellOf E (c, (mkA xP xR xW xS xZ xG xK xT xQ xF xB xL xC, (nI un, nI sz, ft, nI wm, nI fm, nI bm, nI at_, nI bg, sg, nI fg, vl, wr), sd)))) := by
  refine Ct.ofV (by decide) (Nat.le_of_ble_eq_true rfl) (fun X hnm => ?_)
  show V E X _ RX7 _ _ _ _ _ _ false 146 0 [(0, .ref (Ez E + 132)), (1, .int x), (2, .int y), (3, .int (bI w))] [] _
  refine v_iload_n (pc := 0) 1 dX7_feel_0 rfl rfl ?_
  refine v_i2l (pc := 1) dX7_feel_1 ?_
  refine v_lconst (pc := 2) ((nI 0).toInt64) dX7_feel_2 (by decide) ?_
  refine v_ldc2 (pc := 3) ((nI 50).toInt64) kl_X7_198 dX7_feel_3 (by decide) ?_
  refine v_callS (pc := 6) _ _ k_X7_72 (m_in _ _ _) ⟨rfl, rfl, by decide⟩ rfl rfl (Nat.le_of_ble_eq_true rfl) ⟨Nat.le_of_ble_eq_true rfl, Nat.le_of_ble_eq_true rfl⟩ dX7_feel_6 (unS ?_)
  show V E X _ RX7 _ _ _ 0 0 _ false 146 9 _ [_] _
  refine v_if_eqB (pc := 9) (tgt := 24) dX7_feel_9 rfl (fun c_9 => False.elim ((fun q => by rw [inB_i hx] at q; exact Bool.noConfusion q) c_9)) (fun c_9 => ?_)
  refine v_iload_n (pc := 12) 2 dX7_feel_12 rfl rfl ?_
  refine v_i2l (pc := 13) dX7_feel_13 ?_
  refine v_lconst (pc := 14) ((nI 0).toInt64) dX7_feel_14 (by decide) ?_
  refine v_ldc2 (pc := 15) ((nI 50).toInt64) kl_X7_198 dX7_feel_15 (by decide) ?_
  refine v_callS (pc := 18) _ _ k_X7_72 (m_in _ _ _) ⟨rfl, rfl, by decide⟩ rfl rfl (Nat.le_of_ble_eq_true rfl) ⟨Nat.le_of_ble_eq_true rfl, Nat.le_of_ble_eq_true rfl⟩ dX7_feel_18 (unS ?_)
  show V E X _ RX7 _ _ _ 0 0 _ false 146 21 _ [_] _
  refine v_if_neB (pc := 21) (tgt := 27) dX7_feel_21 rfl (fun c_21 => False.elim ((fun q => by rw [inB_o hy] at q; exact Bool.noConfusion q) c_21)) (fun c_21 => ?_)
  refine v_ldc (pc := 24) _ kc_X7_76 dX7_feel_24 rfl ?_
  exact v_iret (pc := 26) dX7_feel_26 (⟨rfl, rfl⟩)
set_option maxHeartbeats 4000000 in
set_option maxRecDepth 100000 in
theorem m_feel3 {E : Ev} {c : CSt} {xP xR xW xS xZ xG xK xT xQ xF xB xL xC : Fn} {un sz wm fm bm at_ bg fg : Nat} {ft sg vl wr : Int32} {sd : Int64} {x y : Int32} (hx : outB x (nI 0) (nI 50) = false) (hy : outB y (nI 0) (nI 50) = false) (hfm : fm = 6) (w : Bool) : Ct E yX7_feel cX7_feel 4 (some .int) ({ frames := 1, cells := 0, slots := 0, locals := 25 } : Room) false 146 [.ref (Ez E + 132), .int x, .int y, .int (bI w)] (cellOf E (c, (mkA xP xR xW xS xZ xG xK xT xQ xF xB xL xC, (nI un, nI sz, ft, nI wm, nI fm, nI bm, nI at_, nI bg, sg, nI fg, vl, wr), sd))) 146 0 0 (Ff (some (.int (cFUL))) (cellOf E (c, (mkA xP xR xW xS xZ xG xK xT xQ xF xB xL xC, (nI un, nI sz, ft, nI wm, nI fm, nI bm, nI at_, nI bg, sg, nI fg, vl, wr), sd)))) := by
  refine Ct.ofV (by decide) (Nat.le_of_ble_eq_true rfl) (fun X hnm => ?_)
  show V E X _ RX7 _ _ _ _ _ _ false 146 0 [(0, .ref (Ez E + 132)), (1, .int x), (2, .int y), (3, .int (bI w))] [] _
  refine v_iload_n (pc := 0) 1 dX7_feel_0 rfl rfl ?_
  refine v_i2l (pc := 1) dX7_feel_1 ?_
  refine v_lconst (pc := 2) ((nI 0).toInt64) dX7_feel_2 (by decide) ?_
  refine v_ldc2 (pc := 3) ((nI 50).toInt64) kl_X7_198 dX7_feel_3 (by decide) ?_
  refine v_callS (pc := 6) _ _ k_X7_72 (m_in _ _ _) ⟨rfl, rfl, by decide⟩ rfl rfl (Nat.le_of_ble_eq_true rfl) ⟨Nat.le_of_ble_eq_true rfl, Nat.le_of_ble_eq_true rfl⟩ dX7_feel_6 (unS ?_)
  show V E X _ RX7 _ _ _ 0 0 _ false 146 9 _ [_] _
  refine v_if_eqB (pc := 9) (tgt := 24) dX7_feel_9 rfl (fun c_9 => False.elim ((fun q => by rw [inB_i hx] at q; exact Bool.noConfusion q) c_9)) (fun c_9 => ?_)
  refine v_iload_n (pc := 12) 2 dX7_feel_12 rfl rfl ?_
  refine v_i2l (pc := 13) dX7_feel_13 ?_
  refine v_lconst (pc := 14) ((nI 0).toInt64) dX7_feel_14 (by decide) ?_
  refine v_ldc2 (pc := 15) ((nI 50).toInt64) kl_X7_198 dX7_feel_15 (by decide) ?_
  refine v_callS (pc := 18) _ _ k_X7_72 (m_in _ _ _) ⟨rfl, rfl, by decide⟩ rfl rfl (Nat.le_of_ble_eq_true rfl) ⟨Nat.le_of_ble_eq_true rfl, Nat.le_of_ble_eq_true rfl⟩ dX7_feel_18 (unS ?_)
  show V E X _ RX7 _ _ _ 0 0 _ false 146 21 _ [_] _
  refine v_if_neB (pc := 21) (tgt := 27) dX7_feel_21 rfl (fun c_21 => ?_) (fun c_21 => False.elim ((fun q => by rw [inB_i hy] at q; exact Bool.noConfusion q) c_21))
  refine v_aload_n (pc := 27) 0 dX7_feel_27 rfl rfl ?_
  refine g_X7_64 (pc := 28) (cMr_obj) (by decide) rfl dX7_feel_28 ?_
  refine v_bipush (pc := 31) (nI 6) dX7_feel_31 kB_6 ?_
  refine v_icmp_neN (pc := 33) (by omega) (by omega) (tgt := 39) dX7_feel_33 rfl (fun c_33 => False.elim ((fun q => by omega) c_33)) (fun c_33 => ?_)
  refine v_ldc (pc := 36) _ kc_X7_80 dX7_feel_36 rfl ?_
  exact v_iret (pc := 38) dX7_feel_38 (⟨rfl, rfl⟩)
set_option maxHeartbeats 4000000 in
set_option maxRecDepth 100000 in
theorem m_write {E : Ev} {c : CSt} {xP xR xW xS xZ xG xK xT xQ xF xB xL xC : Fn} {un sz wm fm bm at_ bg fg : Nat} {ft sg vl wr : Int32} {sd : Int64} {np : Nat} (hp : xP 2 = nI np) (hnp : np ≤ 7) {a n : Int32} (ha : perB a np = true) (hn : outB n (nI 0) (nI 9999) = false) (hbm : bm < 15) : Ct E yX7_write cX7_write 3 (some .int) ({ frames := 2, cells := 0, slots := 0, locals := 46 } : Room) false 146 [.ref (Ez E + 132), .int a, .int n] (cellOf E (c, (mkA xP xR xW xS xZ xG xK xT xQ xF xB xL xC, (nI un, nI sz, ft, nI wm, nI fm, nI bm, nI at_, nI bg, sg, nI fg, vl, wr), sd))) 146 0 0 (Ff (some (.int (nI (bm + 1)))) (cellOf E (c, (mkA xP xR xW xS xZ xG xK xT xQ xF (upd (upd xB (2 * bm) a) (2 * bm + 1) n) xL xC, (nI un, nI sz, ft, nI wm, nI fm, nI (bm + 1), nI at_, nI bg, sg, nI fg, vl, wr), sd)))) := by
  refine Ct.ofV (by decide) (Nat.le_of_ble_eq_true rfl) (fun X hnm => ?_)
  show V E X _ RX7 _ _ _ _ _ _ false 146 0 [(0, .ref (Ez E + 132)), (1, .int a), (2, .int n)] [] _
  refine v_aload_n (pc := 0) 0 dX7_write_0 rfl rfl ?_
  refine v_iload_n (pc := 1) 1 dX7_write_1 rfl rfl ?_
  refine v_callV (pc := 2) _ _ k_X7_180 (cMr_obj) rfl (by decide) (m_isPn hp hnp _) ⟨rfl, rfl, by decide⟩ rfl rfl (Nat.le_of_ble_eq_true rfl) ⟨Nat.le_of_ble_eq_true rfl, Nat.le_of_ble_eq_true rfl⟩ dX7_write_2 (unS ?_)
  show V E X _ RX7 _ _ _ 0 0 _ false 146 5 _ [_] _
  refine v_if_neB (pc := 5) (tgt := 11) dX7_write_5 rfl (fun c_5 => ?_) (fun c_5 => False.elim ((fun q => by rw [ha] at q; exact Bool.noConfusion q) c_5))
  refine v_iload_n (pc := 11) 2 dX7_write_11 rfl rfl ?_
  refine v_i2l (pc := 12) dX7_write_12 ?_
  refine v_lconst (pc := 13) ((nI 0).toInt64) dX7_write_13 (by decide) ?_
  refine v_ldc2 (pc := 14) ((nI 9999).toInt64) kl_X7_248 dX7_write_14 (by decide) ?_
  refine v_callS (pc := 17) _ _ k_X7_72 (m_in _ _ _) ⟨rfl, rfl, by decide⟩ rfl rfl (Nat.le_of_ble_eq_true rfl) ⟨Nat.le_of_ble_eq_true rfl, Nat.le_of_ble_eq_true rfl⟩ dX7_write_17 (unS ?_)
  show V E X _ RX7 _ _ _ 0 0 _ false 146 20 _ [_] _
  refine v_if_neB (pc := 20) (tgt := 26) dX7_write_20 rfl (fun c_20 => ?_) (fun c_20 => False.elim ((fun q => by rw [inB_i hn] at q; exact Bool.noConfusion q) c_20))
  refine v_aload_n (pc := 26) 0 dX7_write_26 rfl rfl ?_
  refine g_X7_67 (pc := 27) (cMr_obj) (by decide) rfl dX7_write_27 ?_
  refine v_bipush (pc := 30) (nI 15) dX7_write_30 kB_15 ?_
  refine v_icmp_neN (pc := 32) (by omega) (by omega) (tgt := 38) dX7_write_32 rfl (fun c_32 => ?_) (fun c_32 => False.elim ((fun q => by omega) c_32))
  refine v_aload_n (pc := 38) 0 dX7_write_38 rfl rfl ?_
  refine g_X7_45 (pc := 39) (cMr_obj) (by decide) rfl dX7_write_39 ?_
  refine v_iconst (pc := 42) (nI 2) dX7_write_42 kI_2 ?_
  refine v_aload_n (pc := 43) 0 dX7_write_43 rfl rfl ?_
  refine g_X7_67 (pc := 44) (cMr_obj) (by decide) rfl dX7_write_44 ?_
  refine v_imulN (pc := 47) dX7_write_47 ?_
  refine v_iload_n (pc := 48) 1 dX7_write_48 rfl rfl ?_
  refine v_iastN (pc := 49) (cM_book) (by decide) (by omega) (by decide) dX7_write_49 (wM_book) ?_
  refine v_aload_n (pc := 50) 0 dX7_write_50 rfl rfl ?_
  refine g_X7_45 (pc := 51) (cMr_obj) (by decide) rfl dX7_write_51 ?_
  refine v_iconst (pc := 54) (nI 2) dX7_write_54 kI_2 ?_
  refine v_aload_n (pc := 55) 0 dX7_write_55 rfl rfl ?_
  refine g_X7_67 (pc := 56) (cMr_obj) (by decide) rfl dX7_write_56 ?_
  refine v_imulN (pc := 59) dX7_write_59 ?_
  refine v_iconst (pc := 60) (nI 1) dX7_write_60 kI_1 ?_
  refine v_iaddN (pc := 61) dX7_write_61 ?_
  refine v_iload_n (pc := 62) 2 dX7_write_62 rfl rfl ?_
  refine v_iastN (pc := 63) (cM_book) (by decide) (by omega) (by decide) dX7_write_63 (wM_book) ?_
  refine v_aload_n (pc := 64) 0 dX7_write_64 rfl rfl ?_
  refine v_dup (pc := 65) dX7_write_65 rfl ?_
  refine g_X7_67 (pc := 66) (cMr_obj) (by decide) rfl dX7_write_66 ?_
  refine v_iconst (pc := 69) (nI 1) dX7_write_69 kI_1 ?_
  refine v_iaddN (pc := 70) dX7_write_70 ?_
  refine p_X7_67 (pc := 71) (cMr_obj) (by decide) rfl rfl (Nat.le_of_ble_eq_true rfl) dX7_write_71 (wM_bm) ?_
  refine v_aload_n (pc := 74) 0 dX7_write_74 rfl rfl ?_
  refine g_X7_67 (pc := 75) (cMr_obj) (by decide) rfl dX7_write_75 ?_
  exact v_iret (pc := 78) dX7_write_78 (⟨rfl, rfl⟩)
set_option maxHeartbeats 4000000 in
set_option maxRecDepth 100000 in
theorem m_write1 {E : Ev} {c : CSt} {xP xR xW xS xZ xG xK xT xQ xF xB xL xC : Fn} {un sz wm fm bm at_ bg fg : Nat} {ft sg vl wr : Int32} {sd : Int64} {np : Nat} (hp : xP 2 = nI np) (hnp : np ≤ 7) {a n : Int32} (ha : perB a np = false) : Ct E yX7_write cX7_write 3 (some .int) ({ frames := 2, cells := 0, slots := 0, locals := 46 } : Room) false 146 [.ref (Ez E + 132), .int a, .int n] (cellOf E (c, (mkA xP xR xW xS xZ xG xK xT xQ xF xB xL xC, (nI un, nI sz, ft, nI wm, nI fm, nI bm, nI at_, nI bg, sg, nI fg, vl, wr), sd))) 146 0 0 (Ff (some (.int (cUNK))) (cellOf E (c, (mkA xP xR xW xS xZ xG xK xT xQ xF xB xL xC, (nI un, nI sz, ft, nI wm, nI fm, nI bm, nI at_, nI bg, sg, nI fg, vl, wr), sd)))) := by
  refine Ct.ofV (by decide) (Nat.le_of_ble_eq_true rfl) (fun X hnm => ?_)
  show V E X _ RX7 _ _ _ _ _ _ false 146 0 [(0, .ref (Ez E + 132)), (1, .int a), (2, .int n)] [] _
  refine v_aload_n (pc := 0) 0 dX7_write_0 rfl rfl ?_
  refine v_iload_n (pc := 1) 1 dX7_write_1 rfl rfl ?_
  refine v_callV (pc := 2) _ _ k_X7_180 (cMr_obj) rfl (by decide) (m_isPn hp hnp _) ⟨rfl, rfl, by decide⟩ rfl rfl (Nat.le_of_ble_eq_true rfl) ⟨Nat.le_of_ble_eq_true rfl, Nat.le_of_ble_eq_true rfl⟩ dX7_write_2 (unS ?_)
  show V E X _ RX7 _ _ _ 0 0 _ false 146 5 _ [_] _
  refine v_if_neB (pc := 5) (tgt := 11) dX7_write_5 rfl (fun c_5 => False.elim ((fun q => by rw [ha] at q; exact Bool.noConfusion q) c_5)) (fun c_5 => ?_)
  refine v_ldc (pc := 8) _ kc_X7_183 dX7_write_8 rfl ?_
  exact v_iret (pc := 10) dX7_write_10 (⟨rfl, rfl⟩)
set_option maxHeartbeats 4000000 in
set_option maxRecDepth 100000 in
theorem m_write2 {E : Ev} {c : CSt} {xP xR xW xS xZ xG xK xT xQ xF xB xL xC : Fn} {un sz wm fm bm at_ bg fg : Nat} {ft sg vl wr : Int32} {sd : Int64} {np : Nat} (hp : xP 2 = nI np) (hnp : np ≤ 7) {a n : Int32} (ha : perB a np = true) (hn : outB n (nI 0) (nI 9999) = true) : Ct E yX7_write cX7_write 3 (some .int) ({ frames := 2, cells := 0, slots := 0, locals := 46 } : Room) false 146 [.ref (Ez E + 132), .int a, .int n] (cellOf E (c, (mkA xP xR xW xS xZ xG xK xT xQ xF xB xL xC, (nI un, nI sz, ft, nI wm, nI fm, nI bm, nI at_, nI bg, sg, nI fg, vl, wr), sd))) 146 0 0 (Ff (some (.int (cOUT))) (cellOf E (c, (mkA xP xR xW xS xZ xG xK xT xQ xF xB xL xC, (nI un, nI sz, ft, nI wm, nI fm, nI bm, nI at_, nI bg, sg, nI fg, vl, wr), sd)))) := by
  refine Ct.ofV (by decide) (Nat.le_of_ble_eq_true rfl) (fun X hnm => ?_)
  show V E X _ RX7 _ _ _ _ _ _ false 146 0 [(0, .ref (Ez E + 132)), (1, .int a), (2, .int n)] [] _
  refine v_aload_n (pc := 0) 0 dX7_write_0 rfl rfl ?_
  refine v_iload_n (pc := 1) 1 dX7_write_1 rfl rfl ?_
  refine v_callV (pc := 2) _ _ k_X7_180 (cMr_obj) rfl (by decide) (m_isPn hp hnp _) ⟨rfl, rfl, by decide⟩ rfl rfl (Nat.le_of_ble_eq_true rfl) ⟨Nat.le_of_ble_eq_true rfl, Nat.le_of_ble_eq_true rfl⟩ dX7_write_2 (unS ?_)
  show V E X _ RX7 _ _ _ 0 0 _ false 146 5 _ [_] _
  refine v_if_neB (pc := 5) (tgt := 11) dX7_write_5 rfl (fun c_5 => ?_) (fun c_5 => False.elim ((fun q => by rw [ha] at q; exact Bool.noConfusion q) c_5))
  refine v_iload_n (pc := 11) 2 dX7_write_11 rfl rfl ?_
  refine v_i2l (pc := 12) dX7_write_12 ?_
  refine v_lconst (pc := 13) ((nI 0).toInt64) dX7_write_13 (by decide) ?_
  refine v_ldc2 (pc := 14) ((nI 9999).toInt64) kl_X7_248 dX7_write_14 (by decide) ?_
  refine v_callS (pc := 17) _ _ k_X7_72 (m_in _ _ _) ⟨rfl, rfl, by decide⟩ rfl rfl (Nat.le_of_ble_eq_true rfl) ⟨Nat.le_of_ble_eq_true rfl, Nat.le_of_ble_eq_true rfl⟩ dX7_write_17 (unS ?_)
  show V E X _ RX7 _ _ _ 0 0 _ false 146 20 _ [_] _
  refine v_if_neB (pc := 20) (tgt := 26) dX7_write_20 rfl (fun c_20 => False.elim ((fun q => by rw [inB_o hn] at q; exact Bool.noConfusion q) c_20)) (fun c_20 => ?_)
  refine v_ldc (pc := 23) _ kc_X7_76 dX7_write_23 rfl ?_
  exact v_iret (pc := 25) dX7_write_25 (⟨rfl, rfl⟩)
set_option maxHeartbeats 4000000 in
set_option maxRecDepth 100000 in
theorem m_write3 {E : Ev} {c : CSt} {xP xR xW xS xZ xG xK xT xQ xF xB xL xC : Fn} {un sz wm fm bm at_ bg fg : Nat} {ft sg vl wr : Int32} {sd : Int64} {np : Nat} (hp : xP 2 = nI np) (hnp : np ≤ 7) {a n : Int32} (ha : perB a np = true) (hn : outB n (nI 0) (nI 9999) = false) (hbm : bm = 15) : Ct E yX7_write cX7_write 3 (some .int) ({ frames := 2, cells := 0, slots := 0, locals := 46 } : Room) false 146 [.ref (Ez E + 132), .int a, .int n] (cellOf E (c, (mkA xP xR xW xS xZ xG xK xT xQ xF xB xL xC, (nI un, nI sz, ft, nI wm, nI fm, nI bm, nI at_, nI bg, sg, nI fg, vl, wr), sd))) 146 0 0 (Ff (some (.int (cFUL))) (cellOf E (c, (mkA xP xR xW xS xZ xG xK xT xQ xF xB xL xC, (nI un, nI sz, ft, nI wm, nI fm, nI bm, nI at_, nI bg, sg, nI fg, vl, wr), sd)))) := by
  refine Ct.ofV (by decide) (Nat.le_of_ble_eq_true rfl) (fun X hnm => ?_)
  show V E X _ RX7 _ _ _ _ _ _ false 146 0 [(0, .ref (Ez E + 132)), (1, .int a), (2, .int n)] [] _
  refine v_aload_n (pc := 0) 0 dX7_write_0 rfl rfl ?_
  refine v_iload_n (pc := 1) 1 dX7_write_1 rfl rfl ?_
  refine v_callV (pc := 2) _ _ k_X7_180 (cMr_obj) rfl (by decide) (m_isPn hp hnp _) ⟨rfl, rfl, by decide⟩ rfl rfl (Nat.le_of_ble_eq_true rfl) ⟨Nat.le_of_ble_eq_true rfl, Nat.le_of_ble_eq_true rfl⟩ dX7_write_2 (unS ?_)
  show V E X _ RX7 _ _ _ 0 0 _ false 146 5 _ [_] _
  refine v_if_neB (pc := 5) (tgt := 11) dX7_write_5 rfl (fun c_5 => ?_) (fun c_5 => False.elim ((fun q => by rw [ha] at q; exact Bool.noConfusion q) c_5))
  refine v_iload_n (pc := 11) 2 dX7_write_11 rfl rfl ?_
  refine v_i2l (pc := 12) dX7_write_12 ?_
  refine v_lconst (pc := 13) ((nI 0).toInt64) dX7_write_13 (by decide) ?_
  refine v_ldc2 (pc := 14) ((nI 9999).toInt64) kl_X7_248 dX7_write_14 (by decide) ?_
  refine v_callS (pc := 17) _ _ k_X7_72 (m_in _ _ _) ⟨rfl, rfl, by decide⟩ rfl rfl (Nat.le_of_ble_eq_true rfl) ⟨Nat.le_of_ble_eq_true rfl, Nat.le_of_ble_eq_true rfl⟩ dX7_write_17 (unS ?_)
  show V E X _ RX7 _ _ _ 0 0 _ false 146 20 _ [_] _
  refine v_if_neB (pc := 20) (tgt := 26) dX7_write_20 rfl (fun c_20 => ?_) (fun c_20 => False.elim ((fun q => by rw [inB_i hn] at q; exact Bool.noConfusion q) c_20))
  refine v_aload_n (pc := 26) 0 dX7_write_26 rfl rfl ?_
  refine g_X7_67 (pc := 27) (cMr_obj) (by decide) rfl dX7_write_27 ?_
  refine v_bipush (pc := 30) (nI 15) dX7_write_30 kB_15 ?_
  refine v_icmp_neN (pc := 32) (by omega) (by omega) (tgt := 38) dX7_write_32 rfl (fun c_32 => False.elim ((fun q => by omega) c_32)) (fun c_32 => ?_)
  refine v_ldc (pc := 35) _ kc_X7_80 dX7_write_35 rfl ?_
  exact v_iret (pc := 37) dX7_write_37 (⟨rfl, rfl⟩)
set_option maxHeartbeats 4000000 in
set_option maxRecDepth 100000 in
theorem m_tear {E : Ev} {c : CSt} {xP xR xW xS xZ xG xK xT xQ xF xB xL xC : Fn} {un sz wm fm bm at_ bg fg : Nat} {ft sg vl wr : Int32} {sd : Int64}  : Ct E yX7_tear cX7_tear 2 (some .int) ({ frames := 0, cells := 0, slots := 0, locals := 0 } : Room) false 146 [.ref (Ez E + 132)] (cellOf E (c, (mkA xP xR xW xS xZ xG xK xT xQ xF xB xL xC, (nI un, nI sz, ft, nI wm, nI fm, nI bm, nI at_, nI bg, sg, nI fg, vl, wr), sd))) 146 0 0 (Ff (some (.int (nI (wm + fm + bm)))) (cellOf E (c, (mkA xP xR xW xS xZ xG xK xT xQ xF xB xL xC, (nI un, nI sz, ft, nI 0, nI 0, nI 0, nI at_, nI bg, sg, nI fg, vl, wr), sd)))) := by
  refine Ct.ofV (by decide) (Nat.le_of_ble_eq_true rfl) (fun X hnm => ?_)
  show V E X _ RX7 _ _ _ _ _ _ false 146 0 [(0, .ref (Ez E + 132))] [] _
  refine v_aload_n (pc := 0) 0 dX7_tear_0 rfl rfl ?_
  refine g_X7_61 (pc := 1) (cMr_obj) (by decide) rfl dX7_tear_1 ?_
  refine v_aload_n (pc := 4) 0 dX7_tear_4 rfl rfl ?_
  refine g_X7_64 (pc := 5) (cMr_obj) (by decide) rfl dX7_tear_5 ?_
  refine v_iaddN (pc := 8) dX7_tear_8 ?_
  refine v_aload_n (pc := 9) 0 dX7_tear_9 rfl rfl ?_
  refine g_X7_67 (pc := 10) (cMr_obj) (by decide) rfl dX7_tear_10 ?_
  refine v_iaddN (pc := 13) dX7_tear_13 ?_
  refine v_istore_n (pc := 14) [1, 0] [(0, _), (1, _)] dX7_tear_14 rfl (by decide) rfl ?_
  refine v_aload_n (pc := 15) 0 dX7_tear_15 rfl rfl ?_
  refine v_iconst (pc := 16) (nI 0) dX7_tear_16 kI_0 ?_
  refine p_X7_61 (pc := 17) (cMr_obj) (by decide) rfl rfl (Nat.le_of_ble_eq_true rfl) dX7_tear_17 (wM_wm) ?_
  refine v_aload_n (pc := 20) 0 dX7_tear_20 rfl rfl ?_
  refine v_iconst (pc := 21) (nI 0) dX7_tear_21 kI_0 ?_
  refine p_X7_64 (pc := 22) (cMr_obj) (by decide) rfl rfl (Nat.le_of_ble_eq_true rfl) dX7_tear_22 (wM_fm) ?_
  refine v_aload_n (pc := 25) 0 dX7_tear_25 rfl rfl ?_
  refine v_iconst (pc := 26) (nI 0) dX7_tear_26 kI_0 ?_
  refine p_X7_67 (pc := 27) (cMr_obj) (by decide) rfl rfl (Nat.le_of_ble_eq_true rfl) dX7_tear_27 (wM_bm) ?_
  refine v_iload_n (pc := 30) 1 dX7_tear_30 rfl rfl ?_
  exact v_iret (pc := 31) dX7_tear_31 (⟨rfl, rfl⟩)
def wrM (W B : Fn) (k : Nat) : Bool := decide (¬ W (nI 0 + B (2 * k)).toNatClampNeg = B (2 * k + 1))
set_option maxHeartbeats 4000000 in
set_option maxRecDepth 100000 in
theorem m_judge {E : Ev} {c : CSt} {xP xR xW xS xZ xG xK xT xQ xF xB xL xC : Fn} {un sz wm fm bm at_ bg fg : Nat} {ft sg vl wr : Int32} {sd : Int64} (hbm : bm ≤ 15) (hb : ∀ i, i < bm → vp_in (xB (2 * i)) 7) : Ct E yX7_judge cX7_judge 2 (some .int) ({ frames := 0, cells := 0, slots := 0, locals := 0 } : Room) false 146 [.ref (Ez E + 132)] (cellOf E (c, (mkA xP xR xW xS xZ xG xK xT xQ xF xB xL xC, (nI un, nI sz, ft, nI wm, nI fm, nI bm, nI at_, nI bg, sg, nI fg, vl, wr), sd))) 146 0 0 (Ff (some (.int (fst_ (wrM xW xB) bm 0))) (cellOf E (c, (mkA xP xR xW xS xZ xG xK xT xQ xF xB xL xC, (nI un, nI sz, ft, nI wm, nI fm, nI bm, nI at_, nI bg, sg, nI fg, vl, wr), sd)))) := by
  refine Ct.ofV (by decide) (Nat.le_of_ble_eq_true rfl) (fun X hnm => ?_)
  show V E X _ RX7 _ _ _ _ _ _ false 146 0 [(0, .ref (Ez E + 132))] [] _
  refine v_iconst (pc := 0) (nI 0) dX7_judge_0 kI_0 ?_
  refine v_istore_n (pc := 1) [1, 0] [(0, _), (1, _)] dX7_judge_1 rfl (by decide) rfl ?_
  have hl_2 : ∀ (m_ : Nat) (i : Nat), bm - i < m_ → (i ≤ bm) → (fst_ (wrM xW xB) (bm - i) i = fst_ (wrM xW xB) bm 0) → V E X ({ frames := 0, cells := 0, slots := 0, locals := 0 } : Room) RX7 cX7_judge 2 (some .int) 0 0 (QX E X false 146 (Ff (some (.int (fst_ (wrM xW xB) bm 0))) (cellOf E (c, (mkA xP xR xW xS xZ xG xK xT xQ xF xB xL xC, (nI un, nI sz, ft, nI wm, nI fm, nI bm, nI at_, nI bg, sg, nI fg, vl, wr), sd)))) 0 0) false 146 2 [(0, .ref (Ez E + 132)), (1, .int (nI i))] [] (cellOf E (c, (mkA xP xR xW xS xZ xG xK xT xQ xF xB xL xC, (nI un, nI sz, ft, nI wm, nI fm, nI bm, nI at_, nI bg, sg, nI fg, vl, wr), sd))) := by
    intro m_
    induction m_ with
    | zero => intro i hm; exact absurd hm (Nat.not_lt_zero _)
    | succ m_ ihm =>
      intro i hm hi hq
      refine v_iload_n (pc := 2) 1 dX7_judge_2 rfl rfl ?_
      refine v_aload_n (pc := 3) 0 dX7_judge_3 rfl rfl ?_
      refine g_X7_67 (pc := 4) (cMr_obj) (by decide) rfl dX7_judge_4 ?_
      refine v_icmp_geN (pc := 7) (by omega) (by omega) (tgt := 46) dX7_judge_7 rfl (fun c_7 => ?_) (fun c_7 => ?_)
      · refine v_iconst (pc := 46) (-1) dX7_judge_46 kI_m1 ?_
        exact v_iret (pc := 47) dX7_judge_47 (⟨by rw [← hq, show bm - i = 0 by omega]; rfl, rfl⟩)
      · refine v_aload_n (pc := 10) 0 dX7_judge_10 rfl rfl ?_
        refine g_X7_16 (pc := 11) (cMr_obj) (by decide) rfl dX7_judge_11 ?_
        refine v_iconst (pc := 14) (nI 0) dX7_judge_14 kI_0 ?_
        refine v_aload_n (pc := 15) 0 dX7_judge_15 rfl rfl ?_
        refine g_X7_45 (pc := 16) (cMr_obj) (by decide) rfl dX7_judge_16 ?_
        refine v_iconst (pc := 19) (nI 2) dX7_judge_19 kI_2 ?_
        refine v_iload_n (pc := 20) 1 dX7_judge_20 rfl rfl ?_
        refine v_imulN (pc := 21) dX7_judge_21 ?_
        refine v_ialdN (pc := 22) (cM_book) (by decide) (by omega) (by decide) dX7_judge_22 ?_
        refine v_iadd (pc := 23) dX7_judge_23 ?_
        refine v_iald (pc := 24) (cM_now) (by decide) (by obtain ⟨q, hq, e⟩ := vp_in_of (hb i (by omega)) (by decide); rw [e, nI_add]; exact vp_in_nI (by omega) (by decide)) dX7_judge_24 ?_
        refine v_aload_n (pc := 25) 0 dX7_judge_25 rfl rfl ?_
        refine g_X7_45 (pc := 26) (cMr_obj) (by decide) rfl dX7_judge_26 ?_
        refine v_iconst (pc := 29) (nI 2) dX7_judge_29 kI_2 ?_
        refine v_iload_n (pc := 30) 1 dX7_judge_30 rfl rfl ?_
        refine v_imulN (pc := 31) dX7_judge_31 ?_
        refine v_iconst (pc := 32) (nI 1) dX7_judge_32 kI_1 ?_
        refine v_iaddN (pc := 33) dX7_judge_33 ?_
        refine v_ialdN (pc := 34) (cM_book) (by decide) (by omega) (by decide) dX7_judge_34 ?_
        refine v_icmp_eq (pc := 35) (tgt := 40) dX7_judge_35 rfl (fun c_35 => ?_) (fun c_35 => ?_)
        · refine v_iincN (pc := 40) 1 [1, 0] [(0, _), (1, _)] kI_1 dX7_judge_40 rfl (by decide) rfl ?_
          refine v_goto (pc := 43) (tgt := 2) dX7_judge_43 rfl ?_
          exact ihm (i + 1) (by omega) (by omega) (by rw [← hq, show bm - i = (bm - (i + 1)) + 1 by omega]; show _ = if wrM xW xB i = true then _ else _; rw [if_neg (show ¬ wrM xW xB i = true from fun q => (of_decide_eq_true (show decide (¬ xW (nI 0 + xB (2 * i)).toNatClampNeg = xB (2 * i + 1)) = true from q)) c_35)])
        · refine v_iload_n (pc := 38) 1 dX7_judge_38 rfl rfl ?_
          exact v_iret (pc := 39) dX7_judge_39 (⟨by rw [← hq, show bm - i = (bm - (i + 1)) + 1 by omega]; show _ = some (Value.int (if wrM xW xB i = true then _ else _)); rw [if_pos (show wrM xW xB i = true from decide_eq_true c_35)], rfl⟩)
  exact hl_2 (bm + 1) 0 (by omega) (by omega) rfl
set_option maxHeartbeats 4000000 in
set_option maxRecDepth 100000 in
theorem m_seed {E : Ev} {c : CSt} {xP xR xW xS xZ xG xK xT xQ xF xB xL xC : Fn} {un sz wm fm bm at_ bg fg : Nat} {ft sg vl wr : Int32} {sd : Int64} {v : Int32} (hv : ¬ v < 0) : Ct E yX7_seed cX7_seed 3 (some .int) ({ frames := 0, cells := 0, slots := 0, locals := 0 } : Room) false 146 [.ref (Ez E + 132), .int v] (cellOf E (c, (mkA xP xR xW xS xZ xG xK xT xQ xF xB xL xC, (nI un, nI sz, ft, nI wm, nI fm, nI bm, nI at_, nI bg, sg, nI fg, vl, wr), sd))) 146 0 0 (Ff (some (.int (sd.toInt32))) (cellOf E (c, (mkA xP xR xW xS xZ xG xK xT xQ xF xB xL xC, (nI un, nI sz, ft, nI wm, nI fm, nI bm, nI at_, nI bg, sg, nI fg, vl, wr), v.toInt64)))) := by
  refine Ct.ofV (by decide) (Nat.le_of_ble_eq_true rfl) (fun X hnm => ?_)
  show V E X _ RX7 _ _ _ _ _ _ false 146 0 [(0, .ref (Ez E + 132)), (1, .int v)] [] _
  refine v_iload_n (pc := 0) 1 dX7_seed_0 rfl rfl ?_
  refine v_if_ge (pc := 1) (tgt := 7) dX7_seed_1 rfl (fun c_1 => ?_) (fun c_1 => False.elim ((fun q => hv (Int32.not_le.mp q)) c_1))
  refine v_aload_n (pc := 7) 0 dX7_seed_7 rfl rfl ?_
  refine g_X7_212 (pc := 8) (cMr_obj) (by decide) rfl dX7_seed_8 ?_
  refine v_l2i (pc := 11) dX7_seed_11 ?_
  refine v_istore_n (pc := 12) [1, 2, 0] [(0, _), (1, _), (2, _)] dX7_seed_12 rfl (by decide) rfl ?_
  refine v_aload_n (pc := 13) 0 dX7_seed_13 rfl rfl ?_
  refine v_iload_n (pc := 14) 1 dX7_seed_14 rfl rfl ?_
  refine v_i2l (pc := 15) dX7_seed_15 ?_
  refine p_X7_212 (pc := 16) (cMr_obj) (by decide) rfl rfl (Nat.le_of_ble_eq_true rfl) dX7_seed_16 (wM_sd) ?_
  refine v_iload_n (pc := 19) 2 dX7_seed_19 rfl rfl ?_
  exact v_iret (pc := 20) dX7_seed_20 (⟨rfl, rfl⟩)
set_option maxHeartbeats 4000000 in
set_option maxRecDepth 100000 in
theorem m_seed1 {E : Ev} {c : CSt} {xP xR xW xS xZ xG xK xT xQ xF xB xL xC : Fn} {un sz wm fm bm at_ bg fg : Nat} {ft sg vl wr : Int32} {sd : Int64} {v : Int32} (hv : v < 0) : Ct E yX7_seed cX7_seed 3 (some .int) ({ frames := 0, cells := 0, slots := 0, locals := 0 } : Room) false 146 [.ref (Ez E + 132), .int v] (cellOf E (c, (mkA xP xR xW xS xZ xG xK xT xQ xF xB xL xC, (nI un, nI sz, ft, nI wm, nI fm, nI bm, nI at_, nI bg, sg, nI fg, vl, wr), sd))) 146 0 0 (Ff (some (.int (cOUT))) (cellOf E (c, (mkA xP xR xW xS xZ xG xK xT xQ xF xB xL xC, (nI un, nI sz, ft, nI wm, nI fm, nI bm, nI at_, nI bg, sg, nI fg, vl, wr), sd)))) := by
  refine Ct.ofV (by decide) (Nat.le_of_ble_eq_true rfl) (fun X hnm => ?_)
  show V E X _ RX7 _ _ _ _ _ _ false 146 0 [(0, .ref (Ez E + 132)), (1, .int v)] [] _
  refine v_iload_n (pc := 0) 1 dX7_seed_0 rfl rfl ?_
  refine v_if_ge (pc := 1) (tgt := 7) dX7_seed_1 rfl (fun c_1 => False.elim ((fun q => Int32.not_le.mpr hv q) c_1)) (fun c_1 => ?_)
  refine v_ldc (pc := 4) _ kc_X7_76 dX7_seed_4 rfl ?_
  exact v_iret (pc := 6) dX7_seed_6 (⟨rfl, rfl⟩)
set_option maxHeartbeats 4000000 in
set_option maxRecDepth 100000 in
theorem m_keep {E : Ev} {c : CSt} {xP xR xW xS xZ xG xK xT xQ xF xB xL xC : Fn} {un sz wm fm bm at_ bg fg : Nat} {ft sg vl wr : Int32} {sd : Int64} {i : Nat} (hi : i ≤ 1) : Ct E yX7_keep cX7_keep 2 (some .int) ({ frames := 1, cells := 0, slots := 0, locals := 25 } : Room) false 146 [.ref (Ez E + 132), .int (nI i)] (cellOf E (c, (mkA xP xR xW xS xZ xG xK xT xQ xF xB xL xC, (nI un, nI sz, ft, nI wm, nI fm, nI bm, nI at_, nI bg, sg, nI fg, vl, wr), sd))) 146 0 0 (Ff (some (.int (nI 1))) (cellOf E (c, (mkA xP xR xW xS xZ (upd (cpA xW 0 xG (49 * i) 48) (49 * i + 48) sd.toInt32) (upd xK i (nI 1)) xT xQ xF xB xL xC, (nI 0, nI sz, ft, nI wm, nI fm, nI bm, nI at_, nI bg, sg, nI fg, vl, wr), sd)))) := by
  refine Ct.ofV (by decide) (Nat.le_of_ble_eq_true rfl) (fun X hnm => ?_)
  show V E X _ RX7 _ _ _ _ _ _ false 146 0 [(0, .ref (Ez E + 132)), (1, .int (nI i))] [] _
  refine v_iload_n (pc := 0) 1 dX7_keep_0 rfl rfl ?_
  refine v_i2l (pc := 1) dX7_keep_1 ?_
  refine v_lconst (pc := 2) ((nI 0).toInt64) dX7_keep_2 (by decide) ?_
  refine v_lconst (pc := 3) ((nI 1).toInt64) dX7_keep_3 (by decide) ?_
  refine v_callS (pc := 4) _ _ k_X7_72 (m_in _ _ _) ⟨rfl, rfl, by decide⟩ rfl rfl (Nat.le_of_ble_eq_true rfl) ⟨Nat.le_of_ble_eq_true rfl, Nat.le_of_ble_eq_true rfl⟩ dX7_keep_4 (unS ?_)
  show V E X _ RX7 _ _ _ 0 0 _ false 146 7 _ [_] _
  refine v_if_neB (pc := 7) (tgt := 13) dX7_keep_7 rfl (fun c_7 => ?_) (fun c_7 => False.elim ((fun q => by rw [inB_n (by omega) (by omega) (by omega)] at q; exact Bool.noConfusion q) c_7))
  refine v_aload_n (pc := 13) 0 dX7_keep_13 rfl rfl ?_
  refine g_X7_16 (pc := 14) (cMr_obj) (by decide) rfl dX7_keep_14 ?_
  refine v_iconst (pc := 17) (nI 0) dX7_keep_17 kI_0 ?_
  refine v_aload_n (pc := 18) 0 dX7_keep_18 rfl rfl ?_
  refine g_X7_25 (pc := 19) (cMr_obj) (by decide) rfl dX7_keep_19 ?_
  refine v_bipush (pc := 22) (nI 49) dX7_keep_22 kB_49 ?_
  refine v_iload_n (pc := 24) 1 dX7_keep_24 rfl rfl ?_
  refine v_imulN (pc := 25) dX7_keep_25 ?_
  refine v_bipush (pc := 26) (nI 48) dX7_keep_26 kB_48 ?_
  refine v_callS (pc := 28) _ _ k_X7_54 (m_cp_now_images (by omega) (by omega)) ⟨rfl, rfl, by decide⟩ rfl rfl (Nat.le_of_ble_eq_true rfl) ⟨Nat.le_of_ble_eq_true rfl, Nat.le_of_ble_eq_true rfl⟩ dX7_keep_28 (unS ?_)
  show V E X _ RX7 _ _ _ 0 0 _ false 146 31 _ [] _
  refine v_aload_n (pc := 31) 0 dX7_keep_31 rfl rfl ?_
  refine g_X7_25 (pc := 32) (cMr_obj) (by decide) rfl dX7_keep_32 ?_
  refine v_bipush (pc := 35) (nI 49) dX7_keep_35 kB_49 ?_
  refine v_iload_n (pc := 37) 1 dX7_keep_37 rfl rfl ?_
  refine v_imulN (pc := 38) dX7_keep_38 ?_
  refine v_bipush (pc := 39) (nI 48) dX7_keep_39 kB_48 ?_
  refine v_iaddN (pc := 41) dX7_keep_41 ?_
  refine v_aload_n (pc := 42) 0 dX7_keep_42 rfl rfl ?_
  refine g_X7_212 (pc := 43) (cMr_obj) (by decide) rfl dX7_keep_43 ?_
  refine v_l2i (pc := 46) dX7_keep_46 ?_
  refine v_iastN (pc := 47) (cM_images) (by decide) (by omega) (by decide) dX7_keep_47 (wM_images) ?_
  refine v_aload_n (pc := 48) 0 dX7_keep_48 rfl rfl ?_
  refine g_X7_28 (pc := 49) (cMr_obj) (by decide) rfl dX7_keep_49 ?_
  refine v_iload_n (pc := 52) 1 dX7_keep_52 rfl rfl ?_
  refine v_iconst (pc := 53) (nI 1) dX7_keep_53 kI_1 ?_
  refine v_zastN (pc := 54) (cM_kept) (by decide) (by omega) (by decide) dX7_keep_54 (wM_kept) ?_
  refine v_aload_n (pc := 55) 0 dX7_keep_55 rfl rfl ?_
  refine v_iconst (pc := 56) (nI 0) dX7_keep_56 kI_0 ?_
  refine p_X7_58 (pc := 57) (cMr_obj) (by decide) rfl rfl (Nat.le_of_ble_eq_true rfl) dX7_keep_57 (wM_un) ?_
  refine v_iconst (pc := 60) (nI 1) dX7_keep_60 kI_1 ?_
  exact v_iret (pc := 61) dX7_keep_61 (⟨rfl, by rw [show vp_nar FieldType.boolean (nI 1) = nI 1 from rfl]⟩)
set_option maxHeartbeats 4000000 in
set_option maxRecDepth 100000 in
theorem m_keep1 {E : Ev} {c : CSt} {xP xR xW xS xZ xG xK xT xQ xF xB xL xC : Fn} {un sz wm fm bm at_ bg fg : Nat} {ft sg vl wr : Int32} {sd : Int64} {i : Int32} (hi : outB i (nI 0) (nI 1) = true) : Ct E yX7_keep cX7_keep 2 (some .int) ({ frames := 1, cells := 0, slots := 0, locals := 25 } : Room) false 146 [.ref (Ez E + 132), .int i] (cellOf E (c, (mkA xP xR xW xS xZ xG xK xT xQ xF xB xL xC, (nI un, nI sz, ft, nI wm, nI fm, nI bm, nI at_, nI bg, sg, nI fg, vl, wr), sd))) 146 0 0 (Ff (some (.int (cUNK))) (cellOf E (c, (mkA xP xR xW xS xZ xG xK xT xQ xF xB xL xC, (nI un, nI sz, ft, nI wm, nI fm, nI bm, nI at_, nI bg, sg, nI fg, vl, wr), sd)))) := by
  refine Ct.ofV (by decide) (Nat.le_of_ble_eq_true rfl) (fun X hnm => ?_)
  show V E X _ RX7 _ _ _ _ _ _ false 146 0 [(0, .ref (Ez E + 132)), (1, .int i)] [] _
  refine v_iload_n (pc := 0) 1 dX7_keep_0 rfl rfl ?_
  refine v_i2l (pc := 1) dX7_keep_1 ?_
  refine v_lconst (pc := 2) ((nI 0).toInt64) dX7_keep_2 (by decide) ?_
  refine v_lconst (pc := 3) ((nI 1).toInt64) dX7_keep_3 (by decide) ?_
  refine v_callS (pc := 4) _ _ k_X7_72 (m_in _ _ _) ⟨rfl, rfl, by decide⟩ rfl rfl (Nat.le_of_ble_eq_true rfl) ⟨Nat.le_of_ble_eq_true rfl, Nat.le_of_ble_eq_true rfl⟩ dX7_keep_4 (unS ?_)
  show V E X _ RX7 _ _ _ 0 0 _ false 146 7 _ [_] _
  refine v_if_neB (pc := 7) (tgt := 13) dX7_keep_7 rfl (fun c_7 => False.elim ((fun q => by rw [inB_o hi] at q; exact Bool.noConfusion q) c_7)) (fun c_7 => ?_)
  refine v_ldc (pc := 10) _ kc_X7_183 dX7_keep_10 rfl ?_
  exact v_iret (pc := 12) dX7_keep_12 (⟨rfl, rfl⟩)
set_option maxHeartbeats 4000000 in
set_option maxRecDepth 100000 in
theorem m_back {E : Ev} {c : CSt} {xP xR xW xS xZ xG xK xT xQ xF xB xL xC : Fn} {un sz wm fm bm at_ bg fg : Nat} {ft sg vl wr : Int32} {sd : Int64} {i : Nat} (hi : i ≤ 1) (hk : ¬ xK i = 0) : Ct E yX7_goBack cX7_goBack 2 (some .int) ({ frames := 1, cells := 0, slots := 0, locals := 25 } : Room) false 146 [.ref (Ez E + 132), .int (nI i)] (cellOf E (c, (mkA xP xR xW xS xZ xG xK xT xQ xF xB xL xC, (nI un, nI sz, ft, nI wm, nI fm, nI bm, nI at_, nI bg, sg, nI fg, vl, wr), sd))) 146 0 0 (Ff (some (.int (nI 1))) (cellOf E (c, (mkA xP xR (cpA xG (49 * i) xW 0 48) xS xZ xG xK xT xQ xF xB xL xC, (nI 0, nI sz, ft, nI wm, nI fm, nI bm, nI at_, nI bg, sg, nI fg, vl, wr), (xG (49 * i + 48)).toInt64)))) := by
  refine Ct.ofV (by decide) (Nat.le_of_ble_eq_true rfl) (fun X hnm => ?_)
  show V E X _ RX7 _ _ _ _ _ _ false 146 0 [(0, .ref (Ez E + 132)), (1, .int (nI i))] [] _
  refine v_iload_n (pc := 0) 1 dX7_goBack_0 rfl rfl ?_
  refine v_i2l (pc := 1) dX7_goBack_1 ?_
  refine v_lconst (pc := 2) ((nI 0).toInt64) dX7_goBack_2 (by decide) ?_
  refine v_lconst (pc := 3) ((nI 1).toInt64) dX7_goBack_3 (by decide) ?_
  refine v_callS (pc := 4) _ _ k_X7_72 (m_in _ _ _) ⟨rfl, rfl, by decide⟩ rfl rfl (Nat.le_of_ble_eq_true rfl) ⟨Nat.le_of_ble_eq_true rfl, Nat.le_of_ble_eq_true rfl⟩ dX7_goBack_4 (unS ?_)
  show V E X _ RX7 _ _ _ 0 0 _ false 146 7 _ [_] _
  refine v_if_neB (pc := 7) (tgt := 13) dX7_goBack_7 rfl (fun c_7 => ?_) (fun c_7 => False.elim ((fun q => by rw [inB_n (by omega) (by omega) (by omega)] at q; exact Bool.noConfusion q) c_7))
  refine v_aload_n (pc := 13) 0 dX7_goBack_13 rfl rfl ?_
  refine g_X7_28 (pc := 14) (cMr_obj) (by decide) rfl dX7_goBack_14 ?_
  refine v_iload_n (pc := 17) 1 dX7_goBack_17 rfl rfl ?_
  refine v_zaldN (pc := 18) (cM_kept) (by decide) (by omega) (by decide) dX7_goBack_18 ?_
  refine v_if_ne (pc := 19) (tgt := 25) dX7_goBack_19 rfl (fun c_19 => ?_) (fun c_19 => False.elim ((fun q => hk q) c_19))
  refine v_aload_n (pc := 25) 0 dX7_goBack_25 rfl rfl ?_
  refine g_X7_25 (pc := 26) (cMr_obj) (by decide) rfl dX7_goBack_26 ?_
  refine v_bipush (pc := 29) (nI 49) dX7_goBack_29 kB_49 ?_
  refine v_iload_n (pc := 31) 1 dX7_goBack_31 rfl rfl ?_
  refine v_imulN (pc := 32) dX7_goBack_32 ?_
  refine v_aload_n (pc := 33) 0 dX7_goBack_33 rfl rfl ?_
  refine g_X7_16 (pc := 34) (cMr_obj) (by decide) rfl dX7_goBack_34 ?_
  refine v_iconst (pc := 37) (nI 0) dX7_goBack_37 kI_0 ?_
  refine v_bipush (pc := 38) (nI 48) dX7_goBack_38 kB_48 ?_
  refine v_callS (pc := 40) _ _ k_X7_54 (m_cp_images_now (by omega) (by omega)) ⟨rfl, rfl, by decide⟩ rfl rfl (Nat.le_of_ble_eq_true rfl) ⟨Nat.le_of_ble_eq_true rfl, Nat.le_of_ble_eq_true rfl⟩ dX7_goBack_40 (unS ?_)
  show V E X _ RX7 _ _ _ 0 0 _ false 146 43 _ [] _
  refine v_aload_n (pc := 43) 0 dX7_goBack_43 rfl rfl ?_
  refine v_aload_n (pc := 44) 0 dX7_goBack_44 rfl rfl ?_
  refine g_X7_25 (pc := 45) (cMr_obj) (by decide) rfl dX7_goBack_45 ?_
  refine v_bipush (pc := 48) (nI 49) dX7_goBack_48 kB_49 ?_
  refine v_iload_n (pc := 50) 1 dX7_goBack_50 rfl rfl ?_
  refine v_imulN (pc := 51) dX7_goBack_51 ?_
  refine v_bipush (pc := 52) (nI 48) dX7_goBack_52 kB_48 ?_
  refine v_iaddN (pc := 54) dX7_goBack_54 ?_
  refine v_ialdN (pc := 55) (cM_images) (by decide) (by omega) (by decide) dX7_goBack_55 ?_
  refine v_i2l (pc := 56) dX7_goBack_56 ?_
  refine p_X7_212 (pc := 57) (cMr_obj) (by decide) rfl rfl (Nat.le_of_ble_eq_true rfl) dX7_goBack_57 (wM_sd) ?_
  refine v_aload_n (pc := 60) 0 dX7_goBack_60 rfl rfl ?_
  refine v_iconst (pc := 61) (nI 0) dX7_goBack_61 kI_0 ?_
  refine p_X7_58 (pc := 62) (cMr_obj) (by decide) rfl rfl (Nat.le_of_ble_eq_true rfl) dX7_goBack_62 (wM_un) ?_
  refine v_iconst (pc := 65) (nI 1) dX7_goBack_65 kI_1 ?_
  exact v_iret (pc := 66) dX7_goBack_66 (⟨rfl, rfl⟩)
set_option maxHeartbeats 4000000 in
set_option maxRecDepth 100000 in
theorem m_back1 {E : Ev} {c : CSt} {xP xR xW xS xZ xG xK xT xQ xF xB xL xC : Fn} {un sz wm fm bm at_ bg fg : Nat} {ft sg vl wr : Int32} {sd : Int64} {i : Int32} (hi : outB i (nI 0) (nI 1) = true) : Ct E yX7_goBack cX7_goBack 2 (some .int) ({ frames := 1, cells := 0, slots := 0, locals := 25 } : Room) false 146 [.ref (Ez E + 132), .int i] (cellOf E (c, (mkA xP xR xW xS xZ xG xK xT xQ xF xB xL xC, (nI un, nI sz, ft, nI wm, nI fm, nI bm, nI at_, nI bg, sg, nI fg, vl, wr), sd))) 146 0 0 (Ff (some (.int (cUNK))) (cellOf E (c, (mkA xP xR xW xS xZ xG xK xT xQ xF xB xL xC, (nI un, nI sz, ft, nI wm, nI fm, nI bm, nI at_, nI bg, sg, nI fg, vl, wr), sd)))) := by
  refine Ct.ofV (by decide) (Nat.le_of_ble_eq_true rfl) (fun X hnm => ?_)
  show V E X _ RX7 _ _ _ _ _ _ false 146 0 [(0, .ref (Ez E + 132)), (1, .int i)] [] _
  refine v_iload_n (pc := 0) 1 dX7_goBack_0 rfl rfl ?_
  refine v_i2l (pc := 1) dX7_goBack_1 ?_
  refine v_lconst (pc := 2) ((nI 0).toInt64) dX7_goBack_2 (by decide) ?_
  refine v_lconst (pc := 3) ((nI 1).toInt64) dX7_goBack_3 (by decide) ?_
  refine v_callS (pc := 4) _ _ k_X7_72 (m_in _ _ _) ⟨rfl, rfl, by decide⟩ rfl rfl (Nat.le_of_ble_eq_true rfl) ⟨Nat.le_of_ble_eq_true rfl, Nat.le_of_ble_eq_true rfl⟩ dX7_goBack_4 (unS ?_)
  show V E X _ RX7 _ _ _ 0 0 _ false 146 7 _ [_] _
  refine v_if_neB (pc := 7) (tgt := 13) dX7_goBack_7 rfl (fun c_7 => False.elim ((fun q => by rw [inB_o hi] at q; exact Bool.noConfusion q) c_7)) (fun c_7 => ?_)
  refine v_ldc (pc := 10) _ kc_X7_183 dX7_goBack_10 rfl ?_
  exact v_iret (pc := 12) dX7_goBack_12 (⟨rfl, rfl⟩)
set_option maxHeartbeats 4000000 in
set_option maxRecDepth 100000 in
theorem m_back2 {E : Ev} {c : CSt} {xP xR xW xS xZ xG xK xT xQ xF xB xL xC : Fn} {un sz wm fm bm at_ bg fg : Nat} {ft sg vl wr : Int32} {sd : Int64} {i : Nat} (hi : i ≤ 1) (hk : xK i = 0) : Ct E yX7_goBack cX7_goBack 2 (some .int) ({ frames := 1, cells := 0, slots := 0, locals := 25 } : Room) false 146 [.ref (Ez E + 132), .int (nI i)] (cellOf E (c, (mkA xP xR xW xS xZ xG xK xT xQ xF xB xL xC, (nI un, nI sz, ft, nI wm, nI fm, nI bm, nI at_, nI bg, sg, nI fg, vl, wr), sd))) 146 0 0 (Ff (some (.int (cNOT))) (cellOf E (c, (mkA xP xR xW xS xZ xG xK xT xQ xF xB xL xC, (nI un, nI sz, ft, nI wm, nI fm, nI bm, nI at_, nI bg, sg, nI fg, vl, wr), sd)))) := by
  refine Ct.ofV (by decide) (Nat.le_of_ble_eq_true rfl) (fun X hnm => ?_)
  show V E X _ RX7 _ _ _ _ _ _ false 146 0 [(0, .ref (Ez E + 132)), (1, .int (nI i))] [] _
  refine v_iload_n (pc := 0) 1 dX7_goBack_0 rfl rfl ?_
  refine v_i2l (pc := 1) dX7_goBack_1 ?_
  refine v_lconst (pc := 2) ((nI 0).toInt64) dX7_goBack_2 (by decide) ?_
  refine v_lconst (pc := 3) ((nI 1).toInt64) dX7_goBack_3 (by decide) ?_
  refine v_callS (pc := 4) _ _ k_X7_72 (m_in _ _ _) ⟨rfl, rfl, by decide⟩ rfl rfl (Nat.le_of_ble_eq_true rfl) ⟨Nat.le_of_ble_eq_true rfl, Nat.le_of_ble_eq_true rfl⟩ dX7_goBack_4 (unS ?_)
  show V E X _ RX7 _ _ _ 0 0 _ false 146 7 _ [_] _
  refine v_if_neB (pc := 7) (tgt := 13) dX7_goBack_7 rfl (fun c_7 => ?_) (fun c_7 => False.elim ((fun q => by rw [inB_n (by omega) (by omega) (by omega)] at q; exact Bool.noConfusion q) c_7))
  refine v_aload_n (pc := 13) 0 dX7_goBack_13 rfl rfl ?_
  refine g_X7_28 (pc := 14) (cMr_obj) (by decide) rfl dX7_goBack_14 ?_
  refine v_iload_n (pc := 17) 1 dX7_goBack_17 rfl rfl ?_
  refine v_zaldN (pc := 18) (cM_kept) (by decide) (by omega) (by decide) dX7_goBack_18 ?_
  refine v_if_ne (pc := 19) (tgt := 25) dX7_goBack_19 rfl (fun c_19 => False.elim ((fun q => q hk) c_19)) (fun c_19 => ?_)
  refine v_ldc (pc := 22) _ kc_X7_188 dX7_goBack_22 rfl ?_
  exact v_iret (pc := 24) dX7_goBack_24 (⟨rfl, rfl⟩)
def st_re (p : Nat → Bool) (r : Nat) (z : Int32 × Int32 × Int32) : Int32 × Int32 × Int32 := (z.1 + (if p r = true then nI 1 else nI 0), (if p r = true ∧ z.2.1 = -1 then nI r else z.2.1), (if p r = true then nI r else z.2.2))
def reN (p : Nat → Bool) (n : Nat) : Int32 × Int32 × Int32 := itn (st_re p) n (nI 0, -1, -1)
def feN (p : Nat → Bool) (y n : Nat) : Int32 := itn (fun i s => s + (if p (y + i) = true then nI 1 else nI 0)) n (nI 0)
def st_re2 (p : Nat → Bool) (m : Int32) (y : Nat) (z : Int32 × Int32) : Int32 × Int32 := (lsI (grI (feN p y (51 - y)) (m - feN p y (51 - y))) z.1, if grI (feN p y (51 - y)) (m - feN p y (51 - y)) < z.1 then nI y else z.2)
def reM (p : Nat → Bool) (w : Nat) : Int32 := if w < 3 then (if w = 0 then (reN p 51).1 else if w = 1 then (reN p 51).2.1 else (reN p 51).2.2) else (itn (st_re2 p (reN p 51).1) 51 ((reN p 51).1, -1)).2
set_option maxHeartbeats 4000000 in
set_option maxRecDepth 100000 in
theorem m_reach {E : Ev} {c : CSt} {xP xR xW xS xZ xG xK xT xQ xF xB xL xC : Fn} {un sz wm fm bm at_ bg fg : Nat} {ft sg vl wr : Int32} {sd : Int64} (hfm : fm ≤ 6) {w : Nat} (hw : w ≤ 3) : Ct E yX7_reach cX7_reach 10 (some .int) ({ frames := 2, cells := 0, slots := 0, locals := 48 } : Room) false 146 [.ref (Ez E + 132), .int (nI w)] (cellOf E (c, (mkA xP xR xW xS xZ xG xK xT xQ xF xB xL xC, (nI un, nI sz, ft, nI wm, nI fm, nI bm, nI at_, nI bg, sg, nI fg, vl, wr), sd))) 146 0 0 (Ff (some (.int (reM (fun r => isM xF (nI r) fm) w))) (cellOf E (c, (mkA xP xR xW xS xZ xG xK xT xQ xF xB xL xC, (nI un, nI sz, ft, nI wm, nI fm, nI bm, nI at_, nI bg, sg, nI fg, vl, wr), sd)))) := by
  refine Ct.ofV (by decide) (Nat.le_of_ble_eq_true rfl) (fun X hnm => ?_)
  show V E X _ RX7 _ _ _ _ _ _ false 146 0 [(0, .ref (Ez E + 132)), (1, .int (nI w))] [] _
  refine v_iload_n (pc := 0) 1 dX7_reach_0 rfl rfl ?_
  refine v_i2l (pc := 1) dX7_reach_1 ?_
  refine v_lconst (pc := 2) ((nI 0).toInt64) dX7_reach_2 (by decide) ?_
  refine v_ldc2 (pc := 3) ((nI 3).toInt64) kl_X7_257 dX7_reach_3 (by decide) ?_
  refine v_callS (pc := 6) _ _ k_X7_72 (m_in _ _ _) ⟨rfl, rfl, by decide⟩ rfl rfl (Nat.le_of_ble_eq_true rfl) ⟨Nat.le_of_ble_eq_true rfl, Nat.le_of_ble_eq_true rfl⟩ dX7_reach_6 (unS ?_)
  show V E X _ RX7 _ _ _ 0 0 _ false 146 9 _ [_] _
  refine v_if_neB (pc := 9) (tgt := 15) dX7_reach_9 rfl (fun c_9 => ?_) (fun c_9 => False.elim ((fun q => by rw [inB_n (by omega) (by omega) (by omega)] at q; exact Bool.noConfusion q) c_9))
  refine v_iconst (pc := 15) (nI 0) dX7_reach_15 kI_0 ?_
  refine v_istore_n (pc := 16) [1, 2, 0] [(0, _), (1, _), (2, _)] dX7_reach_16 rfl (by decide) rfl ?_
  refine v_iconst (pc := 17) (-1) dX7_reach_17 kI_m1 ?_
  refine v_istore_n (pc := 18) [1, 2, 3, 0] [(0, _), (1, _), (2, _), (3, _)] dX7_reach_18 rfl (by decide) rfl ?_
  refine v_iconst (pc := 19) (-1) dX7_reach_19 kI_m1 ?_
  refine v_istore (pc := 20) [1, 2, 3, 4, 0] [(0, _), (1, _), (2, _), (3, _), (4, _)] dX7_reach_20 (by decide) rfl ?_
  refine v_iconst (pc := 22) (nI 0) dX7_reach_22 kI_0 ?_
  refine v_istore (pc := 23) [1, 2, 3, 4, 5, 0] [(0, _), (1, _), (2, _), (3, _), (4, _), (5, _)] dX7_reach_23 (by decide) rfl ?_
  refine dn (P := fun i => V E X ({ frames := 2, cells := 0, slots := 0, locals := 48 } : Room) RX7 cX7_reach 10 (some .int) 0 0 (QX E X false 146 (Ff (some (.int (reM (fun r => isM xF (nI r) fm) w))) (cellOf E (c, (mkA xP xR xW xS xZ xG xK xT xQ xF xB xL xC, (nI un, nI sz, ft, nI wm, nI fm, nI bm, nI at_, nI bg, sg, nI fg, vl, wr), sd)))) 0 0) false 146 25 [(0, .ref (Ez E + 132)), (1, .int (nI w)), (2, .int (itn (st_re (fun r => isM xF (nI r) fm)) i (nI 0, -1, -1)).1), (3, .int (itn (st_re (fun r => isM xF (nI r) fm)) i (nI 0, -1, -1)).2.1), (4, .int (itn (st_re (fun r => isM xF (nI r) fm)) i (nI 0, -1, -1)).2.2), (5, .int (nI i))] [] (cellOf E (c, (mkA xP xR xW xS xZ xG xK xT xQ xF xB xL xC, (nI un, nI sz, ft, nI wm, nI fm, nI bm, nI at_, nI bg, sg, nI fg, vl, wr), sd)))) (N := 51) ?_ ?_
  · generalize hr9 : itn (st_re (fun r => isM xF (nI r) fm)) 51 (nI 0, -1, -1) = z_ 
    obtain ⟨m9, e9, g9⟩ := z_
    show V E X _ RX7 _ _ _ _ _ _ false 146 _ [(0, .ref (Ez E + 132)), (1, .int (nI w)), (2, .int m9), (3, .int e9), (4, .int g9), (5, .int (nI 51))] [] (cellOf E (c, (mkA xP xR xW xS xZ xG xK xT xQ xF xB xL xC, (nI un, nI sz, ft, nI wm, nI fm, nI bm, nI at_, nI bg, sg, nI fg, vl, wr), sd)))
    refine v_iload (pc := 25) 5 dX7_reach_25 rfl ?_
    refine v_bipush (pc := 27) (nI 51) dX7_reach_27 kB_51 ?_
    refine v_icmp_geN (pc := 29) (by omega) (by omega) (tgt := 90) dX7_reach_29 rfl (fun c_29 => ?_) (fun c_29 => False.elim ((fun c => by omega) c_29))
    refine v_iload_n (pc := 90) 1 dX7_reach_90 rfl rfl ?_
    refine v_iconst (pc := 91) (nI 3) dX7_reach_91 kI_3 ?_
    refine v_icmp_geN (pc := 92) (by omega) (by omega) (tgt := 115) dX7_reach_92 rfl (fun c_92 => ?_) (fun c_92 => ?_)
    · refine v_iload_n (pc := 115) 2 dX7_reach_115 rfl rfl ?_
      refine v_istore (pc := 116) [1, 2, 3, 4, 5, 0] [(0, _), (1, _), (2, _), (3, _), (4, _), (5, _)] dX7_reach_116 (by decide) rfl ?_
      refine v_iconst (pc := 118) (-1) dX7_reach_118 kI_m1 ?_
      refine v_istore (pc := 119) [1, 2, 3, 4, 5, 6, 0] [(0, _), (1, _), (2, _), (3, _), (4, _), (5, _), (6, _)] dX7_reach_119 (by decide) rfl ?_
      refine v_iconst (pc := 121) (nI 0) dX7_reach_121 kI_0 ?_
      refine v_istore (pc := 122) [1, 2, 3, 4, 5, 6, 7, 0] [(0, _), (1, _), (2, _), (3, _), (4, _), (5, _), (6, _), (7, _)] dX7_reach_122 (by decide) rfl ?_
      refine v_sub [0, 1, 2, 5, 6, 7] rfl ?_
      refine dn (P := fun i => V E X ({ frames := 2, cells := 0, slots := 0, locals := 48 } : Room) RX7 cX7_reach 10 (some .int) 0 0 (QX E X false 146 (Ff (some (.int (reM (fun r => isM xF (nI r) fm) w))) (cellOf E (c, (mkA xP xR xW xS xZ xG xK xT xQ xF xB xL xC, (nI un, nI sz, ft, nI wm, nI fm, nI bm, nI at_, nI bg, sg, nI fg, vl, wr), sd)))) 0 0) false 146 124 [(0, .ref (Ez E + 132)), (1, .int (nI w)), (2, .int m9), (5, .int (itn (st_re2 (fun r => isM xF (nI r) fm) m9) i (m9, -1)).1), (6, .int (itn (st_re2 (fun r => isM xF (nI r) fm) m9) i (m9, -1)).2), (7, .int (nI i))] [] (cellOf E (c, (mkA xP xR xW xS xZ xG xK xT xQ xF xB xL xC, (nI un, nI sz, ft, nI wm, nI fm, nI bm, nI at_, nI bg, sg, nI fg, vl, wr), sd)))) (N := 51) ?_ ?_
      · refine v_iload (pc := 124) 5 dX7_reach_124 rfl ?_
        refine v_bipush (pc := 126) (nI 51) dX7_reach_126 kB_51 ?_
        refine v_icmp_geN (pc := 128) (by omega) (by omega) (tgt := 212) dX7_reach_128 rfl (fun c_128 => ?_) (fun c_128 => False.elim ((fun c => by omega) c_128))
        refine v_iload (pc := 212) 4 dX7_reach_212 rfl ?_
        exact v_iret (pc := 214) dX7_reach_214 (⟨by unfold reM; rw [if_neg (by omega), show reN (fun r => isM xF (nI r) fm) 51 = (m9, e9, g9) from hr9], rfl⟩)
      · intro i hi ih
        have ih : V E X ({ frames := 2, cells := 0, slots := 0, locals := 48 } : Room) RX7 cX7_reach 10 (some .int) 0 0 (QX E X false 146 (Ff (some (.int (reM (fun r => isM xF (nI r) fm) w))) (cellOf E (c, (mkA xP xR xW xS xZ xG xK xT xQ xF xB xL xC, (nI un, nI sz, ft, nI wm, nI fm, nI bm, nI at_, nI bg, sg, nI fg, vl, wr), sd)))) 0 0) false 146 124 [(0, .ref (Ez E + 132)), (1, .int (nI w)), (2, .int m9), (5, .int (st_re2 (fun r => isM xF (nI r) fm) m9 i (itn (st_re2 (fun r => isM xF (nI r) fm) m9) i (m9, -1))).1), (6, .int (st_re2 (fun r => isM xF (nI r) fm) m9 i (itn (st_re2 (fun r => isM xF (nI r) fm) m9) i (m9, -1))).2), (7, .int (nI (i + 1)))] [] (cellOf E (c, (mkA xP xR xW xS xZ xG xK xT xQ xF xB xL xC, (nI un, nI sz, ft, nI wm, nI fm, nI bm, nI at_, nI bg, sg, nI fg, vl, wr), sd))) := by rw [itn_s] at ih; exact ih
        generalize itn (st_re2 (fun r => isM xF (nI r) fm) m9) i (m9, -1) = z_ at ih ⊢
        obtain ⟨w1, r1⟩ := z_
        show V E X _ RX7 _ _ _ _ _ _ false 146 _ [(0, .ref (Ez E + 132)), (1, .int (nI w)), (2, .int m9), (5, .int w1), (6, .int r1), (7, .int (nI i))] [] (cellOf E (c, (mkA xP xR xW xS xZ xG xK xT xQ xF xB xL xC, (nI un, nI sz, ft, nI wm, nI fm, nI bm, nI at_, nI bg, sg, nI fg, vl, wr), sd)))
        refine v_iload (pc := 124) 5 dX7_reach_124 rfl ?_
        refine v_bipush (pc := 126) (nI 51) dX7_reach_126 kB_51 ?_
        refine v_icmp_geN (pc := 128) (by omega) (by omega) (tgt := 212) dX7_reach_128 rfl (fun c_128 => False.elim ((fun c => by omega) c_128)) (fun c_128 => ?_)
        refine v_iconst (pc := 131) (nI 0) dX7_reach_131 kI_0 ?_
        refine v_istore (pc := 132) [1, 2, 3, 4, 5, 6, 0] [(0, _), (1, _), (2, _), (5, _), (6, _), (7, _), (8, _)] dX7_reach_132 (by decide) rfl ?_
        refine v_iload (pc := 134) 5 dX7_reach_134 rfl ?_
        refine v_istore (pc := 136) [1, 2, 3, 4, 5, 6, 7, 0] [(0, _), (1, _), (2, _), (5, _), (6, _), (7, _), (8, _), (9, _)] dX7_reach_136 (by decide) rfl ?_
        refine dn (P := fun e => V E X ({ frames := 2, cells := 0, slots := 0, locals := 48 } : Room) RX7 cX7_reach 10 (some .int) 0 0 (QX E X false 146 (Ff (some (.int (reM (fun r => isM xF (nI r) fm) w))) (cellOf E (c, (mkA xP xR xW xS xZ xG xK xT xQ xF xB xL xC, (nI un, nI sz, ft, nI wm, nI fm, nI bm, nI at_, nI bg, sg, nI fg, vl, wr), sd)))) 0 0) false 146 138 [(0, .ref (Ez E + 132)), (1, .int (nI w)), (2, .int m9), (5, .int w1), (6, .int r1), (7, .int (nI i)), (8, .int (itn (fun e s => s + (if (fun r => isM xF (nI r) fm) (i + e) = true then nI 1 else nI 0)) e (nI 0))), (9, .int (nI (i + e)))] [] (cellOf E (c, (mkA xP xR xW xS xZ xG xK xT xQ xF xB xL xC, (nI un, nI sz, ft, nI wm, nI fm, nI bm, nI at_, nI bg, sg, nI fg, vl, wr), sd)))) (N := (51 - i)) ?_ ?_
        · generalize ht9 : itn (fun e s => s + (if (fun r => isM xF (nI r) fm) (i + e) = true then nI 1 else nI 0)) (51 - i) (nI 0) = t9 
          show V E X _ RX7 _ _ _ _ _ _ false 146 _ [(0, .ref (Ez E + 132)), (1, .int (nI w)), (2, .int m9), (5, .int w1), (6, .int r1), (7, .int (nI i)), (8, .int t9), (9, .int (nI (i + (51 - i))))] [] (cellOf E (c, (mkA xP xR xW xS xZ xG xK xT xQ xF xB xL xC, (nI un, nI sz, ft, nI wm, nI fm, nI bm, nI at_, nI bg, sg, nI fg, vl, wr), sd)))
          refine v_iload (pc := 138) 7 dX7_reach_138 rfl ?_
          refine v_bipush (pc := 140) (nI 51) dX7_reach_140 kB_51 ?_
          refine v_icmp_geN (pc := 142) (by omega) (by omega) (tgt := 170) dX7_reach_142 rfl (fun c_142 => ?_) (fun c_142 => False.elim ((fun c => by omega) c_142))
          refine v_iload (pc := 170) 6 dX7_reach_170 rfl ?_
          refine v_iload_n (pc := 172) 2 dX7_reach_172 rfl rfl ?_
          refine v_iload (pc := 173) 6 dX7_reach_173 rfl ?_
          refine v_isub (pc := 175) dX7_reach_175 ?_
          refine v_callS (pc := 176) _ _ k_X7_235 (m_greater _ _) ⟨rfl, rfl, by decide⟩ rfl rfl (Nat.le_of_ble_eq_true rfl) ⟨Nat.le_of_ble_eq_true rfl, Nat.le_of_ble_eq_true rfl⟩ dX7_reach_176 (unS ?_)
          show V E X _ RX7 _ _ _ 0 0 _ false 146 179 _ [_] _
          refine v_istore (pc := 179) [1, 2, 3, 4, 5, 6, 7, 0] [(0, _), (1, _), (2, _), (5, _), (6, _), (7, _), (8, _), (9, _)] dX7_reach_179 (by decide) rfl ?_
          refine v_iload (pc := 181) 7 dX7_reach_181 rfl ?_
          refine v_iload (pc := 183) 3 dX7_reach_183 rfl ?_
          refine v_icmp_ge (pc := 185) (tgt := 193) dX7_reach_185 rfl (fun c_185 => ?_) (fun c_185 => ?_)
          · refine v_iload (pc := 193) 4 dX7_reach_193 rfl ?_
            refine v_istore (pc := 195) [1, 2, 3, 4, 0, 5, 6, 7] [(0, _), (1, _), (2, _), (5, _), (6, _), (7, _), (8, _), (9, _)] dX7_reach_195 (by decide) rfl ?_
            refine v_iload (pc := 197) 7 dX7_reach_197 rfl ?_
            refine v_iload (pc := 199) 3 dX7_reach_199 rfl ?_
            refine v_callS (pc := 201) _ _ k_X7_138 (m_lesser _ _) ⟨rfl, rfl, by decide⟩ rfl rfl (Nat.le_of_ble_eq_true rfl) ⟨Nat.le_of_ble_eq_true rfl, Nat.le_of_ble_eq_true rfl⟩ dX7_reach_201 (unS ?_)
            show V E X _ RX7 _ _ _ 0 0 _ false 146 204 _ [_] _
            refine v_istore (pc := 204) [1, 2, 3, 0, 4, 5, 6, 7] [(0, _), (1, _), (2, _), (5, _), (6, _), (7, _), (8, _), (9, _)] dX7_reach_204 (by decide) rfl ?_
            refine v_iincN (pc := 206) 5 [1, 2, 3, 4, 5, 0, 6, 7] [(0, _), (1, _), (2, _), (5, _), (6, _), (7, _), (8, _), (9, _)] kI_1 dX7_reach_206 rfl (by decide) rfl ?_
            refine v_goto (pc := 209) (tgt := 124) dX7_reach_209 rfl ?_
            refine v_sub [0, 1, 2, 3, 4, 5] rfl ?_
            rw [show st_re2 (fun r => isM xF (nI r) fm) m9 i (w1, r1) = _ from by unfold st_re2; rw [show feN (fun r => isM xF (nI r) fm) i (51 - i) = t9 from ht9, if_neg (Int32.not_lt.mpr c_185)]] at ih
            exact ih
          · refine v_iload (pc := 188) 5 dX7_reach_188 rfl ?_
            refine v_goto (pc := 190) (tgt := 195) dX7_reach_190 rfl ?_
            refine v_istore (pc := 195) [1, 2, 3, 4, 0, 5, 6, 7] [(0, _), (1, _), (2, _), (5, _), (6, _), (7, _), (8, _), (9, _)] dX7_reach_195 (by decide) rfl ?_
            refine v_iload (pc := 197) 7 dX7_reach_197 rfl ?_
            refine v_iload (pc := 199) 3 dX7_reach_199 rfl ?_
            refine v_callS (pc := 201) _ _ k_X7_138 (m_lesser _ _) ⟨rfl, rfl, by decide⟩ rfl rfl (Nat.le_of_ble_eq_true rfl) ⟨Nat.le_of_ble_eq_true rfl, Nat.le_of_ble_eq_true rfl⟩ dX7_reach_201 (unS ?_)
            show V E X _ RX7 _ _ _ 0 0 _ false 146 204 _ [_] _
            refine v_istore (pc := 204) [1, 2, 3, 0, 4, 5, 6, 7] [(0, _), (1, _), (2, _), (5, _), (6, _), (7, _), (8, _), (9, _)] dX7_reach_204 (by decide) rfl ?_
            refine v_iincN (pc := 206) 5 [1, 2, 3, 4, 5, 0, 6, 7] [(0, _), (1, _), (2, _), (5, _), (6, _), (7, _), (8, _), (9, _)] kI_1 dX7_reach_206 rfl (by decide) rfl ?_
            refine v_goto (pc := 209) (tgt := 124) dX7_reach_209 rfl ?_
            refine v_sub [0, 1, 2, 3, 4, 5] rfl ?_
            rw [show st_re2 (fun r => isM xF (nI r) fm) m9 i (w1, r1) = _ from by unfold st_re2; rw [show feN (fun r => isM xF (nI r) fm) i (51 - i) = t9 from ht9, if_pos (Int32.not_le.mp c_185)]] at ih
            exact ih
        · intro e he ih
          have ih : V E X ({ frames := 2, cells := 0, slots := 0, locals := 48 } : Room) RX7 cX7_reach 10 (some .int) 0 0 (QX E X false 146 (Ff (some (.int (reM (fun r => isM xF (nI r) fm) w))) (cellOf E (c, (mkA xP xR xW xS xZ xG xK xT xQ xF xB xL xC, (nI un, nI sz, ft, nI wm, nI fm, nI bm, nI at_, nI bg, sg, nI fg, vl, wr), sd)))) 0 0) false 146 138 [(0, .ref (Ez E + 132)), (1, .int (nI w)), (2, .int m9), (5, .int w1), (6, .int r1), (7, .int (nI i)), (8, .int (itn (fun e s => s + (if (fun r => isM xF (nI r) fm) (i + e) = true then nI 1 else nI 0)) e (nI 0) + (if isM xF (nI (i + e)) fm = true then nI 1 else nI 0))), (9, .int (nI (i + (e + 1))))] [] (cellOf E (c, (mkA xP xR xW xS xZ xG xK xT xQ xF xB xL xC, (nI un, nI sz, ft, nI wm, nI fm, nI bm, nI at_, nI bg, sg, nI fg, vl, wr), sd))) := by rw [itn_s] at ih; exact ih
          generalize itn (fun e s => s + (if (fun r => isM xF (nI r) fm) (i + e) = true then nI 1 else nI 0)) e (nI 0) = t1 at ih ⊢
          show V E X _ RX7 _ _ _ _ _ _ false 146 _ [(0, .ref (Ez E + 132)), (1, .int (nI w)), (2, .int m9), (5, .int w1), (6, .int r1), (7, .int (nI i)), (8, .int t1), (9, .int (nI (i + e)))] [] (cellOf E (c, (mkA xP xR xW xS xZ xG xK xT xQ xF xB xL xC, (nI un, nI sz, ft, nI wm, nI fm, nI bm, nI at_, nI bg, sg, nI fg, vl, wr), sd)))
          refine v_iload (pc := 138) 7 dX7_reach_138 rfl ?_
          refine v_bipush (pc := 140) (nI 51) dX7_reach_140 kB_51 ?_
          refine v_icmp_geN (pc := 142) (by omega) (by omega) (tgt := 170) dX7_reach_142 rfl (fun c_142 => False.elim ((fun c => by omega) c_142)) (fun c_142 => ?_)
          refine v_iload (pc := 145) 6 dX7_reach_145 rfl ?_
          refine v_aload_n (pc := 147) 0 dX7_reach_147 rfl rfl ?_
          refine v_iload (pc := 148) 7 dX7_reach_148 rfl ?_
          refine v_callV (pc := 150) _ _ k_X7_259 (cMr_obj) rfl (by decide) (m_isSo hfm _) ⟨rfl, rfl, by decide⟩ rfl rfl (Nat.le_of_ble_eq_true rfl) ⟨Nat.le_of_ble_eq_true rfl, Nat.le_of_ble_eq_true rfl⟩ dX7_reach_150 (unS ?_)
          show V E X _ RX7 _ _ _ 0 0 _ false 146 153 _ [_, _] _
          refine v_if_eqB (pc := 153) (tgt := 160) dX7_reach_153 rfl (fun c_153 => ?_) (fun c_153 => ?_)
          · refine v_iconst (pc := 160) (nI 0) dX7_reach_160 kI_0 ?_
            refine v_iadd (pc := 161) dX7_reach_161 ?_
            refine v_istore (pc := 162) [1, 2, 3, 4, 5, 6, 0, 7] [(0, _), (1, _), (2, _), (5, _), (6, _), (7, _), (8, _), (9, _)] dX7_reach_162 (by decide) rfl ?_
            refine v_iincN (pc := 164) 7 [1, 2, 3, 4, 5, 6, 7, 0] [(0, _), (1, _), (2, _), (5, _), (6, _), (7, _), (8, _), (9, _)] kI_1 dX7_reach_164 rfl (by decide) rfl ?_
            refine v_goto (pc := 167) (tgt := 138) dX7_reach_167 rfl ?_
            rw [if_neg (show ¬ isM xF (nI (i + e)) fm = true by rw [c_153]; decide)] at ih
            exact ih
          · refine v_iconst (pc := 156) (nI 1) dX7_reach_156 kI_1 ?_
            refine v_goto (pc := 157) (tgt := 161) dX7_reach_157 rfl ?_
            refine v_iadd (pc := 161) dX7_reach_161 ?_
            refine v_istore (pc := 162) [1, 2, 3, 4, 5, 6, 0, 7] [(0, _), (1, _), (2, _), (5, _), (6, _), (7, _), (8, _), (9, _)] dX7_reach_162 (by decide) rfl ?_
            refine v_iincN (pc := 164) 7 [1, 2, 3, 4, 5, 6, 7, 0] [(0, _), (1, _), (2, _), (5, _), (6, _), (7, _), (8, _), (9, _)] kI_1 dX7_reach_164 rfl (by decide) rfl ?_
            refine v_goto (pc := 167) (tgt := 138) dX7_reach_167 rfl ?_
            rw [if_pos (show isM xF (nI (i + e)) fm = true from c_153)] at ih
            exact ih
    · refine v_iload_n (pc := 95) 1 dX7_reach_95 rfl rfl ?_
      refine v_if_neN (pc := 96) (by omega) (tgt := 103) dX7_reach_96 rfl (fun c_96 => ?_) (fun c_96 => ?_)
      · refine v_iload_n (pc := 103) 1 dX7_reach_103 rfl rfl ?_
        refine v_iconst (pc := 104) (nI 1) dX7_reach_104 kI_1 ?_
        refine v_icmp_neN (pc := 105) (by omega) (by omega) (tgt := 112) dX7_reach_105 rfl (fun c_105 => ?_) (fun c_105 => ?_)
        · refine v_iload (pc := 112) 4 dX7_reach_112 rfl ?_
          exact v_iret (pc := 114) dX7_reach_114 (⟨by unfold reM; rw [if_pos (by omega), if_neg (by omega), if_neg (by omega), show reN (fun r => isM xF (nI r) fm) 51 = (m9, e9, g9) from hr9], rfl⟩)
        · refine v_iload_n (pc := 108) 3 dX7_reach_108 rfl rfl ?_
          refine v_goto (pc := 109) (tgt := 114) dX7_reach_109 rfl ?_
          exact v_iret (pc := 114) dX7_reach_114 (⟨by unfold reM; rw [if_pos (by omega), if_neg (by omega), if_pos (by omega), show reN (fun r => isM xF (nI r) fm) 51 = (m9, e9, g9) from hr9], rfl⟩)
      · refine v_iload_n (pc := 99) 2 dX7_reach_99 rfl rfl ?_
        refine v_goto (pc := 100) (tgt := 114) dX7_reach_100 rfl ?_
        exact v_iret (pc := 114) dX7_reach_114 (⟨by unfold reM; rw [if_pos (by omega), if_pos (by omega), show reN (fun r => isM xF (nI r) fm) 51 = (m9, e9, g9) from hr9], rfl⟩)
  · intro i hi ih
    have ih : V E X ({ frames := 2, cells := 0, slots := 0, locals := 48 } : Room) RX7 cX7_reach 10 (some .int) 0 0 (QX E X false 146 (Ff (some (.int (reM (fun r => isM xF (nI r) fm) w))) (cellOf E (c, (mkA xP xR xW xS xZ xG xK xT xQ xF xB xL xC, (nI un, nI sz, ft, nI wm, nI fm, nI bm, nI at_, nI bg, sg, nI fg, vl, wr), sd)))) 0 0) false 146 25 [(0, .ref (Ez E + 132)), (1, .int (nI w)), (2, .int (st_re (fun r => isM xF (nI r) fm) i (itn (st_re (fun r => isM xF (nI r) fm)) i (nI 0, -1, -1))).1), (3, .int (st_re (fun r => isM xF (nI r) fm) i (itn (st_re (fun r => isM xF (nI r) fm)) i (nI 0, -1, -1))).2.1), (4, .int (st_re (fun r => isM xF (nI r) fm) i (itn (st_re (fun r => isM xF (nI r) fm)) i (nI 0, -1, -1))).2.2), (5, .int (nI (i + 1)))] [] (cellOf E (c, (mkA xP xR xW xS xZ xG xK xT xQ xF xB xL xC, (nI un, nI sz, ft, nI wm, nI fm, nI bm, nI at_, nI bg, sg, nI fg, vl, wr), sd))) := by rw [itn_s] at ih; exact ih
    generalize itn (st_re (fun r => isM xF (nI r) fm)) i (nI 0, -1, -1) = z_ at ih ⊢
    obtain ⟨m1, e1, g1⟩ := z_
    show V E X _ RX7 _ _ _ _ _ _ false 146 _ [(0, .ref (Ez E + 132)), (1, .int (nI w)), (2, .int m1), (3, .int e1), (4, .int g1), (5, .int (nI i))] [] (cellOf E (c, (mkA xP xR xW xS xZ xG xK xT xQ xF xB xL xC, (nI un, nI sz, ft, nI wm, nI fm, nI bm, nI at_, nI bg, sg, nI fg, vl, wr), sd)))
    refine v_iload (pc := 25) 5 dX7_reach_25 rfl ?_
    refine v_bipush (pc := 27) (nI 51) dX7_reach_27 kB_51 ?_
    refine v_icmp_geN (pc := 29) (by omega) (by omega) (tgt := 90) dX7_reach_29 rfl (fun c_29 => False.elim ((fun c => by omega) c_29)) (fun c_29 => ?_)
    refine v_aload_n (pc := 32) 0 dX7_reach_32 rfl rfl ?_
    refine v_iload (pc := 33) 5 dX7_reach_33 rfl ?_
    refine v_callV (pc := 35) _ _ k_X7_259 (cMr_obj) rfl (by decide) (m_isSo hfm _) ⟨rfl, rfl, by decide⟩ rfl rfl (Nat.le_of_ble_eq_true rfl) ⟨Nat.le_of_ble_eq_true rfl, Nat.le_of_ble_eq_true rfl⟩ dX7_reach_35 (unS ?_)
    show V E X _ RX7 _ _ _ 0 0 _ false 146 38 _ [_] _
    refine v_istore (pc := 38) [1, 2, 3, 4, 5, 6, 0] [(0, _), (1, _), (2, _), (3, _), (4, _), (5, _), (6, _)] dX7_reach_38 (by decide) rfl ?_
    refine v_iload_n (pc := 40) 2 dX7_reach_40 rfl rfl ?_
    refine v_iload (pc := 41) 6 dX7_reach_41 rfl ?_
    refine v_if_eqB (pc := 43) (tgt := 50) dX7_reach_43 rfl (fun c_43 => ?_) (fun c_43 => ?_)
    · refine v_iconst (pc := 50) (nI 0) dX7_reach_50 kI_0 ?_
      refine v_iadd (pc := 51) dX7_reach_51 ?_
      refine v_istore_n (pc := 52) [1, 2, 0, 3, 4, 5, 6] [(0, _), (1, _), (2, _), (3, _), (4, _), (5, _), (6, _)] dX7_reach_52 rfl (by decide) rfl ?_
      refine v_iload (pc := 53) 6 dX7_reach_53 rfl ?_
      refine v_if_eqB (pc := 55) (tgt := 68) dX7_reach_55 rfl (fun c_55 => ?_) (fun c_55 => False.elim ((fun q => by rw [c_43] at q; exact Bool.noConfusion q) c_55))
      refine v_iload_n (pc := 68) 3 dX7_reach_68 rfl rfl ?_
      refine v_istore_n (pc := 69) [1, 2, 3, 0, 4, 5, 6] [(0, _), (1, _), (2, _), (3, _), (4, _), (5, _), (6, _)] dX7_reach_69 rfl (by decide) rfl ?_
      refine v_iload (pc := 70) 6 dX7_reach_70 rfl ?_
      refine v_if_eqB (pc := 72) (tgt := 80) dX7_reach_72 rfl (fun c_72 => ?_) (fun c_72 => False.elim ((fun q => by rw [c_43] at q; exact Bool.noConfusion q) c_72))
      refine v_iload (pc := 80) 4 dX7_reach_80 rfl ?_
      refine v_istore (pc := 82) [1, 2, 3, 4, 0, 5, 6] [(0, _), (1, _), (2, _), (3, _), (4, _), (5, _), (6, _)] dX7_reach_82 (by decide) rfl ?_
      refine v_iincN (pc := 84) 5 [1, 2, 3, 4, 5, 0, 6] [(0, _), (1, _), (2, _), (3, _), (4, _), (5, _), (6, _)] kI_1 dX7_reach_84 rfl (by decide) rfl ?_
      refine v_goto (pc := 87) (tgt := 25) dX7_reach_87 rfl ?_
      refine v_sub [0, 1, 2, 3, 4, 5] rfl ?_
      rw [show st_re (fun r => isM xF (nI r) fm) i (m1, e1, g1) = (m1 + nI 0, e1, g1) from by unfold st_re; rw [if_neg (show ¬ isM xF (nI i) fm = true by rw [c_43]; decide), if_neg (fun q => (show ¬ isM xF (nI i) fm = true by rw [c_43]; decide) q.1), if_neg (show ¬ isM xF (nI i) fm = true by rw [c_43]; decide)]] at ih
      exact ih
    · refine v_iconst (pc := 46) (nI 1) dX7_reach_46 kI_1 ?_
      refine v_goto (pc := 47) (tgt := 51) dX7_reach_47 rfl ?_
      refine v_iadd (pc := 51) dX7_reach_51 ?_
      refine v_istore_n (pc := 52) [1, 2, 0, 3, 4, 5, 6] [(0, _), (1, _), (2, _), (3, _), (4, _), (5, _), (6, _)] dX7_reach_52 rfl (by decide) rfl ?_
      refine v_iload (pc := 53) 6 dX7_reach_53 rfl ?_
      refine v_if_eqB (pc := 55) (tgt := 68) dX7_reach_55 rfl (fun c_55 => False.elim ((fun q => by rw [c_43] at q; exact Bool.noConfusion q) c_55)) (fun c_55 => ?_)
      refine v_iload_n (pc := 58) 3 dX7_reach_58 rfl rfl ?_
      refine v_iconst (pc := 59) (-1) dX7_reach_59 kI_m1 ?_
      refine v_icmp_ne (pc := 60) (tgt := 68) dX7_reach_60 rfl (fun c_60 => ?_) (fun c_60 => ?_)
      · refine v_iload_n (pc := 68) 3 dX7_reach_68 rfl rfl ?_
        refine v_istore_n (pc := 69) [1, 2, 3, 0, 4, 5, 6] [(0, _), (1, _), (2, _), (3, _), (4, _), (5, _), (6, _)] dX7_reach_69 rfl (by decide) rfl ?_
        refine v_iload (pc := 70) 6 dX7_reach_70 rfl ?_
        refine v_if_eqB (pc := 72) (tgt := 80) dX7_reach_72 rfl (fun c_72 => False.elim ((fun q => by rw [c_43] at q; exact Bool.noConfusion q) c_72)) (fun c_72 => ?_)
        refine v_iload (pc := 75) 5 dX7_reach_75 rfl ?_
        refine v_goto (pc := 77) (tgt := 82) dX7_reach_77 rfl ?_
        refine v_istore (pc := 82) [1, 2, 3, 4, 0, 5, 6] [(0, _), (1, _), (2, _), (3, _), (4, _), (5, _), (6, _)] dX7_reach_82 (by decide) rfl ?_
        refine v_iincN (pc := 84) 5 [1, 2, 3, 4, 5, 0, 6] [(0, _), (1, _), (2, _), (3, _), (4, _), (5, _), (6, _)] kI_1 dX7_reach_84 rfl (by decide) rfl ?_
        refine v_goto (pc := 87) (tgt := 25) dX7_reach_87 rfl ?_
        refine v_sub [0, 1, 2, 3, 4, 5] rfl ?_
        rw [show st_re (fun r => isM xF (nI r) fm) i (m1, e1, g1) = (m1 + nI 1, e1, nI i) from by unfold st_re; rw [if_pos (show isM xF (nI i) fm = true from c_43), if_neg (fun q => c_60 q.2), if_pos (show isM xF (nI i) fm = true from c_43)]] at ih
        exact ih
      · refine v_iload (pc := 63) 5 dX7_reach_63 rfl ?_
        refine v_goto (pc := 65) (tgt := 69) dX7_reach_65 rfl ?_
        refine v_istore_n (pc := 69) [1, 2, 3, 0, 4, 5, 6] [(0, _), (1, _), (2, _), (3, _), (4, _), (5, _), (6, _)] dX7_reach_69 rfl (by decide) rfl ?_
        refine v_iload (pc := 70) 6 dX7_reach_70 rfl ?_
        refine v_if_eqB (pc := 72) (tgt := 80) dX7_reach_72 rfl (fun c_72 => False.elim ((fun q => by rw [c_43] at q; exact Bool.noConfusion q) c_72)) (fun c_72 => ?_)
        refine v_iload (pc := 75) 5 dX7_reach_75 rfl ?_
        refine v_goto (pc := 77) (tgt := 82) dX7_reach_77 rfl ?_
        refine v_istore (pc := 82) [1, 2, 3, 4, 0, 5, 6] [(0, _), (1, _), (2, _), (3, _), (4, _), (5, _), (6, _)] dX7_reach_82 (by decide) rfl ?_
        refine v_iincN (pc := 84) 5 [1, 2, 3, 4, 5, 0, 6] [(0, _), (1, _), (2, _), (3, _), (4, _), (5, _), (6, _)] kI_1 dX7_reach_84 rfl (by decide) rfl ?_
        refine v_goto (pc := 87) (tgt := 25) dX7_reach_87 rfl ?_
        refine v_sub [0, 1, 2, 3, 4, 5] rfl ?_
        rw [show st_re (fun r => isM xF (nI r) fm) i (m1, e1, g1) = (m1 + nI 1, nI i, nI i) from by unfold st_re; rw [if_pos (show isM xF (nI i) fm = true from c_43), if_pos ⟨(show isM xF (nI i) fm = true from c_43), c_60⟩, if_pos (show isM xF (nI i) fm = true from c_43)]] at ih
        exact ih
set_option maxHeartbeats 4000000 in
set_option maxRecDepth 100000 in
theorem m_reach1 {E : Ev} {c : CSt} {xP xR xW xS xZ xG xK xT xQ xF xB xL xC : Fn} {un sz wm fm bm at_ bg fg : Nat} {ft sg vl wr : Int32} {sd : Int64} {w : Int32} (hw : outB w (nI 0) (nI 3) = true) : Ct E yX7_reach cX7_reach 10 (some .int) ({ frames := 2, cells := 0, slots := 0, locals := 48 } : Room) false 146 [.ref (Ez E + 132), .int w] (cellOf E (c, (mkA xP xR xW xS xZ xG xK xT xQ xF xB xL xC, (nI un, nI sz, ft, nI wm, nI fm, nI bm, nI at_, nI bg, sg, nI fg, vl, wr), sd))) 146 0 0 (Ff (some (.int (cOUT))) (cellOf E (c, (mkA xP xR xW xS xZ xG xK xT xQ xF xB xL xC, (nI un, nI sz, ft, nI wm, nI fm, nI bm, nI at_, nI bg, sg, nI fg, vl, wr), sd)))) := by
  refine Ct.ofV (by decide) (Nat.le_of_ble_eq_true rfl) (fun X hnm => ?_)
  show V E X _ RX7 _ _ _ _ _ _ false 146 0 [(0, .ref (Ez E + 132)), (1, .int w)] [] _
  refine v_iload_n (pc := 0) 1 dX7_reach_0 rfl rfl ?_
  refine v_i2l (pc := 1) dX7_reach_1 ?_
  refine v_lconst (pc := 2) ((nI 0).toInt64) dX7_reach_2 (by decide) ?_
  refine v_ldc2 (pc := 3) ((nI 3).toInt64) kl_X7_257 dX7_reach_3 (by decide) ?_
  refine v_callS (pc := 6) _ _ k_X7_72 (m_in _ _ _) ⟨rfl, rfl, by decide⟩ rfl rfl (Nat.le_of_ble_eq_true rfl) ⟨Nat.le_of_ble_eq_true rfl, Nat.le_of_ble_eq_true rfl⟩ dX7_reach_6 (unS ?_)
  show V E X _ RX7 _ _ _ 0 0 _ false 146 9 _ [_] _
  refine v_if_neB (pc := 9) (tgt := 15) dX7_reach_9 rfl (fun c_9 => False.elim ((fun q => by rw [inB_o hw] at q; exact Bool.noConfusion q) c_9)) (fun c_9 => ?_)
  refine v_ldc (pc := 12) _ kc_X7_76 dX7_reach_12 rfl ?_
  exact v_iret (pc := 14) dX7_reach_14 (⟨rfl, rfl⟩)
theorem m_fly_o {s : Fn} {fr to n : Int32} (h1 : plc fr) (h2 : plc to) {i : Nat} (hi : (16 ≤ i ∧ i < 26) ∨ (7 ≤ i ∧ i < 15)) (ht : Trc s) : m_fly s fr to n i = s i := by
  unfold m_fly
  split
  · exact m_mv_o h1 h2 (by omega)
  · obtain ⟨t, h19, e⟩ := m_tr0_27 (m_mv_trc (n := n) ht h1 h2)
    unfold m_tr m_tr1
    rw [show upd (m_tr0 (m_mv s fr to n)) 26 to 27 = nI t from by rw [upd_ne (by decide), e], nI_add, nI_clamp (by omega), upd_ne (by omega), upd_ne (by omega), upd_ne (by omega)]
    unfold m_tr0
    split
    · rw [upd_ne (by omega), show m_shift (m_mv s fr to n) i = m_mv s fr to n i from m_shift_o (Or.inl (by omega)) 19 (Nat.le_refl _)]; exact m_mv_o h1 h2 (by omega)
    · exact m_mv_o h1 h2 (by omega)
theorem m_go_o {l s : Fn} {d : Int32} (h : Trc s) (hd : plc d) {i : Nat} (hi : (16 ≤ i ∧ i < 26) ∨ (7 ≤ i ∧ i < 15)) : ∀ n, n ≤ 7 → m_go l d n s i = s i
  | 0, _ => rfl
  | n + 1, hn => by
    show (if nI n = d then m_go l d n s else m_fly (m_go l d n s) (nI n) d (l n)) i = s i
    have ih := m_go_o (l := l) h hd hi n (by omega)
    split
    · exact ih
    · rw [m_fly_o (plc_n (by omega)) hd hi (m_go_trc h hd n (by omega))]; exact ih
theorem m_hr_16 {P s l : Fn} {n : Nat} (h : Trc s) (hn : n ≤ 7) : m_hr P s l n 16 = s 16 + nI 1 := by
  unfold m_hr
  rw [upd_self, m_half_o (Or.inr (by omega)) n hn, m_go_o h (m_drw_plc s n hn) (Or.inl (by omega)) n hn]
def mh1 (P : Fn) (np : Nat) (z : Fn × Fn) : Fn × Fn := (m_hr P z.1 z.2 np, m_lo P z.1 z.2 np)
def kpM (P : Fn) (np : Nat) : Nat → Fn × Fn → Fn × Fn
  | 0, z => z
  | f + 1, z => if z.1 16 - z.1 16 / P 1 * P 1 = 0 then z else kpM P np f (mh1 P np z)
theorem kpM_d {P : Fn} {np f : Nat} {z : Fn × Fn} (h : z.1 16 - z.1 16 / P 1 * P 1 = 0) : kpM P np f z = z := by
  cases f with
  | zero => rfl
  | succ f => exact if_pos h
set_option maxHeartbeats 4000000 in
set_option maxRecDepth 100000 in
theorem m_kept {E : Ev} {c : CSt} {xP xR xW xS xZ xG xK xT xQ xF xB xL xC : Fn} {un sz wm fm bm at_ bg fg : Nat} {ft sg vl wr : Int32} {sd : Int64} {np : Nat} (hp : xP 2 = nI np) (hnp : np ≤ 7) (htw : Trc xW) {du hh : Nat} (hdu : xP 1 = nI du) (hd1 : 1 ≤ du) (hd24 : du ≤ 24) (hhh : xW 16 = nI hh) (hh1 : hh ≤ 100000) {a : Nat} (ha : a < np) : Ct E yX7_kept cX7_kept 2 (some .int) ({ frames := 4, cells := 0, slots := 0, locals := 89 } : Room) false 146 [.ref (Ez E + 132), .int (nI a)] (cellOf E (c, (mkA xP xR xW xS xZ xG xK xT xQ xF xB xL xC, (nI un, nI sz, ft, nI wm, nI fm, nI bm, nI at_, nI bg, sg, nI fg, vl, wr), sd))) 146 0 0 (Ff (some (.int ((kpM xP np 23 (mh1 xP np (cpA xW 0 xS 0 48, xL))).1 (0 + a)))) (cellOf E (c, (mkA xP xR xW ((kpM xP np 23 (mh1 xP np (cpA xW 0 xS 0 48, xL))).1) xZ xG xK xT xQ xF xB ((kpM xP np 23 (mh1 xP np (cpA xW 0 xS 0 48, xL))).2) xC, (nI un, nI sz, ft, nI wm, nI fm, nI bm, nI at_, nI bg, sg, nI fg, vl, wr), sd)))) := by
  have htb := lay_trc (S := xS) htw
  have hdu0 : ¬ xP 1 = 0 := by rw [hdu]; exact nI_ne0 (by omega) (by omega)
  have hS16 : (cpA xW 0 xS 0 48) 16 = nI hh := by have q := cpA_at (a := xW) (b := xS) (i := 0) (j := 0) (n := 48) (k := 16) (by decide); rw [Nat.zero_add] at q; rw [q, hhh]
  have hT0 : Trc (m_hr xP (cpA xW 0 xS 0 48) xL np) := m_hr_trc htb hnp
  obtain ⟨k0, hk0⟩ : ∃ k0, k0 = hh + 1 := ⟨_, rfl⟩
  have h160 : m_hr xP (cpA xW 0 xS 0 48) xL np 16 = nI k0 := by rw [m_hr_16 htb hnp, hS16, nI_add, hk0]
  obtain ⟨T, hT1_, hT2, hTm⟩ : ∃ T, k0 ≤ T ∧ T ≤ k0 + 23 ∧ nI (T % du) = 0 := by
    have q1 := Nat.mod_lt k0 (show 0 < du by omega)
    by_cases q : k0 % du = 0
    · exact ⟨k0, by omega, by omega, by rw [q]; rfl⟩
    · refine ⟨k0 + (du - k0 % du), by omega, by omega, ?_⟩
      have q2 := Nat.div_add_mod k0 du
      rw [show k0 + (du - k0 % du) = du * (k0 / du + 1) by rw [Nat.mul_add]; omega, Nat.mul_mod_right]; rfl
  refine Ct.ofV (by decide) (Nat.le_of_ble_eq_true rfl) (fun X hnm => ?_)
  show V E X _ RX7 _ _ _ _ _ _ false 146 0 [(0, .ref (Ez E + 132)), (1, .int (nI a))] [] _
  refine v_aload_n (pc := 0) 0 dX7_kept_0 rfl rfl ?_
  refine v_iload_n (pc := 1) 1 dX7_kept_1 rfl rfl ?_
  refine v_callV (pc := 2) _ _ k_X7_180 (cMr_obj) rfl (by decide) (m_isPn hp hnp _) ⟨rfl, rfl, by decide⟩ rfl rfl (Nat.le_of_ble_eq_true rfl) ⟨Nat.le_of_ble_eq_true rfl, Nat.le_of_ble_eq_true rfl⟩ dX7_kept_2 (unS ?_)
  show V E X _ RX7 _ _ _ 0 0 _ false 146 5 _ [_] _
  refine v_if_neB (pc := 5) (tgt := 11) dX7_kept_5 rfl (fun c_5 => ?_) (fun c_5 => False.elim ((fun q => by rw [perB_t ha (by omega)] at q; exact Bool.noConfusion q) c_5))
  refine v_aload_n (pc := 11) 0 dX7_kept_11 rfl rfl ?_
  refine v_callV (pc := 12) _ _ k_X7_232 (cMr_obj) rfl (by decide) (m_lay) ⟨rfl, rfl, by decide⟩ rfl rfl (Nat.le_of_ble_eq_true rfl) ⟨Nat.le_of_ble_eq_true rfl, Nat.le_of_ble_eq_true rfl⟩ dX7_kept_12 (unS ?_)
  show V E X _ RX7 _ _ _ 0 0 _ false 146 15 _ [] _
  refine v_aload_n (pc := 15) 0 dX7_kept_15 rfl rfl ?_
  refine v_aload_n (pc := 16) 0 dX7_kept_16 rfl rfl ?_
  refine g_X7_19 (pc := 17) (cMr_obj) (by decide) rfl dX7_kept_17 ?_
  refine v_iconst (pc := 20) (nI 0) dX7_kept_20 kI_0 ?_
  refine v_callV (pc := 21) _ _ k_X7_208 (cMr_obj) rfl (by decide) (m_hourSF hp hnp htb) ⟨rfl, rfl, by decide⟩ rfl rfl (Nat.le_of_ble_eq_true rfl) ⟨Nat.le_of_ble_eq_true rfl, Nat.le_of_ble_eq_true rfl⟩ dX7_kept_21 (unS ?_)
  show V E X _ RX7 _ _ _ 0 0 _ false 146 24 _ [] _
  have hl_24 : ∀ (m_ : Nat) (f : Nat) (k : Nat) (f1 : Fn) (l1 : Fn), T - k < m_ → (k ≤ T) → (T - k ≤ f) → (f1 16 = nI k) → (Trc f1) → (kpM xP np f (f1, l1) = kpM xP np 23 (mh1 xP np (cpA xW 0 xS 0 48, xL))) → V E X ({ frames := 4, cells := 0, slots := 0, locals := 89 } : Room) RX7 cX7_kept 2 (some .int) 0 0 (QX E X false 146 (Ff (some (.int ((kpM xP np 23 (mh1 xP np (cpA xW 0 xS 0 48, xL))).1 (0 + a)))) (cellOf E (c, (mkA xP xR xW ((kpM xP np 23 (mh1 xP np (cpA xW 0 xS 0 48, xL))).1) xZ xG xK xT xQ xF xB ((kpM xP np 23 (mh1 xP np (cpA xW 0 xS 0 48, xL))).2) xC, (nI un, nI sz, ft, nI wm, nI fm, nI bm, nI at_, nI bg, sg, nI fg, vl, wr), sd)))) 0 0) false 146 24 [(0, .ref (Ez E + 132)), (1, .int (nI a))] [] (cellOf E (c, (mkA xP xR xW f1 xZ xG xK xT xQ xF xB l1 xC, (nI un, nI sz, ft, nI wm, nI fm, nI bm, nI at_, nI bg, sg, nI fg, vl, wr), sd))) := by
    intro m_
    induction m_ with
    | zero => intro f k f1 l1 hm; exact absurd hm (Nat.not_lt_zero _)
    | succ m_ ihm =>
      intro f k f1 l1 hm hk hf h16 hT1 hs1
      refine v_aload_n (pc := 24) 0 dX7_kept_24 rfl rfl ?_
      refine g_X7_19 (pc := 25) (cMr_obj) (by decide) rfl dX7_kept_25 ?_
      refine v_bipush (pc := 28) (nI 16) dX7_kept_28 kB_16 ?_
      refine v_ialdN (pc := 30) (cM_aside) (by decide) (by omega) (by decide) dX7_kept_30 ?_
      refine v_aload_n (pc := 31) 0 dX7_kept_31 rfl rfl ?_
      refine g_X7_7 (pc := 32) (cMr_obj) (by decide) rfl dX7_kept_32 ?_
      refine v_iconst (pc := 35) (nI 1) dX7_kept_35 kI_1 ?_
      refine v_ialdN (pc := 36) (cM_parish) (by decide) (by omega) (by decide) dX7_kept_36 ?_
      refine v_irem (pc := 37) dX7_kept_37 (hdu0) ?_
      refine v_if_eq (pc := 38) (tgt := 53) dX7_kept_38 rfl (fun c_38 => ?_) (fun c_38 => ?_)
      · refine v_aload_n (pc := 53) 0 dX7_kept_53 rfl rfl ?_
        refine g_X7_19 (pc := 54) (cMr_obj) (by decide) rfl dX7_kept_54 ?_
        refine v_iconst (pc := 57) (nI 0) dX7_kept_57 kI_0 ?_
        refine v_iload_n (pc := 58) 1 dX7_kept_58 rfl rfl ?_
        refine v_iaddN (pc := 59) dX7_kept_59 ?_
        refine v_ialdN (pc := 60) (cM_aside) (by decide) (by omega) (by decide) dX7_kept_60 ?_
        exact v_iret (pc := 61) dX7_kept_61 (⟨by rw [← hs1, kpM_d (z := (f1, l1)) c_38], by rw [← hs1, kpM_d (z := (f1, l1)) c_38]⟩)
      · refine v_aload_n (pc := 41) 0 dX7_kept_41 rfl rfl ?_
        refine v_aload_n (pc := 42) 0 dX7_kept_42 rfl rfl ?_
        refine g_X7_19 (pc := 43) (cMr_obj) (by decide) rfl dX7_kept_43 ?_
        refine v_iconst (pc := 46) (nI 0) dX7_kept_46 kI_0 ?_
        refine v_callV (pc := 47) _ _ k_X7_208 (cMr_obj) rfl (by decide) (m_hourSF hp hnp hT1) ⟨rfl, rfl, by decide⟩ rfl rfl (Nat.le_of_ble_eq_true rfl) ⟨Nat.le_of_ble_eq_true rfl, Nat.le_of_ble_eq_true rfl⟩ dX7_kept_47 (unS ?_)
        show V E X _ RX7 _ _ _ 0 0 _ false 146 50 _ [] _
        refine v_goto (pc := 50) (tgt := 24) dX7_kept_50 rfl ?_
        have hkT : k < T := by rcases Nat.lt_or_ge k T with q | q; exact q; exact absurd (by rw [h16, hdu, pk_rem (by omega) (by omega) (by omega), show k = T by omega, hTm]) c_38
        exact ihm (f - 1) (k + 1) _ _ (by omega) (by omega) (by omega) (by rw [m_hr_16 hT1 hnp, h16, nI_add]) (m_hr_trc hT1 hnp) (by rw [← hs1, show f = (f - 1) + 1 by omega]; exact (if_neg (show ¬ f1 16 - f1 16 / xP 1 * xP 1 = 0 from c_38)).symm)
  exact hl_24 (T - k0 + 1) 23 k0 _ _ (by omega) (by omega) (by omega) h160 hT0 rfl
set_option maxHeartbeats 4000000 in
set_option maxRecDepth 100000 in
theorem m_kept1 {E : Ev} {c : CSt} {xP xR xW xS xZ xG xK xT xQ xF xB xL xC : Fn} {un sz wm fm bm at_ bg fg : Nat} {ft sg vl wr : Int32} {sd : Int64} {np : Nat} (hp : xP 2 = nI np) (hnp : np ≤ 7) {a : Int32} (ha : perB a np = false) : Ct E yX7_kept cX7_kept 2 (some .int) ({ frames := 4, cells := 0, slots := 0, locals := 89 } : Room) false 146 [.ref (Ez E + 132), .int a] (cellOf E (c, (mkA xP xR xW xS xZ xG xK xT xQ xF xB xL xC, (nI un, nI sz, ft, nI wm, nI fm, nI bm, nI at_, nI bg, sg, nI fg, vl, wr), sd))) 146 0 0 (Ff (some (.int (cUNK))) (cellOf E (c, (mkA xP xR xW xS xZ xG xK xT xQ xF xB xL xC, (nI un, nI sz, ft, nI wm, nI fm, nI bm, nI at_, nI bg, sg, nI fg, vl, wr), sd)))) := by
  refine Ct.ofV (by decide) (Nat.le_of_ble_eq_true rfl) (fun X hnm => ?_)
  show V E X _ RX7 _ _ _ _ _ _ false 146 0 [(0, .ref (Ez E + 132)), (1, .int a)] [] _
  refine v_aload_n (pc := 0) 0 dX7_kept_0 rfl rfl ?_
  refine v_iload_n (pc := 1) 1 dX7_kept_1 rfl rfl ?_
  refine v_callV (pc := 2) _ _ k_X7_180 (cMr_obj) rfl (by decide) (m_isPn hp hnp _) ⟨rfl, rfl, by decide⟩ rfl rfl (Nat.le_of_ble_eq_true rfl) ⟨Nat.le_of_ble_eq_true rfl, Nat.le_of_ble_eq_true rfl⟩ dX7_kept_2 (unS ?_)
  show V E X _ RX7 _ _ _ 0 0 _ false 146 5 _ [_] _
  refine v_if_neB (pc := 5) (tgt := 11) dX7_kept_5 rfl (fun c_5 => False.elim ((fun q => by rw [ha] at q; exact Bool.noConfusion q) c_5)) (fun c_5 => ?_)
  refine v_ldc (pc := 8) _ kc_X7_183 dX7_kept_8 rfl ?_
  exact v_iret (pc := 10) dX7_kept_10 (⟨rfl, rfl⟩)
