/-! the reference: undone, draws, debts, what is felt -/
def zSh (z : Fn) : Fn := itn (fun k f => upd f k (f (k + 48))) 720 z
def remZ (z w : Fn) (un : Nat) : Fn := if un = 16 then cpA w 0 (zSh z) (48 * 15) 48 else cpA w 0 z (48 * un) 48
def remU (un : Nat) : Nat := if un = 16 then 16 else un + 1
set_option maxHeartbeats 4000000 in
set_option maxRecDepth 100000 in
theorem m_remember {E : Ev} {c : CSt} {xP xR xW xS xZ xG xK xT xQ xF xB xL xC : Fn} {un sz wm fm bm at_ bg fg : Nat} {ft sg vl wr : Int32} {sd : Int64} (hun : un ≤ 16) : Ct E yX7_remember cX7_remember 2 none ({ frames := 1, cells := 0, slots := 0, locals := 25 } : Room) false 146 [.ref (Ez E + 132)] (cellOf E (c, (mkA xP xR xW xS xZ xG xK xT xQ xF xB xL xC, (nI un, nI sz, ft, nI wm, nI fm, nI bm, nI at_, nI bg, sg, nI fg, vl, wr), sd))) 146 0 0 (Ff none (cellOf E (c, (mkA xP xR xW xS (remZ xZ xW un) xG xK xT xQ xF xB xL xC, (nI (remU un), nI sz, ft, nI wm, nI fm, nI bm, nI at_, nI bg, sg, nI fg, vl, wr), sd)))) := by
  refine Ct.ofV (by decide) (Nat.le_of_ble_eq_true rfl) (fun X hnm => ?_)
  show V E X _ RX7 _ _ _ _ _ _ false 146 0 [(0, .ref (Ez E + 132))] [] _
  refine v_aload_n (pc := 0) 0 dX7_remember_0 rfl rfl ?_
  refine g_X7_58 (pc := 1) (cMr_obj) (by decide) rfl dX7_remember_1 ?_
  refine v_bipush (pc := 4) (nI 16) dX7_remember_4 kB_16 ?_
  refine v_icmp_neN (pc := 6) (by omega) (by omega) (tgt := 49) dX7_remember_6 rfl (fun c_6 => ?_) (fun c_6 => ?_)
  · refine v_aload_n (pc := 49) 0 dX7_remember_49 rfl rfl ?_
    refine g_X7_16 (pc := 50) (cMr_obj) (by decide) rfl dX7_remember_50 ?_
    refine v_iconst (pc := 53) (nI 0) dX7_remember_53 kI_0 ?_
    refine v_aload_n (pc := 54) 0 dX7_remember_54 rfl rfl ?_
    refine g_X7_22 (pc := 55) (cMr_obj) (by decide) rfl dX7_remember_55 ?_
    refine v_bipush (pc := 58) (nI 48) dX7_remember_58 kB_48 ?_
    refine v_aload_n (pc := 60) 0 dX7_remember_60 rfl rfl ?_
    refine g_X7_58 (pc := 61) (cMr_obj) (by decide) rfl dX7_remember_61 ?_
    refine v_imulN (pc := 64) dX7_remember_64 ?_
    refine v_bipush (pc := 65) (nI 48) dX7_remember_65 kB_48 ?_
    refine v_callS (pc := 67) _ _ k_X7_54 (m_cp_now_past (by omega) (by omega)) ⟨rfl, rfl, by decide⟩ rfl rfl (Nat.le_of_ble_eq_true rfl) ⟨Nat.le_of_ble_eq_true rfl, Nat.le_of_ble_eq_true rfl⟩ dX7_remember_67 (unS ?_)
    show V E X _ RX7 _ _ _ 0 0 _ false 146 70 _ [] _
    refine v_aload_n (pc := 70) 0 dX7_remember_70 rfl rfl ?_
    refine v_dup (pc := 71) dX7_remember_71 rfl ?_
    refine g_X7_58 (pc := 72) (cMr_obj) (by decide) rfl dX7_remember_72 ?_
    refine v_iconst (pc := 75) (nI 1) dX7_remember_75 kI_1 ?_
    refine v_iaddN (pc := 76) dX7_remember_76 ?_
    refine p_X7_58 (pc := 77) (cMr_obj) (by decide) rfl rfl (Nat.le_of_ble_eq_true rfl) dX7_remember_77 (wM_un) ?_
    exact v_vret (pc := 80) dX7_remember_80 (⟨rfl, by unfold remU; rw [show remZ xZ xW un = _ from if_neg c_6, if_neg c_6]⟩)
  · refine v_iconst (pc := 9) (nI 0) dX7_remember_9 kI_0 ?_
    refine v_istore_n (pc := 10) [1, 0] [(0, _), (1, _)] dX7_remember_10 rfl (by decide) rfl ?_
    refine dn (P := fun i => V E X ({ frames := 1, cells := 0, slots := 0, locals := 25 } : Room) RX7 cX7_remember 2 none 0 0 (QX E X false 146 (Ff none (cellOf E (c, (mkA xP xR xW xS (remZ xZ xW un) xG xK xT xQ xF xB xL xC, (nI (remU un), nI sz, ft, nI wm, nI fm, nI bm, nI at_, nI bg, sg, nI fg, vl, wr), sd)))) 0 0) false 146 11 [(0, .ref (Ez E + 132)), (1, .int (nI i))] [] (cellOf E (c, (mkA xP xR xW xS (itn (fun k f => upd f k (f (k + 48))) i xZ) xG xK xT xQ xF xB xL xC, (nI un, nI sz, ft, nI wm, nI fm, nI bm, nI at_, nI bg, sg, nI fg, vl, wr), sd)))) (N := 720) ?_ ?_
    · generalize hz9 : itn (fun k f => upd f k (f (k + 48))) 720 xZ = z9 
      show V E X _ RX7 _ _ _ _ _ _ false 146 _ [(0, .ref (Ez E + 132)), (1, .int (nI 720))] [] (cellOf E (c, (mkA xP xR xW xS z9 xG xK xT xQ xF xB xL xC, (nI un, nI sz, ft, nI wm, nI fm, nI bm, nI at_, nI bg, sg, nI fg, vl, wr), sd)))
      refine v_iload_n (pc := 11) 1 dX7_remember_11 rfl rfl ?_
      refine v_sipush (pc := 12) (nI 720) dX7_remember_12 kS_720 ?_
      refine v_icmp_geN (pc := 15) (by omega) (by omega) (tgt := 39) dX7_remember_15 rfl (fun c_15 => ?_) (fun c_15 => False.elim ((fun c => by omega) c_15))
      refine v_aload_n (pc := 39) 0 dX7_remember_39 rfl rfl ?_
      refine v_dup (pc := 40) dX7_remember_40 rfl ?_
      refine g_X7_58 (pc := 41) (cMr_obj) (by decide) rfl dX7_remember_41 ?_
      refine v_iconst (pc := 44) (nI 1) dX7_remember_44 kI_1 ?_
      refine v_isubN (pc := 45) (by omega) dX7_remember_45 ?_
      refine p_X7_58 (pc := 46) (cMr_obj) (by decide) rfl rfl (Nat.le_of_ble_eq_true rfl) dX7_remember_46 (wM_un) ?_
      refine v_aload_n (pc := 49) 0 dX7_remember_49 rfl rfl ?_
      refine g_X7_16 (pc := 50) (cMr_obj) (by decide) rfl dX7_remember_50 ?_
      refine v_iconst (pc := 53) (nI 0) dX7_remember_53 kI_0 ?_
      refine v_aload_n (pc := 54) 0 dX7_remember_54 rfl rfl ?_
      refine g_X7_22 (pc := 55) (cMr_obj) (by decide) rfl dX7_remember_55 ?_
      refine v_bipush (pc := 58) (nI 48) dX7_remember_58 kB_48 ?_
      refine v_aload_n (pc := 60) 0 dX7_remember_60 rfl rfl ?_
      refine g_X7_58 (pc := 61) (cMr_obj) (by decide) rfl dX7_remember_61 ?_
      refine v_imulN (pc := 64) dX7_remember_64 ?_
      refine v_bipush (pc := 65) (nI 48) dX7_remember_65 kB_48 ?_
      refine v_callS (pc := 67) _ _ k_X7_54 (m_cp_now_past (by omega) (by omega)) ⟨rfl, rfl, by decide⟩ rfl rfl (Nat.le_of_ble_eq_true rfl) ⟨Nat.le_of_ble_eq_true rfl, Nat.le_of_ble_eq_true rfl⟩ dX7_remember_67 (unS ?_)
      show V E X _ RX7 _ _ _ 0 0 _ false 146 70 _ [] _
      refine v_aload_n (pc := 70) 0 dX7_remember_70 rfl rfl ?_
      refine v_dup (pc := 71) dX7_remember_71 rfl ?_
      refine g_X7_58 (pc := 72) (cMr_obj) (by decide) rfl dX7_remember_72 ?_
      refine v_iconst (pc := 75) (nI 1) dX7_remember_75 kI_1 ?_
      refine v_iaddN (pc := 76) dX7_remember_76 ?_
      refine p_X7_58 (pc := 77) (cMr_obj) (by decide) rfl rfl (Nat.le_of_ble_eq_true rfl) dX7_remember_77 (wM_un) ?_
      exact v_vret (pc := 80) dX7_remember_80 (⟨rfl, by unfold remU; rw [show remZ xZ xW un = cpA xW 0 z9 (48 * 15) 48 from (if_pos c_6).trans (by rw [show zSh xZ = z9 from hz9]), if_pos c_6, show un = 16 from c_6]⟩)
    · intro i hi ih
      have ih : V E X ({ frames := 1, cells := 0, slots := 0, locals := 25 } : Room) RX7 cX7_remember 2 none 0 0 (QX E X false 146 (Ff none (cellOf E (c, (mkA xP xR xW xS (remZ xZ xW un) xG xK xT xQ xF xB xL xC, (nI (remU un), nI sz, ft, nI wm, nI fm, nI bm, nI at_, nI bg, sg, nI fg, vl, wr), sd)))) 0 0) false 146 11 [(0, .ref (Ez E + 132)), (1, .int (nI (i + 1)))] [] (cellOf E (c, (mkA xP xR xW xS (upd (itn (fun k f => upd f k (f (k + 48))) i xZ) i ((itn (fun k f => upd f k (f (k + 48))) i xZ) (i + 48))) xG xK xT xQ xF xB xL xC, (nI un, nI sz, ft, nI wm, nI fm, nI bm, nI at_, nI bg, sg, nI fg, vl, wr), sd))) := by rw [itn_s] at ih; exact ih
      generalize itn (fun k f => upd f k (f (k + 48))) i xZ = f1 at ih ⊢
      show V E X _ RX7 _ _ _ _ _ _ false 146 _ [(0, .ref (Ez E + 132)), (1, .int (nI i))] [] (cellOf E (c, (mkA xP xR xW xS f1 xG xK xT xQ xF xB xL xC, (nI un, nI sz, ft, nI wm, nI fm, nI bm, nI at_, nI bg, sg, nI fg, vl, wr), sd)))
      refine v_iload_n (pc := 11) 1 dX7_remember_11 rfl rfl ?_
      refine v_sipush (pc := 12) (nI 720) dX7_remember_12 kS_720 ?_
      refine v_icmp_geN (pc := 15) (by omega) (by omega) (tgt := 39) dX7_remember_15 rfl (fun c_15 => False.elim ((fun c => by omega) c_15)) (fun c_15 => ?_)
      refine v_aload_n (pc := 18) 0 dX7_remember_18 rfl rfl ?_
      refine g_X7_22 (pc := 19) (cMr_obj) (by decide) rfl dX7_remember_19 ?_
      refine v_iload_n (pc := 22) 1 dX7_remember_22 rfl rfl ?_
      refine v_aload_n (pc := 23) 0 dX7_remember_23 rfl rfl ?_
      refine g_X7_22 (pc := 24) (cMr_obj) (by decide) rfl dX7_remember_24 ?_
      refine v_iload_n (pc := 27) 1 dX7_remember_27 rfl rfl ?_
      refine v_bipush (pc := 28) (nI 48) dX7_remember_28 kB_48 ?_
      refine v_iaddN (pc := 30) dX7_remember_30 ?_
      refine v_ialdN (pc := 31) (cM_past) (by decide) (by omega) (by decide) dX7_remember_31 ?_
      refine v_iastN (pc := 32) (cM_past) (by decide) (by omega) (by decide) dX7_remember_32 (wM_past) ?_
      refine v_iincN (pc := 33) 1 [1, 0] [(0, _), (1, _)] kI_1 dX7_remember_33 rfl (by decide) rfl ?_
      refine v_goto (pc := 36) (tgt := 11) dX7_remember_36 rfl ?_
      exact ih
set_option maxHeartbeats 4000000 in
set_option maxRecDepth 100000 in
theorem m_lay {E : Ev} {c : CSt} {xP xR xW xS xZ xG xK xT xQ xF xB xL xC : Fn} {un sz wm fm bm at_ bg fg : Nat} {ft sg vl wr : Int32} {sd : Int64}  : Ct E yX7_layAside cX7_layAside 1 none ({ frames := 1, cells := 0, slots := 0, locals := 25 } : Room) false 146 [.ref (Ez E + 132)] (cellOf E (c, (mkA xP xR xW xS xZ xG xK xT xQ xF xB xL xC, (nI un, nI sz, ft, nI wm, nI fm, nI bm, nI at_, nI bg, sg, nI fg, vl, wr), sd))) 146 0 0 (Ff none (cellOf E (c, (mkA xP xR xW (cpA xW 0 xS 0 48) xZ xG xK xT xQ xF xB xL xC, (nI un, nI sz, ft, nI wm, nI fm, nI bm, nI at_, nI bg, sg, nI fg, vl, wr), sd)))) := by
  refine Ct.ofV (by decide) (Nat.le_of_ble_eq_true rfl) (fun X hnm => ?_)
  show V E X _ RX7 _ _ _ _ _ _ false 146 0 [(0, .ref (Ez E + 132))] [] _
  refine v_aload_n (pc := 0) 0 dX7_layAside_0 rfl rfl ?_
  refine g_X7_16 (pc := 1) (cMr_obj) (by decide) rfl dX7_layAside_1 ?_
  refine v_iconst (pc := 4) (nI 0) dX7_layAside_4 kI_0 ?_
  refine v_aload_n (pc := 5) 0 dX7_layAside_5 rfl rfl ?_
  refine g_X7_19 (pc := 6) (cMr_obj) (by decide) rfl dX7_layAside_6 ?_
  refine v_iconst (pc := 9) (nI 0) dX7_layAside_9 kI_0 ?_
  refine v_bipush (pc := 10) (nI 48) dX7_layAside_10 kB_48 ?_
  refine v_callS (pc := 12) _ _ k_X7_54 (m_cp_now_aside (by omega) (by omega)) ⟨rfl, rfl, by decide⟩ rfl rfl (Nat.le_of_ble_eq_true rfl) ⟨Nat.le_of_ble_eq_true rfl, Nat.le_of_ble_eq_true rfl⟩ dX7_layAside_12 (unS ?_)
  show V E X _ RX7 _ _ _ 0 0 _ false 146 15 _ [] _
  exact v_vret (pc := 15) dX7_layAside_15 (⟨rfl, rfl⟩)
def stW (W : Fn) (a : Nat) (n : Int32) : Fn := upd W (7 + a) (lsI (nI 99) (W (7 + a) + n))
set_option maxHeartbeats 4000000 in
set_option maxRecDepth 100000 in
theorem m_strews {E : Ev} {c : CSt} {xP xR xW xS xZ xG xK xT xQ xF xB xL xC : Fn} {un sz wm fm bm at_ bg fg : Nat} {ft sg vl wr : Int32} {sd : Int64} {a : Nat} (ha : a < 7) (n : Int32) : Ct E yX7_strews cX7_strews 3 none ({ frames := 1, cells := 0, slots := 0, locals := 21 } : Room) false 146 [.ref (Ez E + 132), .int (nI a), .int n] (cellOf E (c, (mkA xP xR xW xS xZ xG xK xT xQ xF xB xL xC, (nI un, nI sz, ft, nI wm, nI fm, nI bm, nI at_, nI bg, sg, nI fg, vl, wr), sd))) 146 0 0 (Ff none (cellOf E (c, (mkA xP xR (stW xW a n) xS xZ xG xK xT xQ xF xB xL xC, (nI un, nI sz, ft, nI wm, nI fm, nI bm, nI at_, nI bg, sg, nI fg, vl, wr), sd)))) := by
  refine Ct.ofV (by decide) (Nat.le_of_ble_eq_true rfl) (fun X hnm => ?_)
  show V E X _ RX7 _ _ _ _ _ _ false 146 0 [(0, .ref (Ez E + 132)), (1, .int (nI a)), (2, .int n)] [] _
  refine v_aload_n (pc := 0) 0 dX7_strews_0 rfl rfl ?_
  refine g_X7_16 (pc := 1) (cMr_obj) (by decide) rfl dX7_strews_1 ?_
  refine v_bipush (pc := 4) (nI 7) dX7_strews_4 kB_7 ?_
  refine v_iload_n (pc := 6) 1 dX7_strews_6 rfl rfl ?_
  refine v_iaddN (pc := 7) dX7_strews_7 ?_
  refine v_bipush (pc := 8) (nI 99) dX7_strews_8 kB_99 ?_
  refine v_aload_n (pc := 10) 0 dX7_strews_10 rfl rfl ?_
  refine g_X7_16 (pc := 11) (cMr_obj) (by decide) rfl dX7_strews_11 ?_
  refine v_bipush (pc := 14) (nI 7) dX7_strews_14 kB_7 ?_
  refine v_iload_n (pc := 16) 1 dX7_strews_16 rfl rfl ?_
  refine v_iaddN (pc := 17) dX7_strews_17 ?_
  refine v_ialdN (pc := 18) (cM_now) (by decide) (by omega) (by decide) dX7_strews_18 ?_
  refine v_iload_n (pc := 19) 2 dX7_strews_19 rfl rfl ?_
  refine v_iadd (pc := 20) dX7_strews_20 ?_
  refine v_callS (pc := 21) _ _ k_X7_138 (m_lesser _ _) ⟨rfl, rfl, by decide⟩ rfl rfl (Nat.le_of_ble_eq_true rfl) ⟨Nat.le_of_ble_eq_true rfl, Nat.le_of_ble_eq_true rfl⟩ dX7_strews_21 (unS ?_)
  show V E X _ RX7 _ _ _ 0 0 _ false 146 24 _ [_, _, _] _
  refine v_iastN (pc := 24) (cM_now) (by decide) (by omega) (by decide) dX7_strews_24 (wM_now) ?_
  exact v_vret (pc := 25) dX7_strews_25 (⟨rfl, rfl⟩)
def st_hw (P : Fn) (x d : Int32) (p : Nat) (z : Int32 × Fn) : Int32 × Fn := if inB (P (18 + p) - x) (-d) d = true ∧ hasB (z.2 14) (nI p) = false then (z.1 + z.2 (0 + p), m_fly z.2 (nI p) (-2) (z.2 (0 + p))) else z
def hwM (P W : Fn) (x d : Int32) (n : Nat) : Int32 × Fn := itn (st_hw P x d) n (nI 0, W)
theorem hwM_trc {P W : Fn} {x d : Int32} (h : Trc W) : ∀ n, n ≤ 7 → Trc (hwM P W x d n).2
  | 0, _ => h
  | n + 1, hn => by
    have ih := hwM_trc (P := P) (x := x) (d := d) h n (by omega)
    show Trc (st_hw P x d n (hwM P W x d n)).2
    unfold st_hw
    split
    · exact m_fly_trc ih (plc_n (by omega)) plc_t
    · exact ih
set_option maxHeartbeats 4000000 in
set_option maxRecDepth 100000 in
theorem m_hawks {E : Ev} {c : CSt} {xP xR xW xS xZ xG xK xT xQ xF xB xL xC : Fn} {un sz wm fm bm at_ bg fg : Nat} {ft sg vl wr : Int32} {sd : Int64} {np : Nat} (hp : xP 2 = nI np) (hnp : np ≤ 7) (ht : Trc xW) (x d : Int32) : Ct E yX7_hawks cX7_hawks 6 (some .int) ({ frames := 1, cells := 0, slots := 0, locals := 25 } : Room) false 146 [.ref (Ez E + 132), .int x, .int d] (cellOf E (c, (mkA xP xR xW xS xZ xG xK xT xQ xF xB xL xC, (nI un, nI sz, ft, nI wm, nI fm, nI bm, nI at_, nI bg, sg, nI fg, vl, wr), sd))) 146 0 0 (Ff (some (.int ((hwM xP xW x d np).1))) (cellOf E (c, (mkA xP xR ((hwM xP xW x d np).2) xS xZ xG xK xT xQ xF xB xL xC, (nI un, nI sz, ft, nI wm, nI fm, nI bm, nI at_, nI bg, sg, nI fg, vl, wr), sd)))) := by
  refine Ct.ofV (by decide) (Nat.le_of_ble_eq_true rfl) (fun X hnm => ?_)
  show V E X _ RX7 _ _ _ _ _ _ false 146 0 [(0, .ref (Ez E + 132)), (1, .int x), (2, .int d)] [] _
  refine v_iconst (pc := 0) (nI 0) dX7_hawks_0 kI_0 ?_
  refine v_istore_n (pc := 1) [1, 2, 3, 0] [(0, _), (1, _), (2, _), (3, _)] dX7_hawks_1 rfl (by decide) rfl ?_
  refine v_iconst (pc := 2) (nI 0) dX7_hawks_2 kI_0 ?_
  refine v_istore (pc := 3) [1, 2, 3, 4, 0] [(0, _), (1, _), (2, _), (3, _), (4, _)] dX7_hawks_3 (by decide) rfl ?_
  refine dn (P := fun i => V E X ({ frames := 1, cells := 0, slots := 0, locals := 25 } : Room) RX7 cX7_hawks 6 (some .int) 0 0 (QX E X false 146 (Ff (some (.int ((hwM xP xW x d np).1))) (cellOf E (c, (mkA xP xR ((hwM xP xW x d np).2) xS xZ xG xK xT xQ xF xB xL xC, (nI un, nI sz, ft, nI wm, nI fm, nI bm, nI at_, nI bg, sg, nI fg, vl, wr), sd)))) 0 0) false 146 5 [(0, .ref (Ez E + 132)), (1, .int x), (2, .int d), (3, .int (itn (st_hw xP x d) i (nI 0, xW)).1), (4, .int (nI i))] [] (cellOf E (c, (mkA xP xR ((itn (st_hw xP x d) i (nI 0, xW)).2) xS xZ xG xK xT xQ xF xB xL xC, (nI un, nI sz, ft, nI wm, nI fm, nI bm, nI at_, nI bg, sg, nI fg, vl, wr), sd)))) (N := np) ?_ ?_
  · refine v_iload (pc := 5) 4 dX7_hawks_5 rfl ?_
    refine v_aload_n (pc := 7) 0 dX7_hawks_7 rfl rfl ?_
    refine g_X7_7 (pc := 8) (cMr_obj) (by decide) rfl dX7_hawks_8 ?_
    refine v_iconst (pc := 11) (nI 2) dX7_hawks_11 kI_2 ?_
    refine v_ialdN (pc := 12) (cM_parish) (by decide) (by omega) (by decide) dX7_hawks_12 ?_
    rw [hp]
    refine v_icmp_geN (pc := 13) (by omega) (by omega) (tgt := 97) dX7_hawks_13 rfl (fun c_13 => ?_) (fun c_13 => False.elim ((fun c => by omega) c_13))
    refine v_iload_n (pc := 97) 3 dX7_hawks_97 rfl rfl ?_
    exact v_iret (pc := 98) dX7_hawks_98 (⟨rfl, rfl⟩)
  · intro i hi ih
    have ih : V E X ({ frames := 1, cells := 0, slots := 0, locals := 25 } : Room) RX7 cX7_hawks 6 (some .int) 0 0 (QX E X false 146 (Ff (some (.int ((hwM xP xW x d np).1))) (cellOf E (c, (mkA xP xR ((hwM xP xW x d np).2) xS xZ xG xK xT xQ xF xB xL xC, (nI un, nI sz, ft, nI wm, nI fm, nI bm, nI at_, nI bg, sg, nI fg, vl, wr), sd)))) 0 0) false 146 5 [(0, .ref (Ez E + 132)), (1, .int x), (2, .int d), (3, .int (st_hw xP x d i (itn (st_hw xP x d) i (nI 0, xW))).1), (4, .int (nI (i + 1)))] [] (cellOf E (c, (mkA xP xR ((st_hw xP x d i (itn (st_hw xP x d) i (nI 0, xW))).2) xS xZ xG xK xT xQ xF xB xL xC, (nI un, nI sz, ft, nI wm, nI fm, nI bm, nI at_, nI bg, sg, nI fg, vl, wr), sd))) := by rw [itn_s] at ih; exact ih
    generalize hb : itn (st_hw xP x d) i (nI 0, xW) = z_ at ih ⊢
    obtain ⟨s1, f1⟩ := z_
    show V E X _ RX7 _ _ _ _ _ _ false 146 _ [(0, .ref (Ez E + 132)), (1, .int x), (2, .int d), (3, .int s1), (4, .int (nI i))] [] (cellOf E (c, (mkA xP xR f1 xS xZ xG xK xT xQ xF xB xL xC, (nI un, nI sz, ft, nI wm, nI fm, nI bm, nI at_, nI bg, sg, nI fg, vl, wr), sd)))
    have hT1 : Trc f1 := by have q := hwM_trc (P := xP) (x := x) (d := d) ht i (by omega); rw [show hwM xP xW x d i = (s1, f1) from hb] at q; exact q
    refine v_iload (pc := 5) 4 dX7_hawks_5 rfl ?_
    refine v_aload_n (pc := 7) 0 dX7_hawks_7 rfl rfl ?_
    refine g_X7_7 (pc := 8) (cMr_obj) (by decide) rfl dX7_hawks_8 ?_
    refine v_iconst (pc := 11) (nI 2) dX7_hawks_11 kI_2 ?_
    refine v_ialdN (pc := 12) (cM_parish) (by decide) (by omega) (by decide) dX7_hawks_12 ?_
    rw [hp]
    refine v_icmp_geN (pc := 13) (by omega) (by omega) (tgt := 97) dX7_hawks_13 rfl (fun c_13 => False.elim ((fun c => by omega) c_13)) (fun c_13 => ?_)
    refine v_aload_n (pc := 16) 0 dX7_hawks_16 rfl rfl ?_
    refine g_X7_7 (pc := 17) (cMr_obj) (by decide) rfl dX7_hawks_17 ?_
    refine v_bipush (pc := 20) (nI 18) dX7_hawks_20 kB_18 ?_
    refine v_iload (pc := 22) 4 dX7_hawks_22 rfl ?_
    refine v_iaddN (pc := 24) dX7_hawks_24 ?_
    refine v_ialdN (pc := 25) (cM_parish) (by decide) (by omega) (by decide) dX7_hawks_25 ?_
    refine v_iload_n (pc := 26) 1 dX7_hawks_26 rfl rfl ?_
    refine v_isub (pc := 27) dX7_hawks_27 ?_
    refine v_istore (pc := 28) [1, 2, 3, 4, 5, 0] [(0, _), (1, _), (2, _), (3, _), (4, _), (5, _)] dX7_hawks_28 (by decide) rfl ?_
    refine v_iload (pc := 30) 5 dX7_hawks_30 rfl ?_
    refine v_i2l (pc := 32) dX7_hawks_32 ?_
    refine v_iload_n (pc := 33) 2 dX7_hawks_33 rfl rfl ?_
    refine v_ineg (pc := 34) dX7_hawks_34 ?_
    refine v_i2l (pc := 35) dX7_hawks_35 ?_
    refine v_iload_n (pc := 36) 2 dX7_hawks_36 rfl rfl ?_
    refine v_i2l (pc := 37) dX7_hawks_37 ?_
    refine v_callS (pc := 38) _ _ k_X7_72 (m_in _ _ _) ⟨rfl, rfl, by decide⟩ rfl rfl (Nat.le_of_ble_eq_true rfl) ⟨Nat.le_of_ble_eq_true rfl, Nat.le_of_ble_eq_true rfl⟩ dX7_hawks_38 (unS ?_)
    show V E X _ RX7 _ _ _ 0 0 _ false 146 41 _ [_] _
    refine v_if_eqB (pc := 41) (tgt := 91) dX7_hawks_41 rfl (fun c_41 => ?_) (fun c_41 => ?_)
    · refine v_iincN (pc := 91) 4 [1, 2, 3, 4, 0, 5] [(0, _), (1, _), (2, _), (3, _), (4, _), (5, _)] kI_1 dX7_hawks_91 rfl (by decide) rfl ?_
      refine v_goto (pc := 94) (tgt := 5) dX7_hawks_94 rfl ?_
      refine v_sub [0, 1, 2, 3, 4] rfl ?_
      rw [show st_hw xP x d i (s1, f1) = _ from if_neg (by rintro ⟨q, -⟩; rw [c_41] at q; exact Bool.noConfusion q)] at ih
      exact ih
    · refine v_aload_n (pc := 44) 0 dX7_hawks_44 rfl rfl ?_
      refine g_X7_16 (pc := 45) (cMr_obj) (by decide) rfl dX7_hawks_45 ?_
      refine v_bipush (pc := 48) (nI 14) dX7_hawks_48 kB_14 ?_
      refine v_ialdN (pc := 50) (cM_now) (by decide) (by omega) (by decide) dX7_hawks_50 ?_
      refine v_iload (pc := 51) 4 dX7_hawks_51 rfl ?_
      refine v_callS (pc := 53) _ _ k_X7_142 (m_has _ _) ⟨rfl, rfl, by decide⟩ rfl rfl (Nat.le_of_ble_eq_true rfl) ⟨Nat.le_of_ble_eq_true rfl, Nat.le_of_ble_eq_true rfl⟩ dX7_hawks_53 (unS ?_)
      show V E X _ RX7 _ _ _ 0 0 _ false 146 56 _ [_] _
      refine v_if_neB (pc := 56) (tgt := 91) dX7_hawks_56 rfl (fun c_56 => ?_) (fun c_56 => ?_)
      · refine v_iincN (pc := 91) 4 [1, 2, 3, 4, 0, 5] [(0, _), (1, _), (2, _), (3, _), (4, _), (5, _)] kI_1 dX7_hawks_91 rfl (by decide) rfl ?_
        refine v_goto (pc := 94) (tgt := 5) dX7_hawks_94 rfl ?_
        refine v_sub [0, 1, 2, 3, 4] rfl ?_
        rw [show st_hw xP x d i (s1, f1) = _ from if_neg (by rintro ⟨-, q⟩; rw [c_56] at q; exact Bool.noConfusion q)] at ih
        exact ih
      · refine v_iload_n (pc := 59) 3 dX7_hawks_59 rfl rfl ?_
        refine v_aload_n (pc := 60) 0 dX7_hawks_60 rfl rfl ?_
        refine g_X7_16 (pc := 61) (cMr_obj) (by decide) rfl dX7_hawks_61 ?_
        refine v_iconst (pc := 64) (nI 0) dX7_hawks_64 kI_0 ?_
        refine v_iload (pc := 65) 4 dX7_hawks_65 rfl ?_
        refine v_iaddN (pc := 67) dX7_hawks_67 ?_
        refine v_ialdN (pc := 68) (cM_now) (by decide) (by omega) (by decide) dX7_hawks_68 ?_
        refine v_iadd (pc := 69) dX7_hawks_69 ?_
        refine v_istore_n (pc := 70) [1, 2, 3, 0, 4, 5] [(0, _), (1, _), (2, _), (3, _), (4, _), (5, _)] dX7_hawks_70 rfl (by decide) rfl ?_
        refine v_aload_n (pc := 71) 0 dX7_hawks_71 rfl rfl ?_
        refine g_X7_16 (pc := 72) (cMr_obj) (by decide) rfl dX7_hawks_72 ?_
        refine v_iload (pc := 75) 4 dX7_hawks_75 rfl ?_
        refine v_bipush (pc := 77) (-2) dX7_hawks_77 kB_m2 ?_
        refine v_aload_n (pc := 79) 0 dX7_hawks_79 rfl rfl ?_
        refine g_X7_16 (pc := 80) (cMr_obj) (by decide) rfl dX7_hawks_80 ?_
        refine v_iconst (pc := 83) (nI 0) dX7_hawks_83 kI_0 ?_
        refine v_iload (pc := 84) 4 dX7_hawks_84 rfl ?_
        refine v_iaddN (pc := 86) dX7_hawks_86 ?_
        refine v_ialdN (pc := 87) (cM_now) (by decide) (by omega) (by decide) dX7_hawks_87 ?_
        refine v_callS (pc := 88) _ _ k_X7_158 (m_fliesW hT1 (plc_n (by omega)) plc_t _) ⟨rfl, rfl, by decide⟩ rfl rfl (Nat.le_of_ble_eq_true rfl) ⟨Nat.le_of_ble_eq_true rfl, Nat.le_of_ble_eq_true rfl⟩ dX7_hawks_88 (unS ?_)
        show V E X _ RX7 _ _ _ 0 0 _ false 146 91 _ [] _
        refine v_iincN (pc := 91) 4 [1, 2, 3, 4, 0, 5] [(0, _), (1, _), (2, _), (3, _), (4, _), (5, _)] kI_1 dX7_hawks_91 rfl (by decide) rfl ?_
        refine v_goto (pc := 94) (tgt := 5) dX7_hawks_94 rfl ?_
        refine v_sub [0, 1, 2, 3, 4] rfl ?_
        rw [show st_hw xP x d i (s1, f1) = _ from if_pos ⟨c_41, c_56⟩] at ih
        exact ih
def rfM (P W : Fn) (n : Int32) : Int32 := if inB n (nI 1) (nI 60) = false then cOUT else if P 1 = 0 then cNOT else if W 16 ≤ nI 9000 then nI 0 else cFUL
set_option maxHeartbeats 4000000 in
set_option maxRecDepth 100000 in
theorem m_refuses {E : Ev} {c : CSt} {xP xR xW xS xZ xG xK xT xQ xF xB xL xC : Fn} {un sz wm fm bm at_ bg fg : Nat} {ft sg vl wr : Int32} {sd : Int64} (n : Int32) : Ct E yX7_refuses cX7_refuses 2 (some .int) ({ frames := 1, cells := 0, slots := 0, locals := 25 } : Room) false 146 [.ref (Ez E + 132), .int n] (cellOf E (c, (mkA xP xR xW xS xZ xG xK xT xQ xF xB xL xC, (nI un, nI sz, ft, nI wm, nI fm, nI bm, nI at_, nI bg, sg, nI fg, vl, wr), sd))) 146 0 0 (Ff (some (.int (rfM xP xW n))) (cellOf E (c, (mkA xP xR xW xS xZ xG xK xT xQ xF xB xL xC, (nI un, nI sz, ft, nI wm, nI fm, nI bm, nI at_, nI bg, sg, nI fg, vl, wr), sd)))) := by
  refine Ct.ofV (by decide) (Nat.le_of_ble_eq_true rfl) (fun X hnm => ?_)
  show V E X _ RX7 _ _ _ _ _ _ false 146 0 [(0, .ref (Ez E + 132)), (1, .int n)] [] _
  refine v_iload_n (pc := 0) 1 dX7_refuses_0 rfl rfl ?_
  refine v_i2l (pc := 1) dX7_refuses_1 ?_
  refine v_lconst (pc := 2) ((nI 1).toInt64) dX7_refuses_2 (by decide) ?_
  refine v_ldc2 (pc := 3) ((nI 60).toInt64) kl_X7_203 dX7_refuses_3 (by decide) ?_
  refine v_callS (pc := 6) _ _ k_X7_72 (m_in _ _ _) ⟨rfl, rfl, by decide⟩ rfl rfl (Nat.le_of_ble_eq_true rfl) ⟨Nat.le_of_ble_eq_true rfl, Nat.le_of_ble_eq_true rfl⟩ dX7_refuses_6 (unS ?_)
  show V E X _ RX7 _ _ _ 0 0 _ false 146 9 _ [_] _
  refine v_if_neB (pc := 9) (tgt := 15) dX7_refuses_9 rfl (fun c_9 => ?_) (fun c_9 => ?_)
  · refine v_aload_n (pc := 15) 0 dX7_refuses_15 rfl rfl ?_
    refine g_X7_7 (pc := 16) (cMr_obj) (by decide) rfl dX7_refuses_16 ?_
    refine v_iconst (pc := 19) (nI 1) dX7_refuses_19 kI_1 ?_
    refine v_ialdN (pc := 20) (cM_parish) (by decide) (by omega) (by decide) dX7_refuses_20 ?_
    refine v_if_ne (pc := 21) (tgt := 29) dX7_refuses_21 rfl (fun c_21 => ?_) (fun c_21 => ?_)
    · refine v_aload_n (pc := 29) 0 dX7_refuses_29 rfl rfl ?_
      refine g_X7_16 (pc := 30) (cMr_obj) (by decide) rfl dX7_refuses_30 ?_
      refine v_bipush (pc := 33) (nI 16) dX7_refuses_33 kB_16 ?_
      refine v_ialdN (pc := 35) (cM_now) (by decide) (by omega) (by decide) dX7_refuses_35 ?_
      refine v_sipush (pc := 36) (nI 9000) dX7_refuses_36 kS_9000 ?_
      refine v_icmp_le (pc := 39) (tgt := 47) dX7_refuses_39 rfl (fun c_39 => ?_) (fun c_39 => ?_)
      · refine v_iconst (pc := 47) (nI 0) dX7_refuses_47 kI_0 ?_
        exact v_iret (pc := 48) dX7_refuses_48 (⟨by rw [show rfM xP xW n = _ from ((if_neg (by rw [c_9]; decide)).trans (if_neg c_21)).trans (if_pos c_39)], rfl⟩)
      · refine v_ldc (pc := 42) _ kc_X7_80 dX7_refuses_42 rfl ?_
        refine v_goto (pc := 44) (tgt := 48) dX7_refuses_44 rfl ?_
        exact v_iret (pc := 48) dX7_refuses_48 (⟨by rw [show rfM xP xW n = _ from ((if_neg (by rw [c_9]; decide)).trans (if_neg c_21)).trans (if_neg c_39)]; rfl, rfl⟩)
    · refine v_ldc (pc := 24) _ kc_X7_188 dX7_refuses_24 rfl ?_
      refine v_goto (pc := 26) (tgt := 48) dX7_refuses_26 rfl ?_
      exact v_iret (pc := 48) dX7_refuses_48 (⟨by rw [show rfM xP xW n = _ from (if_neg (by rw [c_9]; decide)).trans (if_pos c_21)]; rfl, rfl⟩)
  · refine v_ldc (pc := 12) _ kc_X7_76 dX7_refuses_12 rfl ?_
    exact v_iret (pc := 14) dX7_refuses_14 (⟨by rw [show rfM xP xW n = _ from if_pos c_9]; rfl, rfl⟩)
def sdN (s : Int64) : Int64 := (s * 1103515245 + 12345) - (s * 1103515245 + 12345) / 2147483648 * 2147483648
def dwV (s : Int64) (n : Int32) : Int32 := (s / 65536 - s / 65536 / n.toInt64 * n.toInt64).toInt32
theorem l64_0 {n : Int32} (h : ¬ n = 0) : ¬ n.toInt64 = 0 := fun q => h (by
  have := congrArg Int64.toInt q
  rw [Int32.toInt_toInt64] at this
  exact Int32.toInt_inj.mp this)
set_option maxHeartbeats 4000000 in
set_option maxRecDepth 100000 in
theorem m_draw {E : Ev} {c : CSt} {xP xR xW xS xZ xG xK xT xQ xF xB xL xC : Fn} {un sz wm fm bm at_ bg fg : Nat} {ft sg vl wr : Int32} {sd : Int64} {n : Int32} (hn : ¬ n = 0) : Ct E yX7_draw cX7_draw 2 (some .int) ({ frames := 0, cells := 0, slots := 0, locals := 0 } : Room) false 146 [.ref (Ez E + 132), .int n] (cellOf E (c, (mkA xP xR xW xS xZ xG xK xT xQ xF xB xL xC, (nI un, nI sz, ft, nI wm, nI fm, nI bm, nI at_, nI bg, sg, nI fg, vl, wr), sd))) 146 0 0 (Ff (some (.int (dwV (sdN sd) n))) (cellOf E (c, (mkA xP xR xW xS xZ xG xK xT xQ xF xB xL xC, (nI un, nI sz, ft, nI wm, nI fm, nI bm, nI at_, nI bg, sg, nI fg, vl, wr), sdN sd)))) := by
  refine Ct.ofV (by decide) (Nat.le_of_ble_eq_true rfl) (fun X hnm => ?_)
  show V E X _ RX7 _ _ _ _ _ _ false 146 0 [(0, .ref (Ez E + 132)), (1, .int n)] [] _
  refine v_aload_n (pc := 0) 0 dX7_draw_0 rfl rfl ?_
  refine v_aload_n (pc := 1) 0 dX7_draw_1 rfl rfl ?_
  refine g_X7_212 (pc := 2) (cMr_obj) (by decide) rfl dX7_draw_2 ?_
  refine v_ldc2 (pc := 5) _ kl_X7_216 dX7_draw_5 rfl ?_
  refine v_lmul (pc := 8) dX7_draw_8 ?_
  refine v_ldc2 (pc := 9) _ kl_X7_218 dX7_draw_9 rfl ?_
  refine v_ladd (pc := 12) dX7_draw_12 ?_
  refine v_ldc2 (pc := 13) _ kl_X7_220 dX7_draw_13 rfl ?_
  refine v_lrem (pc := 16) dX7_draw_16 (by decide) ?_
  refine p_X7_212 (pc := 17) (cMr_obj) (by decide) rfl rfl (Nat.le_of_ble_eq_true rfl) dX7_draw_17 (wM_sd) ?_
  refine v_aload_n (pc := 20) 0 dX7_draw_20 rfl rfl ?_
  refine g_X7_212 (pc := 21) (cMr_obj) (by decide) rfl dX7_draw_21 ?_
  refine v_ldc2 (pc := 24) _ kl_X7_222 dX7_draw_24 rfl ?_
  refine v_ldiv (pc := 27) dX7_draw_27 (by decide) ?_
  refine v_iload_n (pc := 28) 1 dX7_draw_28 rfl rfl ?_
  refine v_i2l (pc := 29) dX7_draw_29 ?_
  refine v_lrem (pc := 30) dX7_draw_30 (l64_0 hn) ?_
  refine v_l2i (pc := 31) dX7_draw_31 ?_
  exact v_iret (pc := 32) dX7_draw_32 (⟨rfl, rfl⟩)
def drS (P : Fn) (np : Nat) (z : Int64 × Fn) : Int64 × Fn :=
  if dwV (sdN z.1) (nI 5) = 0 then (sdN (sdN z.1), m_fly z.2 (-2) (dwV (sdN (sdN z.1)) (nI np)) (lsI (nI 9) (z.2 15)))
  else if dwV (sdN z.1) (nI 5) = nI 1 then (sdN (sdN (sdN z.1)), stW z.2 (dwV (sdN (sdN z.1)) (nI np)).toNatClampNeg (dwV (sdN (sdN (sdN z.1))) (nI 20)))
  else if dwV (sdN z.1) (nI 5) = nI 2 then (sdN (sdN (sdN z.1)), (hwM P z.2 (dwV (sdN (sdN z.1)) (nI 51)) (dwV (sdN (sdN (sdN z.1))) (nI 10)) np).2)
  else (sdN z.1, z.2)
/-- the seed is a number below 2 ^ 31 -/
def sdOk (s : Int64) : Prop := ∃ n : Nat, n < 2147483648 ∧ s = lN n
theorem lN_div {a b : Nat} (ha : a < 2 ^ 62) (hb : 0 < b) (hb2 : b < 2 ^ 62) : lN a / lN b = lN (a / b) := by
  have h1 : (lN a).toInt = a := lg_ofNat_toInt (by omega)
  have h2 : (lN b).toInt = b := lg_ofNat_toInt (by omega)
  have h3 : (lN (a / b)).toInt = ((a / b : Nat) : Int) := lg_ofNat_toInt (by have := Nat.div_le_self a b; omega)
  have h4 : (a : Int).tdiv b = ((a / b : Nat) : Int) := by rw [Int.natCast_ediv]; exact Int.tdiv_eq_ediv_of_nonneg (by omega)
  have h5 := Nat.div_le_self a b
  refine Int64.toInt_inj.mp ?_
  generalize a / b = q at h3 h4 h5 ⊢
  rw [h3, Int64.toInt_div, h1, h2, h4]
  clear h1 h2 h3 h4
  exact Int.bmod_eq_of_le (by omega) (by omega)
theorem sdN_n {n : Nat} (h : n < 2147483648) : sdN (lN n) = lN ((n * 1103515245 + 12345) % 2147483648) := by
  unfold sdN
  rw [show (1103515245 : Int64) = lN 1103515245 from by decide, show (12345 : Int64) = lN 12345 from by decide, show (2147483648 : Int64) = lN 2147483648 from by decide, lN_mul, lN_add]
  rw [lN_div (by omega) (by decide) (by decide), lN_mul, lN_sub (by omega)]
  exact congrArg lN (by omega)
theorem sdN_ok {s : Int64} (h : sdOk s) : sdOk (sdN s) := by
  obtain ⟨n, hn, rfl⟩ := h
  exact ⟨_, Nat.mod_lt _ (by decide), sdN_n hn⟩
theorem dwV_n {n m : Nat} (h : n < 2147483648) (hm : 0 < m) (hm2 : m < 2147483648) : dwV (lN n) (nI m) = nI (n / 65536 % m) := by
  unfold dwV
  rw [nI_l (by omega), show (65536 : Int64) = lN 65536 from by decide, lN_div (by omega) (by decide) (by decide), lN_div (by omega) hm (by omega), lN_mul, lN_sub (by have := Nat.div_mul_le_self (n / 65536) m; omega), lN_i]
  have h := Nat.div_add_mod (n / 65536) m
  rw [Nat.mul_comm] at h
  exact congrArg nI (by omega)
theorem dwV_lt {s : Int64} (h : sdOk s) {m : Nat} (hm : 0 < m) (hm2 : m < 2147483648) : ∃ i, i < m ∧ dwV s (nI m) = nI i := by
  obtain ⟨n, hn, rfl⟩ := h
  exact ⟨_, Nat.mod_lt _ hm, dwV_n hn hm hm2⟩
theorem stW_trc {W : Fn} {a : Nat} {n : Int32} (h : Trc W) (ha : a < 7) : Trc (stW W a n) := by
  obtain ⟨t, ht, e⟩ := h
  exact ⟨t, ht, by unfold stW; rw [upd_ne (by omega), e]⟩
theorem drS_ok {P : Fn} {np : Nat} (h0 : 0 < np) (h7 : np ≤ 7) {z : Int64 × Fn} (hs : sdOk z.1) (ht : Trc z.2) : sdOk (drS P np z).1 ∧ Trc (drS P np z).2 := by
  obtain ⟨i, hi, e⟩ := dwV_lt (sdN_ok (sdN_ok hs)) h0 (by omega)
  unfold drS
  split
  · exact ⟨sdN_ok (sdN_ok hs), m_fly_trc ht plc_t (by rw [e]; exact plc_n (by omega))⟩
  · split
    · exact ⟨sdN_ok (sdN_ok (sdN_ok hs)), stW_trc ht (by rw [e, nI_clamp (by omega)]; omega)⟩
    · split
      · exact ⟨sdN_ok (sdN_ok (sdN_ok hs)), hwM_trc ht np h7⟩
      · exact ⟨sdN_ok hs, ht⟩
set_option maxHeartbeats 4000000 in
set_option maxRecDepth 100000 in
theorem m_draws {E : Ev} {c : CSt} {xP xR xW xS xZ xG xK xT xQ xF xB xL xC : Fn} {un sz wm fm bm at_ bg fg : Nat} {ft sg vl wr : Int32} {sd : Int64} {np : Nat} (hp : xP 2 = nI np) (hnp : np ≤ 7) (h0 : 0 < np) (ht : Trc xW) (hsd : sdOk sd) : Ct E yX7_draws cX7_draws 4 none ({ frames := 2, cells := 0, slots := 0, locals := 50 } : Room) false 146 [.ref (Ez E + 132)] (cellOf E (c, (mkA xP xR xW xS xZ xG xK xT xQ xF xB xL xC, (nI un, nI sz, ft, nI wm, nI fm, nI bm, nI at_, nI bg, sg, nI fg, vl, wr), sd))) 146 0 0 (Ff none (cellOf E (c, (mkA xP xR ((drS xP np (sd, xW)).2) xS xZ xG xK xT xQ xF xB xL xC, (nI un, nI sz, ft, nI wm, nI fm, nI bm, nI at_, nI bg, sg, nI fg, vl, wr), (drS xP np (sd, xW)).1)))) := by
  refine Ct.ofV (by decide) (Nat.le_of_ble_eq_true rfl) (fun X hnm => ?_)
  show V E X _ RX7 _ _ _ _ _ _ false 146 0 [(0, .ref (Ez E + 132))] [] _
  refine v_aload_n (pc := 0) 0 dX7_draws_0 rfl rfl ?_
  refine v_iconst (pc := 1) (nI 5) dX7_draws_1 kI_5 ?_
  refine v_callV (pc := 2) _ _ k_X7_224 (cMr_obj) rfl (by decide) (m_draw (by decide)) ⟨rfl, rfl, by decide⟩ rfl rfl (Nat.le_of_ble_eq_true rfl) ⟨Nat.le_of_ble_eq_true rfl, Nat.le_of_ble_eq_true rfl⟩ dX7_draws_2 (unS ?_)
  show V E X _ RX7 _ _ _ 0 0 _ false 146 5 _ [_] _
  refine v_istore_n (pc := 5) [1, 0] [(0, _), (1, _)] dX7_draws_5 rfl (by decide) rfl ?_
  refine v_iload_n (pc := 6) 1 dX7_draws_6 rfl rfl ?_
  refine v_if_ne (pc := 7) (tgt := 46) dX7_draws_7 rfl (fun c_7 => ?_) (fun c_7 => ?_)
  · refine v_iload_n (pc := 46) 1 dX7_draws_46 rfl rfl ?_
    refine v_iconst (pc := 47) (nI 1) dX7_draws_47 kI_1 ?_
    refine v_icmp_ne (pc := 48) (tgt := 76) dX7_draws_48 rfl (fun c_48 => ?_) (fun c_48 => ?_)
    · refine v_iload_n (pc := 76) 1 dX7_draws_76 rfl rfl ?_
      refine v_iconst (pc := 77) (nI 2) dX7_draws_77 kI_2 ?_
      refine v_icmp_ne (pc := 78) (tgt := 100) dX7_draws_78 rfl (fun c_78 => ?_) (fun c_78 => ?_)
      · exact v_vret (pc := 100) dX7_draws_100 (by rw [show drS xP np (sd, xW) = _ from ((if_neg c_7).trans (if_neg c_48)).trans (if_neg c_78)]; exact ⟨rfl, rfl⟩)
      · refine v_aload_n (pc := 81) 0 dX7_draws_81 rfl rfl ?_
        refine v_bipush (pc := 82) (nI 51) dX7_draws_82 kB_51 ?_
        refine v_callV (pc := 84) _ _ k_X7_224 (cMr_obj) rfl (by decide) (m_draw (by decide)) ⟨rfl, rfl, by decide⟩ rfl rfl (Nat.le_of_ble_eq_true rfl) ⟨Nat.le_of_ble_eq_true rfl, Nat.le_of_ble_eq_true rfl⟩ dX7_draws_84 (unS ?_)
        show V E X _ RX7 _ _ _ 0 0 _ false 146 87 _ [_] _
        refine v_istore_n (pc := 87) [1, 2, 0] [(0, _), (1, _), (2, _)] dX7_draws_87 rfl (by decide) rfl ?_
        refine v_aload_n (pc := 88) 0 dX7_draws_88 rfl rfl ?_
        refine v_iload_n (pc := 89) 2 dX7_draws_89 rfl rfl ?_
        refine v_aload_n (pc := 90) 0 dX7_draws_90 rfl rfl ?_
        refine v_bipush (pc := 91) (nI 10) dX7_draws_91 kB_10 ?_
        refine v_callV (pc := 93) _ _ k_X7_224 (cMr_obj) rfl (by decide) (m_draw (by decide)) ⟨rfl, rfl, by decide⟩ rfl rfl (Nat.le_of_ble_eq_true rfl) ⟨Nat.le_of_ble_eq_true rfl, Nat.le_of_ble_eq_true rfl⟩ dX7_draws_93 (unS ?_)
        show V E X _ RX7 _ _ _ 0 0 _ false 146 96 _ [_, _, _] _
        refine v_callV (pc := 96) _ _ k_X7_200 (cMr_obj) rfl (by decide) (m_hawks hp hnp ht _ _) ⟨rfl, rfl, by decide⟩ rfl rfl (Nat.le_of_ble_eq_true rfl) ⟨Nat.le_of_ble_eq_true rfl, Nat.le_of_ble_eq_true rfl⟩ dX7_draws_96 (unS ?_)
        show V E X _ RX7 _ _ _ 0 0 _ false 146 99 _ [_] _
        refine v_istore_n (pc := 99) [1, 2, 3, 0] [(0, _), (1, _), (2, _), (3, _)] dX7_draws_99 rfl (by decide) rfl ?_
        exact v_vret (pc := 100) dX7_draws_100 (by rw [show drS xP np (sd, xW) = _ from ((if_neg c_7).trans (if_neg c_48)).trans (if_pos c_78)]; exact ⟨rfl, rfl⟩)
    · refine v_aload_n (pc := 51) 0 dX7_draws_51 rfl rfl ?_
      refine v_aload_n (pc := 52) 0 dX7_draws_52 rfl rfl ?_
      refine g_X7_7 (pc := 53) (cMr_obj) (by decide) rfl dX7_draws_53 ?_
      refine v_iconst (pc := 56) (nI 2) dX7_draws_56 kI_2 ?_
      refine v_ialdN (pc := 57) (cM_parish) (by decide) (by omega) (by decide) dX7_draws_57 ?_
      rw [hp]
      refine v_callV (pc := 58) _ _ k_X7_224 (cMr_obj) rfl (by decide) (m_draw (nI_ne0 h0 (by omega))) ⟨rfl, rfl, by decide⟩ rfl rfl (Nat.le_of_ble_eq_true rfl) ⟨Nat.le_of_ble_eq_true rfl, Nat.le_of_ble_eq_true rfl⟩ dX7_draws_58 (unS ?_)
      show V E X _ RX7 _ _ _ 0 0 _ false 146 61 _ [_] _
      obtain ⟨q, hq, eq⟩ := dwV_lt (sdN_ok (sdN_ok hsd)) h0 (by omega)
      rw [eq]
      refine v_istore_n (pc := 61) [1, 2, 0] [(0, _), (1, _), (2, _)] dX7_draws_61 rfl (by decide) rfl ?_
      refine v_aload_n (pc := 62) 0 dX7_draws_62 rfl rfl ?_
      refine v_iload_n (pc := 63) 2 dX7_draws_63 rfl rfl ?_
      refine v_aload_n (pc := 64) 0 dX7_draws_64 rfl rfl ?_
      refine v_bipush (pc := 65) (nI 20) dX7_draws_65 kB_20 ?_
      refine v_callV (pc := 67) _ _ k_X7_224 (cMr_obj) rfl (by decide) (m_draw (by decide)) ⟨rfl, rfl, by decide⟩ rfl rfl (Nat.le_of_ble_eq_true rfl) ⟨Nat.le_of_ble_eq_true rfl, Nat.le_of_ble_eq_true rfl⟩ dX7_draws_67 (unS ?_)
      show V E X _ RX7 _ _ _ 0 0 _ false 146 70 _ [_, _, _] _
      refine v_callV (pc := 70) _ _ k_X7_194 (cMr_obj) rfl (by decide) (m_strews (by omega) _) ⟨rfl, rfl, by decide⟩ rfl rfl (Nat.le_of_ble_eq_true rfl) ⟨Nat.le_of_ble_eq_true rfl, Nat.le_of_ble_eq_true rfl⟩ dX7_draws_70 (unS ?_)
      show V E X _ RX7 _ _ _ 0 0 _ false 146 73 _ [] _
      refine v_goto (pc := 73) (tgt := 100) dX7_draws_73 rfl ?_
      exact v_vret (pc := 100) dX7_draws_100 (by rw [show drS xP np (sd, xW) = _ from (if_neg c_7).trans (if_pos c_48), eq, show (nI q).toNatClampNeg = q from nI_clamp (by omega)]; exact ⟨rfl, rfl⟩)
  · refine v_aload_n (pc := 10) 0 dX7_draws_10 rfl rfl ?_
    refine v_aload_n (pc := 11) 0 dX7_draws_11 rfl rfl ?_
    refine g_X7_7 (pc := 12) (cMr_obj) (by decide) rfl dX7_draws_12 ?_
    refine v_iconst (pc := 15) (nI 2) dX7_draws_15 kI_2 ?_
    refine v_ialdN (pc := 16) (cM_parish) (by decide) (by omega) (by decide) dX7_draws_16 ?_
    rw [hp]
    refine v_callV (pc := 17) _ _ k_X7_224 (cMr_obj) rfl (by decide) (m_draw (nI_ne0 h0 (by omega))) ⟨rfl, rfl, by decide⟩ rfl rfl (Nat.le_of_ble_eq_true rfl) ⟨Nat.le_of_ble_eq_true rfl, Nat.le_of_ble_eq_true rfl⟩ dX7_draws_17 (unS ?_)
    show V E X _ RX7 _ _ _ 0 0 _ false 146 20 _ [_] _
    obtain ⟨q, hq, eq⟩ := dwV_lt (sdN_ok (sdN_ok hsd)) h0 (by omega)
    rw [eq]
    refine v_istore_n (pc := 20) [1, 2, 0] [(0, _), (1, _), (2, _)] dX7_draws_20 rfl (by decide) rfl ?_
    refine v_aload_n (pc := 21) 0 dX7_draws_21 rfl rfl ?_
    refine g_X7_16 (pc := 22) (cMr_obj) (by decide) rfl dX7_draws_22 ?_
    refine v_bipush (pc := 25) (-2) dX7_draws_25 kB_m2 ?_
    refine v_iload_n (pc := 27) 2 dX7_draws_27 rfl rfl ?_
    refine v_bipush (pc := 28) (nI 9) dX7_draws_28 kB_9 ?_
    refine v_aload_n (pc := 30) 0 dX7_draws_30 rfl rfl ?_
    refine g_X7_16 (pc := 31) (cMr_obj) (by decide) rfl dX7_draws_31 ?_
    refine v_bipush (pc := 34) (nI 15) dX7_draws_34 kB_15 ?_
    refine v_ialdN (pc := 36) (cM_now) (by decide) (by omega) (by decide) dX7_draws_36 ?_
    refine v_callS (pc := 37) _ _ k_X7_138 (m_lesser _ _) ⟨rfl, rfl, by decide⟩ rfl rfl (Nat.le_of_ble_eq_true rfl) ⟨Nat.le_of_ble_eq_true rfl, Nat.le_of_ble_eq_true rfl⟩ dX7_draws_37 (unS ?_)
    show V E X _ RX7 _ _ _ 0 0 _ false 146 40 _ [_, _, _, _] _
    refine v_callS (pc := 40) _ _ k_X7_158 (m_fliesW ht plc_t (plc_n (by omega)) _) ⟨rfl, rfl, by decide⟩ rfl rfl (Nat.le_of_ble_eq_true rfl) ⟨Nat.le_of_ble_eq_true rfl, Nat.le_of_ble_eq_true rfl⟩ dX7_draws_40 (unS ?_)
    show V E X _ RX7 _ _ _ 0 0 _ false 146 43 _ [] _
    refine v_goto (pc := 43) (tgt := 100) dX7_draws_43 rfl ?_
    exact v_vret (pc := 100) dX7_draws_100 (by rw [show drS xP np (sd, xW) = _ from if_pos c_7, eq]; exact ⟨rfl, rfl⟩)
def st_rg (P W : Fn) (a : Int32) (d : Nat) (s : Int32) : Int32 := s ||| (if ¬ W (17 + d) ≤ 0 ∧ (P (25 + d) = a ∨ hasB s (P (25 + d)) = true) then nI 1 <<< (P (34 + d) &&& 31) else nI 0)
def cmM (P W : Fn) (a : Int32) (nd : Nat) : Int32 := itn (fun _ s => itn (st_rg P W a) nd s) 7 (nI 0)
def rgM (P W : Fn) (np nd : Nat) : Int32 := itn (fun p s => s ||| (if hasB (cmM P W (nI p) nd) (nI p) = true then nI 1 <<< (nI p &&& 31) else nI 0)) np (nI 0)
set_option maxHeartbeats 4000000 in
set_option maxRecDepth 100000 in
theorem m_rings {E : Ev} {c : CSt} {xP xR xW xS xZ xG xK xT xQ xF xB xL xC : Fn} {un sz wm fm bm at_ bg fg : Nat} {ft sg vl wr : Int32} {sd : Int64} {np : Nat} (hp : xP 2 = nI np) (hnp : np ≤ 7) {nd : Nat} (hd : xP 3 = nI nd) (hnd : nd ≤ 9) : Ct E yX7_rings cX7_rings 7 (some .int) ({ frames := 1, cells := 0, slots := 0, locals := 21 } : Room) false 146 [.ref (Ez E + 132)] (cellOf E (c, (mkA xP xR xW xS xZ xG xK xT xQ xF xB xL xC, (nI un, nI sz, ft, nI wm, nI fm, nI bm, nI at_, nI bg, sg, nI fg, vl, wr), sd))) 146 0 0 (Ff (some (.int (rgM xP xW np nd))) (cellOf E (c, (mkA xP xR xW xS xZ xG xK xT xQ xF xB xL xC, (nI un, nI sz, ft, nI wm, nI fm, nI bm, nI at_, nI bg, sg, nI fg, vl, wr), sd)))) := by
  refine Ct.ofV (by decide) (Nat.le_of_ble_eq_true rfl) (fun X hnm => ?_)
  show V E X _ RX7 _ _ _ _ _ _ false 146 0 [(0, .ref (Ez E + 132))] [] _
  refine v_iconst (pc := 0) (nI 0) dX7_rings_0 kI_0 ?_
  refine v_istore_n (pc := 1) [1, 0] [(0, _), (1, _)] dX7_rings_1 rfl (by decide) rfl ?_
  refine v_iconst (pc := 2) (nI 0) dX7_rings_2 kI_0 ?_
  refine v_istore_n (pc := 3) [1, 2, 0] [(0, _), (1, _), (2, _)] dX7_rings_3 rfl (by decide) rfl ?_
  refine dn (P := fun i => V E X ({ frames := 1, cells := 0, slots := 0, locals := 21 } : Room) RX7 cX7_rings 7 (some .int) 0 0 (QX E X false 146 (Ff (some (.int (rgM xP xW np nd))) (cellOf E (c, (mkA xP xR xW xS xZ xG xK xT xQ xF xB xL xC, (nI un, nI sz, ft, nI wm, nI fm, nI bm, nI at_, nI bg, sg, nI fg, vl, wr), sd)))) 0 0) false 146 4 [(0, .ref (Ez E + 132)), (1, .int (itn (fun p s => s ||| (if hasB (cmM xP xW (nI p) nd) (nI p) = true then nI 1 <<< (nI p &&& 31) else nI 0)) i (nI 0))), (2, .int (nI i))] [] (cellOf E (c, (mkA xP xR xW xS xZ xG xK xT xQ xF xB xL xC, (nI un, nI sz, ft, nI wm, nI fm, nI bm, nI at_, nI bg, sg, nI fg, vl, wr), sd)))) (N := np) ?_ ?_
  · refine v_iload_n (pc := 4) 2 dX7_rings_4 rfl rfl ?_
    refine v_aload_n (pc := 5) 0 dX7_rings_5 rfl rfl ?_
    refine g_X7_7 (pc := 6) (cMr_obj) (by decide) rfl dX7_rings_6 ?_
    refine v_iconst (pc := 9) (nI 2) dX7_rings_9 kI_2 ?_
    refine v_ialdN (pc := 10) (cM_parish) (by decide) (by omega) (by decide) dX7_rings_10 ?_
    rw [hp]
    refine v_icmp_geN (pc := 11) (by omega) (by omega) (tgt := 151) dX7_rings_11 rfl (fun c_11 => ?_) (fun c_11 => False.elim ((fun c => by omega) c_11))
    refine v_iload_n (pc := 151) 1 dX7_rings_151 rfl rfl ?_
    exact v_iret (pc := 152) dX7_rings_152 (⟨rfl, rfl⟩)
  · intro i hi ih
    have ih : V E X ({ frames := 1, cells := 0, slots := 0, locals := 21 } : Room) RX7 cX7_rings 7 (some .int) 0 0 (QX E X false 146 (Ff (some (.int (rgM xP xW np nd))) (cellOf E (c, (mkA xP xR xW xS xZ xG xK xT xQ xF xB xL xC, (nI un, nI sz, ft, nI wm, nI fm, nI bm, nI at_, nI bg, sg, nI fg, vl, wr), sd)))) 0 0) false 146 4 [(0, .ref (Ez E + 132)), (1, .int (itn (fun p s => s ||| (if hasB (cmM xP xW (nI p) nd) (nI p) = true then nI 1 <<< (nI p &&& 31) else nI 0)) i (nI 0) ||| (if hasB (cmM xP xW (nI i) nd) (nI i) = true then nI 1 <<< (nI i &&& 31) else nI 0))), (2, .int (nI (i + 1)))] [] (cellOf E (c, (mkA xP xR xW xS xZ xG xK xT xQ xF xB xL xC, (nI un, nI sz, ft, nI wm, nI fm, nI bm, nI at_, nI bg, sg, nI fg, vl, wr), sd))) := by rw [itn_s] at ih; exact ih
    generalize itn (fun p s => s ||| (if hasB (cmM xP xW (nI p) nd) (nI p) = true then nI 1 <<< (nI p &&& 31) else nI 0)) i (nI 0) = s1 at ih ⊢
    show V E X _ RX7 _ _ _ _ _ _ false 146 _ [(0, .ref (Ez E + 132)), (1, .int (s1)), (2, .int (nI i))] [] (cellOf E (c, (mkA xP xR xW xS xZ xG xK xT xQ xF xB xL xC, (nI un, nI sz, ft, nI wm, nI fm, nI bm, nI at_, nI bg, sg, nI fg, vl, wr), sd)))
    refine v_iload_n (pc := 4) 2 dX7_rings_4 rfl rfl ?_
    refine v_aload_n (pc := 5) 0 dX7_rings_5 rfl rfl ?_
    refine g_X7_7 (pc := 6) (cMr_obj) (by decide) rfl dX7_rings_6 ?_
    refine v_iconst (pc := 9) (nI 2) dX7_rings_9 kI_2 ?_
    refine v_ialdN (pc := 10) (cM_parish) (by decide) (by omega) (by decide) dX7_rings_10 ?_
    rw [hp]
    refine v_icmp_geN (pc := 11) (by omega) (by omega) (tgt := 151) dX7_rings_11 rfl (fun c_11 => False.elim ((fun c => by omega) c_11)) (fun c_11 => ?_)
    refine v_iconst (pc := 14) (nI 0) dX7_rings_14 kI_0 ?_
    refine v_istore_n (pc := 15) [1, 2, 3, 0] [(0, _), (1, _), (2, _), (3, _)] dX7_rings_15 rfl (by decide) rfl ?_
    refine v_iconst (pc := 16) (nI 0) dX7_rings_16 kI_0 ?_
    refine v_istore (pc := 17) [1, 2, 3, 4, 0] [(0, _), (1, _), (2, _), (3, _), (4, _)] dX7_rings_17 (by decide) rfl ?_
    refine dn (P := fun e => V E X ({ frames := 1, cells := 0, slots := 0, locals := 21 } : Room) RX7 cX7_rings 7 (some .int) 0 0 (QX E X false 146 (Ff (some (.int (rgM xP xW np nd))) (cellOf E (c, (mkA xP xR xW xS xZ xG xK xT xQ xF xB xL xC, (nI un, nI sz, ft, nI wm, nI fm, nI bm, nI at_, nI bg, sg, nI fg, vl, wr), sd)))) 0 0) false 146 19 [(0, .ref (Ez E + 132)), (1, .int s1), (2, .int (nI i)), (3, .int (itn (fun _ s => itn (st_rg xP xW (nI i)) nd s) e (nI 0))), (4, .int (nI e))] [] (cellOf E (c, (mkA xP xR xW xS xZ xG xK xT xQ xF xB xL xC, (nI un, nI sz, ft, nI wm, nI fm, nI bm, nI at_, nI bg, sg, nI fg, vl, wr), sd)))) (N := 7) ?_ ?_
    · generalize hc9 : itn (fun _ s => itn (st_rg xP xW (nI i)) nd s) 7 (nI 0) = c9 
      show V E X _ RX7 _ _ _ _ _ _ false 146 _ [(0, .ref (Ez E + 132)), (1, .int s1), (2, .int (nI i)), (3, .int (c9)), (4, .int (nI 7))] [] (cellOf E (c, (mkA xP xR xW xS xZ xG xK xT xQ xF xB xL xC, (nI un, nI sz, ft, nI wm, nI fm, nI bm, nI at_, nI bg, sg, nI fg, vl, wr), sd)))
      refine v_iload (pc := 19) 4 dX7_rings_19 rfl ?_
      refine v_bipush (pc := 21) (nI 7) dX7_rings_21 kB_7 ?_
      refine v_icmp_geN (pc := 23) (by omega) (by omega) (tgt := 127) dX7_rings_23 rfl (fun c_23 => ?_) (fun c_23 => False.elim ((fun c => by omega) c_23))
      refine v_iload_n (pc := 127) 1 dX7_rings_127 rfl rfl ?_
      refine v_iload_n (pc := 128) 3 dX7_rings_128 rfl rfl ?_
      refine v_iload_n (pc := 129) 2 dX7_rings_129 rfl rfl ?_
      refine v_callS (pc := 130) _ _ k_X7_142 (m_has _ _) ⟨rfl, rfl, by decide⟩ rfl rfl (Nat.le_of_ble_eq_true rfl) ⟨Nat.le_of_ble_eq_true rfl, Nat.le_of_ble_eq_true rfl⟩ dX7_rings_130 (unS ?_)
      show V E X _ RX7 _ _ _ 0 0 _ false 146 133 _ [_, _] _
      refine v_if_eqB (pc := 133) (tgt := 142) dX7_rings_133 rfl (fun c_133 => ?_) (fun c_133 => ?_)
      · refine v_iconst (pc := 142) (nI 0) dX7_rings_142 kI_0 ?_
        refine v_ior (pc := 143) dX7_rings_143 ?_
        refine v_istore_n (pc := 144) [1, 0, 2, 3, 4] [(0, _), (1, _), (2, _), (3, _), (4, _)] dX7_rings_144 rfl (by decide) rfl ?_
        refine v_iincN (pc := 145) 2 [1, 2, 0, 3, 4] [(0, _), (1, _), (2, _), (3, _), (4, _)] kI_1 dX7_rings_145 rfl (by decide) rfl ?_
        refine v_goto (pc := 148) (tgt := 4) dX7_rings_148 rfl ?_
        refine v_sub [0, 1, 2] rfl ?_
        rw [show cmM xP xW (nI i) nd = c9 from hc9, if_neg (by rw [c_133]; decide)] at ih
        exact ih
      · refine v_iconst (pc := 136) (nI 1) dX7_rings_136 kI_1 ?_
        refine v_iload_n (pc := 137) 2 dX7_rings_137 rfl rfl ?_
        refine v_ishl (pc := 138) dX7_rings_138 ?_
        refine v_goto (pc := 139) (tgt := 143) dX7_rings_139 rfl ?_
        refine v_ior (pc := 143) dX7_rings_143 ?_
        refine v_istore_n (pc := 144) [1, 0, 2, 3, 4] [(0, _), (1, _), (2, _), (3, _), (4, _)] dX7_rings_144 rfl (by decide) rfl ?_
        refine v_iincN (pc := 145) 2 [1, 2, 0, 3, 4] [(0, _), (1, _), (2, _), (3, _), (4, _)] kI_1 dX7_rings_145 rfl (by decide) rfl ?_
        refine v_goto (pc := 148) (tgt := 4) dX7_rings_148 rfl ?_
        refine v_sub [0, 1, 2] rfl ?_
        rw [show cmM xP xW (nI i) nd = c9 from hc9, if_pos c_133] at ih
        exact ih
    · intro e he ih
      have ih : V E X ({ frames := 1, cells := 0, slots := 0, locals := 21 } : Room) RX7 cX7_rings 7 (some .int) 0 0 (QX E X false 146 (Ff (some (.int (rgM xP xW np nd))) (cellOf E (c, (mkA xP xR xW xS xZ xG xK xT xQ xF xB xL xC, (nI un, nI sz, ft, nI wm, nI fm, nI bm, nI at_, nI bg, sg, nI fg, vl, wr), sd)))) 0 0) false 146 19 [(0, .ref (Ez E + 132)), (1, .int s1), (2, .int (nI i)), (3, .int (itn (st_rg xP xW (nI i)) nd (itn (fun _ s => itn (st_rg xP xW (nI i)) nd s) e (nI 0)))), (4, .int (nI (e + 1)))] [] (cellOf E (c, (mkA xP xR xW xS xZ xG xK xT xQ xF xB xL xC, (nI un, nI sz, ft, nI wm, nI fm, nI bm, nI at_, nI bg, sg, nI fg, vl, wr), sd))) := by rw [itn_s] at ih; exact ih
      generalize itn (fun _ s => itn (st_rg xP xW (nI i)) nd s) e (nI 0) = c1 at ih ⊢
      show V E X _ RX7 _ _ _ _ _ _ false 146 _ [(0, .ref (Ez E + 132)), (1, .int s1), (2, .int (nI i)), (3, .int (c1)), (4, .int (nI e))] [] (cellOf E (c, (mkA xP xR xW xS xZ xG xK xT xQ xF xB xL xC, (nI un, nI sz, ft, nI wm, nI fm, nI bm, nI at_, nI bg, sg, nI fg, vl, wr), sd)))
      refine v_iload (pc := 19) 4 dX7_rings_19 rfl ?_
      refine v_bipush (pc := 21) (nI 7) dX7_rings_21 kB_7 ?_
      refine v_icmp_geN (pc := 23) (by omega) (by omega) (tgt := 127) dX7_rings_23 rfl (fun c_23 => False.elim ((fun c => by omega) c_23)) (fun c_23 => ?_)
      refine v_iconst (pc := 26) (nI 0) dX7_rings_26 kI_0 ?_
      refine v_istore (pc := 27) [1, 2, 3, 4, 5, 0] [(0, _), (1, _), (2, _), (3, _), (4, _), (5, _)] dX7_rings_27 (by decide) rfl ?_
      refine dn (P := fun u => V E X ({ frames := 1, cells := 0, slots := 0, locals := 21 } : Room) RX7 cX7_rings 7 (some .int) 0 0 (QX E X false 146 (Ff (some (.int (rgM xP xW np nd))) (cellOf E (c, (mkA xP xR xW xS xZ xG xK xT xQ xF xB xL xC, (nI un, nI sz, ft, nI wm, nI fm, nI bm, nI at_, nI bg, sg, nI fg, vl, wr), sd)))) 0 0) false 146 29 [(0, .ref (Ez E + 132)), (1, .int s1), (2, .int (nI i)), (3, .int (itn (st_rg xP xW (nI i)) u c1)), (4, .int (nI e)), (5, .int (nI u))] [] (cellOf E (c, (mkA xP xR xW xS xZ xG xK xT xQ xF xB xL xC, (nI un, nI sz, ft, nI wm, nI fm, nI bm, nI at_, nI bg, sg, nI fg, vl, wr), sd)))) (N := nd) ?_ ?_
      · refine v_iload (pc := 29) 5 dX7_rings_29 rfl ?_
        refine v_aload_n (pc := 31) 0 dX7_rings_31 rfl rfl ?_
        refine g_X7_7 (pc := 32) (cMr_obj) (by decide) rfl dX7_rings_32 ?_
        refine v_iconst (pc := 35) (nI 3) dX7_rings_35 kI_3 ?_
        refine v_ialdN (pc := 36) (cM_parish) (by decide) (by omega) (by decide) dX7_rings_36 ?_
        rw [hd]
        refine v_icmp_geN (pc := 37) (by omega) (by omega) (tgt := 121) dX7_rings_37 rfl (fun c_37 => ?_) (fun c_37 => False.elim ((fun c => by omega) c_37))
        refine v_iincN (pc := 121) 4 [1, 2, 3, 4, 0, 5] [(0, _), (1, _), (2, _), (3, _), (4, _), (5, _)] kI_1 dX7_rings_121 rfl (by decide) rfl ?_
        refine v_goto (pc := 124) (tgt := 19) dX7_rings_124 rfl ?_
        refine v_sub [0, 1, 2, 3, 4] rfl ?_
        exact ih
      · intro u hu ih
        have ih : V E X ({ frames := 1, cells := 0, slots := 0, locals := 21 } : Room) RX7 cX7_rings 7 (some .int) 0 0 (QX E X false 146 (Ff (some (.int (rgM xP xW np nd))) (cellOf E (c, (mkA xP xR xW xS xZ xG xK xT xQ xF xB xL xC, (nI un, nI sz, ft, nI wm, nI fm, nI bm, nI at_, nI bg, sg, nI fg, vl, wr), sd)))) 0 0) false 146 29 [(0, .ref (Ez E + 132)), (1, .int s1), (2, .int (nI i)), (3, .int (st_rg xP xW (nI i) u (itn (st_rg xP xW (nI i)) u c1))), (4, .int (nI e)), (5, .int (nI (u + 1)))] [] (cellOf E (c, (mkA xP xR xW xS xZ xG xK xT xQ xF xB xL xC, (nI un, nI sz, ft, nI wm, nI fm, nI bm, nI at_, nI bg, sg, nI fg, vl, wr), sd))) := by rw [itn_s] at ih; exact ih
        generalize itn (st_rg xP xW (nI i)) u c1 = c2 at ih ⊢
        show V E X _ RX7 _ _ _ _ _ _ false 146 _ [(0, .ref (Ez E + 132)), (1, .int s1), (2, .int (nI i)), (3, .int (c2)), (4, .int (nI e)), (5, .int (nI u))] [] (cellOf E (c, (mkA xP xR xW xS xZ xG xK xT xQ xF xB xL xC, (nI un, nI sz, ft, nI wm, nI fm, nI bm, nI at_, nI bg, sg, nI fg, vl, wr), sd)))
        refine v_iload (pc := 29) 5 dX7_rings_29 rfl ?_
        refine v_aload_n (pc := 31) 0 dX7_rings_31 rfl rfl ?_
        refine g_X7_7 (pc := 32) (cMr_obj) (by decide) rfl dX7_rings_32 ?_
        refine v_iconst (pc := 35) (nI 3) dX7_rings_35 kI_3 ?_
        refine v_ialdN (pc := 36) (cM_parish) (by decide) (by omega) (by decide) dX7_rings_36 ?_
        rw [hd]
        refine v_icmp_geN (pc := 37) (by omega) (by omega) (tgt := 121) dX7_rings_37 rfl (fun c_37 => False.elim ((fun c => by omega) c_37)) (fun c_37 => ?_)
        refine v_aload_n (pc := 40) 0 dX7_rings_40 rfl rfl ?_
        refine g_X7_7 (pc := 41) (cMr_obj) (by decide) rfl dX7_rings_41 ?_
        refine v_bipush (pc := 44) (nI 25) dX7_rings_44 kB_25 ?_
        refine v_iload (pc := 46) 5 dX7_rings_46 rfl ?_
        refine v_iaddN (pc := 48) dX7_rings_48 ?_
        refine v_ialdN (pc := 49) (cM_parish) (by decide) (by omega) (by decide) dX7_rings_49 ?_
        refine v_iload_n (pc := 50) 2 dX7_rings_50 rfl rfl ?_
        refine v_icmp_eq (pc := 51) (tgt := 71) dX7_rings_51 rfl (fun c_51 => ?_) (fun c_51 => ?_)
        · refine v_iconst (pc := 71) (nI 1) dX7_rings_71 kI_1 ?_
          refine v_goto (pc := 72) (tgt := 76) dX7_rings_72 rfl ?_
          refine v_istore (pc := 76) [1, 2, 3, 4, 5, 6, 0] [(0, _), (1, _), (2, _), (3, _), (4, _), (5, _), (6, _)] dX7_rings_76 (by decide) rfl ?_
          refine v_iload_n (pc := 78) 3 dX7_rings_78 rfl rfl ?_
          refine v_aload_n (pc := 79) 0 dX7_rings_79 rfl rfl ?_
          refine g_X7_16 (pc := 80) (cMr_obj) (by decide) rfl dX7_rings_80 ?_
          refine v_bipush (pc := 83) (nI 17) dX7_rings_83 kB_17 ?_
          refine v_iload (pc := 85) 5 dX7_rings_85 rfl ?_
          refine v_iaddN (pc := 87) dX7_rings_87 ?_
          refine v_ialdN (pc := 88) (cM_now) (by decide) (by omega) (by decide) dX7_rings_88 ?_
          refine v_if_le (pc := 89) (tgt := 112) dX7_rings_89 rfl (fun c_89 => ?_) (fun c_89 => ?_)
          · refine v_iconst (pc := 112) (nI 0) dX7_rings_112 kI_0 ?_
            refine v_ior (pc := 113) dX7_rings_113 ?_
            refine v_istore_n (pc := 114) [1, 2, 3, 0, 4, 5, 6] [(0, _), (1, _), (2, _), (3, _), (4, _), (5, _), (6, _)] dX7_rings_114 rfl (by decide) rfl ?_
            refine v_iincN (pc := 115) 5 [1, 2, 3, 4, 5, 0, 6] [(0, _), (1, _), (2, _), (3, _), (4, _), (5, _), (6, _)] kI_1 dX7_rings_115 rfl (by decide) rfl ?_
            refine v_goto (pc := 118) (tgt := 29) dX7_rings_118 rfl ?_
            refine v_sub [0, 1, 2, 3, 4, 5] rfl ?_
            rw [show st_rg xP xW (nI i) u c2 = c2 ||| nI 0 from by unfold st_rg; rw [if_neg (by rintro ⟨q, -⟩; exact q c_89)]] at ih
            exact ih
          · refine v_iload (pc := 92) 6 dX7_rings_92 rfl ?_
            refine v_if_eqN (pc := 94) (by omega) (tgt := 112) dX7_rings_94 rfl (fun c_94 => False.elim ((fun z => absurd z (by decide)) c_94)) (fun c_94 => ?_)
            refine v_iconst (pc := 97) (nI 1) dX7_rings_97 kI_1 ?_
            refine v_aload_n (pc := 98) 0 dX7_rings_98 rfl rfl ?_
            refine g_X7_7 (pc := 99) (cMr_obj) (by decide) rfl dX7_rings_99 ?_
            refine v_bipush (pc := 102) (nI 34) dX7_rings_102 kB_34 ?_
            refine v_iload (pc := 104) 5 dX7_rings_104 rfl ?_
            refine v_iaddN (pc := 106) dX7_rings_106 ?_
            refine v_ialdN (pc := 107) (cM_parish) (by decide) (by omega) (by decide) dX7_rings_107 ?_
            refine v_ishl (pc := 108) dX7_rings_108 ?_
            refine v_goto (pc := 109) (tgt := 113) dX7_rings_109 rfl ?_
            refine v_ior (pc := 113) dX7_rings_113 ?_
            refine v_istore_n (pc := 114) [1, 2, 3, 0, 4, 5, 6] [(0, _), (1, _), (2, _), (3, _), (4, _), (5, _), (6, _)] dX7_rings_114 rfl (by decide) rfl ?_
            refine v_iincN (pc := 115) 5 [1, 2, 3, 4, 5, 0, 6] [(0, _), (1, _), (2, _), (3, _), (4, _), (5, _), (6, _)] kI_1 dX7_rings_115 rfl (by decide) rfl ?_
            refine v_goto (pc := 118) (tgt := 29) dX7_rings_118 rfl ?_
            refine v_sub [0, 1, 2, 3, 4, 5] rfl ?_
            rw [show st_rg xP xW (nI i) u c2 = c2 ||| nI 1 <<< (xP (34 + u) &&& 31) from by unfold st_rg; rw [if_pos ⟨c_89, Or.inl c_51⟩]] at ih
            exact ih
        · refine v_iload_n (pc := 54) 3 dX7_rings_54 rfl rfl ?_
          refine v_aload_n (pc := 55) 0 dX7_rings_55 rfl rfl ?_
          refine g_X7_7 (pc := 56) (cMr_obj) (by decide) rfl dX7_rings_56 ?_
          refine v_bipush (pc := 59) (nI 25) dX7_rings_59 kB_25 ?_
          refine v_iload (pc := 61) 5 dX7_rings_61 rfl ?_
          refine v_iaddN (pc := 63) dX7_rings_63 ?_
          refine v_ialdN (pc := 64) (cM_parish) (by decide) (by omega) (by decide) dX7_rings_64 ?_
          refine v_callS (pc := 65) _ _ k_X7_142 (m_has _ _) ⟨rfl, rfl, by decide⟩ rfl rfl (Nat.le_of_ble_eq_true rfl) ⟨Nat.le_of_ble_eq_true rfl, Nat.le_of_ble_eq_true rfl⟩ dX7_rings_65 (unS ?_)
          show V E X _ RX7 _ _ _ 0 0 _ false 146 68 _ [_] _
          refine v_if_eqB (pc := 68) (tgt := 75) dX7_rings_68 rfl (fun c_68 => ?_) (fun c_68 => ?_)
          · refine v_iconst (pc := 75) (nI 0) dX7_rings_75 kI_0 ?_
            refine v_istore (pc := 76) [1, 2, 3, 4, 5, 6, 0] [(0, _), (1, _), (2, _), (3, _), (4, _), (5, _), (6, _)] dX7_rings_76 (by decide) rfl ?_
            refine v_iload_n (pc := 78) 3 dX7_rings_78 rfl rfl ?_
            refine v_aload_n (pc := 79) 0 dX7_rings_79 rfl rfl ?_
            refine g_X7_16 (pc := 80) (cMr_obj) (by decide) rfl dX7_rings_80 ?_
            refine v_bipush (pc := 83) (nI 17) dX7_rings_83 kB_17 ?_
            refine v_iload (pc := 85) 5 dX7_rings_85 rfl ?_
            refine v_iaddN (pc := 87) dX7_rings_87 ?_
            refine v_ialdN (pc := 88) (cM_now) (by decide) (by omega) (by decide) dX7_rings_88 ?_
            refine v_if_le (pc := 89) (tgt := 112) dX7_rings_89 rfl (fun c_89 => ?_) (fun c_89 => ?_)
            · refine v_iconst (pc := 112) (nI 0) dX7_rings_112 kI_0 ?_
              refine v_ior (pc := 113) dX7_rings_113 ?_
              refine v_istore_n (pc := 114) [1, 2, 3, 0, 4, 5, 6] [(0, _), (1, _), (2, _), (3, _), (4, _), (5, _), (6, _)] dX7_rings_114 rfl (by decide) rfl ?_
              refine v_iincN (pc := 115) 5 [1, 2, 3, 4, 5, 0, 6] [(0, _), (1, _), (2, _), (3, _), (4, _), (5, _), (6, _)] kI_1 dX7_rings_115 rfl (by decide) rfl ?_
              refine v_goto (pc := 118) (tgt := 29) dX7_rings_118 rfl ?_
              refine v_sub [0, 1, 2, 3, 4, 5] rfl ?_
              rw [show st_rg xP xW (nI i) u c2 = c2 ||| nI 0 from by unfold st_rg; rw [if_neg (by rintro ⟨q, -⟩; exact q c_89)]] at ih
              exact ih
            · refine v_iload (pc := 92) 6 dX7_rings_92 rfl ?_
              refine v_if_eqN (pc := 94) (by omega) (tgt := 112) dX7_rings_94 rfl (fun c_94 => ?_) (fun c_94 => False.elim ((fun z => z (by rfl)) c_94))
              refine v_iconst (pc := 112) (nI 0) dX7_rings_112 kI_0 ?_
              refine v_ior (pc := 113) dX7_rings_113 ?_
              refine v_istore_n (pc := 114) [1, 2, 3, 0, 4, 5, 6] [(0, _), (1, _), (2, _), (3, _), (4, _), (5, _), (6, _)] dX7_rings_114 rfl (by decide) rfl ?_
              refine v_iincN (pc := 115) 5 [1, 2, 3, 4, 5, 0, 6] [(0, _), (1, _), (2, _), (3, _), (4, _), (5, _), (6, _)] kI_1 dX7_rings_115 rfl (by decide) rfl ?_
              refine v_goto (pc := 118) (tgt := 29) dX7_rings_118 rfl ?_
              refine v_sub [0, 1, 2, 3, 4, 5] rfl ?_
              rw [show st_rg xP xW (nI i) u c2 = c2 ||| nI 0 from by unfold st_rg; rw [if_neg (by rintro ⟨-, q | q⟩; exact c_51 q; rw [c_68] at q; exact Bool.noConfusion q)]] at ih
              exact ih
          · refine v_iconst (pc := 71) (nI 1) dX7_rings_71 kI_1 ?_
            refine v_goto (pc := 72) (tgt := 76) dX7_rings_72 rfl ?_
            refine v_istore (pc := 76) [1, 2, 3, 4, 5, 6, 0] [(0, _), (1, _), (2, _), (3, _), (4, _), (5, _), (6, _)] dX7_rings_76 (by decide) rfl ?_
            refine v_iload_n (pc := 78) 3 dX7_rings_78 rfl rfl ?_
            refine v_aload_n (pc := 79) 0 dX7_rings_79 rfl rfl ?_
            refine g_X7_16 (pc := 80) (cMr_obj) (by decide) rfl dX7_rings_80 ?_
            refine v_bipush (pc := 83) (nI 17) dX7_rings_83 kB_17 ?_
            refine v_iload (pc := 85) 5 dX7_rings_85 rfl ?_
            refine v_iaddN (pc := 87) dX7_rings_87 ?_
            refine v_ialdN (pc := 88) (cM_now) (by decide) (by omega) (by decide) dX7_rings_88 ?_
            refine v_if_le (pc := 89) (tgt := 112) dX7_rings_89 rfl (fun c_89 => ?_) (fun c_89 => ?_)
            · refine v_iconst (pc := 112) (nI 0) dX7_rings_112 kI_0 ?_
              refine v_ior (pc := 113) dX7_rings_113 ?_
              refine v_istore_n (pc := 114) [1, 2, 3, 0, 4, 5, 6] [(0, _), (1, _), (2, _), (3, _), (4, _), (5, _), (6, _)] dX7_rings_114 rfl (by decide) rfl ?_
              refine v_iincN (pc := 115) 5 [1, 2, 3, 4, 5, 0, 6] [(0, _), (1, _), (2, _), (3, _), (4, _), (5, _), (6, _)] kI_1 dX7_rings_115 rfl (by decide) rfl ?_
              refine v_goto (pc := 118) (tgt := 29) dX7_rings_118 rfl ?_
              refine v_sub [0, 1, 2, 3, 4, 5] rfl ?_
              rw [show st_rg xP xW (nI i) u c2 = c2 ||| nI 0 from by unfold st_rg; rw [if_neg (by rintro ⟨q, -⟩; exact q c_89)]] at ih
              exact ih
            · refine v_iload (pc := 92) 6 dX7_rings_92 rfl ?_
              refine v_if_eqN (pc := 94) (by omega) (tgt := 112) dX7_rings_94 rfl (fun c_94 => False.elim ((fun z => absurd z (by decide)) c_94)) (fun c_94 => ?_)
              refine v_iconst (pc := 97) (nI 1) dX7_rings_97 kI_1 ?_
              refine v_aload_n (pc := 98) 0 dX7_rings_98 rfl rfl ?_
              refine g_X7_7 (pc := 99) (cMr_obj) (by decide) rfl dX7_rings_99 ?_
              refine v_bipush (pc := 102) (nI 34) dX7_rings_102 kB_34 ?_
              refine v_iload (pc := 104) 5 dX7_rings_104 rfl ?_
              refine v_iaddN (pc := 106) dX7_rings_106 ?_
              refine v_ialdN (pc := 107) (cM_parish) (by decide) (by omega) (by decide) dX7_rings_107 ?_
              refine v_ishl (pc := 108) dX7_rings_108 ?_
              refine v_goto (pc := 109) (tgt := 113) dX7_rings_109 rfl ?_
              refine v_ior (pc := 113) dX7_rings_113 ?_
              refine v_istore_n (pc := 114) [1, 2, 3, 0, 4, 5, 6] [(0, _), (1, _), (2, _), (3, _), (4, _), (5, _), (6, _)] dX7_rings_114 rfl (by decide) rfl ?_
              refine v_iincN (pc := 115) 5 [1, 2, 3, 4, 5, 0, 6] [(0, _), (1, _), (2, _), (3, _), (4, _), (5, _), (6, _)] kI_1 dX7_rings_115 rfl (by decide) rfl ?_
              refine v_goto (pc := 118) (tgt := 29) dX7_rings_118 rfl ?_
              refine v_sub [0, 1, 2, 3, 4, 5] rfl ?_
              rw [show st_rg xP xW (nI i) u c2 = c2 ||| nI 1 <<< (xP (34 + u) &&& 31) from by unfold st_rg; rw [if_pos ⟨c_89, Or.inr c_68⟩]] at ih
              exact ih
def oweB (W : Fn) (d : Nat) : Bool := decide (¬ W (17 + d) ≤ 0)
def st_mp (P W : Fn) (p : Int32) (s k : Nat) (h : Int32) : Int32 := if hasB (nI s) (nI k) = true then h + (if P (34 + k) = p then W (17 + k) else nI 0) - (if P (25 + k) = p then W (17 + k) else nI 0) else h
def mpM (P W : Fn) (s d : Nat) (a m : Int32) (nd : Nat) : Bool := decide (¬ itn (st_mp P W (P (25 + d)) s) nd (W (nI 0 + P (25 + d)).toNatClampNeg + (if P (25 + d) = a then m else nI 0)) < W (17 + d))
def st_ld (P W : Fn) (s : Nat) (a m : Int32) (nd d : Nat) (c : Fn) : Fn := if hasB (nI s) (nI d) = false ∧ oweB W d = true ∧ ¬ c (s ||| 2 ^ d) < c s ∧ mpM P W s d a m nd = true then upd c s (c (s ||| 2 ^ d) + nI 1) else c
def ld1 (P W : Fn) (s : Nat) (a m : Int32) (nd : Nat) (c : Fn) : Fn := itn (st_ld P W s a m nd) nd (upd c s (nI 0))
/-- from the whole set down to none -/
def ldM (P W : Fn) (a m : Int32) (nd : Nat) (c : Fn) : Fn := itn (fun i f => ld1 P W (2 ^ nd - 1 - i) a m nd f) (2 ^ nd) c
set_option maxHeartbeats 4000000 in
set_option maxRecDepth 100000 in
theorem m_isOwed {E : Ev} {c : CSt} {xP xR xW xS xZ xG xK xT xQ xF xB xL xC : Fn} {un sz wm fm bm at_ bg fg : Nat} {ft sg vl wr : Int32} {sd : Int64} {d : Nat} (hd9 : d < 9) : Ct E yX7_isOwed cX7_isOwed 2 (some .boolean) ({ frames := 0, cells := 0, slots := 0, locals := 0 } : Room) false 146 [.ref (Ez E + 132), .int (nI d)] (cellOf E (c, (mkA xP xR xW xS xZ xG xK xT xQ xF xB xL xC, (nI un, nI sz, ft, nI wm, nI fm, nI bm, nI at_, nI bg, sg, nI fg, vl, wr), sd))) 146 0 0 (Ff (some (.int (bI (oweB xW d)))) (cellOf E (c, (mkA xP xR xW xS xZ xG xK xT xQ xF xB xL xC, (nI un, nI sz, ft, nI wm, nI fm, nI bm, nI at_, nI bg, sg, nI fg, vl, wr), sd)))) := by
  refine Ct.ofV (by decide) (Nat.le_of_ble_eq_true rfl) (fun X hnm => ?_)
  show V E X _ RX7 _ _ _ _ _ _ false 146 0 [(0, .ref (Ez E + 132)), (1, .int (nI d))] [] _
  refine v_aload_n (pc := 0) 0 dX7_isOwed_0 rfl rfl ?_
  refine g_X7_16 (pc := 1) (cMr_obj) (by decide) rfl dX7_isOwed_1 ?_
  refine v_bipush (pc := 4) (nI 17) dX7_isOwed_4 kB_17 ?_
  refine v_iload_n (pc := 6) 1 dX7_isOwed_6 rfl rfl ?_
  refine v_iaddN (pc := 7) dX7_isOwed_7 ?_
  refine v_ialdN (pc := 8) (cM_now) (by decide) (by omega) (by decide) dX7_isOwed_8 ?_
  refine v_if_le (pc := 9) (tgt := 16) dX7_isOwed_9 rfl (fun c_9 => ?_) (fun c_9 => ?_)
  · refine v_iconst (pc := 16) (nI 0) dX7_isOwed_16 kI_0 ?_
    exact v_zret (pc := 17) dX7_isOwed_17 ((by rfl)) (⟨by rw [show oweB xW d = false from decide_eq_false (fun q => q c_9)]; rfl, rfl⟩)
  · refine v_iconst (pc := 12) (nI 1) dX7_isOwed_12 kI_1 ?_
    refine v_goto (pc := 13) (tgt := 17) dX7_isOwed_13 rfl ?_
    exact v_zret (pc := 17) dX7_isOwed_17 ((by rfl)) (⟨by rw [show oweB xW d = true from decide_eq_true c_9]; rfl, rfl⟩)
set_option maxHeartbeats 4000000 in
set_option maxRecDepth 100000 in
theorem m_mayPay {E : Ev} {c : CSt} {xP xR xW xS xZ xG xK xT xQ xF xB xL xC : Fn} {un sz wm fm bm at_ bg fg : Nat} {ft sg vl wr : Int32} {sd : Int64} {nd : Nat} (hd : xP 3 = nI nd) (hnd : nd ≤ 9) {s d : Nat} (hd9 : d < nd) (hv : ∀ d, d < nd → vp_in (xP (25 + d)) 7) (a m : Int32) : Ct E yX7_mayPay cX7_mayPay 8 (some .boolean) ({ frames := 1, cells := 0, slots := 0, locals := 21 } : Room) false 146 [.ref (Ez E + 132), .int (nI s), .int (nI d), .int a, .int m] (cellOf E (c, (mkA xP xR xW xS xZ xG xK xT xQ xF xB xL xC, (nI un, nI sz, ft, nI wm, nI fm, nI bm, nI at_, nI bg, sg, nI fg, vl, wr), sd))) 146 0 0 (Ff (some (.int (bI (mpM xP xW s d a m nd)))) (cellOf E (c, (mkA xP xR xW xS xZ xG xK xT xQ xF xB xL xC, (nI un, nI sz, ft, nI wm, nI fm, nI bm, nI at_, nI bg, sg, nI fg, vl, wr), sd)))) := by
  have hv48 : vp_in (nI 0 + xP (25 + d)) 48 := by obtain ⟨q, hq, e⟩ := vp_in_of (hv d hd9) (by decide); rw [e, nI_add]; exact vp_in_nI (by omega) (by decide)
  refine Ct.ofV (by decide) (Nat.le_of_ble_eq_true rfl) (fun X hnm => ?_)
  show V E X _ RX7 _ _ _ _ _ _ false 146 0 [(0, .ref (Ez E + 132)), (1, .int (nI s)), (2, .int (nI d)), (3, .int a), (4, .int m)] [] _
  refine v_aload_n (pc := 0) 0 dX7_mayPay_0 rfl rfl ?_
  refine g_X7_7 (pc := 1) (cMr_obj) (by decide) rfl dX7_mayPay_1 ?_
  refine v_bipush (pc := 4) (nI 25) dX7_mayPay_4 kB_25 ?_
  refine v_iload_n (pc := 6) 2 dX7_mayPay_6 rfl rfl ?_
  refine v_iaddN (pc := 7) dX7_mayPay_7 ?_
  refine v_ialdN (pc := 8) (cM_parish) (by decide) (by omega) (by decide) dX7_mayPay_8 ?_
  refine v_istore (pc := 9) [1, 2, 3, 4, 5, 0] [(0, _), (1, _), (2, _), (3, _), (4, _), (5, _)] dX7_mayPay_9 (by decide) rfl ?_
  refine v_aload_n (pc := 11) 0 dX7_mayPay_11 rfl rfl ?_
  refine g_X7_16 (pc := 12) (cMr_obj) (by decide) rfl dX7_mayPay_12 ?_
  refine v_iconst (pc := 15) (nI 0) dX7_mayPay_15 kI_0 ?_
  refine v_iload (pc := 16) 5 dX7_mayPay_16 rfl ?_
  refine v_iadd (pc := 18) dX7_mayPay_18 ?_
  refine v_iald (pc := 19) (cM_now) (by decide) (hv48) dX7_mayPay_19 ?_
  refine v_iload (pc := 20) 5 dX7_mayPay_20 rfl ?_
  refine v_iload_n (pc := 22) 3 dX7_mayPay_22 rfl rfl ?_
  refine v_icmp_ne (pc := 23) (tgt := 31) dX7_mayPay_23 rfl (fun c_23 => ?_) (fun c_23 => ?_)
  · refine v_iconst (pc := 31) (nI 0) dX7_mayPay_31 kI_0 ?_
    refine v_iadd (pc := 32) dX7_mayPay_32 ?_
    refine v_istore (pc := 33) [1, 2, 3, 4, 5, 6, 0] [(0, _), (1, _), (2, _), (3, _), (4, _), (5, _), (6, _)] dX7_mayPay_33 (by decide) rfl ?_
    refine v_iconst (pc := 35) (nI 0) dX7_mayPay_35 kI_0 ?_
    refine v_istore (pc := 36) [1, 2, 3, 4, 5, 6, 7, 0] [(0, _), (1, _), (2, _), (3, _), (4, _), (5, _), (6, _), (7, _)] dX7_mayPay_36 (by decide) rfl ?_
    refine dn (P := fun i => V E X ({ frames := 1, cells := 0, slots := 0, locals := 21 } : Room) RX7 cX7_mayPay 8 (some .boolean) 0 0 (QX E X false 146 (Ff (some (.int (bI (mpM xP xW s d a m nd)))) (cellOf E (c, (mkA xP xR xW xS xZ xG xK xT xQ xF xB xL xC, (nI un, nI sz, ft, nI wm, nI fm, nI bm, nI at_, nI bg, sg, nI fg, vl, wr), sd)))) 0 0) false 146 38 [(0, .ref (Ez E + 132)), (1, .int (nI s)), (2, .int (nI d)), (3, .int a), (4, .int m), (5, .int (xP (25 + d))), (6, .int (itn (st_mp xP xW (xP (25 + d)) s) i (xW (nI 0 + xP (25 + d)).toNatClampNeg + nI 0))), (7, .int (nI i))] [] (cellOf E (c, (mkA xP xR xW xS xZ xG xK xT xQ xF xB xL xC, (nI un, nI sz, ft, nI wm, nI fm, nI bm, nI at_, nI bg, sg, nI fg, vl, wr), sd)))) (N := nd) ?_ ?_
    · generalize hh9 : itn (st_mp xP xW (xP (25 + d)) s) nd (xW (nI 0 + xP (25 + d)).toNatClampNeg + nI 0) = h9 
      show V E X _ RX7 _ _ _ _ _ _ false 146 _ [(0, .ref (Ez E + 132)), (1, .int (nI s)), (2, .int (nI d)), (3, .int a), (4, .int m), (5, .int (xP (25 + d))), (6, .int (h9)), (7, .int (nI nd))] [] (cellOf E (c, (mkA xP xR xW xS xZ xG xK xT xQ xF xB xL xC, (nI un, nI sz, ft, nI wm, nI fm, nI bm, nI at_, nI bg, sg, nI fg, vl, wr), sd)))
      refine v_iload (pc := 38) 7 dX7_mayPay_38 rfl ?_
      refine v_aload_n (pc := 40) 0 dX7_mayPay_40 rfl rfl ?_
      refine g_X7_7 (pc := 41) (cMr_obj) (by decide) rfl dX7_mayPay_41 ?_
      refine v_iconst (pc := 44) (nI 3) dX7_mayPay_44 kI_3 ?_
      refine v_ialdN (pc := 45) (cM_parish) (by decide) (by omega) (by decide) dX7_mayPay_45 ?_
      rw [hd]
      refine v_icmp_geN (pc := 46) (by omega) (by omega) (tgt := 132) dX7_mayPay_46 rfl (fun c_46 => ?_) (fun c_46 => False.elim ((fun c => by omega) c_46))
      refine v_iload (pc := 132) 6 dX7_mayPay_132 rfl ?_
      refine v_aload_n (pc := 134) 0 dX7_mayPay_134 rfl rfl ?_
      refine g_X7_16 (pc := 135) (cMr_obj) (by decide) rfl dX7_mayPay_135 ?_
      refine v_bipush (pc := 138) (nI 17) dX7_mayPay_138 kB_17 ?_
      refine v_iload_n (pc := 140) 2 dX7_mayPay_140 rfl rfl ?_
      refine v_iaddN (pc := 141) dX7_mayPay_141 ?_
      refine v_ialdN (pc := 142) (cM_now) (by decide) (by omega) (by decide) dX7_mayPay_142 ?_
      refine v_icmp_lt (pc := 143) (tgt := 150) dX7_mayPay_143 rfl (fun c_143 => ?_) (fun c_143 => ?_)
      · refine v_iconst (pc := 150) (nI 0) dX7_mayPay_150 kI_0 ?_
        exact v_zret (pc := 151) dX7_mayPay_151 ((by rfl)) (⟨by unfold mpM; rw [if_neg c_23, hh9, decide_eq_false (show ¬ ¬ h9 < xW (17 + d) from fun q => q c_143)]; rfl, rfl⟩)
      · refine v_iconst (pc := 146) (nI 1) dX7_mayPay_146 kI_1 ?_
        refine v_goto (pc := 147) (tgt := 151) dX7_mayPay_147 rfl ?_
        exact v_zret (pc := 151) dX7_mayPay_151 ((by rfl)) (⟨by unfold mpM; rw [if_neg c_23, hh9, decide_eq_true (show ¬ h9 < xW (17 + d) from c_143)]; rfl, rfl⟩)
    · intro i hi ih
      have ih : V E X ({ frames := 1, cells := 0, slots := 0, locals := 21 } : Room) RX7 cX7_mayPay 8 (some .boolean) 0 0 (QX E X false 146 (Ff (some (.int (bI (mpM xP xW s d a m nd)))) (cellOf E (c, (mkA xP xR xW xS xZ xG xK xT xQ xF xB xL xC, (nI un, nI sz, ft, nI wm, nI fm, nI bm, nI at_, nI bg, sg, nI fg, vl, wr), sd)))) 0 0) false 146 38 [(0, .ref (Ez E + 132)), (1, .int (nI s)), (2, .int (nI d)), (3, .int a), (4, .int m), (5, .int (xP (25 + d))), (6, .int (st_mp xP xW (xP (25 + d)) s i (itn (st_mp xP xW (xP (25 + d)) s) i (xW (nI 0 + xP (25 + d)).toNatClampNeg + nI 0)))), (7, .int (nI (i + 1)))] [] (cellOf E (c, (mkA xP xR xW xS xZ xG xK xT xQ xF xB xL xC, (nI un, nI sz, ft, nI wm, nI fm, nI bm, nI at_, nI bg, sg, nI fg, vl, wr), sd))) := by rw [itn_s] at ih; exact ih
      generalize itn (st_mp xP xW (xP (25 + d)) s) i (xW (nI 0 + xP (25 + d)).toNatClampNeg + nI 0) = h1 at ih ⊢
      show V E X _ RX7 _ _ _ _ _ _ false 146 _ [(0, .ref (Ez E + 132)), (1, .int (nI s)), (2, .int (nI d)), (3, .int a), (4, .int m), (5, .int (xP (25 + d))), (6, .int (h1)), (7, .int (nI i))] [] (cellOf E (c, (mkA xP xR xW xS xZ xG xK xT xQ xF xB xL xC, (nI un, nI sz, ft, nI wm, nI fm, nI bm, nI at_, nI bg, sg, nI fg, vl, wr), sd)))
      refine v_iload (pc := 38) 7 dX7_mayPay_38 rfl ?_
      refine v_aload_n (pc := 40) 0 dX7_mayPay_40 rfl rfl ?_
      refine g_X7_7 (pc := 41) (cMr_obj) (by decide) rfl dX7_mayPay_41 ?_
      refine v_iconst (pc := 44) (nI 3) dX7_mayPay_44 kI_3 ?_
      refine v_ialdN (pc := 45) (cM_parish) (by decide) (by omega) (by decide) dX7_mayPay_45 ?_
      rw [hd]
      refine v_icmp_geN (pc := 46) (by omega) (by omega) (tgt := 132) dX7_mayPay_46 rfl (fun c_46 => False.elim ((fun c => by omega) c_46)) (fun c_46 => ?_)
      refine v_iload_n (pc := 49) 1 dX7_mayPay_49 rfl rfl ?_
      refine v_iload (pc := 50) 7 dX7_mayPay_50 rfl ?_
      refine v_callS (pc := 52) _ _ k_X7_142 (m_has _ _) ⟨rfl, rfl, by decide⟩ rfl rfl (Nat.le_of_ble_eq_true rfl) ⟨Nat.le_of_ble_eq_true rfl, Nat.le_of_ble_eq_true rfl⟩ dX7_mayPay_52 (unS ?_)
      show V E X _ RX7 _ _ _ 0 0 _ false 146 55 _ [_] _
      refine v_if_eqB (pc := 55) (tgt := 126) dX7_mayPay_55 rfl (fun c_55 => ?_) (fun c_55 => ?_)
      · refine v_iincN (pc := 126) 7 [1, 2, 3, 4, 5, 6, 7, 0] [(0, _), (1, _), (2, _), (3, _), (4, _), (5, _), (6, _), (7, _)] kI_1 dX7_mayPay_126 rfl (by decide) rfl ?_
        refine v_goto (pc := 129) (tgt := 38) dX7_mayPay_129 rfl ?_
        rw [show st_mp xP xW (xP (25 + d)) s i h1 = h1 from if_neg (by rw [c_55]; decide)] at ih
        exact ih
      · refine v_iload (pc := 58) 6 dX7_mayPay_58 rfl ?_
        refine v_aload_n (pc := 60) 0 dX7_mayPay_60 rfl rfl ?_
        refine g_X7_7 (pc := 61) (cMr_obj) (by decide) rfl dX7_mayPay_61 ?_
        refine v_bipush (pc := 64) (nI 34) dX7_mayPay_64 kB_34 ?_
        refine v_iload (pc := 66) 7 dX7_mayPay_66 rfl ?_
        refine v_iaddN (pc := 68) dX7_mayPay_68 ?_
        refine v_ialdN (pc := 69) (cM_parish) (by decide) (by omega) (by decide) dX7_mayPay_69 ?_
        refine v_iload (pc := 70) 5 dX7_mayPay_70 rfl ?_
        refine v_icmp_ne (pc := 72) (tgt := 88) dX7_mayPay_72 rfl (fun c_72 => ?_) (fun c_72 => ?_)
        · refine v_iconst (pc := 88) (nI 0) dX7_mayPay_88 kI_0 ?_
          refine v_iadd (pc := 89) dX7_mayPay_89 ?_
          refine v_istore (pc := 90) [1, 2, 3, 4, 5, 6, 0, 7] [(0, _), (1, _), (2, _), (3, _), (4, _), (5, _), (6, _), (7, _)] dX7_mayPay_90 (by decide) rfl ?_
          refine v_iload (pc := 92) 6 dX7_mayPay_92 rfl ?_
          refine v_aload_n (pc := 94) 0 dX7_mayPay_94 rfl rfl ?_
          refine g_X7_7 (pc := 95) (cMr_obj) (by decide) rfl dX7_mayPay_95 ?_
          refine v_bipush (pc := 98) (nI 25) dX7_mayPay_98 kB_25 ?_
          refine v_iload (pc := 100) 7 dX7_mayPay_100 rfl ?_
          refine v_iaddN (pc := 102) dX7_mayPay_102 ?_
          refine v_ialdN (pc := 103) (cM_parish) (by decide) (by omega) (by decide) dX7_mayPay_103 ?_
          refine v_iload (pc := 104) 5 dX7_mayPay_104 rfl ?_
          refine v_icmp_ne (pc := 106) (tgt := 122) dX7_mayPay_106 rfl (fun c_106 => ?_) (fun c_106 => ?_)
          · refine v_iconst (pc := 122) (nI 0) dX7_mayPay_122 kI_0 ?_
            refine v_isub (pc := 123) dX7_mayPay_123 ?_
            refine v_istore (pc := 124) [1, 2, 3, 4, 5, 6, 0, 7] [(0, _), (1, _), (2, _), (3, _), (4, _), (5, _), (6, _), (7, _)] dX7_mayPay_124 (by decide) rfl ?_
            refine v_iincN (pc := 126) 7 [1, 2, 3, 4, 5, 6, 7, 0] [(0, _), (1, _), (2, _), (3, _), (4, _), (5, _), (6, _), (7, _)] kI_1 dX7_mayPay_126 rfl (by decide) rfl ?_
            refine v_goto (pc := 129) (tgt := 38) dX7_mayPay_129 rfl ?_
            rw [show st_mp xP xW (xP (25 + d)) s i h1 = _ from (if_pos c_55).trans (by rw [if_neg c_72, if_neg c_106])] at ih
            exact ih
          · refine v_aload_n (pc := 109) 0 dX7_mayPay_109 rfl rfl ?_
            refine g_X7_16 (pc := 110) (cMr_obj) (by decide) rfl dX7_mayPay_110 ?_
            refine v_bipush (pc := 113) (nI 17) dX7_mayPay_113 kB_17 ?_
            refine v_iload (pc := 115) 7 dX7_mayPay_115 rfl ?_
            refine v_iaddN (pc := 117) dX7_mayPay_117 ?_
            refine v_ialdN (pc := 118) (cM_now) (by decide) (by omega) (by decide) dX7_mayPay_118 ?_
            refine v_goto (pc := 119) (tgt := 123) dX7_mayPay_119 rfl ?_
            refine v_isub (pc := 123) dX7_mayPay_123 ?_
            refine v_istore (pc := 124) [1, 2, 3, 4, 5, 6, 0, 7] [(0, _), (1, _), (2, _), (3, _), (4, _), (5, _), (6, _), (7, _)] dX7_mayPay_124 (by decide) rfl ?_
            refine v_iincN (pc := 126) 7 [1, 2, 3, 4, 5, 6, 7, 0] [(0, _), (1, _), (2, _), (3, _), (4, _), (5, _), (6, _), (7, _)] kI_1 dX7_mayPay_126 rfl (by decide) rfl ?_
            refine v_goto (pc := 129) (tgt := 38) dX7_mayPay_129 rfl ?_
            rw [show st_mp xP xW (xP (25 + d)) s i h1 = _ from (if_pos c_55).trans (by rw [if_neg c_72, if_pos c_106])] at ih
            exact ih
        · refine v_aload_n (pc := 75) 0 dX7_mayPay_75 rfl rfl ?_
          refine g_X7_16 (pc := 76) (cMr_obj) (by decide) rfl dX7_mayPay_76 ?_
          refine v_bipush (pc := 79) (nI 17) dX7_mayPay_79 kB_17 ?_
          refine v_iload (pc := 81) 7 dX7_mayPay_81 rfl ?_
          refine v_iaddN (pc := 83) dX7_mayPay_83 ?_
          refine v_ialdN (pc := 84) (cM_now) (by decide) (by omega) (by decide) dX7_mayPay_84 ?_
          refine v_goto (pc := 85) (tgt := 89) dX7_mayPay_85 rfl ?_
          refine v_iadd (pc := 89) dX7_mayPay_89 ?_
          refine v_istore (pc := 90) [1, 2, 3, 4, 5, 6, 0, 7] [(0, _), (1, _), (2, _), (3, _), (4, _), (5, _), (6, _), (7, _)] dX7_mayPay_90 (by decide) rfl ?_
          refine v_iload (pc := 92) 6 dX7_mayPay_92 rfl ?_
          refine v_aload_n (pc := 94) 0 dX7_mayPay_94 rfl rfl ?_
          refine g_X7_7 (pc := 95) (cMr_obj) (by decide) rfl dX7_mayPay_95 ?_
          refine v_bipush (pc := 98) (nI 25) dX7_mayPay_98 kB_25 ?_
          refine v_iload (pc := 100) 7 dX7_mayPay_100 rfl ?_
          refine v_iaddN (pc := 102) dX7_mayPay_102 ?_
          refine v_ialdN (pc := 103) (cM_parish) (by decide) (by omega) (by decide) dX7_mayPay_103 ?_
          refine v_iload (pc := 104) 5 dX7_mayPay_104 rfl ?_
          refine v_icmp_ne (pc := 106) (tgt := 122) dX7_mayPay_106 rfl (fun c_106 => ?_) (fun c_106 => ?_)
          · refine v_iconst (pc := 122) (nI 0) dX7_mayPay_122 kI_0 ?_
            refine v_isub (pc := 123) dX7_mayPay_123 ?_
            refine v_istore (pc := 124) [1, 2, 3, 4, 5, 6, 0, 7] [(0, _), (1, _), (2, _), (3, _), (4, _), (5, _), (6, _), (7, _)] dX7_mayPay_124 (by decide) rfl ?_
            refine v_iincN (pc := 126) 7 [1, 2, 3, 4, 5, 6, 7, 0] [(0, _), (1, _), (2, _), (3, _), (4, _), (5, _), (6, _), (7, _)] kI_1 dX7_mayPay_126 rfl (by decide) rfl ?_
            refine v_goto (pc := 129) (tgt := 38) dX7_mayPay_129 rfl ?_
            rw [show st_mp xP xW (xP (25 + d)) s i h1 = _ from (if_pos c_55).trans (by rw [if_pos c_72, if_neg c_106])] at ih
            exact ih
          · refine v_aload_n (pc := 109) 0 dX7_mayPay_109 rfl rfl ?_
            refine g_X7_16 (pc := 110) (cMr_obj) (by decide) rfl dX7_mayPay_110 ?_
            refine v_bipush (pc := 113) (nI 17) dX7_mayPay_113 kB_17 ?_
            refine v_iload (pc := 115) 7 dX7_mayPay_115 rfl ?_
            refine v_iaddN (pc := 117) dX7_mayPay_117 ?_
            refine v_ialdN (pc := 118) (cM_now) (by decide) (by omega) (by decide) dX7_mayPay_118 ?_
            refine v_goto (pc := 119) (tgt := 123) dX7_mayPay_119 rfl ?_
            refine v_isub (pc := 123) dX7_mayPay_123 ?_
            refine v_istore (pc := 124) [1, 2, 3, 4, 5, 6, 0, 7] [(0, _), (1, _), (2, _), (3, _), (4, _), (5, _), (6, _), (7, _)] dX7_mayPay_124 (by decide) rfl ?_
            refine v_iincN (pc := 126) 7 [1, 2, 3, 4, 5, 6, 7, 0] [(0, _), (1, _), (2, _), (3, _), (4, _), (5, _), (6, _), (7, _)] kI_1 dX7_mayPay_126 rfl (by decide) rfl ?_
            refine v_goto (pc := 129) (tgt := 38) dX7_mayPay_129 rfl ?_
            rw [show st_mp xP xW (xP (25 + d)) s i h1 = _ from (if_pos c_55).trans (by rw [if_pos c_72, if_pos c_106])] at ih
            exact ih
  · refine v_iload (pc := 26) 4 dX7_mayPay_26 rfl ?_
    refine v_goto (pc := 28) (tgt := 32) dX7_mayPay_28 rfl ?_
    refine v_iadd (pc := 32) dX7_mayPay_32 ?_
    refine v_istore (pc := 33) [1, 2, 3, 4, 5, 6, 0] [(0, _), (1, _), (2, _), (3, _), (4, _), (5, _), (6, _)] dX7_mayPay_33 (by decide) rfl ?_
    refine v_iconst (pc := 35) (nI 0) dX7_mayPay_35 kI_0 ?_
    refine v_istore (pc := 36) [1, 2, 3, 4, 5, 6, 7, 0] [(0, _), (1, _), (2, _), (3, _), (4, _), (5, _), (6, _), (7, _)] dX7_mayPay_36 (by decide) rfl ?_
    refine dn (P := fun i => V E X ({ frames := 1, cells := 0, slots := 0, locals := 21 } : Room) RX7 cX7_mayPay 8 (some .boolean) 0 0 (QX E X false 146 (Ff (some (.int (bI (mpM xP xW s d a m nd)))) (cellOf E (c, (mkA xP xR xW xS xZ xG xK xT xQ xF xB xL xC, (nI un, nI sz, ft, nI wm, nI fm, nI bm, nI at_, nI bg, sg, nI fg, vl, wr), sd)))) 0 0) false 146 38 [(0, .ref (Ez E + 132)), (1, .int (nI s)), (2, .int (nI d)), (3, .int a), (4, .int m), (5, .int (xP (25 + d))), (6, .int (itn (st_mp xP xW (xP (25 + d)) s) i (xW (nI 0 + xP (25 + d)).toNatClampNeg + m))), (7, .int (nI i))] [] (cellOf E (c, (mkA xP xR xW xS xZ xG xK xT xQ xF xB xL xC, (nI un, nI sz, ft, nI wm, nI fm, nI bm, nI at_, nI bg, sg, nI fg, vl, wr), sd)))) (N := nd) ?_ ?_
    · generalize hh9 : itn (st_mp xP xW (xP (25 + d)) s) nd (xW (nI 0 + xP (25 + d)).toNatClampNeg + m) = h9 
      show V E X _ RX7 _ _ _ _ _ _ false 146 _ [(0, .ref (Ez E + 132)), (1, .int (nI s)), (2, .int (nI d)), (3, .int a), (4, .int m), (5, .int (xP (25 + d))), (6, .int (h9)), (7, .int (nI nd))] [] (cellOf E (c, (mkA xP xR xW xS xZ xG xK xT xQ xF xB xL xC, (nI un, nI sz, ft, nI wm, nI fm, nI bm, nI at_, nI bg, sg, nI fg, vl, wr), sd)))
      refine v_iload (pc := 38) 7 dX7_mayPay_38 rfl ?_
      refine v_aload_n (pc := 40) 0 dX7_mayPay_40 rfl rfl ?_
      refine g_X7_7 (pc := 41) (cMr_obj) (by decide) rfl dX7_mayPay_41 ?_
      refine v_iconst (pc := 44) (nI 3) dX7_mayPay_44 kI_3 ?_
      refine v_ialdN (pc := 45) (cM_parish) (by decide) (by omega) (by decide) dX7_mayPay_45 ?_
      rw [hd]
      refine v_icmp_geN (pc := 46) (by omega) (by omega) (tgt := 132) dX7_mayPay_46 rfl (fun c_46 => ?_) (fun c_46 => False.elim ((fun c => by omega) c_46))
      refine v_iload (pc := 132) 6 dX7_mayPay_132 rfl ?_
      refine v_aload_n (pc := 134) 0 dX7_mayPay_134 rfl rfl ?_
      refine g_X7_16 (pc := 135) (cMr_obj) (by decide) rfl dX7_mayPay_135 ?_
      refine v_bipush (pc := 138) (nI 17) dX7_mayPay_138 kB_17 ?_
      refine v_iload_n (pc := 140) 2 dX7_mayPay_140 rfl rfl ?_
      refine v_iaddN (pc := 141) dX7_mayPay_141 ?_
      refine v_ialdN (pc := 142) (cM_now) (by decide) (by omega) (by decide) dX7_mayPay_142 ?_
      refine v_icmp_lt (pc := 143) (tgt := 150) dX7_mayPay_143 rfl (fun c_143 => ?_) (fun c_143 => ?_)
      · refine v_iconst (pc := 150) (nI 0) dX7_mayPay_150 kI_0 ?_
        exact v_zret (pc := 151) dX7_mayPay_151 ((by rfl)) (⟨by unfold mpM; rw [if_pos c_23, hh9, decide_eq_false (show ¬ ¬ h9 < xW (17 + d) from fun q => q c_143)]; rfl, rfl⟩)
      · refine v_iconst (pc := 146) (nI 1) dX7_mayPay_146 kI_1 ?_
        refine v_goto (pc := 147) (tgt := 151) dX7_mayPay_147 rfl ?_
        exact v_zret (pc := 151) dX7_mayPay_151 ((by rfl)) (⟨by unfold mpM; rw [if_pos c_23, hh9, decide_eq_true (show ¬ h9 < xW (17 + d) from c_143)]; rfl, rfl⟩)
    · intro i hi ih
      have ih : V E X ({ frames := 1, cells := 0, slots := 0, locals := 21 } : Room) RX7 cX7_mayPay 8 (some .boolean) 0 0 (QX E X false 146 (Ff (some (.int (bI (mpM xP xW s d a m nd)))) (cellOf E (c, (mkA xP xR xW xS xZ xG xK xT xQ xF xB xL xC, (nI un, nI sz, ft, nI wm, nI fm, nI bm, nI at_, nI bg, sg, nI fg, vl, wr), sd)))) 0 0) false 146 38 [(0, .ref (Ez E + 132)), (1, .int (nI s)), (2, .int (nI d)), (3, .int a), (4, .int m), (5, .int (xP (25 + d))), (6, .int (st_mp xP xW (xP (25 + d)) s i (itn (st_mp xP xW (xP (25 + d)) s) i (xW (nI 0 + xP (25 + d)).toNatClampNeg + m)))), (7, .int (nI (i + 1)))] [] (cellOf E (c, (mkA xP xR xW xS xZ xG xK xT xQ xF xB xL xC, (nI un, nI sz, ft, nI wm, nI fm, nI bm, nI at_, nI bg, sg, nI fg, vl, wr), sd))) := by rw [itn_s] at ih; exact ih
      generalize itn (st_mp xP xW (xP (25 + d)) s) i (xW (nI 0 + xP (25 + d)).toNatClampNeg + m) = h1 at ih ⊢
      show V E X _ RX7 _ _ _ _ _ _ false 146 _ [(0, .ref (Ez E + 132)), (1, .int (nI s)), (2, .int (nI d)), (3, .int a), (4, .int m), (5, .int (xP (25 + d))), (6, .int (h1)), (7, .int (nI i))] [] (cellOf E (c, (mkA xP xR xW xS xZ xG xK xT xQ xF xB xL xC, (nI un, nI sz, ft, nI wm, nI fm, nI bm, nI at_, nI bg, sg, nI fg, vl, wr), sd)))
      refine v_iload (pc := 38) 7 dX7_mayPay_38 rfl ?_
      refine v_aload_n (pc := 40) 0 dX7_mayPay_40 rfl rfl ?_
      refine g_X7_7 (pc := 41) (cMr_obj) (by decide) rfl dX7_mayPay_41 ?_
      refine v_iconst (pc := 44) (nI 3) dX7_mayPay_44 kI_3 ?_
      refine v_ialdN (pc := 45) (cM_parish) (by decide) (by omega) (by decide) dX7_mayPay_45 ?_
      rw [hd]
      refine v_icmp_geN (pc := 46) (by omega) (by omega) (tgt := 132) dX7_mayPay_46 rfl (fun c_46 => False.elim ((fun c => by omega) c_46)) (fun c_46 => ?_)
      refine v_iload_n (pc := 49) 1 dX7_mayPay_49 rfl rfl ?_
      refine v_iload (pc := 50) 7 dX7_mayPay_50 rfl ?_
      refine v_callS (pc := 52) _ _ k_X7_142 (m_has _ _) ⟨rfl, rfl, by decide⟩ rfl rfl (Nat.le_of_ble_eq_true rfl) ⟨Nat.le_of_ble_eq_true rfl, Nat.le_of_ble_eq_true rfl⟩ dX7_mayPay_52 (unS ?_)
      show V E X _ RX7 _ _ _ 0 0 _ false 146 55 _ [_] _
      refine v_if_eqB (pc := 55) (tgt := 126) dX7_mayPay_55 rfl (fun c_55 => ?_) (fun c_55 => ?_)
      · refine v_iincN (pc := 126) 7 [1, 2, 3, 4, 5, 6, 7, 0] [(0, _), (1, _), (2, _), (3, _), (4, _), (5, _), (6, _), (7, _)] kI_1 dX7_mayPay_126 rfl (by decide) rfl ?_
        refine v_goto (pc := 129) (tgt := 38) dX7_mayPay_129 rfl ?_
        rw [show st_mp xP xW (xP (25 + d)) s i h1 = h1 from if_neg (by rw [c_55]; decide)] at ih
        exact ih
      · refine v_iload (pc := 58) 6 dX7_mayPay_58 rfl ?_
        refine v_aload_n (pc := 60) 0 dX7_mayPay_60 rfl rfl ?_
        refine g_X7_7 (pc := 61) (cMr_obj) (by decide) rfl dX7_mayPay_61 ?_
        refine v_bipush (pc := 64) (nI 34) dX7_mayPay_64 kB_34 ?_
        refine v_iload (pc := 66) 7 dX7_mayPay_66 rfl ?_
        refine v_iaddN (pc := 68) dX7_mayPay_68 ?_
        refine v_ialdN (pc := 69) (cM_parish) (by decide) (by omega) (by decide) dX7_mayPay_69 ?_
        refine v_iload (pc := 70) 5 dX7_mayPay_70 rfl ?_
        refine v_icmp_ne (pc := 72) (tgt := 88) dX7_mayPay_72 rfl (fun c_72 => ?_) (fun c_72 => ?_)
        · refine v_iconst (pc := 88) (nI 0) dX7_mayPay_88 kI_0 ?_
          refine v_iadd (pc := 89) dX7_mayPay_89 ?_
          refine v_istore (pc := 90) [1, 2, 3, 4, 5, 6, 0, 7] [(0, _), (1, _), (2, _), (3, _), (4, _), (5, _), (6, _), (7, _)] dX7_mayPay_90 (by decide) rfl ?_
          refine v_iload (pc := 92) 6 dX7_mayPay_92 rfl ?_
          refine v_aload_n (pc := 94) 0 dX7_mayPay_94 rfl rfl ?_
          refine g_X7_7 (pc := 95) (cMr_obj) (by decide) rfl dX7_mayPay_95 ?_
          refine v_bipush (pc := 98) (nI 25) dX7_mayPay_98 kB_25 ?_
          refine v_iload (pc := 100) 7 dX7_mayPay_100 rfl ?_
          refine v_iaddN (pc := 102) dX7_mayPay_102 ?_
          refine v_ialdN (pc := 103) (cM_parish) (by decide) (by omega) (by decide) dX7_mayPay_103 ?_
          refine v_iload (pc := 104) 5 dX7_mayPay_104 rfl ?_
          refine v_icmp_ne (pc := 106) (tgt := 122) dX7_mayPay_106 rfl (fun c_106 => ?_) (fun c_106 => ?_)
          · refine v_iconst (pc := 122) (nI 0) dX7_mayPay_122 kI_0 ?_
            refine v_isub (pc := 123) dX7_mayPay_123 ?_
            refine v_istore (pc := 124) [1, 2, 3, 4, 5, 6, 0, 7] [(0, _), (1, _), (2, _), (3, _), (4, _), (5, _), (6, _), (7, _)] dX7_mayPay_124 (by decide) rfl ?_
            refine v_iincN (pc := 126) 7 [1, 2, 3, 4, 5, 6, 7, 0] [(0, _), (1, _), (2, _), (3, _), (4, _), (5, _), (6, _), (7, _)] kI_1 dX7_mayPay_126 rfl (by decide) rfl ?_
            refine v_goto (pc := 129) (tgt := 38) dX7_mayPay_129 rfl ?_
            rw [show st_mp xP xW (xP (25 + d)) s i h1 = _ from (if_pos c_55).trans (by rw [if_neg c_72, if_neg c_106])] at ih
            exact ih
          · refine v_aload_n (pc := 109) 0 dX7_mayPay_109 rfl rfl ?_
            refine g_X7_16 (pc := 110) (cMr_obj) (by decide) rfl dX7_mayPay_110 ?_
            refine v_bipush (pc := 113) (nI 17) dX7_mayPay_113 kB_17 ?_
            refine v_iload (pc := 115) 7 dX7_mayPay_115 rfl ?_
            refine v_iaddN (pc := 117) dX7_mayPay_117 ?_
            refine v_ialdN (pc := 118) (cM_now) (by decide) (by omega) (by decide) dX7_mayPay_118 ?_
            refine v_goto (pc := 119) (tgt := 123) dX7_mayPay_119 rfl ?_
            refine v_isub (pc := 123) dX7_mayPay_123 ?_
            refine v_istore (pc := 124) [1, 2, 3, 4, 5, 6, 0, 7] [(0, _), (1, _), (2, _), (3, _), (4, _), (5, _), (6, _), (7, _)] dX7_mayPay_124 (by decide) rfl ?_
            refine v_iincN (pc := 126) 7 [1, 2, 3, 4, 5, 6, 7, 0] [(0, _), (1, _), (2, _), (3, _), (4, _), (5, _), (6, _), (7, _)] kI_1 dX7_mayPay_126 rfl (by decide) rfl ?_
            refine v_goto (pc := 129) (tgt := 38) dX7_mayPay_129 rfl ?_
            rw [show st_mp xP xW (xP (25 + d)) s i h1 = _ from (if_pos c_55).trans (by rw [if_neg c_72, if_pos c_106])] at ih
            exact ih
        · refine v_aload_n (pc := 75) 0 dX7_mayPay_75 rfl rfl ?_
          refine g_X7_16 (pc := 76) (cMr_obj) (by decide) rfl dX7_mayPay_76 ?_
          refine v_bipush (pc := 79) (nI 17) dX7_mayPay_79 kB_17 ?_
          refine v_iload (pc := 81) 7 dX7_mayPay_81 rfl ?_
          refine v_iaddN (pc := 83) dX7_mayPay_83 ?_
          refine v_ialdN (pc := 84) (cM_now) (by decide) (by omega) (by decide) dX7_mayPay_84 ?_
          refine v_goto (pc := 85) (tgt := 89) dX7_mayPay_85 rfl ?_
          refine v_iadd (pc := 89) dX7_mayPay_89 ?_
          refine v_istore (pc := 90) [1, 2, 3, 4, 5, 6, 0, 7] [(0, _), (1, _), (2, _), (3, _), (4, _), (5, _), (6, _), (7, _)] dX7_mayPay_90 (by decide) rfl ?_
          refine v_iload (pc := 92) 6 dX7_mayPay_92 rfl ?_
          refine v_aload_n (pc := 94) 0 dX7_mayPay_94 rfl rfl ?_
          refine g_X7_7 (pc := 95) (cMr_obj) (by decide) rfl dX7_mayPay_95 ?_
          refine v_bipush (pc := 98) (nI 25) dX7_mayPay_98 kB_25 ?_
          refine v_iload (pc := 100) 7 dX7_mayPay_100 rfl ?_
          refine v_iaddN (pc := 102) dX7_mayPay_102 ?_
          refine v_ialdN (pc := 103) (cM_parish) (by decide) (by omega) (by decide) dX7_mayPay_103 ?_
          refine v_iload (pc := 104) 5 dX7_mayPay_104 rfl ?_
          refine v_icmp_ne (pc := 106) (tgt := 122) dX7_mayPay_106 rfl (fun c_106 => ?_) (fun c_106 => ?_)
          · refine v_iconst (pc := 122) (nI 0) dX7_mayPay_122 kI_0 ?_
            refine v_isub (pc := 123) dX7_mayPay_123 ?_
            refine v_istore (pc := 124) [1, 2, 3, 4, 5, 6, 0, 7] [(0, _), (1, _), (2, _), (3, _), (4, _), (5, _), (6, _), (7, _)] dX7_mayPay_124 (by decide) rfl ?_
            refine v_iincN (pc := 126) 7 [1, 2, 3, 4, 5, 6, 7, 0] [(0, _), (1, _), (2, _), (3, _), (4, _), (5, _), (6, _), (7, _)] kI_1 dX7_mayPay_126 rfl (by decide) rfl ?_
            refine v_goto (pc := 129) (tgt := 38) dX7_mayPay_129 rfl ?_
            rw [show st_mp xP xW (xP (25 + d)) s i h1 = _ from (if_pos c_55).trans (by rw [if_pos c_72, if_neg c_106])] at ih
            exact ih
          · refine v_aload_n (pc := 109) 0 dX7_mayPay_109 rfl rfl ?_
            refine g_X7_16 (pc := 110) (cMr_obj) (by decide) rfl dX7_mayPay_110 ?_
            refine v_bipush (pc := 113) (nI 17) dX7_mayPay_113 kB_17 ?_
            refine v_iload (pc := 115) 7 dX7_mayPay_115 rfl ?_
            refine v_iaddN (pc := 117) dX7_mayPay_117 ?_
            refine v_ialdN (pc := 118) (cM_now) (by decide) (by omega) (by decide) dX7_mayPay_118 ?_
            refine v_goto (pc := 119) (tgt := 123) dX7_mayPay_119 rfl ?_
            refine v_isub (pc := 123) dX7_mayPay_123 ?_
            refine v_istore (pc := 124) [1, 2, 3, 4, 5, 6, 0, 7] [(0, _), (1, _), (2, _), (3, _), (4, _), (5, _), (6, _), (7, _)] dX7_mayPay_124 (by decide) rfl ?_
            refine v_iincN (pc := 126) 7 [1, 2, 3, 4, 5, 6, 7, 0] [(0, _), (1, _), (2, _), (3, _), (4, _), (5, _), (6, _), (7, _)] kI_1 dX7_mayPay_126 rfl (by decide) rfl ?_
            refine v_goto (pc := 129) (tgt := 38) dX7_mayPay_129 rfl ?_
            rw [show st_mp xP xW (xP (25 + d)) s i h1 = _ from (if_pos c_55).trans (by rw [if_pos c_72, if_pos c_106])] at ih
            exact ih
theorem pw_sub {n i : Nat} (h : i < 2 ^ n) : nI (2 ^ n) - nI (i + 1) = nI (2 ^ n - 1 - i) := by rw [pk_sub (by omega)]; exact congrArg nI (by omega)
theorem pw_neg {n : Nat} (h : n ≤ 9) : nI (2 ^ n) - nI (2 ^ n + 1) < 0 := by
  have : n = 0 ∨ n = 1 ∨ n = 2 ∨ n = 3 ∨ n = 4 ∨ n = 5 ∨ n = 6 ∨ n = 7 ∨ n = 8 ∨ n = 9 := by omega
  rcases this with rfl | rfl | rfl | rfl | rfl | rfl | rfl | rfl | rfl | rfl <;> decide
theorem pw_dec {n i : Nat} : nI (2 ^ n) - nI (i + 1) + (-1) = nI (2 ^ n) - nI (i + 1 + 1) := by
  rw [← nI_add (i + 1) 1, show nI 1 = (1 : Int32) from rfl]
  generalize nI (2 ^ n) = x
  generalize nI (i + 1) = y
  rw [Int32.sub_eq_add_neg x y, Int32.sub_eq_add_neg x (y + 1), Int32.neg_add, Int32.sub_eq_add_neg, Int32.add_assoc]
set_option maxHeartbeats 4000000 in
set_option maxRecDepth 100000 in
theorem m_lays {E : Ev} {c : CSt} {xP xR xW xS xZ xG xK xT xQ xF xB xL xC : Fn} {un sz wm fm bm at_ bg fg : Nat} {ft sg vl wr : Int32} {sd : Int64} {nd : Nat} (hd : xP 3 = nI nd) (hnd : nd ≤ 9) (hv : ∀ d, d < nd → vp_in (xP (25 + d)) 7) (a m : Int32) : Ct E yX7_laysDebts cX7_laysDebts 5 (some .int) ({ frames := 2, cells := 0, slots := 0, locals := 48 } : Room) false 146 [.ref (Ez E + 132), .int a, .int m] (cellOf E (c, (mkA xP xR xW xS xZ xG xK xT xQ xF xB xL xC, (nI un, nI sz, ft, nI wm, nI fm, nI bm, nI at_, nI bg, sg, nI fg, vl, wr), sd))) 146 0 0 (Ff (some (.int (ldM xP xW a m nd xC 0))) (cellOf E (c, (mkA xP xR xW xS xZ xG xK xT xQ xF xB xL (ldM xP xW a m nd xC), (nI un, nI sz, ft, nI wm, nI fm, nI bm, nI at_, nI bg, sg, nI fg, vl, wr), sd)))) := by
  have h2nd := pow9 hnd
  have h1nd : 0 < 2 ^ nd := Nat.pos_of_ne_zero (by simp)
  refine Ct.ofV (by decide) (Nat.le_of_ble_eq_true rfl) (fun X hnm => ?_)
  show V E X _ RX7 _ _ _ _ _ _ false 146 0 [(0, .ref (Ez E + 132)), (1, .int a), (2, .int m)] [] _
  refine v_iconst (pc := 0) (nI 1) dX7_laysDebts_0 kI_1 ?_
  refine v_aload_n (pc := 1) 0 dX7_laysDebts_1 rfl rfl ?_
  refine g_X7_7 (pc := 2) (cMr_obj) (by decide) rfl dX7_laysDebts_2 ?_
  refine v_iconst (pc := 5) (nI 3) dX7_laysDebts_5 kI_3 ?_
  refine v_ialdN (pc := 6) (cM_parish) (by decide) (by omega) (by decide) dX7_laysDebts_6 ?_
  rw [hd]
  refine v_ishl (pc := 7) dX7_laysDebts_7 ?_
  rw [shl1 (by omega)]
  refine v_iconst (pc := 8) (nI 1) dX7_laysDebts_8 kI_1 ?_
  refine v_isub (pc := 9) dX7_laysDebts_9 ?_
  refine v_istore_n (pc := 10) [1, 2, 3, 0] [(0, _), (1, _), (2, _), (3, _)] dX7_laysDebts_10 rfl (by decide) rfl ?_
  have hl_11 : ∀ (m_ : Nat) (i : Nat) (f1 : Fn), 2 ^ nd - i < m_ → (i ≤ 2 ^ nd) → (f1 = itn (fun i f => ld1 xP xW (2 ^ nd - 1 - i) a m nd f) i xC) → V E X ({ frames := 2, cells := 0, slots := 0, locals := 48 } : Room) RX7 cX7_laysDebts 5 (some .int) 0 0 (QX E X false 146 (Ff (some (.int (ldM xP xW a m nd xC 0))) (cellOf E (c, (mkA xP xR xW xS xZ xG xK xT xQ xF xB xL (ldM xP xW a m nd xC), (nI un, nI sz, ft, nI wm, nI fm, nI bm, nI at_, nI bg, sg, nI fg, vl, wr), sd)))) 0 0) false 146 11 [(0, .ref (Ez E + 132)), (1, .int a), (2, .int m), (3, .int (nI (2 ^ nd) - nI (i + 1)))] [] (cellOf E (c, (mkA xP xR xW xS xZ xG xK xT xQ xF xB xL f1, (nI un, nI sz, ft, nI wm, nI fm, nI bm, nI at_, nI bg, sg, nI fg, vl, wr), sd))) := by
    intro m_
    induction m_ with
    | zero => intro i f1 hm; exact absurd hm (Nat.not_lt_zero _)
    | succ m_ ihm =>
      intro i f1 hm hi hs1
      refine v_iload_n (pc := 11) 3 dX7_laysDebts_11 rfl rfl ?_
      refine v_if_lt (pc := 12) (tgt := 117) dX7_laysDebts_12 rfl (fun c_12 => ?_) (fun c_12 => ?_)
      · have hie : i = 2 ^ nd := by rcases Nat.lt_or_ge i (2 ^ nd) with q | q; exact absurd c_12 (by rw [pw_sub q]; exact nI_pos (by omega)); omega
        have hfe : f1 = ldM xP xW a m nd xC := by rw [hs1, hie]; rfl
        rw [hfe]
        refine v_aload_n (pc := 117) 0 dX7_laysDebts_117 rfl rfl ?_
        refine g_X7_51 (pc := 118) (cMr_obj) (by decide) rfl dX7_laysDebts_118 ?_
        refine v_iconst (pc := 121) (nI 0) dX7_laysDebts_121 kI_0 ?_
        refine v_ialdN (pc := 122) (cM_can) (by decide) (by omega) (by decide) dX7_laysDebts_122 ?_
        exact v_iret (pc := 123) dX7_laysDebts_123 (⟨rfl, rfl⟩)
      · have hlt : i < 2 ^ nd := by rcases Nat.lt_or_ge i (2 ^ nd) with q | q; exact q; exact absurd (by rw [show i = 2 ^ nd by omega]; exact pw_neg hnd) c_12
        rw [pw_sub hlt]
        have hsl : 2 ^ nd - 1 - i < 2 ^ nd := by omega
        generalize hse : 2 ^ nd - 1 - i = s at hsl ⊢
        refine v_aload_n (pc := 15) 0 dX7_laysDebts_15 rfl rfl ?_
        refine g_X7_51 (pc := 16) (cMr_obj) (by decide) rfl dX7_laysDebts_16 ?_
        refine v_iload_n (pc := 19) 3 dX7_laysDebts_19 rfl rfl ?_
        refine v_iconst (pc := 20) (nI 0) dX7_laysDebts_20 kI_0 ?_
        refine v_iastN (pc := 21) (cM_can) (by decide) (by omega) (by decide) dX7_laysDebts_21 (wM_can) ?_
        refine v_iconst (pc := 22) (nI 0) dX7_laysDebts_22 kI_0 ?_
        refine v_istore (pc := 23) [1, 2, 3, 4, 0] [(0, _), (1, _), (2, _), (3, _), (4, _)] dX7_laysDebts_23 (by decide) rfl ?_
        refine dn (P := fun e => V E X ({ frames := 2, cells := 0, slots := 0, locals := 48 } : Room) RX7 cX7_laysDebts 5 (some .int) 0 0 (QX E X false 146 (Ff (some (.int (ldM xP xW a m nd xC 0))) (cellOf E (c, (mkA xP xR xW xS xZ xG xK xT xQ xF xB xL (ldM xP xW a m nd xC), (nI un, nI sz, ft, nI wm, nI fm, nI bm, nI at_, nI bg, sg, nI fg, vl, wr), sd)))) 0 0) false 146 25 [(0, .ref (Ez E + 132)), (1, .int a), (2, .int m), (3, .int (nI s)), (4, .int (nI e))] [] (cellOf E (c, (mkA xP xR xW xS xZ xG xK xT xQ xF xB xL (itn (st_ld xP xW s a m nd) e (upd f1 s (nI 0))), (nI un, nI sz, ft, nI wm, nI fm, nI bm, nI at_, nI bg, sg, nI fg, vl, wr), sd)))) (N := nd) ?_ ?_
        · refine v_iload (pc := 25) 4 dX7_laysDebts_25 rfl ?_
          refine v_aload_n (pc := 27) 0 dX7_laysDebts_27 rfl rfl ?_
          refine g_X7_7 (pc := 28) (cMr_obj) (by decide) rfl dX7_laysDebts_28 ?_
          refine v_iconst (pc := 31) (nI 3) dX7_laysDebts_31 kI_3 ?_
          refine v_ialdN (pc := 32) (cM_parish) (by decide) (by omega) (by decide) dX7_laysDebts_32 ?_
          rw [hd]
          refine v_icmp_geN (pc := 33) (by omega) (by omega) (tgt := 111) dX7_laysDebts_33 rfl (fun c_33 => ?_) (fun c_33 => False.elim ((fun c => by omega) c_33))
          refine v_iincC (pc := 111) 3 [1, 2, 3, 0, 4] [(0, _), (1, _), (2, _), (3, _), (4, _)] kI_m1 dX7_laysDebts_111 rfl (by decide) rfl ?_
          refine v_goto (pc := 114) (tgt := 11) dX7_laysDebts_114 rfl ?_
          refine v_sub [0, 1, 2, 3] rfl ?_
          rw [← hse, ← pw_sub hlt, pw_dec]
          exact ihm (i + 1) _ (by omega) (by omega) (by rw [itn_s, ← hs1, hse]; rfl)
        · intro e he ih
          have ih : V E X ({ frames := 2, cells := 0, slots := 0, locals := 48 } : Room) RX7 cX7_laysDebts 5 (some .int) 0 0 (QX E X false 146 (Ff (some (.int (ldM xP xW a m nd xC 0))) (cellOf E (c, (mkA xP xR xW xS xZ xG xK xT xQ xF xB xL (ldM xP xW a m nd xC), (nI un, nI sz, ft, nI wm, nI fm, nI bm, nI at_, nI bg, sg, nI fg, vl, wr), sd)))) 0 0) false 146 25 [(0, .ref (Ez E + 132)), (1, .int a), (2, .int m), (3, .int (nI s)), (4, .int (nI (e + 1)))] [] (cellOf E (c, (mkA xP xR xW xS xZ xG xK xT xQ xF xB xL (st_ld xP xW s a m nd e (itn (st_ld xP xW s a m nd) e (upd f1 s (nI 0)))), (nI un, nI sz, ft, nI wm, nI fm, nI bm, nI at_, nI bg, sg, nI fg, vl, wr), sd))) := by rw [itn_s] at ih; exact ih
          generalize itn (st_ld xP xW s a m nd) e (upd f1 s (nI 0)) = c1 at ih ⊢
          show V E X _ RX7 _ _ _ _ _ _ false 146 _ [(0, .ref (Ez E + 132)), (1, .int a), (2, .int m), (3, .int (nI s)), (4, .int (nI e))] [] (cellOf E (c, (mkA xP xR xW xS xZ xG xK xT xQ xF xB xL c1, (nI un, nI sz, ft, nI wm, nI fm, nI bm, nI at_, nI bg, sg, nI fg, vl, wr), sd)))
          refine v_iload (pc := 25) 4 dX7_laysDebts_25 rfl ?_
          refine v_aload_n (pc := 27) 0 dX7_laysDebts_27 rfl rfl ?_
          refine g_X7_7 (pc := 28) (cMr_obj) (by decide) rfl dX7_laysDebts_28 ?_
          refine v_iconst (pc := 31) (nI 3) dX7_laysDebts_31 kI_3 ?_
          refine v_ialdN (pc := 32) (cM_parish) (by decide) (by omega) (by decide) dX7_laysDebts_32 ?_
          rw [hd]
          refine v_icmp_geN (pc := 33) (by omega) (by omega) (tgt := 111) dX7_laysDebts_33 rfl (fun c_33 => False.elim ((fun c => by omega) c_33)) (fun c_33 => ?_)
          refine v_iload_n (pc := 36) 3 dX7_laysDebts_36 rfl rfl ?_
          refine v_iload (pc := 37) 4 dX7_laysDebts_37 rfl ?_
          refine v_callS (pc := 39) _ _ k_X7_142 (m_has _ _) ⟨rfl, rfl, by decide⟩ rfl rfl (Nat.le_of_ble_eq_true rfl) ⟨Nat.le_of_ble_eq_true rfl, Nat.le_of_ble_eq_true rfl⟩ dX7_laysDebts_39 (unS ?_)
          show V E X _ RX7 _ _ _ 0 0 _ false 146 42 _ [_] _
          refine v_if_neB (pc := 42) (tgt := 105) dX7_laysDebts_42 rfl (fun c_42 => ?_) (fun c_42 => ?_)
          · refine v_iincN (pc := 105) 4 [1, 2, 3, 4, 0] [(0, _), (1, _), (2, _), (3, _), (4, _)] kI_1 dX7_laysDebts_105 rfl (by decide) rfl ?_
            refine v_goto (pc := 108) (tgt := 25) dX7_laysDebts_108 rfl ?_
            rw [show st_ld xP xW s a m nd e c1 = c1 from if_neg (by rintro ⟨q, -⟩; rw [c_42] at q; exact Bool.noConfusion q)] at ih
            exact ih
          · refine v_aload_n (pc := 45) 0 dX7_laysDebts_45 rfl rfl ?_
            refine v_iload (pc := 46) 4 dX7_laysDebts_46 rfl ?_
            refine v_callV (pc := 48) _ _ k_X7_238 (cMr_obj) rfl (by decide) (m_isOwed (by omega)) ⟨rfl, rfl, by decide⟩ rfl rfl (Nat.le_of_ble_eq_true rfl) ⟨Nat.le_of_ble_eq_true rfl, Nat.le_of_ble_eq_true rfl⟩ dX7_laysDebts_48 (unS ?_)
            show V E X _ RX7 _ _ _ 0 0 _ false 146 51 _ [_] _
            refine v_if_eqB (pc := 51) (tgt := 105) dX7_laysDebts_51 rfl (fun c_51 => ?_) (fun c_51 => ?_)
            · refine v_iincN (pc := 105) 4 [1, 2, 3, 4, 0] [(0, _), (1, _), (2, _), (3, _), (4, _)] kI_1 dX7_laysDebts_105 rfl (by decide) rfl ?_
              refine v_goto (pc := 108) (tgt := 25) dX7_laysDebts_108 rfl ?_
              rw [show st_ld xP xW s a m nd e c1 = c1 from if_neg (by rintro ⟨-, q, -⟩; rw [c_51] at q; exact Bool.noConfusion q)] at ih
              exact ih
            · refine v_aload_n (pc := 54) 0 dX7_laysDebts_54 rfl rfl ?_
              refine g_X7_51 (pc := 55) (cMr_obj) (by decide) rfl dX7_laysDebts_55 ?_
              refine v_iload_n (pc := 58) 3 dX7_laysDebts_58 rfl rfl ?_
              refine v_iconst (pc := 59) (nI 1) dX7_laysDebts_59 kI_1 ?_
              refine v_iload (pc := 60) 4 dX7_laysDebts_60 rfl ?_
              refine v_ishl (pc := 62) dX7_laysDebts_62 ?_
              rw [shl1 (by omega)]
              refine v_ior (pc := 63) dX7_laysDebts_63 ?_
              rw [or_n]
              refine v_ialdN (pc := 64) (cM_can) (by decide) (orlt hsl (by omega) hnd) (by decide) dX7_laysDebts_64 ?_
              refine v_aload_n (pc := 65) 0 dX7_laysDebts_65 rfl rfl ?_
              refine g_X7_51 (pc := 66) (cMr_obj) (by decide) rfl dX7_laysDebts_66 ?_
              refine v_iload_n (pc := 69) 3 dX7_laysDebts_69 rfl rfl ?_
              refine v_ialdN (pc := 70) (cM_can) (by decide) (by omega) (by decide) dX7_laysDebts_70 ?_
              refine v_icmp_lt (pc := 71) (tgt := 105) dX7_laysDebts_71 rfl (fun c_71 => ?_) (fun c_71 => ?_)
              · refine v_iincN (pc := 105) 4 [1, 2, 3, 4, 0] [(0, _), (1, _), (2, _), (3, _), (4, _)] kI_1 dX7_laysDebts_105 rfl (by decide) rfl ?_
                refine v_goto (pc := 108) (tgt := 25) dX7_laysDebts_108 rfl ?_
                rw [show st_ld xP xW s a m nd e c1 = c1 from if_neg (by rintro ⟨-, -, q, -⟩; exact q c_71)] at ih
                exact ih
              · refine v_aload_n (pc := 74) 0 dX7_laysDebts_74 rfl rfl ?_
                refine v_iload_n (pc := 75) 3 dX7_laysDebts_75 rfl rfl ?_
                refine v_iload (pc := 76) 4 dX7_laysDebts_76 rfl ?_
                refine v_iload_n (pc := 78) 1 dX7_laysDebts_78 rfl rfl ?_
                refine v_iload_n (pc := 79) 2 dX7_laysDebts_79 rfl rfl ?_
                refine v_callV (pc := 80) _ _ k_X7_241 (cMr_obj) rfl (by decide) (m_mayPay hd hnd (by omega) hv _ _) ⟨rfl, rfl, by decide⟩ rfl rfl (Nat.le_of_ble_eq_true rfl) ⟨Nat.le_of_ble_eq_true rfl, Nat.le_of_ble_eq_true rfl⟩ dX7_laysDebts_80 (unS ?_)
                show V E X _ RX7 _ _ _ 0 0 _ false 146 83 _ [_] _
                refine v_if_eqB (pc := 83) (tgt := 105) dX7_laysDebts_83 rfl (fun c_83 => ?_) (fun c_83 => ?_)
                · refine v_iincN (pc := 105) 4 [1, 2, 3, 4, 0] [(0, _), (1, _), (2, _), (3, _), (4, _)] kI_1 dX7_laysDebts_105 rfl (by decide) rfl ?_
                  refine v_goto (pc := 108) (tgt := 25) dX7_laysDebts_108 rfl ?_
                  rw [show st_ld xP xW s a m nd e c1 = c1 from if_neg (by rintro ⟨-, -, -, q⟩; rw [c_83] at q; exact Bool.noConfusion q)] at ih
                  exact ih
                · refine v_aload_n (pc := 86) 0 dX7_laysDebts_86 rfl rfl ?_
                  refine g_X7_51 (pc := 87) (cMr_obj) (by decide) rfl dX7_laysDebts_87 ?_
                  refine v_iload_n (pc := 90) 3 dX7_laysDebts_90 rfl rfl ?_
                  refine v_aload_n (pc := 91) 0 dX7_laysDebts_91 rfl rfl ?_
                  refine g_X7_51 (pc := 92) (cMr_obj) (by decide) rfl dX7_laysDebts_92 ?_
                  refine v_iload_n (pc := 95) 3 dX7_laysDebts_95 rfl rfl ?_
                  refine v_iconst (pc := 96) (nI 1) dX7_laysDebts_96 kI_1 ?_
                  refine v_iload (pc := 97) 4 dX7_laysDebts_97 rfl ?_
                  refine v_ishl (pc := 99) dX7_laysDebts_99 ?_
                  rw [shl1 (by omega)]
                  refine v_ior (pc := 100) dX7_laysDebts_100 ?_
                  rw [or_n]
                  refine v_ialdN (pc := 101) (cM_can) (by decide) (orlt hsl (by omega) hnd) (by decide) dX7_laysDebts_101 ?_
                  refine v_iconst (pc := 102) (nI 1) dX7_laysDebts_102 kI_1 ?_
                  refine v_iadd (pc := 103) dX7_laysDebts_103 ?_
                  refine v_iastN (pc := 104) (cM_can) (by decide) (by omega) (by decide) dX7_laysDebts_104 (wM_can) ?_
                  refine v_iincN (pc := 105) 4 [1, 2, 3, 4, 0] [(0, _), (1, _), (2, _), (3, _), (4, _)] kI_1 dX7_laysDebts_105 rfl (by decide) rfl ?_
                  refine v_goto (pc := 108) (tgt := 25) dX7_laysDebts_108 rfl ?_
                  rw [show st_ld xP xW s a m nd e c1 = _ from if_pos ⟨c_42, c_51, c_71, c_83⟩] at ih
                  exact ih
  exact hl_11 (2 ^ nd + 1) 0 xC (by omega) (by omega) rfl
def st_is (F : Fn) (r : Int32) (k : Nat) (b : Bool) : Bool := b && decide (bI (inB (F (3 * k) - F (3 * k + 1)) (-r) r) = bI (decide (F (3 * k + 2) = nI 1)))
def isM (F : Fn) (r : Int32) (n : Nat) : Bool := itn (st_is F r) n true
set_option maxHeartbeats 4000000 in
set_option maxRecDepth 100000 in
theorem m_isSo {E : Ev} {c : CSt} {xP xR xW xS xZ xG xK xT xQ xF xB xL xC : Fn} {un sz wm fm bm at_ bg fg : Nat} {ft sg vl wr : Int32} {sd : Int64} (hfm : fm ≤ 6) (r : Int32) : Ct E yX7_isSo cX7_isSo 4 (some .boolean) ({ frames := 1, cells := 0, slots := 0, locals := 25 } : Room) false 146 [.ref (Ez E + 132), .int r] (cellOf E (c, (mkA xP xR xW xS xZ xG xK xT xQ xF xB xL xC, (nI un, nI sz, ft, nI wm, nI fm, nI bm, nI at_, nI bg, sg, nI fg, vl, wr), sd))) 146 0 0 (Ff (some (.int (bI (isM xF r fm)))) (cellOf E (c, (mkA xP xR xW xS xZ xG xK xT xQ xF xB xL xC, (nI un, nI sz, ft, nI wm, nI fm, nI bm, nI at_, nI bg, sg, nI fg, vl, wr), sd)))) := by
  refine Ct.ofV (by decide) (Nat.le_of_ble_eq_true rfl) (fun X hnm => ?_)
  show V E X _ RX7 _ _ _ _ _ _ false 146 0 [(0, .ref (Ez E + 132)), (1, .int r)] [] _
  refine v_iconst (pc := 0) (nI 1) dX7_isSo_0 kI_1 ?_
  refine v_istore_n (pc := 1) [1, 2, 0] [(0, _), (1, _), (2, _)] dX7_isSo_1 rfl (by decide) rfl ?_
  refine v_iconst (pc := 2) (nI 0) dX7_isSo_2 kI_0 ?_
  refine v_istore_n (pc := 3) [1, 2, 3, 0] [(0, _), (1, _), (2, _), (3, _)] dX7_isSo_3 rfl (by decide) rfl ?_
  refine dn (P := fun i => V E X ({ frames := 1, cells := 0, slots := 0, locals := 25 } : Room) RX7 cX7_isSo 4 (some .boolean) 0 0 (QX E X false 146 (Ff (some (.int (bI (isM xF r fm)))) (cellOf E (c, (mkA xP xR xW xS xZ xG xK xT xQ xF xB xL xC, (nI un, nI sz, ft, nI wm, nI fm, nI bm, nI at_, nI bg, sg, nI fg, vl, wr), sd)))) 0 0) false 146 4 [(0, .ref (Ez E + 132)), (1, .int r), (2, .int (bI (itn (st_is xF r) i true))), (3, .int (nI (3 * i)))] [] (cellOf E (c, (mkA xP xR xW xS xZ xG xK xT xQ xF xB xL xC, (nI un, nI sz, ft, nI wm, nI fm, nI bm, nI at_, nI bg, sg, nI fg, vl, wr), sd)))) (N := fm) ?_ ?_
  · refine v_iload_n (pc := 4) 3 dX7_isSo_4 rfl rfl ?_
    refine v_iconst (pc := 5) (nI 3) dX7_isSo_5 kI_3 ?_
    refine v_aload_n (pc := 6) 0 dX7_isSo_6 rfl rfl ?_
    refine g_X7_64 (pc := 7) (cMr_obj) (by decide) rfl dX7_isSo_7 ?_
    refine v_imulN (pc := 10) dX7_isSo_10 ?_
    refine v_icmp_geN (pc := 11) (by omega) (by omega) (tgt := 74) dX7_isSo_11 rfl (fun c_11 => ?_) (fun c_11 => False.elim ((fun c => by omega) c_11))
    refine v_iload_n (pc := 74) 2 dX7_isSo_74 rfl rfl ?_
    exact v_zret (pc := 75) dX7_isSo_75 (bI_nar _) (⟨rfl, rfl⟩)
  · intro i hi ih
    have ih : V E X ({ frames := 1, cells := 0, slots := 0, locals := 25 } : Room) RX7 cX7_isSo 4 (some .boolean) 0 0 (QX E X false 146 (Ff (some (.int (bI (isM xF r fm)))) (cellOf E (c, (mkA xP xR xW xS xZ xG xK xT xQ xF xB xL xC, (nI un, nI sz, ft, nI wm, nI fm, nI bm, nI at_, nI bg, sg, nI fg, vl, wr), sd)))) 0 0) false 146 4 [(0, .ref (Ez E + 132)), (1, .int r), (2, .int (bI (st_is xF r i (itn (st_is xF r) i true)))), (3, .int (nI (3 * (i + 1))))] [] (cellOf E (c, (mkA xP xR xW xS xZ xG xK xT xQ xF xB xL xC, (nI un, nI sz, ft, nI wm, nI fm, nI bm, nI at_, nI bg, sg, nI fg, vl, wr), sd))) := by rw [itn_s] at ih; exact ih
    generalize itn (st_is xF r) i true = b1 at ih ⊢
    show V E X _ RX7 _ _ _ _ _ _ false 146 _ [(0, .ref (Ez E + 132)), (1, .int r), (2, .int (bI (b1))), (3, .int (nI (3 * i)))] [] (cellOf E (c, (mkA xP xR xW xS xZ xG xK xT xQ xF xB xL xC, (nI un, nI sz, ft, nI wm, nI fm, nI bm, nI at_, nI bg, sg, nI fg, vl, wr), sd)))
    refine v_iload_n (pc := 4) 3 dX7_isSo_4 rfl rfl ?_
    refine v_iconst (pc := 5) (nI 3) dX7_isSo_5 kI_3 ?_
    refine v_aload_n (pc := 6) 0 dX7_isSo_6 rfl rfl ?_
    refine g_X7_64 (pc := 7) (cMr_obj) (by decide) rfl dX7_isSo_7 ?_
    refine v_imulN (pc := 10) dX7_isSo_10 ?_
    refine v_icmp_geN (pc := 11) (by omega) (by omega) (tgt := 74) dX7_isSo_11 rfl (fun c_11 => False.elim ((fun c => by omega) c_11)) (fun c_11 => ?_)
    refine v_iload_n (pc := 14) 2 dX7_isSo_14 rfl rfl ?_
    refine v_if_eqB (pc := 15) (tgt := 66) dX7_isSo_15 rfl (fun c_15 => ?_) (fun c_15 => ?_)
    · refine v_iconst (pc := 66) (nI 0) dX7_isSo_66 kI_0 ?_
      refine v_istore_n (pc := 67) [1, 2, 0, 3] [(0, _), (1, _), (2, _), (3, _)] dX7_isSo_67 rfl (by decide) rfl ?_
      refine v_iincN (pc := 68) 3 [1, 2, 3, 0] [(0, _), (1, _), (2, _), (3, _)] kI_3 dX7_isSo_68 rfl (by decide) rfl ?_
      refine v_goto (pc := 71) (tgt := 4) dX7_isSo_71 rfl ?_
      rw [c_15] at ih
      exact ih
    · refine v_aload_n (pc := 18) 0 dX7_isSo_18 rfl rfl ?_
      refine g_X7_42 (pc := 19) (cMr_obj) (by decide) rfl dX7_isSo_19 ?_
      refine v_iload_n (pc := 22) 3 dX7_isSo_22 rfl rfl ?_
      refine v_ialdN (pc := 23) (cM_felt) (by decide) (by omega) (by decide) dX7_isSo_23 ?_
      refine v_aload_n (pc := 24) 0 dX7_isSo_24 rfl rfl ?_
      refine g_X7_42 (pc := 25) (cMr_obj) (by decide) rfl dX7_isSo_25 ?_
      refine v_iload_n (pc := 28) 3 dX7_isSo_28 rfl rfl ?_
      refine v_iconst (pc := 29) (nI 1) dX7_isSo_29 kI_1 ?_
      refine v_iaddN (pc := 30) dX7_isSo_30 ?_
      refine v_ialdN (pc := 31) (cM_felt) (by decide) (by omega) (by decide) dX7_isSo_31 ?_
      refine v_isub (pc := 32) dX7_isSo_32 ?_
      refine v_i2l (pc := 33) dX7_isSo_33 ?_
      refine v_iload_n (pc := 34) 1 dX7_isSo_34 rfl rfl ?_
      refine v_ineg (pc := 35) dX7_isSo_35 ?_
      refine v_i2l (pc := 36) dX7_isSo_36 ?_
      refine v_iload_n (pc := 37) 1 dX7_isSo_37 rfl rfl ?_
      refine v_i2l (pc := 38) dX7_isSo_38 ?_
      refine v_callS (pc := 39) _ _ k_X7_72 (m_in _ _ _) ⟨rfl, rfl, by decide⟩ rfl rfl (Nat.le_of_ble_eq_true rfl) ⟨Nat.le_of_ble_eq_true rfl, Nat.le_of_ble_eq_true rfl⟩ dX7_isSo_39 (unS ?_)
      show V E X _ RX7 _ _ _ 0 0 _ false 146 42 _ [_] _
      refine v_aload_n (pc := 42) 0 dX7_isSo_42 rfl rfl ?_
      refine g_X7_42 (pc := 43) (cMr_obj) (by decide) rfl dX7_isSo_43 ?_
      refine v_iload_n (pc := 46) 3 dX7_isSo_46 rfl rfl ?_
      refine v_iconst (pc := 47) (nI 2) dX7_isSo_47 kI_2 ?_
      refine v_iaddN (pc := 48) dX7_isSo_48 ?_
      refine v_ialdN (pc := 49) (cM_felt) (by decide) (by omega) (by decide) dX7_isSo_49 ?_
      refine v_iconst (pc := 50) (nI 1) dX7_isSo_50 kI_1 ?_
      refine v_icmp_ne (pc := 51) (tgt := 58) dX7_isSo_51 rfl (fun c_51 => ?_) (fun c_51 => ?_)
      · refine v_iconst (pc := 58) (nI 0) dX7_isSo_58 kI_0 ?_
        refine v_icmp_ne (pc := 59) (tgt := 66) dX7_isSo_59 rfl (fun c_59 => ?_) (fun c_59 => ?_)
        · refine v_iconst (pc := 66) (nI 0) dX7_isSo_66 kI_0 ?_
          refine v_istore_n (pc := 67) [1, 2, 0, 3] [(0, _), (1, _), (2, _), (3, _)] dX7_isSo_67 rfl (by decide) rfl ?_
          refine v_iincN (pc := 68) 3 [1, 2, 3, 0] [(0, _), (1, _), (2, _), (3, _)] kI_3 dX7_isSo_68 rfl (by decide) rfl ?_
          refine v_goto (pc := 71) (tgt := 4) dX7_isSo_71 rfl ?_
          rw [c_15, show st_is xF r i true = false from by show decide (bI (inB (xF (3 * i) - xF (3 * i + 1)) (-r) r) = bI (decide (xF (3 * i + 2) = nI 1))) = false; rw [show decide (xF (3 * i + 2) = nI 1) = false from decide_eq_false c_51]; exact decide_eq_false c_59] at ih
          exact ih
        · refine v_iconst (pc := 62) (nI 1) dX7_isSo_62 kI_1 ?_
          refine v_goto (pc := 63) (tgt := 67) dX7_isSo_63 rfl ?_
          refine v_istore_n (pc := 67) [1, 2, 0, 3] [(0, _), (1, _), (2, _), (3, _)] dX7_isSo_67 rfl (by decide) rfl ?_
          refine v_iincN (pc := 68) 3 [1, 2, 3, 0] [(0, _), (1, _), (2, _), (3, _)] kI_3 dX7_isSo_68 rfl (by decide) rfl ?_
          refine v_goto (pc := 71) (tgt := 4) dX7_isSo_71 rfl ?_
          rw [c_15, show st_is xF r i true = true from by show decide (bI (inB (xF (3 * i) - xF (3 * i + 1)) (-r) r) = bI (decide (xF (3 * i + 2) = nI 1))) = true; rw [show decide (xF (3 * i + 2) = nI 1) = false from decide_eq_false c_51]; exact decide_eq_true c_59] at ih
          exact ih
      · refine v_iconst (pc := 54) (nI 1) dX7_isSo_54 kI_1 ?_
        refine v_goto (pc := 55) (tgt := 59) dX7_isSo_55 rfl ?_
        refine v_icmp_ne (pc := 59) (tgt := 66) dX7_isSo_59 rfl (fun c_59 => ?_) (fun c_59 => ?_)
        · refine v_iconst (pc := 66) (nI 0) dX7_isSo_66 kI_0 ?_
          refine v_istore_n (pc := 67) [1, 2, 0, 3] [(0, _), (1, _), (2, _), (3, _)] dX7_isSo_67 rfl (by decide) rfl ?_
          refine v_iincN (pc := 68) 3 [1, 2, 3, 0] [(0, _), (1, _), (2, _), (3, _)] kI_3 dX7_isSo_68 rfl (by decide) rfl ?_
          refine v_goto (pc := 71) (tgt := 4) dX7_isSo_71 rfl ?_
          rw [c_15, show st_is xF r i true = false from by show decide (bI (inB (xF (3 * i) - xF (3 * i + 1)) (-r) r) = bI (decide (xF (3 * i + 2) = nI 1))) = false; rw [show decide (xF (3 * i + 2) = nI 1) = true from decide_eq_true c_51]; exact decide_eq_false c_59] at ih
          exact ih
        · refine v_iconst (pc := 62) (nI 1) dX7_isSo_62 kI_1 ?_
          refine v_goto (pc := 63) (tgt := 67) dX7_isSo_63 rfl ?_
          refine v_istore_n (pc := 67) [1, 2, 0, 3] [(0, _), (1, _), (2, _), (3, _)] dX7_isSo_67 rfl (by decide) rfl ?_
          refine v_iincN (pc := 68) 3 [1, 2, 3, 0] [(0, _), (1, _), (2, _), (3, _)] kI_3 dX7_isSo_68 rfl (by decide) rfl ?_
          refine v_goto (pc := 71) (tgt := 4) dX7_isSo_71 rfl ?_
          rw [c_15, show st_is xF r i true = true from by show decide (bI (inB (xF (3 * i) - xF (3 * i + 1)) (-r) r) = bI (decide (xF (3 * i + 2) = nI 1))) = true; rw [show decide (xF (3 * i + 2) = nI 1) = true from decide_eq_true c_51]; exact decide_eq_true c_59] at ih
          exact ih
def bitF : Nat → Nat → Nat → Nat
  | 0, _, c => c
  | f + 1, l, c => if l = 0 then c else bitF f (l &&& (l - 1)) (c + 1)
def bitM (s : Nat) : Nat := bitF 128 s 0
theorem and_lt {l : Nat} (h : 0 < l) : l &&& (l - 1) < l := Nat.lt_of_le_of_lt (Nat.and_le_right) (by omega)
theorem and_n {a b : Nat} (ha : a < 2 ^ 31) (hb : b < 2 ^ 31) : nI a &&& nI b = nI (a &&& b) := by
  refine Int32.toBitVec_inj.mp ?_
  show BitVec.ofNat 32 a &&& BitVec.ofNat 32 b = BitVec.ofNat 32 (a &&& b)
  exact BitVec.ofNat_and.symm
set_option maxHeartbeats 4000000 in
set_option maxRecDepth 100000 in
theorem m_bits {E : Ev} {B : Bool} {N : Nat} {h : Hp} {s : Nat} (hs : s < 128) : Ct E yX7_bits cX7_bits 3 (some .int) ({ frames := 0, cells := 0, slots := 0, locals := 0 } : Room) B N [.int (nI s)] h N 0 0 (Ff (some (.int (nI (bitM s)))) h) := by
  refine Ct.ofV (by decide) (Nat.le_of_ble_eq_true rfl) (fun X hnm => ?_)
  show V E X _ RX7 _ _ _ _ _ _ B N 0 [(0, .int (nI s))] [] _
  refine v_iconst (pc := 0) (nI 0) dX7_bits_0 kI_0 ?_
  refine v_istore_n (pc := 1) [1, 0] [(0, _), (1, _)] dX7_bits_1 rfl (by decide) rfl ?_
  refine v_iload_n (pc := 2) 0 dX7_bits_2 rfl rfl ?_
  refine v_istore_n (pc := 3) [1, 2, 0] [(0, _), (1, _), (2, _)] dX7_bits_3 rfl (by decide) rfl ?_
  have hl_4 : ∀ (m_ : Nat) (f : Nat) (l : Nat) (n : Nat), l < m_ → (l < 128) → (l ≤ f) → (bitF f l n = bitM s) → V E X ({ frames := 0, cells := 0, slots := 0, locals := 0 } : Room) RX7 cX7_bits 3 (some .int) 0 0 (QX E X B N (Ff (some (.int (nI (bitM s)))) h) 0 0) B N 4 [(0, .int (nI s)), (1, .int (nI n)), (2, .int (nI l))] [] (h) := by
    intro m_
    induction m_ with
    | zero => intro f l n hm; exact absurd hm (Nat.not_lt_zero _)
    | succ m_ ihm =>
      intro f l n hm hl hf hs1
      refine v_iload_n (pc := 4) 2 dX7_bits_4 rfl rfl ?_
      refine v_if_eqN (pc := 5) (by omega) (tgt := 20) dX7_bits_5 rfl (fun c_5 => ?_) (fun c_5 => ?_)
      · refine v_iload_n (pc := 20) 1 dX7_bits_20 rfl rfl ?_
        exact v_iret (pc := 21) dX7_bits_21 (⟨by rw [← hs1, show l = 0 by omega]; cases f <;> rfl, rfl⟩)
      · refine v_iincN (pc := 8) 1 [1, 0, 2] [(0, _), (1, _), (2, _)] kI_1 dX7_bits_8 rfl (by decide) rfl ?_
        refine v_iload_n (pc := 11) 2 dX7_bits_11 rfl rfl ?_
        refine v_iload_n (pc := 12) 2 dX7_bits_12 rfl rfl ?_
        refine v_iconst (pc := 13) (nI 1) dX7_bits_13 kI_1 ?_
        refine v_isubN (pc := 14) (by omega) dX7_bits_14 ?_
        refine v_iand (pc := 15) dX7_bits_15 ?_
        rw [and_n (by omega) (by omega)]
        refine v_istore_n (pc := 16) [1, 2, 0] [(0, _), (1, _), (2, _)] dX7_bits_16 rfl (by decide) rfl ?_
        refine v_goto (pc := 17) (tgt := 4) dX7_bits_17 rfl ?_
        exact ihm (f - 1) (l &&& (l - 1)) (n + 1) (by have := and_lt (show 0 < l by omega); omega) (by have := and_lt (show 0 < l by omega); omega) (by have := and_lt (show 0 < l by omega); omega) (by rw [← hs1, show f = (f - 1) + 1 by omega]; show _ = if l = 0 then _ else _; rw [if_neg (by omega)]; rfl)
  exact hl_4 (128) 128 s 0 (by omega) hs (by omega) rfl
