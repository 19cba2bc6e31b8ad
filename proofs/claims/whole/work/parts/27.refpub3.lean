def laW (W S : Fn) (i : Nat) : Fn := upd (cpA W 0 S 0 48) 14 (cpA W 0 S 0 48 14 ||| nI i)
theorem laW_trc {W S : Fn} {i : Nat} (h : Trc W) : Trc (laW W S i) := by
  obtain ⟨t, ht, e⟩ := lay_trc (S := S) h
  exact ⟨t, ht, by unfold laW; rw [upd_ne (by decide), e]⟩
def st_mne (P W : Fn) (np : Nat) (n : Int32) (h i : Nat) (z : Int32 × Fn × Fn) : Int32 × Fn × Fn := if nI i &&& W 14 = 0 ∧ (z.1 = -1 ∨ bitM i < bitM z.1.toNatClampNeg) ∧ ¬ P 1 ≤ 0 then ((if hatN (mhN P np h (laW W z.2.1 i, z.2.2)).1 np < n then z.1 else nI i), mhN P np h (laW W z.2.1 i, z.2.2)) else z
def mneN (P W : Fn) (np : Nat) (n : Int32) (h k : Nat) (z : Fn × Fn) : Int32 × Fn × Fn := itn (st_mne P W np n h) k (-1, z)
theorem bitM_7 : ∀ s, s < 128 → bitM s ≤ 7 := by decide +kernel
theorem bitM_le {s t : Nat} (hs : s < 128) (ht : t < 128) : nI (bitM s) ≤ nI (bitM t) ↔ bitM s ≤ bitM t := nI_leI (by have := bitM_7 s hs; omega) (by have := bitM_7 t ht; omega)
theorem ite_ok {α : Type} {p : α → Prop} {c : Prop} [Decidable c] {a b : α} (ha : p a) (hb : p b) : p (if c then a else b) := by
  by_cases h : c
  · rw [if_pos h]; exact ha
  · rw [if_neg h]; exact hb
theorem mneN_ok {P W : Fn} {np : Nat} {n : Int32} {h : Nat} {z : Fn × Fn} : ∀ k, k ≤ 128 → (mneN P W np n h k z).1 = -1 ∨ ∃ b, b < 128 ∧ (mneN P W np n h k z).1 = nI b
  | 0, _ => Or.inl rfl
  | k + 1, hk => by
    have ih := mneN_ok (P := P) (W := W) (np := np) (n := n) (h := h) (z := z) k (by omega)
    show (st_mne P W np n h k (mneN P W np n h k z)).1 = -1 ∨ ∃ b, b < 128 ∧ (st_mne P W np n h k (mneN P W np n h k z)).1 = nI b
    unfold st_mne
    split
    · exact ite_ok (p := fun v => v = -1 ∨ ∃ b, b < 128 ∧ v = nI b) ih (Or.inr ⟨k, by omega, rfl⟩)
    · exact ih
set_option maxHeartbeats 4000000 in
set_option maxRecDepth 100000 in
theorem m_nets {E : Ev} {c : CSt} {xP xR xW xS xZ xG xK xT xQ xF xB xL xC : Fn} {un sz wm fm bm at_ bg fg : Nat} {ft sg vl wr : Int32} {sd : Int64} {np : Nat} (hp : xP 2 = nI np) (hnp : np ≤ 7) (htw : Trc xW) (hdu : np = 0 ∨ ¬ xP 1 = 0) {n h : Nat} (hn : n ≤ 9999) (h1 : 1 ≤ h) (h2 : h ≤ 24) : Ct E yX7_nets cX7_nets 6 (some .int) ({ frames := 4, cells := 0, slots := 0, locals := 89 } : Room) false 146 [.ref (Ez E + 132), .int (nI n), .int (nI h)] (cellOf E (c, (mkA xP xR xW xS xZ xG xK xT xQ xF xB xL xC, (nI un, nI sz, ft, nI wm, nI fm, nI bm, nI at_, nI bg, sg, nI fg, vl, wr), sd))) 146 0 0 (Ff (some (.int ((mneN xP xW np (nI n) h (2 ^ np) (xS, xL)).1))) (cellOf E (c, (mkA xP xR xW ((mneN xP xW np (nI n) h (2 ^ np) (xS, xL)).2.1) xZ xG xK xT xQ xF xB ((mneN xP xW np (nI n) h (2 ^ np) (xS, xL)).2.2) xC, (nI un, nI sz, ft, nI wm, nI fm, nI bm, nI at_, nI bg, sg, nI fg, vl, wr), sd)))) := by
  have h2np := pow7 hnp
  refine Ct.ofV (by decide) (Nat.le_of_ble_eq_true rfl) (fun X hnm => ?_)
  show V E X _ RX7 _ _ _ _ _ _ false 146 0 [(0, .ref (Ez E + 132)), (1, .int (nI n)), (2, .int (nI h))] [] _
  refine v_iload_n (pc := 0) 1 dX7_nets_0 rfl rfl ?_
  refine v_i2l (pc := 1) dX7_nets_1 ?_
  refine v_lconst (pc := 2) ((nI 0).toInt64) dX7_nets_2 (by decide) ?_
  refine v_ldc2 (pc := 3) ((nI 9999).toInt64) kl_X7_248 dX7_nets_3 (by decide) ?_
  refine v_callS (pc := 6) _ _ k_X7_72 (m_in _ _ _) ⟨rfl, rfl, by decide⟩ rfl rfl (Nat.le_of_ble_eq_true rfl) ⟨Nat.le_of_ble_eq_true rfl, Nat.le_of_ble_eq_true rfl⟩ dX7_nets_6 (unS ?_)
  show V E X _ RX7 _ _ _ 0 0 _ false 146 9 _ [_] _
  refine v_if_eqB (pc := 9) (tgt := 24) dX7_nets_9 rfl (fun c_9 => False.elim ((fun q => by rw [inB_n (by omega) (by omega) (by omega)] at q; exact Bool.noConfusion q) c_9)) (fun c_9 => ?_)
  refine v_iload_n (pc := 12) 2 dX7_nets_12 rfl rfl ?_
  refine v_i2l (pc := 13) dX7_nets_13 ?_
  refine v_lconst (pc := 14) ((nI 1).toInt64) dX7_nets_14 (by decide) ?_
  refine v_ldc2 (pc := 15) ((nI 24).toInt64) kl_X7_250 dX7_nets_15 (by decide) ?_
  refine v_callS (pc := 18) _ _ k_X7_72 (m_in _ _ _) ⟨rfl, rfl, by decide⟩ rfl rfl (Nat.le_of_ble_eq_true rfl) ⟨Nat.le_of_ble_eq_true rfl, Nat.le_of_ble_eq_true rfl⟩ dX7_nets_18 (unS ?_)
  show V E X _ RX7 _ _ _ 0 0 _ false 146 21 _ [_] _
  refine v_if_neB (pc := 21) (tgt := 27) dX7_nets_21 rfl (fun c_21 => ?_) (fun c_21 => False.elim ((fun q => by rw [inB_n (by omega) (by omega) (by omega)] at q; exact Bool.noConfusion q) c_21))
  refine v_iconst (pc := 27) (-1) dX7_nets_27 kI_m1 ?_
  refine v_istore_n (pc := 28) [1, 2, 3, 0] [(0, _), (1, _), (2, _), (3, _)] dX7_nets_28 rfl (by decide) rfl ?_
  refine v_iconst (pc := 29) (nI 0) dX7_nets_29 kI_0 ?_
  refine v_istore (pc := 30) [1, 2, 3, 4, 0] [(0, _), (1, _), (2, _), (3, _), (4, _)] dX7_nets_30 (by decide) rfl ?_
  refine dn (P := fun i => V E X ({ frames := 4, cells := 0, slots := 0, locals := 89 } : Room) RX7 cX7_nets 6 (some .int) 0 0 (QX E X false 146 (Ff (some (.int ((mneN xP xW np (nI n) h (2 ^ np) (xS, xL)).1))) (cellOf E (c, (mkA xP xR xW ((mneN xP xW np (nI n) h (2 ^ np) (xS, xL)).2.1) xZ xG xK xT xQ xF xB ((mneN xP xW np (nI n) h (2 ^ np) (xS, xL)).2.2) xC, (nI un, nI sz, ft, nI wm, nI fm, nI bm, nI at_, nI bg, sg, nI fg, vl, wr), sd)))) 0 0) false 146 32 [(0, .ref (Ez E + 132)), (1, .int (nI n)), (2, .int (nI h)), (3, .int (itn (st_mne xP xW np (nI n) h) i (-1, xS, xL)).1), (4, .int (nI i))] [] (cellOf E (c, (mkA xP xR xW ((itn (st_mne xP xW np (nI n) h) i (-1, xS, xL)).2.1) xZ xG xK xT xQ xF xB ((itn (st_mne xP xW np (nI n) h) i (-1, xS, xL)).2.2) xC, (nI un, nI sz, ft, nI wm, nI fm, nI bm, nI at_, nI bg, sg, nI fg, vl, wr), sd)))) (N := (2 ^ np)) ?_ ?_
  · refine v_iload (pc := 32) 4 dX7_nets_32 rfl ?_
    refine v_iconst (pc := 34) (nI 1) dX7_nets_34 kI_1 ?_
    refine v_aload_n (pc := 35) 0 dX7_nets_35 rfl rfl ?_
    refine g_X7_7 (pc := 36) (cMr_obj) (by decide) rfl dX7_nets_36 ?_
    refine v_iconst (pc := 39) (nI 2) dX7_nets_39 kI_2 ?_
    refine v_ialdN (pc := 40) (cM_parish) (by decide) (by omega) (by decide) dX7_nets_40 ?_
    rw [hp]
    refine v_ishl (pc := 41) dX7_nets_41 ?_
    rw [shl1 (by omega)]
    refine v_icmp_geN (pc := 42) (by omega) (by omega) (tgt := 149) dX7_nets_42 rfl (fun c_42 => ?_) (fun c_42 => False.elim ((fun c => by omega) c_42))
    refine v_iload_n (pc := 149) 3 dX7_nets_149 rfl rfl ?_
    exact v_iret (pc := 150) dX7_nets_150 (⟨rfl, rfl⟩)
  · intro i hi ih
    have ih : V E X ({ frames := 4, cells := 0, slots := 0, locals := 89 } : Room) RX7 cX7_nets 6 (some .int) 0 0 (QX E X false 146 (Ff (some (.int ((mneN xP xW np (nI n) h (2 ^ np) (xS, xL)).1))) (cellOf E (c, (mkA xP xR xW ((mneN xP xW np (nI n) h (2 ^ np) (xS, xL)).2.1) xZ xG xK xT xQ xF xB ((mneN xP xW np (nI n) h (2 ^ np) (xS, xL)).2.2) xC, (nI un, nI sz, ft, nI wm, nI fm, nI bm, nI at_, nI bg, sg, nI fg, vl, wr), sd)))) 0 0) false 146 32 [(0, .ref (Ez E + 132)), (1, .int (nI n)), (2, .int (nI h)), (3, .int (st_mne xP xW np (nI n) h i (itn (st_mne xP xW np (nI n) h) i (-1, xS, xL))).1), (4, .int (nI (i + 1)))] [] (cellOf E (c, (mkA xP xR xW ((st_mne xP xW np (nI n) h i (itn (st_mne xP xW np (nI n) h) i (-1, xS, xL))).2.1) xZ xG xK xT xQ xF xB ((st_mne xP xW np (nI n) h i (itn (st_mne xP xW np (nI n) h) i (-1, xS, xL))).2.2) xC, (nI un, nI sz, ft, nI wm, nI fm, nI bm, nI at_, nI bg, sg, nI fg, vl, wr), sd))) := by rw [itn_s] at ih; exact ih
    generalize hg : itn (st_mne xP xW np (nI n) h) i (-1, xS, xL) = z_ at ih ⊢
    obtain ⟨b1, f1, l1⟩ := z_
    show V E X _ RX7 _ _ _ _ _ _ false 146 _ [(0, .ref (Ez E + 132)), (1, .int (nI n)), (2, .int (nI h)), (3, .int b1), (4, .int (nI i))] [] (cellOf E (c, (mkA xP xR xW f1 xZ xG xK xT xQ xF xB l1 xC, (nI un, nI sz, ft, nI wm, nI fm, nI bm, nI at_, nI bg, sg, nI fg, vl, wr), sd)))
    have hb1 : b1 = -1 ∨ ∃ b, b < 128 ∧ b1 = nI b := by have q := mneN_ok (P := xP) (W := xW) (np := np) (n := nI n) (h := h) (z := (xS, xL)) i (by omega); rw [show mneN xP xW np (nI n) h i (xS, xL) = (b1, f1, l1) from hg] at q; exact q
    clear hg
    refine v_iload (pc := 32) 4 dX7_nets_32 rfl ?_
    refine v_iconst (pc := 34) (nI 1) dX7_nets_34 kI_1 ?_
    refine v_aload_n (pc := 35) 0 dX7_nets_35 rfl rfl ?_
    refine g_X7_7 (pc := 36) (cMr_obj) (by decide) rfl dX7_nets_36 ?_
    refine v_iconst (pc := 39) (nI 2) dX7_nets_39 kI_2 ?_
    refine v_ialdN (pc := 40) (cM_parish) (by decide) (by omega) (by decide) dX7_nets_40 ?_
    rw [hp]
    refine v_ishl (pc := 41) dX7_nets_41 ?_
    rw [shl1 (by omega)]
    refine v_icmp_geN (pc := 42) (by omega) (by omega) (tgt := 149) dX7_nets_42 rfl (fun c_42 => False.elim ((fun c => by omega) c_42)) (fun c_42 => ?_)
    refine v_iload (pc := 45) 4 dX7_nets_45 rfl ?_
    refine v_aload_n (pc := 47) 0 dX7_nets_47 rfl rfl ?_
    refine g_X7_16 (pc := 48) (cMr_obj) (by decide) rfl dX7_nets_48 ?_
    refine v_bipush (pc := 51) (nI 14) dX7_nets_51 kB_14 ?_
    refine v_ialdN (pc := 53) (cM_now) (by decide) (by omega) (by decide) dX7_nets_53 ?_
    refine v_iand (pc := 54) dX7_nets_54 ?_
    refine v_if_ne (pc := 55) (tgt := 143) dX7_nets_55 rfl (fun c_55 => ?_) (fun c_55 => ?_)
    · refine v_iincN (pc := 143) 4 [1, 2, 3, 4, 0] [(0, _), (1, _), (2, _), (3, _), (4, _)] kI_1 dX7_nets_143 rfl (by decide) rfl ?_
      refine v_goto (pc := 146) (tgt := 32) dX7_nets_146 rfl ?_
      rw [show st_mne xP xW np (nI n) h i (b1, f1, l1) = _ from if_neg (by rintro ⟨q, -⟩; exact c_55 q)] at ih
      exact ih
    · refine v_iload_n (pc := 58) 3 dX7_nets_58 rfl rfl ?_
      refine v_iconst (pc := 59) (-1) dX7_nets_59 kI_m1 ?_
      refine v_icmp_eq (pc := 60) (tgt := 75) dX7_nets_60 rfl (fun c_60 => ?_) (fun c_60 => ?_)
      · refine v_aload_n (pc := 75) 0 dX7_nets_75 rfl rfl ?_
        refine g_X7_7 (pc := 76) (cMr_obj) (by decide) rfl dX7_nets_76 ?_
        refine v_iconst (pc := 79) (nI 1) dX7_nets_79 kI_1 ?_
        refine v_ialdN (pc := 80) (cM_parish) (by decide) (by omega) (by decide) dX7_nets_80 ?_
        refine v_if_le (pc := 81) (tgt := 143) dX7_nets_81 rfl (fun c_81 => ?_) (fun c_81 => ?_)
        · refine v_iincN (pc := 143) 4 [1, 2, 3, 4, 0] [(0, _), (1, _), (2, _), (3, _), (4, _)] kI_1 dX7_nets_143 rfl (by decide) rfl ?_
          refine v_goto (pc := 146) (tgt := 32) dX7_nets_146 rfl ?_
          rw [show st_mne xP xW np (nI n) h i (b1, f1, l1) = _ from if_neg (by rintro ⟨-, -, q⟩; exact q c_81)] at ih
          exact ih
        · have hduT : ¬ xP 1 = 0 := fun q => c_81 (by rw [q]; decide)
          refine v_aload_n (pc := 84) 0 dX7_nets_84 rfl rfl ?_
          refine v_callV (pc := 85) _ _ k_X7_232 (cMr_obj) rfl (by decide) (m_lay) ⟨rfl, rfl, by decide⟩ rfl rfl (Nat.le_of_ble_eq_true rfl) ⟨Nat.le_of_ble_eq_true rfl, Nat.le_of_ble_eq_true rfl⟩ dX7_nets_85 (unS ?_)
          show V E X _ RX7 _ _ _ 0 0 _ false 146 88 _ [] _
          refine v_aload_n (pc := 88) 0 dX7_nets_88 rfl rfl ?_
          refine g_X7_19 (pc := 89) (cMr_obj) (by decide) rfl dX7_nets_89 ?_
          refine v_bipush (pc := 92) (nI 14) dX7_nets_92 kB_14 ?_
          refine v_dup2 (pc := 94) dX7_nets_94 rfl rfl ?_
          refine v_ialdN (pc := 95) (cM_aside) (by decide) (by omega) (by decide) dX7_nets_95 ?_
          refine v_iload (pc := 96) 4 dX7_nets_96 rfl ?_
          refine v_ior (pc := 98) dX7_nets_98 ?_
          refine v_iastN (pc := 99) (cM_aside) (by decide) (by omega) (by decide) dX7_nets_99 (wM_aside) ?_
          refine v_iconst (pc := 100) (nI 0) dX7_nets_100 kI_0 ?_
          refine v_istore (pc := 101) [1, 2, 3, 4, 5, 0] [(0, _), (1, _), (2, _), (3, _), (4, _), (5, _)] dX7_nets_101 (by decide) rfl ?_
          refine dn (P := fun e => V E X ({ frames := 4, cells := 0, slots := 0, locals := 89 } : Room) RX7 cX7_nets 6 (some .int) 0 0 (QX E X false 146 (Ff (some (.int ((mneN xP xW np (nI n) h (2 ^ np) (xS, xL)).1))) (cellOf E (c, (mkA xP xR xW ((mneN xP xW np (nI n) h (2 ^ np) (xS, xL)).2.1) xZ xG xK xT xQ xF xB ((mneN xP xW np (nI n) h (2 ^ np) (xS, xL)).2.2) xC, (nI un, nI sz, ft, nI wm, nI fm, nI bm, nI at_, nI bg, sg, nI fg, vl, wr), sd)))) 0 0) false 146 103 [(0, .ref (Ez E + 132)), (1, .int (nI n)), (2, .int (nI h)), (3, .int b1), (4, .int (nI i)), (5, .int (nI e))] [] (cellOf E (c, (mkA xP xR xW ((itn (fun _ y => mh2 xP np y) e (laW xW f1 i, l1)).1) xZ xG xK xT xQ xF xB ((itn (fun _ y => mh2 xP np y) e (laW xW f1 i, l1)).2) xC, (nI un, nI sz, ft, nI wm, nI fm, nI bm, nI at_, nI bg, sg, nI fg, vl, wr), sd)))) (N := h) ?_ ?_
          · generalize hy9 : itn (fun _ y => mh2 xP np y) h (laW xW f1 i, l1) = z_ 
            obtain ⟨f9, l9⟩ := z_
            show V E X _ RX7 _ _ _ _ _ _ false 146 _ [(0, .ref (Ez E + 132)), (1, .int (nI n)), (2, .int (nI h)), (3, .int b1), (4, .int (nI i)), (5, .int (nI h))] [] (cellOf E (c, (mkA xP xR xW f9 xZ xG xK xT xQ xF xB l9 xC, (nI un, nI sz, ft, nI wm, nI fm, nI bm, nI at_, nI bg, sg, nI fg, vl, wr), sd)))
            refine v_iload (pc := 103) 5 dX7_nets_103 rfl ?_
            refine v_iload_n (pc := 105) 2 dX7_nets_105 rfl rfl ?_
            refine v_icmp_geN (pc := 106) (by omega) (by omega) (tgt := 124) dX7_nets_106 rfl (fun c_106 => ?_) (fun c_106 => False.elim ((fun c => by omega) c_106))
            refine v_aload_n (pc := 124) 0 dX7_nets_124 rfl rfl ?_
            refine v_aload_n (pc := 125) 0 dX7_nets_125 rfl rfl ?_
            refine g_X7_19 (pc := 126) (cMr_obj) (by decide) rfl dX7_nets_126 ?_
            refine v_callV (pc := 129) _ _ k_X7_165 (cMr_obj) rfl (by decide) (m_hatsS hp hnp) ⟨rfl, rfl, by decide⟩ rfl rfl (Nat.le_of_ble_eq_true rfl) ⟨Nat.le_of_ble_eq_true rfl, Nat.le_of_ble_eq_true rfl⟩ dX7_nets_129 (unS ?_)
            show V E X _ RX7 _ _ _ 0 0 _ false 146 132 _ [_] _
            refine v_iload_n (pc := 132) 1 dX7_nets_132 rfl rfl ?_
            refine v_icmp_lt (pc := 133) (tgt := 141) dX7_nets_133 rfl (fun c_133 => ?_) (fun c_133 => ?_)
            · refine v_iload_n (pc := 141) 3 dX7_nets_141 rfl rfl ?_
              refine v_istore_n (pc := 142) [1, 2, 3, 0, 4, 5] [(0, _), (1, _), (2, _), (3, _), (4, _), (5, _)] dX7_nets_142 rfl (by decide) rfl ?_
              refine v_iincN (pc := 143) 4 [1, 2, 3, 4, 0, 5] [(0, _), (1, _), (2, _), (3, _), (4, _), (5, _)] kI_1 dX7_nets_143 rfl (by decide) rfl ?_
              refine v_goto (pc := 146) (tgt := 32) dX7_nets_146 rfl ?_
              refine v_sub [0, 1, 2, 3, 4] rfl ?_
              rw [show st_mne xP xW np (nI n) h i (b1, f1, l1) = (b1, f9, l9) from (if_pos ⟨c_55, Or.inl c_60, c_81⟩).trans (by show ((if hatN (mhN xP np h (laW xW f1 i, l1)).1 np < nI n then b1 else nI i), mhN xP np h (laW xW f1 i, l1)) = _; rw [show mhN xP np h (laW xW f1 i, l1) = (f9, l9) from hy9, if_pos c_133])] at ih
              exact ih
            · refine v_iload (pc := 136) 4 dX7_nets_136 rfl ?_
              refine v_goto (pc := 138) (tgt := 142) dX7_nets_138 rfl ?_
              refine v_istore_n (pc := 142) [1, 2, 3, 0, 4, 5] [(0, _), (1, _), (2, _), (3, _), (4, _), (5, _)] dX7_nets_142 rfl (by decide) rfl ?_
              refine v_iincN (pc := 143) 4 [1, 2, 3, 4, 0, 5] [(0, _), (1, _), (2, _), (3, _), (4, _), (5, _)] kI_1 dX7_nets_143 rfl (by decide) rfl ?_
              refine v_goto (pc := 146) (tgt := 32) dX7_nets_146 rfl ?_
              refine v_sub [0, 1, 2, 3, 4] rfl ?_
              rw [show st_mne xP xW np (nI n) h i (b1, f1, l1) = (nI i, f9, l9) from (if_pos ⟨c_55, Or.inl c_60, c_81⟩).trans (by show ((if hatN (mhN xP np h (laW xW f1 i, l1)).1 np < nI n then b1 else nI i), mhN xP np h (laW xW f1 i, l1)) = _; rw [show mhN xP np h (laW xW f1 i, l1) = (f9, l9) from hy9, if_neg c_133])] at ih
              exact ih
          · intro e he ih
            have ih : V E X ({ frames := 4, cells := 0, slots := 0, locals := 89 } : Room) RX7 cX7_nets 6 (some .int) 0 0 (QX E X false 146 (Ff (some (.int ((mneN xP xW np (nI n) h (2 ^ np) (xS, xL)).1))) (cellOf E (c, (mkA xP xR xW ((mneN xP xW np (nI n) h (2 ^ np) (xS, xL)).2.1) xZ xG xK xT xQ xF xB ((mneN xP xW np (nI n) h (2 ^ np) (xS, xL)).2.2) xC, (nI un, nI sz, ft, nI wm, nI fm, nI bm, nI at_, nI bg, sg, nI fg, vl, wr), sd)))) 0 0) false 146 103 [(0, .ref (Ez E + 132)), (1, .int (nI n)), (2, .int (nI h)), (3, .int b1), (4, .int (nI i)), (5, .int (nI (e + 1)))] [] (cellOf E (c, (mkA xP xR xW ((mh2 xP np (itn (fun _ y => mh2 xP np y) e (laW xW f1 i, l1))).1) xZ xG xK xT xQ xF xB ((mh2 xP np (itn (fun _ y => mh2 xP np y) e (laW xW f1 i, l1))).2) xC, (nI un, nI sz, ft, nI wm, nI fm, nI bm, nI at_, nI bg, sg, nI fg, vl, wr), sd))) := by rw [itn_s] at ih; exact ih
            generalize hg : itn (fun _ y => mh2 xP np y) e (laW xW f1 i, l1) = z_ at ih ⊢
            obtain ⟨f2, l2⟩ := z_
            show V E X _ RX7 _ _ _ _ _ _ false 146 _ [(0, .ref (Ez E + 132)), (1, .int (nI n)), (2, .int (nI h)), (3, .int b1), (4, .int (nI i)), (5, .int (nI e))] [] (cellOf E (c, (mkA xP xR xW f2 xZ xG xK xT xQ xF xB l2 xC, (nI un, nI sz, ft, nI wm, nI fm, nI bm, nI at_, nI bg, sg, nI fg, vl, wr), sd)))
            have hT1 : Trc f2 := by have q := mhN_trc (P := xP) hnp (z := (laW xW f1 i, l1)) (laW_trc htw) e; rw [show mhN xP np e (laW xW f1 i, l1) = (f2, l2) from hg] at q; exact q
            refine v_iload (pc := 103) 5 dX7_nets_103 rfl ?_
            refine v_iload_n (pc := 105) 2 dX7_nets_105 rfl rfl ?_
            refine v_icmp_geN (pc := 106) (by omega) (by omega) (tgt := 124) dX7_nets_106 rfl (fun c_106 => False.elim ((fun c => by omega) c_106)) (fun c_106 => ?_)
            refine v_aload_n (pc := 109) 0 dX7_nets_109 rfl rfl ?_
            refine v_aload_n (pc := 110) 0 dX7_nets_110 rfl rfl ?_
            refine g_X7_19 (pc := 111) (cMr_obj) (by decide) rfl dX7_nets_111 ?_
            refine v_iconst (pc := 114) (nI 1) dX7_nets_114 kI_1 ?_
            refine v_callV (pc := 115) _ _ k_X7_208 (cMr_obj) rfl (by decide) (m_hourST hp hnp hT1 hduT) ⟨rfl, rfl, by decide⟩ rfl rfl (Nat.le_of_ble_eq_true rfl) ⟨Nat.le_of_ble_eq_true rfl, Nat.le_of_ble_eq_true rfl⟩ dX7_nets_115 (unS ?_)
            show V E X _ RX7 _ _ _ 0 0 _ false 146 118 _ [] _
            refine v_iincN (pc := 118) 5 [1, 2, 3, 4, 5, 0] [(0, _), (1, _), (2, _), (3, _), (4, _), (5, _)] kI_1 dX7_nets_118 rfl (by decide) rfl ?_
            refine v_goto (pc := 121) (tgt := 103) dX7_nets_121 rfl ?_
            exact ih
      · obtain ⟨bb, hbb, hbe⟩ := hb1.resolve_left c_60
        subst hbe
        refine v_iload (pc := 63) 4 dX7_nets_63 rfl ?_
        refine v_callS (pc := 65) _ _ k_X7_252 (m_bits (by omega)) ⟨rfl, rfl, by decide⟩ rfl rfl (Nat.le_of_ble_eq_true rfl) ⟨Nat.le_of_ble_eq_true rfl, Nat.le_of_ble_eq_true rfl⟩ dX7_nets_65 (unS ?_)
        show V E X _ RX7 _ _ _ 0 0 _ false 146 68 _ [_] _
        refine v_iload_n (pc := 68) 3 dX7_nets_68 rfl rfl ?_
        refine v_callS (pc := 69) _ _ k_X7_252 (m_bits (by omega)) ⟨rfl, rfl, by decide⟩ rfl rfl (Nat.le_of_ble_eq_true rfl) ⟨Nat.le_of_ble_eq_true rfl, Nat.le_of_ble_eq_true rfl⟩ dX7_nets_69 (unS ?_)
        show V E X _ RX7 _ _ _ 0 0 _ false 146 72 _ [_, _] _
        refine v_icmp_ge (pc := 72) (tgt := 143) dX7_nets_72 rfl (fun c_72 => ?_) (fun c_72 => ?_)
        · refine v_iincN (pc := 143) 4 [1, 2, 3, 4, 0] [(0, _), (1, _), (2, _), (3, _), (4, _)] kI_1 dX7_nets_143 rfl (by decide) rfl ?_
          refine v_goto (pc := 146) (tgt := 32) dX7_nets_146 rfl ?_
          rw [show st_mne xP xW np (nI n) h i ((nI bb), f1, l1) = _ from if_neg (by rintro ⟨-, q | q, -⟩; exact c_60 q; rw [show ((nI bb, f1, l1) : Int32 × Fn × Fn).1.toNatClampNeg = bb from nI_clamp (by omega)] at q; rw [bitM_le (by omega) (by omega)] at c_72; omega)] at ih
          exact ih
        · refine v_aload_n (pc := 75) 0 dX7_nets_75 rfl rfl ?_
          refine g_X7_7 (pc := 76) (cMr_obj) (by decide) rfl dX7_nets_76 ?_
          refine v_iconst (pc := 79) (nI 1) dX7_nets_79 kI_1 ?_
          refine v_ialdN (pc := 80) (cM_parish) (by decide) (by omega) (by decide) dX7_nets_80 ?_
          refine v_if_le (pc := 81) (tgt := 143) dX7_nets_81 rfl (fun c_81 => ?_) (fun c_81 => ?_)
          · refine v_iincN (pc := 143) 4 [1, 2, 3, 4, 0] [(0, _), (1, _), (2, _), (3, _), (4, _)] kI_1 dX7_nets_143 rfl (by decide) rfl ?_
            refine v_goto (pc := 146) (tgt := 32) dX7_nets_146 rfl ?_
            rw [show st_mne xP xW np (nI n) h i ((nI bb), f1, l1) = _ from if_neg (by rintro ⟨-, -, q⟩; exact q c_81)] at ih
            exact ih
          · have hduT : ¬ xP 1 = 0 := fun q => c_81 (by rw [q]; decide)
            refine v_aload_n (pc := 84) 0 dX7_nets_84 rfl rfl ?_
            refine v_callV (pc := 85) _ _ k_X7_232 (cMr_obj) rfl (by decide) (m_lay) ⟨rfl, rfl, by decide⟩ rfl rfl (Nat.le_of_ble_eq_true rfl) ⟨Nat.le_of_ble_eq_true rfl, Nat.le_of_ble_eq_true rfl⟩ dX7_nets_85 (unS ?_)
            show V E X _ RX7 _ _ _ 0 0 _ false 146 88 _ [] _
            refine v_aload_n (pc := 88) 0 dX7_nets_88 rfl rfl ?_
            refine g_X7_19 (pc := 89) (cMr_obj) (by decide) rfl dX7_nets_89 ?_
            refine v_bipush (pc := 92) (nI 14) dX7_nets_92 kB_14 ?_
            refine v_dup2 (pc := 94) dX7_nets_94 rfl rfl ?_
            refine v_ialdN (pc := 95) (cM_aside) (by decide) (by omega) (by decide) dX7_nets_95 ?_
            refine v_iload (pc := 96) 4 dX7_nets_96 rfl ?_
            refine v_ior (pc := 98) dX7_nets_98 ?_
            refine v_iastN (pc := 99) (cM_aside) (by decide) (by omega) (by decide) dX7_nets_99 (wM_aside) ?_
            refine v_iconst (pc := 100) (nI 0) dX7_nets_100 kI_0 ?_
            refine v_istore (pc := 101) [1, 2, 3, 4, 5, 0] [(0, _), (1, _), (2, _), (3, _), (4, _), (5, _)] dX7_nets_101 (by decide) rfl ?_
            refine dn (P := fun e => V E X ({ frames := 4, cells := 0, slots := 0, locals := 89 } : Room) RX7 cX7_nets 6 (some .int) 0 0 (QX E X false 146 (Ff (some (.int ((mneN xP xW np (nI n) h (2 ^ np) (xS, xL)).1))) (cellOf E (c, (mkA xP xR xW ((mneN xP xW np (nI n) h (2 ^ np) (xS, xL)).2.1) xZ xG xK xT xQ xF xB ((mneN xP xW np (nI n) h (2 ^ np) (xS, xL)).2.2) xC, (nI un, nI sz, ft, nI wm, nI fm, nI bm, nI at_, nI bg, sg, nI fg, vl, wr), sd)))) 0 0) false 146 103 [(0, .ref (Ez E + 132)), (1, .int (nI n)), (2, .int (nI h)), (3, .int (nI bb)), (4, .int (nI i)), (5, .int (nI e))] [] (cellOf E (c, (mkA xP xR xW ((itn (fun _ y => mh2 xP np y) e (laW xW f1 i, l1)).1) xZ xG xK xT xQ xF xB ((itn (fun _ y => mh2 xP np y) e (laW xW f1 i, l1)).2) xC, (nI un, nI sz, ft, nI wm, nI fm, nI bm, nI at_, nI bg, sg, nI fg, vl, wr), sd)))) (N := h) ?_ ?_
            · generalize hy9 : itn (fun _ y => mh2 xP np y) h (laW xW f1 i, l1) = z_ 
              obtain ⟨f9, l9⟩ := z_
              show V E X _ RX7 _ _ _ _ _ _ false 146 _ [(0, .ref (Ez E + 132)), (1, .int (nI n)), (2, .int (nI h)), (3, .int (nI bb)), (4, .int (nI i)), (5, .int (nI h))] [] (cellOf E (c, (mkA xP xR xW f9 xZ xG xK xT xQ xF xB l9 xC, (nI un, nI sz, ft, nI wm, nI fm, nI bm, nI at_, nI bg, sg, nI fg, vl, wr), sd)))
              refine v_iload (pc := 103) 5 dX7_nets_103 rfl ?_
              refine v_iload_n (pc := 105) 2 dX7_nets_105 rfl rfl ?_
              refine v_icmp_geN (pc := 106) (by omega) (by omega) (tgt := 124) dX7_nets_106 rfl (fun c_106 => ?_) (fun c_106 => False.elim ((fun c => by omega) c_106))
              refine v_aload_n (pc := 124) 0 dX7_nets_124 rfl rfl ?_
              refine v_aload_n (pc := 125) 0 dX7_nets_125 rfl rfl ?_
              refine g_X7_19 (pc := 126) (cMr_obj) (by decide) rfl dX7_nets_126 ?_
              refine v_callV (pc := 129) _ _ k_X7_165 (cMr_obj) rfl (by decide) (m_hatsS hp hnp) ⟨rfl, rfl, by decide⟩ rfl rfl (Nat.le_of_ble_eq_true rfl) ⟨Nat.le_of_ble_eq_true rfl, Nat.le_of_ble_eq_true rfl⟩ dX7_nets_129 (unS ?_)
              show V E X _ RX7 _ _ _ 0 0 _ false 146 132 _ [_] _
              refine v_iload_n (pc := 132) 1 dX7_nets_132 rfl rfl ?_
              refine v_icmp_lt (pc := 133) (tgt := 141) dX7_nets_133 rfl (fun c_133 => ?_) (fun c_133 => ?_)
              · refine v_iload_n (pc := 141) 3 dX7_nets_141 rfl rfl ?_
                refine v_istore_n (pc := 142) [1, 2, 3, 0, 4, 5] [(0, _), (1, _), (2, _), (3, _), (4, _), (5, _)] dX7_nets_142 rfl (by decide) rfl ?_
                refine v_iincN (pc := 143) 4 [1, 2, 3, 4, 0, 5] [(0, _), (1, _), (2, _), (3, _), (4, _), (5, _)] kI_1 dX7_nets_143 rfl (by decide) rfl ?_
                refine v_goto (pc := 146) (tgt := 32) dX7_nets_146 rfl ?_
                refine v_sub [0, 1, 2, 3, 4] rfl ?_
                rw [show st_mne xP xW np (nI n) h i ((nI bb), f1, l1) = ((nI bb), f9, l9) from (if_pos ⟨c_55, Or.inr (by rw [show ((nI bb, f1, l1) : Int32 × Fn × Fn).1.toNatClampNeg = bb from nI_clamp (by omega)]; rw [bitM_le (by omega) (by omega)] at c_72; omega), c_81⟩).trans (by show ((if hatN (mhN xP np h (laW xW f1 i, l1)).1 np < nI n then (nI bb) else nI i), mhN xP np h (laW xW f1 i, l1)) = _; rw [show mhN xP np h (laW xW f1 i, l1) = (f9, l9) from hy9, if_pos c_133])] at ih
                exact ih
              · refine v_iload (pc := 136) 4 dX7_nets_136 rfl ?_
                refine v_goto (pc := 138) (tgt := 142) dX7_nets_138 rfl ?_
                refine v_istore_n (pc := 142) [1, 2, 3, 0, 4, 5] [(0, _), (1, _), (2, _), (3, _), (4, _), (5, _)] dX7_nets_142 rfl (by decide) rfl ?_
                refine v_iincN (pc := 143) 4 [1, 2, 3, 4, 0, 5] [(0, _), (1, _), (2, _), (3, _), (4, _), (5, _)] kI_1 dX7_nets_143 rfl (by decide) rfl ?_
                refine v_goto (pc := 146) (tgt := 32) dX7_nets_146 rfl ?_
                refine v_sub [0, 1, 2, 3, 4] rfl ?_
                rw [show st_mne xP xW np (nI n) h i ((nI bb), f1, l1) = (nI i, f9, l9) from (if_pos ⟨c_55, Or.inr (by rw [show ((nI bb, f1, l1) : Int32 × Fn × Fn).1.toNatClampNeg = bb from nI_clamp (by omega)]; rw [bitM_le (by omega) (by omega)] at c_72; omega), c_81⟩).trans (by show ((if hatN (mhN xP np h (laW xW f1 i, l1)).1 np < nI n then (nI bb) else nI i), mhN xP np h (laW xW f1 i, l1)) = _; rw [show mhN xP np h (laW xW f1 i, l1) = (f9, l9) from hy9, if_neg c_133])] at ih
                exact ih
            · intro e he ih
              have ih : V E X ({ frames := 4, cells := 0, slots := 0, locals := 89 } : Room) RX7 cX7_nets 6 (some .int) 0 0 (QX E X false 146 (Ff (some (.int ((mneN xP xW np (nI n) h (2 ^ np) (xS, xL)).1))) (cellOf E (c, (mkA xP xR xW ((mneN xP xW np (nI n) h (2 ^ np) (xS, xL)).2.1) xZ xG xK xT xQ xF xB ((mneN xP xW np (nI n) h (2 ^ np) (xS, xL)).2.2) xC, (nI un, nI sz, ft, nI wm, nI fm, nI bm, nI at_, nI bg, sg, nI fg, vl, wr), sd)))) 0 0) false 146 103 [(0, .ref (Ez E + 132)), (1, .int (nI n)), (2, .int (nI h)), (3, .int (nI bb)), (4, .int (nI i)), (5, .int (nI (e + 1)))] [] (cellOf E (c, (mkA xP xR xW ((mh2 xP np (itn (fun _ y => mh2 xP np y) e (laW xW f1 i, l1))).1) xZ xG xK xT xQ xF xB ((mh2 xP np (itn (fun _ y => mh2 xP np y) e (laW xW f1 i, l1))).2) xC, (nI un, nI sz, ft, nI wm, nI fm, nI bm, nI at_, nI bg, sg, nI fg, vl, wr), sd))) := by rw [itn_s] at ih; exact ih
              generalize hg : itn (fun _ y => mh2 xP np y) e (laW xW f1 i, l1) = z_ at ih ⊢
              obtain ⟨f2, l2⟩ := z_
              show V E X _ RX7 _ _ _ _ _ _ false 146 _ [(0, .ref (Ez E + 132)), (1, .int (nI n)), (2, .int (nI h)), (3, .int (nI bb)), (4, .int (nI i)), (5, .int (nI e))] [] (cellOf E (c, (mkA xP xR xW f2 xZ xG xK xT xQ xF xB l2 xC, (nI un, nI sz, ft, nI wm, nI fm, nI bm, nI at_, nI bg, sg, nI fg, vl, wr), sd)))
              have hT1 : Trc f2 := by have q := mhN_trc (P := xP) hnp (z := (laW xW f1 i, l1)) (laW_trc htw) e; rw [show mhN xP np e (laW xW f1 i, l1) = (f2, l2) from hg] at q; exact q
              refine v_iload (pc := 103) 5 dX7_nets_103 rfl ?_
              refine v_iload_n (pc := 105) 2 dX7_nets_105 rfl rfl ?_
              refine v_icmp_geN (pc := 106) (by omega) (by omega) (tgt := 124) dX7_nets_106 rfl (fun c_106 => False.elim ((fun c => by omega) c_106)) (fun c_106 => ?_)
              refine v_aload_n (pc := 109) 0 dX7_nets_109 rfl rfl ?_
              refine v_aload_n (pc := 110) 0 dX7_nets_110 rfl rfl ?_
              refine g_X7_19 (pc := 111) (cMr_obj) (by decide) rfl dX7_nets_111 ?_
              refine v_iconst (pc := 114) (nI 1) dX7_nets_114 kI_1 ?_
              refine v_callV (pc := 115) _ _ k_X7_208 (cMr_obj) rfl (by decide) (m_hourST hp hnp hT1 hduT) ⟨rfl, rfl, by decide⟩ rfl rfl (Nat.le_of_ble_eq_true rfl) ⟨Nat.le_of_ble_eq_true rfl, Nat.le_of_ble_eq_true rfl⟩ dX7_nets_115 (unS ?_)
              show V E X _ RX7 _ _ _ 0 0 _ false 146 118 _ [] _
              refine v_iincN (pc := 118) 5 [1, 2, 3, 4, 5, 0] [(0, _), (1, _), (2, _), (3, _), (4, _), (5, _)] kI_1 dX7_nets_118 rfl (by decide) rfl ?_
              refine v_goto (pc := 121) (tgt := 103) dX7_nets_121 rfl ?_
              exact ih
set_option maxHeartbeats 4000000 in
set_option maxRecDepth 100000 in
theorem m_nets1 {E : Ev} {c : CSt} {xP xR xW xS xZ xG xK xT xQ xF xB xL xC : Fn} {un sz wm fm bm at_ bg fg : Nat} {ft sg vl wr : Int32} {sd : Int64} {n h : Int32} (hn : outB n (nI 0) (nI 9999) = true) : Ct E yX7_nets cX7_nets 6 (some .int) ({ frames := 4, cells := 0, slots := 0, locals := 89 } : Room) false 146 [.ref (Ez E + 132), .int n, .int h] (cellOf E (c, (mkA xP xR xW xS xZ xG xK xT xQ xF xB xL xC, (nI un, nI sz, ft, nI wm, nI fm, nI bm, nI at_, nI bg, sg, nI fg, vl, wr), sd))) 146 0 0 (Ff (some (.int (cOUT))) (cellOf E (c, (mkA xP xR xW xS xZ xG xK xT xQ xF xB xL xC, (nI un, nI sz, ft, nI wm, nI fm, nI bm, nI at_, nI bg, sg, nI fg, vl, wr), sd)))) := by
  refine Ct.ofV (by decide) (Nat.le_of_ble_eq_true rfl) (fun X hnm => ?_)
  show V E X _ RX7 _ _ _ _ _ _ false 146 0 [(0, .ref (Ez E + 132)), (1, .int n), (2, .int h)] [] _
  refine v_iload_n (pc := 0) 1 dX7_nets_0 rfl rfl ?_
  refine v_i2l (pc := 1) dX7_nets_1 ?_
  refine v_lconst (pc := 2) ((nI 0).toInt64) dX7_nets_2 (by decide) ?_
  refine v_ldc2 (pc := 3) ((nI 9999).toInt64) kl_X7_248 dX7_nets_3 (by decide) ?_
  refine v_callS (pc := 6) _ _ k_X7_72 (m_in _ _ _) ⟨rfl, rfl, by decide⟩ rfl rfl (Nat.le_of_ble_eq_true rfl) ⟨Nat.le_of_ble_eq_true rfl, Nat.le_of_ble_eq_true rfl⟩ dX7_nets_6 (unS ?_)
  show V E X _ RX7 _ _ _ 0 0 _ false 146 9 _ [_] _
  refine v_if_eqB (pc := 9) (tgt := 24) dX7_nets_9 rfl (fun c_9 => ?_) (fun c_9 => False.elim ((fun q => by rw [inB_o hn] at q; exact Bool.noConfusion q) c_9))
  refine v_ldc (pc := 24) _ kc_X7_76 dX7_nets_24 rfl ?_
  exact v_iret (pc := 26) dX7_nets_26 (⟨rfl, rfl⟩)
set_option maxHeartbeats 4000000 in
set_option maxRecDepth 100000 in
theorem m_nets2 {E : Ev} {c : CSt} {xP xR xW xS xZ xG xK xT xQ xF xB xL xC : Fn} {un sz wm fm bm at_ bg fg : Nat} {ft sg vl wr : Int32} {sd : Int64} {n h : Int32} (hn : outB n (nI 0) (nI 9999) = false) (hh : outB h (nI 1) (nI 24) = true) : Ct E yX7_nets cX7_nets 6 (some .int) ({ frames := 4, cells := 0, slots := 0, locals := 89 } : Room) false 146 [.ref (Ez E + 132), .int n, .int h] (cellOf E (c, (mkA xP xR xW xS xZ xG xK xT xQ xF xB xL xC, (nI un, nI sz, ft, nI wm, nI fm, nI bm, nI at_, nI bg, sg, nI fg, vl, wr), sd))) 146 0 0 (Ff (some (.int (cOUT))) (cellOf E (c, (mkA xP xR xW xS xZ xG xK xT xQ xF xB xL xC, (nI un, nI sz, ft, nI wm, nI fm, nI bm, nI at_, nI bg, sg, nI fg, vl, wr), sd)))) := by
  refine Ct.ofV (by decide) (Nat.le_of_ble_eq_true rfl) (fun X hnm => ?_)
  show V E X _ RX7 _ _ _ _ _ _ false 146 0 [(0, .ref (Ez E + 132)), (1, .int n), (2, .int h)] [] _
  refine v_iload_n (pc := 0) 1 dX7_nets_0 rfl rfl ?_
  refine v_i2l (pc := 1) dX7_nets_1 ?_
  refine v_lconst (pc := 2) ((nI 0).toInt64) dX7_nets_2 (by decide) ?_
  refine v_ldc2 (pc := 3) ((nI 9999).toInt64) kl_X7_248 dX7_nets_3 (by decide) ?_
  refine v_callS (pc := 6) _ _ k_X7_72 (m_in _ _ _) ⟨rfl, rfl, by decide⟩ rfl rfl (Nat.le_of_ble_eq_true rfl) ⟨Nat.le_of_ble_eq_true rfl, Nat.le_of_ble_eq_true rfl⟩ dX7_nets_6 (unS ?_)
  show V E X _ RX7 _ _ _ 0 0 _ false 146 9 _ [_] _
  refine v_if_eqB (pc := 9) (tgt := 24) dX7_nets_9 rfl (fun c_9 => False.elim ((fun q => by rw [inB_i hn] at q; exact Bool.noConfusion q) c_9)) (fun c_9 => ?_)
  refine v_iload_n (pc := 12) 2 dX7_nets_12 rfl rfl ?_
  refine v_i2l (pc := 13) dX7_nets_13 ?_
  refine v_lconst (pc := 14) ((nI 1).toInt64) dX7_nets_14 (by decide) ?_
  refine v_ldc2 (pc := 15) ((nI 24).toInt64) kl_X7_250 dX7_nets_15 (by decide) ?_
  refine v_callS (pc := 18) _ _ k_X7_72 (m_in _ _ _) ⟨rfl, rfl, by decide⟩ rfl rfl (Nat.le_of_ble_eq_true rfl) ⟨Nat.le_of_ble_eq_true rfl, Nat.le_of_ble_eq_true rfl⟩ dX7_nets_18 (unS ?_)
  show V E X _ RX7 _ _ _ 0 0 _ false 146 21 _ [_] _
  refine v_if_neB (pc := 21) (tgt := 27) dX7_nets_21 rfl (fun c_21 => False.elim ((fun q => by rw [inB_o hh] at q; exact Bool.noConfusion q) c_21)) (fun c_21 => ?_)
  refine v_ldc (pc := 24) _ kc_X7_76 dX7_nets_24 rfl ?_
  exact v_iret (pc := 26) dX7_nets_26 (⟨rfl, rfl⟩)
def okG (P W C : Fn) (nd s d : Nat) : Bool := decide (hasB (nI s) (nI d) = false ∧ oweB W d = true ∧ C (s ||| 2 ^ d) + nI 1 = C s ∧ mpM P W s d (-1) (nI 0) nd = true)
def fdN (ok : Nat → Bool) : Nat → Nat → Nat
  | 0, d => d
  | f + 1, d => if ok d = true then d else fdN ok f (d + 1)
theorem fdN_t {ok : Nat → Bool} {f d : Nat} (h : ok d = true) : fdN ok f d = d := by
  cases f with
  | zero => rfl
  | succ f => exact if_pos h
theorem fdN_f {ok : Nat → Bool} {f d : Nat} (h : ¬ ok d = true) : fdN ok (f + 1) d = fdN ok f (d + 1) := if_neg h
def grN (P W C : Fn) (nd : Nat) : Nat → Int32 → Nat → Int32
  | 0, r, _ => r
  | f + 1, r, s => if C s ≤ 0 then r else grN P W C nd f (nI 10 * r + nI (fdN (okG P W C nd s) 9 0) + nI 1) (s ||| 2 ^ fdN (okG P W C nd s) 9 0)
theorem grN_0 {P W C : Fn} {nd f : Nat} {r : Int32} {s : Nat} (h : C s ≤ 0) : grN P W C nd f r s = r := by
  cases f with
  | zero => rfl
  | succ f => exact if_pos h
theorem or_gt {s d : Nat} (h : s.testBit d = false) : s < s ||| 2 ^ d := by
  rcases Nat.lt_or_ge s (s ||| 2 ^ d) with q | q
  · exact q
  · have e : s ||| 2 ^ d = s := Nat.le_antisymm q Nat.left_le_or
    have t : (s ||| 2 ^ d).testBit d = true := by rw [Nat.testBit_or, Nat.testBit_two_pow_self, Bool.or_true]
    rw [e, h] at t; exact Bool.noConfusion t
theorem or_in {s d nd : Nat} (h : s < 2 ^ nd) (hd : d < nd) : s ||| 2 ^ d < 2 ^ nd := Nat.or_lt_two_pow h (Nat.pow_lt_pow_right (by decide) hd)
set_option maxHeartbeats 4000000 in
set_option maxRecDepth 100000 in
theorem m_settled1 {E : Ev} {c : CSt} {xP xR xW xS xZ xG xK xT xQ xF xB xL xC : Fn} {un sz wm fm bm at_ bg fg : Nat} {ft sg vl wr : Int32} {sd : Int64} {nd : Nat} (hd : xP 3 = nI nd) (hnd : nd ≤ 9) (hv : ∀ d, d < nd → vp_in (xP (25 + d)) 7) (hex : ∀ s, s < 2 ^ nd → ¬ ldM xP xW (-1) (nI 0) nd xC s ≤ 0 → ∃ d, d < nd ∧ okG xP xW (ldM xP xW (-1) (nI 0) nd xC) nd s d = true) : Ct E yX7_settled cX7_settled 6 (some .int) ({ frames := 3, cells := 0, slots := 0, locals := 72 } : Room) false 146 [.ref (Ez E + 132), .int (nI 1)] (cellOf E (c, (mkA xP xR xW xS xZ xG xK xT xQ xF xB xL xC, (nI un, nI sz, ft, nI wm, nI fm, nI bm, nI at_, nI bg, sg, nI fg, vl, wr), sd))) 146 0 0 (Ff (some (.int (grN xP xW (ldM xP xW (-1) (nI 0) nd xC) nd 512 (nI 0) 0))) (cellOf E (c, (mkA xP xR xW xS xZ xG xK xT xQ xF xB xL (ldM xP xW (-1) (nI 0) nd xC), (nI un, nI sz, ft, nI wm, nI fm, nI bm, nI at_, nI bg, sg, nI fg, vl, wr), sd)))) := by
  have h2nd := pow9 hnd
  have h1nd : 0 < 2 ^ nd := Nat.pos_of_ne_zero (by simp)
  refine Ct.ofV (by decide) (Nat.le_of_ble_eq_true rfl) (fun X hnm => ?_)
  show V E X _ RX7 _ _ _ _ _ _ false 146 0 [(0, .ref (Ez E + 132)), (1, .int (nI 1))] [] _
  refine v_iload_n (pc := 0) 1 dX7_settled_0 rfl rfl ?_
  refine v_i2l (pc := 1) dX7_settled_1 ?_
  refine v_lconst (pc := 2) ((nI 0).toInt64) dX7_settled_2 (by decide) ?_
  refine v_lconst (pc := 3) ((nI 1).toInt64) dX7_settled_3 (by decide) ?_
  refine v_callS (pc := 4) _ _ k_X7_72 (m_in _ _ _) ⟨rfl, rfl, by decide⟩ rfl rfl (Nat.le_of_ble_eq_true rfl) ⟨Nat.le_of_ble_eq_true rfl, Nat.le_of_ble_eq_true rfl⟩ dX7_settled_4 (unS ?_)
  show V E X _ RX7 _ _ _ 0 0 _ false 146 7 _ [_] _
  refine v_if_neB (pc := 7) (tgt := 13) dX7_settled_7 rfl (fun c_7 => ?_) (fun c_7 => False.elim ((fun q => by rw [inB_n (by omega) (by omega) (by omega)] at q; exact Bool.noConfusion q) c_7))
  refine v_aload_n (pc := 13) 0 dX7_settled_13 rfl rfl ?_
  refine v_iconst (pc := 14) (-1) dX7_settled_14 kI_m1 ?_
  refine v_iconst (pc := 15) (nI 0) dX7_settled_15 kI_0 ?_
  refine v_callV (pc := 16) _ _ k_X7_245 (cMr_obj) rfl (by decide) (m_lays hd hnd hv _ _) ⟨rfl, rfl, by decide⟩ rfl rfl (Nat.le_of_ble_eq_true rfl) ⟨Nat.le_of_ble_eq_true rfl, Nat.le_of_ble_eq_true rfl⟩ dX7_settled_16 (unS ?_)
  show V E X _ RX7 _ _ _ 0 0 _ false 146 19 _ [_] _
  refine v_istore_n (pc := 19) [1, 2, 0] [(0, _), (1, _), (2, _)] dX7_settled_19 rfl (by decide) rfl ?_
  refine v_iload_n (pc := 20) 1 dX7_settled_20 rfl rfl ?_
  refine v_if_neN (pc := 21) (by omega) (tgt := 26) dX7_settled_21 rfl (fun c_21 => ?_) (fun c_21 => False.elim ((fun q => absurd q (by decide)) c_21))
  generalize ldM xP xW (-1) (nI 0) nd xC = C9 at hex ⊢
  refine v_iconst (pc := 26) (nI 0) dX7_settled_26 kI_0 ?_
  refine v_istore_n (pc := 27) [1, 2, 3, 0] [(0, _), (1, _), (2, _), (3, _)] dX7_settled_27 rfl (by decide) rfl ?_
  refine v_iconst (pc := 28) (nI 0) dX7_settled_28 kI_0 ?_
  refine v_istore (pc := 29) [1, 2, 3, 4, 0] [(0, _), (1, _), (2, _), (3, _), (4, _)] dX7_settled_29 (by decide) rfl ?_
  refine v_sub [0, 3, 4] rfl ?_
  have hl_31 : ∀ (m_ : Nat) (f : Nat) (r : Int32) (s : Nat), 2 ^ nd - s < m_ → (s < 2 ^ nd) → (2 ^ nd - s ≤ f) → (grN xP xW C9 nd f r s = grN xP xW C9 nd 512 (nI 0) 0) → V E X ({ frames := 3, cells := 0, slots := 0, locals := 72 } : Room) RX7 cX7_settled 6 (some .int) 0 0 (QX E X false 146 (Ff (some (.int (grN xP xW (C9) nd 512 (nI 0) 0))) (cellOf E (c, (mkA xP xR xW xS xZ xG xK xT xQ xF xB xL (C9), (nI un, nI sz, ft, nI wm, nI fm, nI bm, nI at_, nI bg, sg, nI fg, vl, wr), sd)))) 0 0) false 146 31 [(0, .ref (Ez E + 132)), (3, .int r), (4, .int (nI s))] [] (cellOf E (c, (mkA xP xR xW xS xZ xG xK xT xQ xF xB xL C9, (nI un, nI sz, ft, nI wm, nI fm, nI bm, nI at_, nI bg, sg, nI fg, vl, wr), sd))) := by
    intro m_
    induction m_ with
    | zero => intro f r s hm; exact absurd hm (Nat.not_lt_zero _)
    | succ m_ ihm =>
      intro f r s hm hs hf hs1
      refine v_aload_n (pc := 31) 0 dX7_settled_31 rfl rfl ?_
      refine g_X7_51 (pc := 32) (cMr_obj) (by decide) rfl dX7_settled_32 ?_
      refine v_iload (pc := 35) 2 dX7_settled_35 rfl ?_
      refine v_ialdN (pc := 37) (cM_can) (by decide) (by omega) (by decide) dX7_settled_37 ?_
      refine v_if_le (pc := 38) (tgt := 128) dX7_settled_38 rfl (fun c_38 => ?_) (fun c_38 => ?_)
      · refine v_iload_n (pc := 128) 1 dX7_settled_128 rfl rfl ?_
        exact v_iret (pc := 129) dX7_settled_129 (⟨by rw [← hs1, grN_0 c_38], rfl⟩)
      · obtain ⟨d0, hd0, hok0⟩ := hex s hs c_38
        refine v_iconst (pc := 41) (nI 0) dX7_settled_41 kI_0 ?_
        refine v_istore (pc := 42) [1, 2, 3, 0] [(0, _), (3, _), (4, _), (5, _)] dX7_settled_42 (by decide) rfl ?_
        have hl_44 : ∀ (m_2 : Nat) (d : Nat), nd - d < m_2 → (d ≤ d0) → (fdN (okG xP xW C9 nd s) (9 - d) d = fdN (okG xP xW C9 nd s) 9 0) → V E X ({ frames := 3, cells := 0, slots := 0, locals := 72 } : Room) RX7 cX7_settled 6 (some .int) 0 0 (QX E X false 146 (Ff (some (.int (grN xP xW (C9) nd 512 (nI 0) 0))) (cellOf E (c, (mkA xP xR xW xS xZ xG xK xT xQ xF xB xL (C9), (nI un, nI sz, ft, nI wm, nI fm, nI bm, nI at_, nI bg, sg, nI fg, vl, wr), sd)))) 0 0) false 146 44 [(0, .ref (Ez E + 132)), (3, .int r), (4, .int (nI s)), (5, .int (nI d))] [] (cellOf E (c, (mkA xP xR xW xS xZ xG xK xT xQ xF xB xL C9, (nI un, nI sz, ft, nI wm, nI fm, nI bm, nI at_, nI bg, sg, nI fg, vl, wr), sd))) := by
          intro m_2
          induction m_2 with
          | zero => intro d hm2; exact absurd hm2 (Nat.not_lt_zero _)
          | succ m_2 ihm2 =>
            intro d hm2 hdd hfd
            refine v_iload (pc := 44) 2 dX7_settled_44 rfl ?_
            refine v_iload (pc := 46) 3 dX7_settled_46 rfl ?_
            refine v_callS (pc := 48) _ _ k_X7_142 (m_has _ _) ⟨rfl, rfl, by decide⟩ rfl rfl (Nat.le_of_ble_eq_true rfl) ⟨Nat.le_of_ble_eq_true rfl, Nat.le_of_ble_eq_true rfl⟩ dX7_settled_48 (unS ?_)
            show V E X _ RX7 _ _ _ 0 0 _ false 146 51 _ [_] _
            refine v_if_neB (pc := 51) (tgt := 100) dX7_settled_51 rfl (fun c_51 => ?_) (fun c_51 => ?_)
            · refine v_iincN (pc := 100) 3 [1, 2, 3, 0] [(0, _), (3, _), (4, _), (5, _)] kI_1 dX7_settled_100 rfl (by decide) rfl ?_
              refine v_goto (pc := 103) (tgt := 44) dX7_settled_103 rfl ?_
              have hno : ¬ okG xP xW C9 nd s d = true := fun z => (fun q => by rw [c_51] at q; exact Bool.noConfusion q.1) (of_decide_eq_true z)
              have hne : d ≠ d0 := fun e => hno (by rw [e]; exact hok0)
              exact ihm2 (d + 1) (by omega) (by omega) (by rw [← hfd, show 9 - d = (9 - (d + 1)) + 1 by omega, fdN_f hno])
            · refine v_aload_n (pc := 54) 0 dX7_settled_54 rfl rfl ?_
              refine v_iload (pc := 55) 3 dX7_settled_55 rfl ?_
              refine v_callV (pc := 57) _ _ k_X7_238 (cMr_obj) rfl (by decide) (m_isOwed (by omega)) ⟨rfl, rfl, by decide⟩ rfl rfl (Nat.le_of_ble_eq_true rfl) ⟨Nat.le_of_ble_eq_true rfl, Nat.le_of_ble_eq_true rfl⟩ dX7_settled_57 (unS ?_)
              show V E X _ RX7 _ _ _ 0 0 _ false 146 60 _ [_] _
              refine v_if_eqB (pc := 60) (tgt := 100) dX7_settled_60 rfl (fun c_60 => ?_) (fun c_60 => ?_)
              · refine v_iincN (pc := 100) 3 [1, 2, 3, 0] [(0, _), (3, _), (4, _), (5, _)] kI_1 dX7_settled_100 rfl (by decide) rfl ?_
                refine v_goto (pc := 103) (tgt := 44) dX7_settled_103 rfl ?_
                have hno : ¬ okG xP xW C9 nd s d = true := fun z => (fun q => by rw [c_60] at q; exact Bool.noConfusion q.2.1) (of_decide_eq_true z)
                have hne : d ≠ d0 := fun e => hno (by rw [e]; exact hok0)
                exact ihm2 (d + 1) (by omega) (by omega) (by rw [← hfd, show 9 - d = (9 - (d + 1)) + 1 by omega, fdN_f hno])
              · refine v_aload_n (pc := 63) 0 dX7_settled_63 rfl rfl ?_
                refine g_X7_51 (pc := 64) (cMr_obj) (by decide) rfl dX7_settled_64 ?_
                refine v_iload (pc := 67) 2 dX7_settled_67 rfl ?_
                refine v_iconst (pc := 69) (nI 1) dX7_settled_69 kI_1 ?_
                refine v_iload (pc := 70) 3 dX7_settled_70 rfl ?_
                refine v_ishl (pc := 72) dX7_settled_72 ?_
                rw [shl1 (by omega)]
                refine v_ior (pc := 73) dX7_settled_73 ?_
                rw [or_n]
                refine v_ialdN (pc := 74) (cM_can) (by decide) (orlt hs (by omega) hnd) (by decide) dX7_settled_74 ?_
                refine v_iconst (pc := 75) (nI 1) dX7_settled_75 kI_1 ?_
                refine v_iadd (pc := 76) dX7_settled_76 ?_
                refine v_aload_n (pc := 77) 0 dX7_settled_77 rfl rfl ?_
                refine g_X7_51 (pc := 78) (cMr_obj) (by decide) rfl dX7_settled_78 ?_
                refine v_iload (pc := 81) 2 dX7_settled_81 rfl ?_
                refine v_ialdN (pc := 83) (cM_can) (by decide) (by omega) (by decide) dX7_settled_83 ?_
                refine v_icmp_ne (pc := 84) (tgt := 100) dX7_settled_84 rfl (fun c_84 => ?_) (fun c_84 => ?_)
                · refine v_iincN (pc := 100) 3 [1, 2, 3, 0] [(0, _), (3, _), (4, _), (5, _)] kI_1 dX7_settled_100 rfl (by decide) rfl ?_
                  refine v_goto (pc := 103) (tgt := 44) dX7_settled_103 rfl ?_
                  have hno : ¬ okG xP xW C9 nd s d = true := fun z => (fun q => c_84 q.2.2.1) (of_decide_eq_true z)
                  have hne : d ≠ d0 := fun e => hno (by rw [e]; exact hok0)
                  exact ihm2 (d + 1) (by omega) (by omega) (by rw [← hfd, show 9 - d = (9 - (d + 1)) + 1 by omega, fdN_f hno])
                · refine v_aload_n (pc := 87) 0 dX7_settled_87 rfl rfl ?_
                  refine v_iload (pc := 88) 2 dX7_settled_88 rfl ?_
                  refine v_iload (pc := 90) 3 dX7_settled_90 rfl ?_
                  refine v_iconst (pc := 92) (-1) dX7_settled_92 kI_m1 ?_
                  refine v_iconst (pc := 93) (nI 0) dX7_settled_93 kI_0 ?_
                  refine v_callV (pc := 94) _ _ k_X7_241 (cMr_obj) rfl (by decide) (m_mayPay hd hnd (by omega) hv _ _) ⟨rfl, rfl, by decide⟩ rfl rfl (Nat.le_of_ble_eq_true rfl) ⟨Nat.le_of_ble_eq_true rfl, Nat.le_of_ble_eq_true rfl⟩ dX7_settled_94 (unS ?_)
                  show V E X _ RX7 _ _ _ 0 0 _ false 146 97 _ [_] _
                  refine v_if_neB (pc := 97) (tgt := 106) dX7_settled_97 rfl (fun c_97 => ?_) (fun c_97 => ?_)
                  · have hok : okG xP xW C9 nd s d = true := decide_eq_true ⟨c_51, c_60, c_84, c_97⟩
                    have hfd9 : fdN (okG xP xW C9 nd s) 9 0 = d := hfd.symm.trans (fdN_t hok)
                    refine v_bipush (pc := 106) (nI 10) dX7_settled_106 kB_10 ?_
                    refine v_iload_n (pc := 108) 1 dX7_settled_108 rfl rfl ?_
                    refine v_imul (pc := 109) dX7_settled_109 ?_
                    refine v_iload (pc := 110) 3 dX7_settled_110 rfl ?_
                    refine v_iadd (pc := 112) dX7_settled_112 ?_
                    refine v_iconst (pc := 113) (nI 1) dX7_settled_113 kI_1 ?_
                    refine v_iadd (pc := 114) dX7_settled_114 ?_
                    refine v_istore_n (pc := 115) [1, 0, 2, 3] [(0, _), (3, _), (4, _), (5, _)] dX7_settled_115 rfl (by decide) rfl ?_
                    refine v_iload (pc := 116) 2 dX7_settled_116 rfl ?_
                    refine v_iconst (pc := 118) (nI 1) dX7_settled_118 kI_1 ?_
                    refine v_iload (pc := 119) 3 dX7_settled_119 rfl ?_
                    refine v_ishl (pc := 121) dX7_settled_121 ?_
                    rw [shl1 (by omega)]
                    refine v_ior (pc := 122) dX7_settled_122 ?_
                    rw [or_n]
                    refine v_istore (pc := 123) [1, 2, 0, 3] [(0, _), (3, _), (4, _), (5, _)] dX7_settled_123 (by decide) rfl ?_
                    refine v_goto (pc := 125) (tgt := 31) dX7_settled_125 rfl ?_
                    refine v_sub [0, 1, 2] rfl ?_
                    have hdd9 : d < nd := by omega
                    have hgt := or_gt (s := s) (d := d) (by rw [← hasB_n (by omega) (by omega)]; exact c_51)
                    have hlt2 := or_in hs hdd9
                    exact ihm (f - 1) _ (s ||| 2 ^ d) (by omega) hlt2 (by omega) (by rw [← hs1, show f = (f - 1) + 1 by omega]; show _ = if C9 s ≤ 0 then _ else _; rw [if_neg c_38, hfd9]; rfl)
                  · refine v_iincN (pc := 100) 3 [1, 2, 3, 0] [(0, _), (3, _), (4, _), (5, _)] kI_1 dX7_settled_100 rfl (by decide) rfl ?_
                    refine v_goto (pc := 103) (tgt := 44) dX7_settled_103 rfl ?_
                    have hno : ¬ okG xP xW C9 nd s d = true := fun z => (fun q => by rw [c_97] at q; exact Bool.noConfusion q.2.2.2) (of_decide_eq_true z)
                    have hne : d ≠ d0 := fun e => hno (by rw [e]; exact hok0)
                    exact ihm2 (d + 1) (by omega) (by omega) (by rw [← hfd, show 9 - d = (9 - (d + 1)) + 1 by omega, fdN_f hno])
        exact hl_44 (nd + 1) 0 (by omega) (by omega) rfl
  exact hl_31 (2 ^ nd + 1) 512 (nI 0) 0 (by omega) h1nd (by omega) rfl
set_option maxHeartbeats 4000000 in
set_option maxRecDepth 100000 in
theorem m_settled0 {E : Ev} {c : CSt} {xP xR xW xS xZ xG xK xT xQ xF xB xL xC : Fn} {un sz wm fm bm at_ bg fg : Nat} {ft sg vl wr : Int32} {sd : Int64} {nd : Nat} (hd : xP 3 = nI nd) (hnd : nd ≤ 9) (hv : ∀ d, d < nd → vp_in (xP (25 + d)) 7) : Ct E yX7_settled cX7_settled 6 (some .int) ({ frames := 3, cells := 0, slots := 0, locals := 72 } : Room) false 146 [.ref (Ez E + 132), .int (nI 0)] (cellOf E (c, (mkA xP xR xW xS xZ xG xK xT xQ xF xB xL xC, (nI un, nI sz, ft, nI wm, nI fm, nI bm, nI at_, nI bg, sg, nI fg, vl, wr), sd))) 146 0 0 (Ff (some (.int (ldM xP xW (-1) (nI 0) nd xC 0))) (cellOf E (c, (mkA xP xR xW xS xZ xG xK xT xQ xF xB xL (ldM xP xW (-1) (nI 0) nd xC), (nI un, nI sz, ft, nI wm, nI fm, nI bm, nI at_, nI bg, sg, nI fg, vl, wr), sd)))) := by
  refine Ct.ofV (by decide) (Nat.le_of_ble_eq_true rfl) (fun X hnm => ?_)
  show V E X _ RX7 _ _ _ _ _ _ false 146 0 [(0, .ref (Ez E + 132)), (1, .int (nI 0))] [] _
  refine v_iload_n (pc := 0) 1 dX7_settled_0 rfl rfl ?_
  refine v_i2l (pc := 1) dX7_settled_1 ?_
  refine v_lconst (pc := 2) ((nI 0).toInt64) dX7_settled_2 (by decide) ?_
  refine v_lconst (pc := 3) ((nI 1).toInt64) dX7_settled_3 (by decide) ?_
  refine v_callS (pc := 4) _ _ k_X7_72 (m_in _ _ _) ⟨rfl, rfl, by decide⟩ rfl rfl (Nat.le_of_ble_eq_true rfl) ⟨Nat.le_of_ble_eq_true rfl, Nat.le_of_ble_eq_true rfl⟩ dX7_settled_4 (unS ?_)
  show V E X _ RX7 _ _ _ 0 0 _ false 146 7 _ [_] _
  refine v_if_neB (pc := 7) (tgt := 13) dX7_settled_7 rfl (fun c_7 => ?_) (fun c_7 => False.elim ((fun q => by rw [inB_n (by omega) (by omega) (by omega)] at q; exact Bool.noConfusion q) c_7))
  refine v_aload_n (pc := 13) 0 dX7_settled_13 rfl rfl ?_
  refine v_iconst (pc := 14) (-1) dX7_settled_14 kI_m1 ?_
  refine v_iconst (pc := 15) (nI 0) dX7_settled_15 kI_0 ?_
  refine v_callV (pc := 16) _ _ k_X7_245 (cMr_obj) rfl (by decide) (m_lays hd hnd hv _ _) ⟨rfl, rfl, by decide⟩ rfl rfl (Nat.le_of_ble_eq_true rfl) ⟨Nat.le_of_ble_eq_true rfl, Nat.le_of_ble_eq_true rfl⟩ dX7_settled_16 (unS ?_)
  show V E X _ RX7 _ _ _ 0 0 _ false 146 19 _ [_] _
  refine v_istore_n (pc := 19) [1, 2, 0] [(0, _), (1, _), (2, _)] dX7_settled_19 rfl (by decide) rfl ?_
  refine v_iload_n (pc := 20) 1 dX7_settled_20 rfl rfl ?_
  refine v_if_neN (pc := 21) (by omega) (tgt := 26) dX7_settled_21 rfl (fun c_21 => False.elim ((fun q => q (by decide)) c_21)) (fun c_21 => ?_)
  refine v_iload_n (pc := 24) 2 dX7_settled_24 rfl rfl ?_
  exact v_iret (pc := 25) dX7_settled_25 (⟨rfl, rfl⟩)
set_option maxHeartbeats 4000000 in
set_option maxRecDepth 100000 in
theorem m_settled2 {E : Ev} {c : CSt} {xP xR xW xS xZ xG xK xT xQ xF xB xL xC : Fn} {un sz wm fm bm at_ bg fg : Nat} {ft sg vl wr : Int32} {sd : Int64} {w : Int32} (hw : outB w (nI 0) (nI 1) = true) : Ct E yX7_settled cX7_settled 6 (some .int) ({ frames := 3, cells := 0, slots := 0, locals := 72 } : Room) false 146 [.ref (Ez E + 132), .int w] (cellOf E (c, (mkA xP xR xW xS xZ xG xK xT xQ xF xB xL xC, (nI un, nI sz, ft, nI wm, nI fm, nI bm, nI at_, nI bg, sg, nI fg, vl, wr), sd))) 146 0 0 (Ff (some (.int (cOUT))) (cellOf E (c, (mkA xP xR xW xS xZ xG xK xT xQ xF xB xL xC, (nI un, nI sz, ft, nI wm, nI fm, nI bm, nI at_, nI bg, sg, nI fg, vl, wr), sd)))) := by
  refine Ct.ofV (by decide) (Nat.le_of_ble_eq_true rfl) (fun X hnm => ?_)
  show V E X _ RX7 _ _ _ _ _ _ false 146 0 [(0, .ref (Ez E + 132)), (1, .int w)] [] _
  refine v_iload_n (pc := 0) 1 dX7_settled_0 rfl rfl ?_
  refine v_i2l (pc := 1) dX7_settled_1 ?_
  refine v_lconst (pc := 2) ((nI 0).toInt64) dX7_settled_2 (by decide) ?_
  refine v_lconst (pc := 3) ((nI 1).toInt64) dX7_settled_3 (by decide) ?_
  refine v_callS (pc := 4) _ _ k_X7_72 (m_in _ _ _) ⟨rfl, rfl, by decide⟩ rfl rfl (Nat.le_of_ble_eq_true rfl) ⟨Nat.le_of_ble_eq_true rfl, Nat.le_of_ble_eq_true rfl⟩ dX7_settled_4 (unS ?_)
  show V E X _ RX7 _ _ _ 0 0 _ false 146 7 _ [_] _
  refine v_if_neB (pc := 7) (tgt := 13) dX7_settled_7 rfl (fun c_7 => False.elim ((fun q => by rw [inB_o hw] at q; exact Bool.noConfusion q) c_7)) (fun c_7 => ?_)
  refine v_ldc (pc := 10) _ kc_X7_76 dX7_settled_10 rfl ?_
  exact v_iret (pc := 12) dX7_settled_12 (⟨rfl, rfl⟩)
def cntD (W : Fn) (n : Nat) : Int32 := itn (fun d s => s + (if oweB W d = true then nI 1 else nI 0)) n (nI 0)
theorem st_ld_ne {P W : Fn} {s : Nat} {a m : Int32} {nd : Nat} {c : Fn} {q : Nat} (h : q ≠ s) : ∀ k, itn (st_ld P W s a m nd) k c q = c q
  | 0 => rfl
  | k + 1 => by
    show st_ld P W s a m nd k (itn (st_ld P W s a m nd) k c) q = c q
    unfold st_ld
    split
    · rw [upd_ne h]; exact st_ld_ne h k
    · exact st_ld_ne h k
theorem ld1_ne {P W : Fn} {s : Nat} {a m : Int32} {nd : Nat} {c : Fn} {q : Nat} (h : q ≠ s) : ld1 P W s a m nd c q = c q := by
  unfold ld1; rw [st_ld_ne h, upd_ne h]
/-- what stands at a set, told of what stands at the larger ones -/
def st_lv (P W C : Fn) (s : Nat) (a m : Int32) (nd d : Nat) (v : Int32) : Int32 := if hasB (nI s) (nI d) = false ∧ oweB W d = true ∧ ¬ C (s ||| 2 ^ d) < v ∧ mpM P W s d a m nd = true then C (s ||| 2 ^ d) + nI 1 else v
theorem st_ld_at {P W : Fn} {s : Nat} {a m : Int32} {nd : Nat} {c C : Fn} (hs : s < 2147483648) (hC : ∀ d, d < nd → s.testBit d = false → C (s ||| 2 ^ d) = c (s ||| 2 ^ d)) (hnd : nd ≤ 9) : ∀ k, k ≤ nd → itn (st_ld P W s a m nd) k (upd c s (nI 0)) s = itn (st_lv P W C s a m nd) k (nI 0)
  | 0, _ => upd_self
  | k + 1, hk => by
    have ih := st_ld_at (P := P) (W := W) (a := a) (m := m) hs hC hnd k (by omega)
    show st_ld P W s a m nd k (itn (st_ld P W s a m nd) k (upd c s (nI 0))) s = st_lv P W C s a m nd k (itn (st_lv P W C s a m nd) k (nI 0))
    rw [← ih]
    have hx : ∀ q, q ≠ s → itn (st_ld P W s a m nd) k (upd c s (nI 0)) q = c q := fun q hq => by rw [st_ld_ne hq, upd_ne hq]
    generalize itn (st_ld P W s a m nd) k (upd c s (nI 0)) = g at hx ⊢
    unfold st_ld st_lv
    by_cases hb : hasB (nI s) (nI k) = false
    · have ht : s.testBit k = false := by rw [← hasB_n hs (by omega)]; exact hb
      have hne : s ||| 2 ^ k ≠ s := fun e => by have := or_gt ht; omega
      rw [hC k (by omega) ht, hx _ hne]
      by_cases g2 : hasB (nI s) (nI k) = false ∧ oweB W k = true ∧ ¬ c (s ||| 2 ^ k) < g s ∧ mpM P W s k a m nd = true
      · rw [if_pos g2, if_pos g2, upd_self]
      · rw [if_neg g2, if_neg g2]
    · rw [if_neg (fun q => hb q.1), if_neg (fun q => hb q.1)]
/-- sets from 2 ^ nd - k on are laid behind k steps -/
theorem ldM_steps {P W : Fn} {a m : Int32} {nd : Nat} {c C : Fn} (hnd : nd ≤ 9) (hC : ∀ s, s < 2 ^ nd → C s = itn (st_lv P W C s a m nd) nd (nI 0)) : ∀ k, k ≤ 2 ^ nd → ∀ s, 2 ^ nd - k ≤ s → s < 2 ^ nd → itn (fun i f => ld1 P W (2 ^ nd - 1 - i) a m nd f) k c s = C s
  | 0, _, s, h1, h2 => by omega
  | k + 1, hk, s, h1, h2 => by
    have h512 := pow9 hnd
    have ih := ldM_steps (c := c) hnd hC k (by omega)
    rw [itn_s]
    generalize itn (fun i f => ld1 P W (2 ^ nd - 1 - i) a m nd f) k c = f at ih ⊢
    by_cases e : s = 2 ^ nd - 1 - k
    · rw [← e]
      show itn (st_ld P W s a m nd) nd (upd f s (nI 0)) s = _
      rw [st_ld_at (C := C) (by omega) (fun d hd ht => (ih _ (by have := or_gt ht; omega) (or_in h2 hd)).symm) hnd nd (Nat.le_refl _), ← hC s h2]
    · rw [ld1_ne e]
      exact ih s (by omega) h2
/-- a table that satisfies the equation -/
def ldT (P W : Fn) (a m : Int32) (nd : Nat) : Fn := ldM P W a m nd (fun _ => nI 0)
theorem ldT_eq {P W : Fn} {a m : Int32} {nd : Nat} (hnd : nd ≤ 9) {s : Nat} (hs : s < 2 ^ nd) (c : Fn) : ∀ k, 2 ^ nd - k ≤ s → k ≤ 2 ^ nd → itn (fun i f => ld1 P W (2 ^ nd - 1 - i) a m nd f) k c s = itn (st_lv P W (itn (fun i f => ld1 P W (2 ^ nd - 1 - i) a m nd f) k c) s a m nd) nd (nI 0)
  | 0, h1, _ => by omega
  | k + 1, h1, h2 => by
    have h512 := pow9 hnd
    rw [itn_s]
    generalize hf : itn (fun i f => ld1 P W (2 ^ nd - 1 - i) a m nd f) k c = f
    by_cases e : s = 2 ^ nd - 1 - k
    · rw [← e]
      show itn (st_ld P W s a m nd) nd (upd f s (nI 0)) s = _
      exact st_ld_at (by omega) (fun d hd ht => ld1_ne (fun z => by have := or_gt ht; omega)) hnd nd (Nat.le_refl _)
    · rw [ld1_ne e]
      have ih := ldT_eq (P := P) (W := W) (a := a) (m := m) hnd hs c k (by omega) (by omega)
      rw [hf] at ih
      rw [ih]
      refine itn_c nd (fun d hd v => ?_)
      unfold st_lv
      by_cases hb : hasB (nI s) (nI d) = false
      · have ht : s.testBit d = false := by rw [← hasB_n (by omega) (by omega)]; exact hb
        rw [ld1_ne (show s ||| 2 ^ d ≠ 2 ^ nd - 1 - k from fun z => by have := or_gt ht; omega)]
      · rw [if_neg (fun q => hb q.1), if_neg (fun q => hb q.1)]
theorem ldM_eq {P W : Fn} {a m : Int32} {nd : Nat} (hnd : nd ≤ 9) {s : Nat} (hs : s < 2 ^ nd) (c : Fn) : ldM P W a m nd c s = itn (st_lv P W (ldM P W a m nd c) s a m nd) nd (nI 0) := ldT_eq hnd hs c (2 ^ nd) (by omega) (Nat.le_refl _)
theorem ldM_ind {P W : Fn} {a m : Int32} {nd : Nat} (hnd : nd ≤ 9) {s : Nat} (hs : s < 2 ^ nd) (c c2 : Fn) : ldM P W a m nd c s = ldM P W a m nd c2 s := ldM_steps hnd (fun s hs => ldM_eq hnd hs c2) (2 ^ nd) (Nat.le_refl _) s (by omega) hs
def bsF (p : Nat → Bool) : Nat → Nat → Nat → Nat
  | 0, lo, _ => lo
  | f + 1, lo, hi => if lo < hi then (if p ((lo + hi) / 2) = true then bsF p f lo ((lo + hi) / 2) else bsF p f ((lo + hi) / 2 + 1) hi) else lo
theorem bsF_e {p : Nat → Bool} {f lo hi : Nat} (h : ¬ lo < hi) : bsF p f lo hi = lo := by
  cases f with
  | zero => rfl
  | succ f => exact if_neg h
def flB (P W C : Fn) (a : Int32) (nd m : Nat) : Bool := decide (ldM P W a (nI m) nd C 0 = cntD W nd)
set_option maxHeartbeats 4000000 in
set_option maxRecDepth 100000 in
theorem m_toFloat {E : Ev} {c : CSt} {xP xR xW xS xZ xG xK xT xQ xF xB xL xC : Fn} {un sz wm fm bm at_ bg fg : Nat} {ft sg vl wr : Int32} {sd : Int64} {np : Nat} (hp : xP 2 = nI np) (hnp : np ≤ 7) {nd : Nat} (hd : xP 3 = nI nd) (hnd : nd ≤ 9) (hv : ∀ d, d < nd → vp_in (xP (25 + d)) 7) {a : Nat} (ha : a < np) : Ct E yX7_toFloat cX7_toFloat 6 (some .int) ({ frames := 3, cells := 0, slots := 0, locals := 72 } : Room) false 146 [.ref (Ez E + 132), .int (nI a)] (cellOf E (c, (mkA xP xR xW xS xZ xG xK xT xQ xF xB xL xC, (nI un, nI sz, ft, nI wm, nI fm, nI bm, nI at_, nI bg, sg, nI fg, vl, wr), sd))) 146 0 0 (fun r_ h_ => r_ = some (.int (if ldM xP xW (nI a) (nI 999) nd xC 0 < cntD xW nd then -1 else nI (bsF (flB xP xW xC (nI a) nd) 1000 0 999))) ∧ ∃ c1, h_ = cellOf E (c, (mkA xP xR xW xS xZ xG xK xT xQ xF xB xL c1, (nI un, nI sz, ft, nI wm, nI fm, nI bm, nI at_, nI bg, sg, nI fg, vl, wr), sd))) := by
  have h1nd : 0 < 2 ^ nd := Nat.pos_of_ne_zero (by simp)
  refine Ct.ofV (by decide) (Nat.le_of_ble_eq_true rfl) (fun X hnm => ?_)
  show V E X _ RX7 _ _ _ _ _ _ false 146 0 [(0, .ref (Ez E + 132)), (1, .int (nI a))] [] _
  refine v_aload_n (pc := 0) 0 dX7_toFloat_0 rfl rfl ?_
  refine v_iload_n (pc := 1) 1 dX7_toFloat_1 rfl rfl ?_
  refine v_callV (pc := 2) _ _ k_X7_180 (cMr_obj) rfl (by decide) (m_isPn hp hnp _) ⟨rfl, rfl, by decide⟩ rfl rfl (Nat.le_of_ble_eq_true rfl) ⟨Nat.le_of_ble_eq_true rfl, Nat.le_of_ble_eq_true rfl⟩ dX7_toFloat_2 (unS ?_)
  show V E X _ RX7 _ _ _ 0 0 _ false 146 5 _ [_] _
  refine v_if_neB (pc := 5) (tgt := 11) dX7_toFloat_5 rfl (fun c_5 => ?_) (fun c_5 => False.elim ((fun q => by rw [perB_t ha (by omega)] at q; exact Bool.noConfusion q) c_5))
  refine v_iconst (pc := 11) (nI 0) dX7_toFloat_11 kI_0 ?_
  refine v_istore_n (pc := 12) [1, 2, 0] [(0, _), (1, _), (2, _)] dX7_toFloat_12 rfl (by decide) rfl ?_
  refine v_iconst (pc := 13) (nI 0) dX7_toFloat_13 kI_0 ?_
  refine v_istore_n (pc := 14) [1, 2, 3, 0] [(0, _), (1, _), (2, _), (3, _)] dX7_toFloat_14 rfl (by decide) rfl ?_
  refine dn (P := fun i => V E X ({ frames := 3, cells := 0, slots := 0, locals := 72 } : Room) RX7 cX7_toFloat 6 (some .int) 0 0 (QX E X false 146 (fun r_ h_ => r_ = some (.int (if ldM xP xW (nI a) (nI 999) nd xC 0 < cntD xW nd then -1 else nI (bsF (flB xP xW xC (nI a) nd) 1000 0 999))) ∧ ∃ c1, h_ = cellOf E (c, (mkA xP xR xW xS xZ xG xK xT xQ xF xB xL c1, (nI un, nI sz, ft, nI wm, nI fm, nI bm, nI at_, nI bg, sg, nI fg, vl, wr), sd))) 0 0) false 146 15 [(0, .ref (Ez E + 132)), (1, .int (nI a)), (2, .int (itn (fun d s => s + (if oweB xW d = true then nI 1 else nI 0)) i (nI 0))), (3, .int (nI i))] [] (cellOf E (c, (mkA xP xR xW xS xZ xG xK xT xQ xF xB xL xC, (nI un, nI sz, ft, nI wm, nI fm, nI bm, nI at_, nI bg, sg, nI fg, vl, wr), sd)))) (N := nd) ?_ ?_
  · generalize ha9 : itn (fun d s => s + (if oweB xW d = true then nI 1 else nI 0)) nd (nI 0) = a9 
    show V E X _ RX7 _ _ _ _ _ _ false 146 _ [(0, .ref (Ez E + 132)), (1, .int (nI a)), (2, .int (a9)), (3, .int (nI nd))] [] (cellOf E (c, (mkA xP xR xW xS xZ xG xK xT xQ xF xB xL xC, (nI un, nI sz, ft, nI wm, nI fm, nI bm, nI at_, nI bg, sg, nI fg, vl, wr), sd)))
    refine v_iload_n (pc := 15) 3 dX7_toFloat_15 rfl rfl ?_
    refine v_aload_n (pc := 16) 0 dX7_toFloat_16 rfl rfl ?_
    refine g_X7_7 (pc := 17) (cMr_obj) (by decide) rfl dX7_toFloat_17 ?_
    refine v_iconst (pc := 20) (nI 3) dX7_toFloat_20 kI_3 ?_
    refine v_ialdN (pc := 21) (cM_parish) (by decide) (by omega) (by decide) dX7_toFloat_21 ?_
    rw [hd]
    refine v_icmp_geN (pc := 22) (by omega) (by omega) (tgt := 47) dX7_toFloat_22 rfl (fun c_22 => ?_) (fun c_22 => False.elim ((fun c => by omega) c_22))
    refine v_aload_n (pc := 47) 0 dX7_toFloat_47 rfl rfl ?_
    refine v_iload_n (pc := 48) 1 dX7_toFloat_48 rfl rfl ?_
    refine v_sipush (pc := 49) (nI 999) dX7_toFloat_49 kS_999 ?_
    refine v_callV (pc := 52) _ _ k_X7_245 (cMr_obj) rfl (by decide) (m_lays hd hnd hv _ _) ⟨rfl, rfl, by decide⟩ rfl rfl (Nat.le_of_ble_eq_true rfl) ⟨Nat.le_of_ble_eq_true rfl, Nat.le_of_ble_eq_true rfl⟩ dX7_toFloat_52 (unS ?_)
    show V E X _ RX7 _ _ _ 0 0 _ false 146 55 _ [_] _
    refine v_iload_n (pc := 55) 2 dX7_toFloat_55 rfl rfl ?_
    refine v_icmp_ge (pc := 56) (tgt := 61) dX7_toFloat_56 rfl (fun c_56 => ?_) (fun c_56 => ?_)
    · refine v_iconst (pc := 61) (nI 0) dX7_toFloat_61 kI_0 ?_
      refine v_istore_n (pc := 62) [1, 2, 3, 0] [(0, _), (1, _), (2, _), (3, _)] dX7_toFloat_62 rfl (by decide) rfl ?_
      refine v_sipush (pc := 63) (nI 999) dX7_toFloat_63 kS_999 ?_
      refine v_istore (pc := 66) [1, 2, 3, 4, 0] [(0, _), (1, _), (2, _), (3, _), (4, _)] dX7_toFloat_66 (by decide) rfl ?_
      have hl_68 : ∀ (m_ : Nat) (f : Nat) (lo : Nat) (hi : Nat) (c1 : Fn), hi - lo < m_ → (lo ≤ hi) → (hi ≤ 999) → (hi - lo ≤ f) → (bsF (flB xP xW xC (nI a) nd) f lo hi = bsF (flB xP xW xC (nI a) nd) 1000 0 999) → V E X ({ frames := 3, cells := 0, slots := 0, locals := 72 } : Room) RX7 cX7_toFloat 6 (some .int) 0 0 (QX E X false 146 (fun r_ h_ => r_ = some (.int (if ldM xP xW (nI a) (nI 999) nd xC 0 < cntD xW nd then -1 else nI (bsF (flB xP xW xC (nI a) nd) 1000 0 999))) ∧ ∃ c1, h_ = cellOf E (c, (mkA xP xR xW xS xZ xG xK xT xQ xF xB xL c1, (nI un, nI sz, ft, nI wm, nI fm, nI bm, nI at_, nI bg, sg, nI fg, vl, wr), sd))) 0 0) false 146 68 [(0, .ref (Ez E + 132)), (1, .int (nI a)), (2, .int a9), (3, .int (nI lo)), (4, .int (nI hi))] [] (cellOf E (c, (mkA xP xR xW xS xZ xG xK xT xQ xF xB xL c1, (nI un, nI sz, ft, nI wm, nI fm, nI bm, nI at_, nI bg, sg, nI fg, vl, wr), sd))) := by
        intro m_
        induction m_ with
        | zero => intro f lo hi c1 hm; exact absurd hm (Nat.not_lt_zero _)
        | succ m_ ihm =>
          intro f lo hi c1 hm hlh hh9 hf hs1
          refine v_iload_n (pc := 68) 3 dX7_toFloat_68 rfl rfl ?_
          refine v_iload (pc := 69) 4 dX7_toFloat_69 rfl ?_
          refine v_icmp_geN (pc := 71) (by omega) (by omega) (tgt := 108) dX7_toFloat_71 rfl (fun c_71 => ?_) (fun c_71 => ?_)
          · refine v_iload_n (pc := 108) 3 dX7_toFloat_108 rfl rfl ?_
            exact v_iret (pc := 109) dX7_toFloat_109 (⟨by rw [if_neg (show ¬ ldM xP xW (nI a) (nI 999) nd xC 0 < cntD xW nd from by rw [show cntD xW nd = a9 from ha9]; exact Int32.not_lt.mpr c_56), ← hs1, bsF_e (by omega)], _, rfl⟩)
          · refine v_iload_n (pc := 74) 3 dX7_toFloat_74 rfl rfl ?_
            refine v_iload (pc := 75) 4 dX7_toFloat_75 rfl ?_
            refine v_iaddN (pc := 77) dX7_toFloat_77 ?_
            refine v_iconst (pc := 78) (nI 2) dX7_toFloat_78 kI_2 ?_
            refine v_idivN (pc := 79) (by omega) (by omega) (by omega) dX7_toFloat_79 ?_
            refine v_istore (pc := 80) [1, 2, 3, 4, 5, 0] [(0, _), (1, _), (2, _), (3, _), (4, _), (5, _)] dX7_toFloat_80 (by decide) rfl ?_
            refine v_aload_n (pc := 82) 0 dX7_toFloat_82 rfl rfl ?_
            refine v_iload_n (pc := 83) 1 dX7_toFloat_83 rfl rfl ?_
            refine v_iload (pc := 84) 5 dX7_toFloat_84 rfl ?_
            refine v_callV (pc := 86) _ _ k_X7_245 (cMr_obj) rfl (by decide) (m_lays hd hnd hv _ _) ⟨rfl, rfl, by decide⟩ rfl rfl (Nat.le_of_ble_eq_true rfl) ⟨Nat.le_of_ble_eq_true rfl, Nat.le_of_ble_eq_true rfl⟩ dX7_toFloat_86 (unS ?_)
            show V E X _ RX7 _ _ _ 0 0 _ false 146 89 _ [_] _
            refine v_iload_n (pc := 89) 2 dX7_toFloat_89 rfl rfl ?_
            refine v_icmp_ne (pc := 90) (tgt := 100) dX7_toFloat_90 rfl (fun c_90 => ?_) (fun c_90 => ?_)
            · refine v_iload (pc := 100) 5 dX7_toFloat_100 rfl ?_
              refine v_iconst (pc := 102) (nI 1) dX7_toFloat_102 kI_1 ?_
              refine v_iaddN (pc := 103) dX7_toFloat_103 ?_
              refine v_istore_n (pc := 104) [1, 2, 3, 0, 4, 5] [(0, _), (1, _), (2, _), (3, _), (4, _), (5, _)] dX7_toFloat_104 rfl (by decide) rfl ?_
              refine v_goto (pc := 105) (tgt := 68) dX7_toFloat_105 rfl ?_
              refine v_sub [0, 1, 2, 3, 4] rfl ?_
              rw [show ldM xP xW (nI a) (nI ((lo + hi) / 2)) nd c1 0 = ldM xP xW (nI a) (nI ((lo + hi) / 2)) nd xC 0 from ldM_ind hnd h1nd _ _] at c_90
              exact ihm (f - 1) ((lo + hi) / 2 + 1) hi _ (by omega) (by omega) (by omega) (by omega) (by rw [← hs1, show f = (f - 1) + 1 by omega]; show _ = if lo < hi then _ else _; rw [if_pos c_71, if_neg (show ¬ flB xP xW xC (nI a) nd ((lo + hi) / 2) = true from fun z => c_90 (by rw [of_decide_eq_true z]; exact ha9))]; rfl)
            · refine v_iload (pc := 93) 5 dX7_toFloat_93 rfl ?_
              refine v_istore (pc := 95) [1, 2, 3, 4, 0, 5] [(0, _), (1, _), (2, _), (3, _), (4, _), (5, _)] dX7_toFloat_95 (by decide) rfl ?_
              refine v_goto (pc := 97) (tgt := 105) dX7_toFloat_97 rfl ?_
              refine v_goto (pc := 105) (tgt := 68) dX7_toFloat_105 rfl ?_
              refine v_sub [0, 1, 2, 3, 4] rfl ?_
              rw [show ldM xP xW (nI a) (nI ((lo + hi) / 2)) nd c1 0 = ldM xP xW (nI a) (nI ((lo + hi) / 2)) nd xC 0 from ldM_ind hnd h1nd _ _] at c_90
              exact ihm (f - 1) lo ((lo + hi) / 2) _ (by omega) (by omega) (by omega) (by omega) (by rw [← hs1, show f = (f - 1) + 1 by omega]; show _ = if lo < hi then _ else _; rw [if_pos c_71, if_pos (show flB xP xW xC (nI a) nd ((lo + hi) / 2) = true from decide_eq_true (by rw [c_90]; exact ha9.symm))]; rfl)
      exact hl_68 (1000) 1000 0 999 _ (by omega) (by omega) (by omega) (by omega) rfl
    · refine v_iconst (pc := 59) (-1) dX7_toFloat_59 kI_m1 ?_
      exact v_iret (pc := 60) dX7_toFloat_60 (⟨by rw [if_pos (show ldM xP xW (nI a) (nI 999) nd xC 0 < cntD xW nd from by rw [show cntD xW nd = a9 from ha9]; exact Int32.not_le.mp c_56)], _, rfl⟩)
  · intro i hi ih
    have ih : V E X ({ frames := 3, cells := 0, slots := 0, locals := 72 } : Room) RX7 cX7_toFloat 6 (some .int) 0 0 (QX E X false 146 (fun r_ h_ => r_ = some (.int (if ldM xP xW (nI a) (nI 999) nd xC 0 < cntD xW nd then -1 else nI (bsF (flB xP xW xC (nI a) nd) 1000 0 999))) ∧ ∃ c1, h_ = cellOf E (c, (mkA xP xR xW xS xZ xG xK xT xQ xF xB xL c1, (nI un, nI sz, ft, nI wm, nI fm, nI bm, nI at_, nI bg, sg, nI fg, vl, wr), sd))) 0 0) false 146 15 [(0, .ref (Ez E + 132)), (1, .int (nI a)), (2, .int (itn (fun d s => s + (if oweB xW d = true then nI 1 else nI 0)) i (nI 0) + (if oweB xW i = true then nI 1 else nI 0))), (3, .int (nI (i + 1)))] [] (cellOf E (c, (mkA xP xR xW xS xZ xG xK xT xQ xF xB xL xC, (nI un, nI sz, ft, nI wm, nI fm, nI bm, nI at_, nI bg, sg, nI fg, vl, wr), sd))) := by rw [itn_s] at ih; exact ih
    generalize itn (fun d s => s + (if oweB xW d = true then nI 1 else nI 0)) i (nI 0) = s1 at ih ⊢
    show V E X _ RX7 _ _ _ _ _ _ false 146 _ [(0, .ref (Ez E + 132)), (1, .int (nI a)), (2, .int (s1)), (3, .int (nI i))] [] (cellOf E (c, (mkA xP xR xW xS xZ xG xK xT xQ xF xB xL xC, (nI un, nI sz, ft, nI wm, nI fm, nI bm, nI at_, nI bg, sg, nI fg, vl, wr), sd)))
    refine v_iload_n (pc := 15) 3 dX7_toFloat_15 rfl rfl ?_
    refine v_aload_n (pc := 16) 0 dX7_toFloat_16 rfl rfl ?_
    refine g_X7_7 (pc := 17) (cMr_obj) (by decide) rfl dX7_toFloat_17 ?_
    refine v_iconst (pc := 20) (nI 3) dX7_toFloat_20 kI_3 ?_
    refine v_ialdN (pc := 21) (cM_parish) (by decide) (by omega) (by decide) dX7_toFloat_21 ?_
    rw [hd]
    refine v_icmp_geN (pc := 22) (by omega) (by omega) (tgt := 47) dX7_toFloat_22 rfl (fun c_22 => False.elim ((fun c => by omega) c_22)) (fun c_22 => ?_)
    refine v_iload_n (pc := 25) 2 dX7_toFloat_25 rfl rfl ?_
    refine v_aload_n (pc := 26) 0 dX7_toFloat_26 rfl rfl ?_
    refine v_iload_n (pc := 27) 3 dX7_toFloat_27 rfl rfl ?_
    refine v_callV (pc := 28) _ _ k_X7_238 (cMr_obj) rfl (by decide) (m_isOwed (by omega)) ⟨rfl, rfl, by decide⟩ rfl rfl (Nat.le_of_ble_eq_true rfl) ⟨Nat.le_of_ble_eq_true rfl, Nat.le_of_ble_eq_true rfl⟩ dX7_toFloat_28 (unS ?_)
    show V E X _ RX7 _ _ _ 0 0 _ false 146 31 _ [_, _] _
    refine v_if_eqB (pc := 31) (tgt := 38) dX7_toFloat_31 rfl (fun c_31 => ?_) (fun c_31 => ?_)
    · refine v_iconst (pc := 38) (nI 0) dX7_toFloat_38 kI_0 ?_
      refine v_iadd (pc := 39) dX7_toFloat_39 ?_
      refine v_istore_n (pc := 40) [1, 2, 0, 3] [(0, _), (1, _), (2, _), (3, _)] dX7_toFloat_40 rfl (by decide) rfl ?_
      refine v_iincN (pc := 41) 3 [1, 2, 3, 0] [(0, _), (1, _), (2, _), (3, _)] kI_1 dX7_toFloat_41 rfl (by decide) rfl ?_
      refine v_goto (pc := 44) (tgt := 15) dX7_toFloat_44 rfl ?_
      rw [show (if oweB xW i = true then nI 1 else nI 0) = nI 0 from if_neg (by rw [c_31]; decide)] at ih
      exact ih
    · refine v_iconst (pc := 34) (nI 1) dX7_toFloat_34 kI_1 ?_
      refine v_goto (pc := 35) (tgt := 39) dX7_toFloat_35 rfl ?_
      refine v_iadd (pc := 39) dX7_toFloat_39 ?_
      refine v_istore_n (pc := 40) [1, 2, 0, 3] [(0, _), (1, _), (2, _), (3, _)] dX7_toFloat_40 rfl (by decide) rfl ?_
      refine v_iincN (pc := 41) 3 [1, 2, 3, 0] [(0, _), (1, _), (2, _), (3, _)] kI_1 dX7_toFloat_41 rfl (by decide) rfl ?_
      refine v_goto (pc := 44) (tgt := 15) dX7_toFloat_44 rfl ?_
      rw [show (if oweB xW i = true then nI 1 else nI 0) = nI 1 from if_pos c_31] at ih
      exact ih
set_option maxHeartbeats 4000000 in
set_option maxRecDepth 100000 in
theorem m_toFloat1 {E : Ev} {c : CSt} {xP xR xW xS xZ xG xK xT xQ xF xB xL xC : Fn} {un sz wm fm bm at_ bg fg : Nat} {ft sg vl wr : Int32} {sd : Int64} {np : Nat} (hp : xP 2 = nI np) (hnp : np ≤ 7) {a : Int32} (ha : perB a np = false) : Ct E yX7_toFloat cX7_toFloat 6 (some .int) ({ frames := 3, cells := 0, slots := 0, locals := 72 } : Room) false 146 [.ref (Ez E + 132), .int a] (cellOf E (c, (mkA xP xR xW xS xZ xG xK xT xQ xF xB xL xC, (nI un, nI sz, ft, nI wm, nI fm, nI bm, nI at_, nI bg, sg, nI fg, vl, wr), sd))) 146 0 0 (Ff (some (.int (cUNK))) (cellOf E (c, (mkA xP xR xW xS xZ xG xK xT xQ xF xB xL xC, (nI un, nI sz, ft, nI wm, nI fm, nI bm, nI at_, nI bg, sg, nI fg, vl, wr), sd)))) := by
  refine Ct.ofV (by decide) (Nat.le_of_ble_eq_true rfl) (fun X hnm => ?_)
  show V E X _ RX7 _ _ _ _ _ _ false 146 0 [(0, .ref (Ez E + 132)), (1, .int a)] [] _
  refine v_aload_n (pc := 0) 0 dX7_toFloat_0 rfl rfl ?_
  refine v_iload_n (pc := 1) 1 dX7_toFloat_1 rfl rfl ?_
  refine v_callV (pc := 2) _ _ k_X7_180 (cMr_obj) rfl (by decide) (m_isPn hp hnp _) ⟨rfl, rfl, by decide⟩ rfl rfl (Nat.le_of_ble_eq_true rfl) ⟨Nat.le_of_ble_eq_true rfl, Nat.le_of_ble_eq_true rfl⟩ dX7_toFloat_2 (unS ?_)
  show V E X _ RX7 _ _ _ 0 0 _ false 146 5 _ [_] _
  refine v_if_neB (pc := 5) (tgt := 11) dX7_toFloat_5 rfl (fun c_5 => False.elim ((fun q => by rw [ha] at q; exact Bool.noConfusion q) c_5)) (fun c_5 => ?_)
  refine v_ldc (pc := 8) _ kc_X7_183 dX7_toFloat_8 rfl ?_
  exact v_iret (pc := 10) dX7_toFloat_10 (⟨rfl, rfl⟩)
