set_option maxHeartbeats 4000000 in
set_option maxRecDepth 100000 in
theorem m_hourWT {E : Ev} {c : CSt} {xP xR xW xS xZ xG xK xT xQ xF xB xL xC : Fn} {un sz wm fm bm at_ bg fg : Nat} {ft sg vl wr : Int32} {sd : Int64} {np : Nat} (hp : xP 2 = nI np) (hnp : np ≤ 7) (ht : Trc xW) (hdu : ¬ xP 1 = 0) : Ct E yX7_hourGoes cX7_hourGoes 5 none ({ frames := 3, cells := 0, slots := 0, locals := 65 } : Room) false 146 [.ref (Ez E + 132), .ref (Ez E + 135), .int (nI 1)] (cellOf E (c, (mkA xP xR xW xS xZ xG xK xT xQ xF xB xL xC, (nI un, nI sz, ft, nI wm, nI fm, nI bm, nI at_, nI bg, sg, nI fg, vl, wr), sd))) 146 0 0 (Ff none (cellOf E (c, (mkA xP xR (m_hrD xP xW xL np) xS xZ xG xK xT xQ xF xB (m_lo xP xW xL np) xC, (nI un, nI sz, ft, nI wm, nI fm, nI bm, nI at_, nI bg, sg, nI fg, vl, wr), sd)))) := by
  refine Ct.ofV (by decide) (Nat.le_of_ble_eq_true rfl) (fun X hnm => ?_)
  show V E X _ RX7 _ _ _ _ _ _ false 146 0 [(0, .ref (Ez E + 132)), (1, .ref (Ez E + 135)), (2, .int (nI 1))] [] _
  refine v_aload_n (pc := 0) 0 dX7_hourGoes_0 rfl rfl ?_
  refine v_aload_n (pc := 1) 1 dX7_hourGoes_1 rfl rfl ?_
  refine v_callV (pc := 2) _ _ k_X7_150 (cMr_obj) rfl (by decide) (m_drawerW hp hnp) ⟨rfl, rfl, by decide⟩ rfl rfl (Nat.le_of_ble_eq_true rfl) ⟨Nat.le_of_ble_eq_true rfl, Nat.le_of_ble_eq_true rfl⟩ dX7_hourGoes_2 (unS ?_)
  show V E X _ RX7 _ _ _ 0 0 _ false 146 5 _ [_] _
  have hdp := m_drw_plc xW np hnp
  generalize hdw : m_drw xW np = dw at hdp ⊢
  refine v_istore_n (pc := 5) [1, 2, 3, 0] [(0, _), (1, _), (2, _), (3, _)] dX7_hourGoes_5 rfl (by decide) rfl ?_
  refine v_iconst (pc := 6) (nI 0) dX7_hourGoes_6 kI_0 ?_
  refine v_istore (pc := 7) [1, 2, 3, 4, 0] [(0, _), (1, _), (2, _), (3, _), (4, _)] dX7_hourGoes_7 (by decide) rfl ?_
  refine dn (P := fun i => V E X ({ frames := 3, cells := 0, slots := 0, locals := 65 } : Room) RX7 cX7_hourGoes 5 none 0 0 (QX E X false 146 (Ff none (cellOf E (c, (mkA xP xR (m_hrD xP xW xL np) xS xZ xG xK xT xQ xF xB (m_lo xP xW xL np) xC, (nI un, nI sz, ft, nI wm, nI fm, nI bm, nI at_, nI bg, sg, nI fg, vl, wr), sd)))) 0 0) false 146 9 [(0, .ref (Ez E + 132)), (1, .ref (Ez E + 135)), (2, .int (nI 1)), (3, .int dw), (4, .int (nI i))] [] (cellOf E (c, (mkA xP xR xW xS xZ xG xK xT xQ xF xB (itn (fun p f => upd f p (if nI p = dw then nI 0 else loI xP xW p)) i xL) xC, (nI un, nI sz, ft, nI wm, nI fm, nI bm, nI at_, nI bg, sg, nI fg, vl, wr), sd)))) (N := np) ?_ ?_
  · generalize hl9 : itn (fun p f => upd f p (if nI p = dw then nI 0 else loI xP xW p)) np xL = l9 
    show V E X _ RX7 _ _ _ _ _ _ false 146 _ [(0, .ref (Ez E + 132)), (1, .ref (Ez E + 135)), (2, .int (nI 1)), (3, .int dw), (4, .int (nI np))] [] (cellOf E (c, (mkA xP xR xW xS xZ xG xK xT xQ xF xB l9 xC, (nI un, nI sz, ft, nI wm, nI fm, nI bm, nI at_, nI bg, sg, nI fg, vl, wr), sd)))
    refine v_iload (pc := 9) 4 dX7_hourGoes_9 rfl ?_
    refine v_aload_n (pc := 11) 0 dX7_hourGoes_11 rfl rfl ?_
    refine g_X7_7 (pc := 12) (cMr_obj) (by decide) rfl dX7_hourGoes_12 ?_
    refine v_iconst (pc := 15) (nI 2) dX7_hourGoes_15 kI_2 ?_
    refine v_ialdN (pc := 16) (cM_parish) (by decide) (by omega) (by decide) dX7_hourGoes_16 ?_
    rw [hp]
    refine v_icmp_geN (pc := 17) (by omega) (by omega) (tgt := 50) dX7_hourGoes_17 rfl (fun c_17 => ?_) (fun c_17 => False.elim ((fun c => by omega) c_17))
    refine v_iconst (pc := 50) (nI 0) dX7_hourGoes_50 kI_0 ?_
    refine v_istore (pc := 51) [1, 2, 3, 4, 0] [(0, _), (1, _), (2, _), (3, _), (4, _)] dX7_hourGoes_51 (by decide) rfl ?_
    refine dn (P := fun i => V E X ({ frames := 3, cells := 0, slots := 0, locals := 65 } : Room) RX7 cX7_hourGoes 5 none 0 0 (QX E X false 146 (Ff none (cellOf E (c, (mkA xP xR (m_hrD xP xW xL np) xS xZ xG xK xT xQ xF xB (m_lo xP xW xL np) xC, (nI un, nI sz, ft, nI wm, nI fm, nI bm, nI at_, nI bg, sg, nI fg, vl, wr), sd)))) 0 0) false 146 53 [(0, .ref (Ez E + 132)), (1, .ref (Ez E + 135)), (2, .int (nI 1)), (3, .int dw), (4, .int (nI i))] [] (cellOf E (c, (mkA xP xR (itn (st_mgo l9 dw) i xW) xS xZ xG xK xT xQ xF xB l9 xC, (nI un, nI sz, ft, nI wm, nI fm, nI bm, nI at_, nI bg, sg, nI fg, vl, wr), sd)))) (N := np) ?_ ?_
    · generalize hs9 : itn (st_mgo l9 dw) np xW = s9 
      show V E X _ RX7 _ _ _ _ _ _ false 146 _ [(0, .ref (Ez E + 132)), (1, .ref (Ez E + 135)), (2, .int (nI 1)), (3, .int dw), (4, .int (nI np))] [] (cellOf E (c, (mkA xP xR s9 xS xZ xG xK xT xQ xF xB l9 xC, (nI un, nI sz, ft, nI wm, nI fm, nI bm, nI at_, nI bg, sg, nI fg, vl, wr), sd)))
      refine v_iload (pc := 53) 4 dX7_hourGoes_53 rfl ?_
      refine v_aload_n (pc := 55) 0 dX7_hourGoes_55 rfl rfl ?_
      refine g_X7_7 (pc := 56) (cMr_obj) (by decide) rfl dX7_hourGoes_56 ?_
      refine v_iconst (pc := 59) (nI 2) dX7_hourGoes_59 kI_2 ?_
      refine v_ialdN (pc := 60) (cM_parish) (by decide) (by omega) (by decide) dX7_hourGoes_60 ?_
      rw [hp]
      refine v_icmp_geN (pc := 61) (by omega) (by omega) (tgt := 90) dX7_hourGoes_61 rfl (fun c_61 => ?_) (fun c_61 => False.elim ((fun c => by omega) c_61))
      refine v_iconst (pc := 90) (nI 0) dX7_hourGoes_90 kI_0 ?_
      refine v_istore (pc := 91) [1, 2, 3, 4, 0] [(0, _), (1, _), (2, _), (3, _), (4, _)] dX7_hourGoes_91 (by decide) rfl ?_
      refine dn (P := fun i => V E X ({ frames := 3, cells := 0, slots := 0, locals := 65 } : Room) RX7 cX7_hourGoes 5 none 0 0 (QX E X false 146 (Ff none (cellOf E (c, (mkA xP xR (m_hrD xP xW xL np) xS xZ xG xK xT xQ xF xB (m_lo xP xW xL np) xC, (nI un, nI sz, ft, nI wm, nI fm, nI bm, nI at_, nI bg, sg, nI fg, vl, wr), sd)))) 0 0) false 146 93 [(0, .ref (Ez E + 132)), (1, .ref (Ez E + 135)), (2, .int (nI 1)), (3, .int dw), (4, .int (nI i))] [] (cellOf E (c, (mkA xP xR (itn (fun p f => upd f (7 + p) (f (7 + p) / nI 2)) i s9) xS xZ xG xK xT xQ xF xB l9 xC, (nI un, nI sz, ft, nI wm, nI fm, nI bm, nI at_, nI bg, sg, nI fg, vl, wr), sd)))) (N := np) ?_ ?_
      · generalize hs8 : itn (fun p f => upd f (7 + p) (f (7 + p) / nI 2)) np s9 = s8 
        show V E X _ RX7 _ _ _ _ _ _ false 146 _ [(0, .ref (Ez E + 132)), (1, .ref (Ez E + 135)), (2, .int (nI 1)), (3, .int dw), (4, .int (nI np))] [] (cellOf E (c, (mkA xP xR s8 xS xZ xG xK xT xQ xF xB l9 xC, (nI un, nI sz, ft, nI wm, nI fm, nI bm, nI at_, nI bg, sg, nI fg, vl, wr), sd)))
        refine v_iload (pc := 93) 4 dX7_hourGoes_93 rfl ?_
        refine v_aload_n (pc := 95) 0 dX7_hourGoes_95 rfl rfl ?_
        refine g_X7_7 (pc := 96) (cMr_obj) (by decide) rfl dX7_hourGoes_96 ?_
        refine v_iconst (pc := 99) (nI 2) dX7_hourGoes_99 kI_2 ?_
        refine v_ialdN (pc := 100) (cM_parish) (by decide) (by omega) (by decide) dX7_hourGoes_100 ?_
        rw [hp]
        refine v_icmp_geN (pc := 101) (by omega) (by omega) (tgt := 121) dX7_hourGoes_101 rfl (fun c_101 => ?_) (fun c_101 => False.elim ((fun c => by omega) c_101))
        refine v_aload_n (pc := 121) 1 dX7_hourGoes_121 rfl rfl ?_
        refine v_bipush (pc := 122) (nI 16) dX7_hourGoes_122 kB_16 ?_
        refine v_dup2 (pc := 124) dX7_hourGoes_124 rfl rfl ?_
        refine v_ialdN (pc := 125) (cM_now) (by decide) (by omega) (by decide) dX7_hourGoes_125 ?_
        refine v_iconst (pc := 126) (nI 1) dX7_hourGoes_126 kI_1 ?_
        refine v_iadd (pc := 127) dX7_hourGoes_127 ?_
        refine v_iastN (pc := 128) (cM_now) (by decide) (by omega) (by decide) dX7_hourGoes_128 (wM_now) ?_
        have hmr : m_hr xP xW xL np = upd s8 16 (s8 16 + nI 1) := by unfold m_hr; rw [hdw, show m_los xP xW dw np xL = l9 from hl9, show m_go l9 dw np xW = s9 from hs9, show m_half np s9 = s8 from hs8]
        rw [← hmr]
        have hth : Trc (m_hr xP xW xL np) := m_hr_trc ht hnp
        generalize hsh : m_hr xP xW xL np = sh at hth ⊢
        refine v_iload_n (pc := 129) 2 dX7_hourGoes_129 rfl rfl ?_
        refine v_if_eqN (pc := 130) (by omega) (tgt := 194) dX7_hourGoes_130 rfl (fun c_130 => False.elim ((fun z : 1 = 0 => absurd z (by decide)) c_130)) (fun c_130 => ?_)
        refine v_aload_n (pc := 133) 1 dX7_hourGoes_133 rfl rfl ?_
        refine v_bipush (pc := 134) (nI 16) dX7_hourGoes_134 kB_16 ?_
        refine v_ialdN (pc := 136) (cM_now) (by decide) (by omega) (by decide) dX7_hourGoes_136 ?_
        refine v_aload_n (pc := 137) 0 dX7_hourGoes_137 rfl rfl ?_
        refine g_X7_7 (pc := 138) (cMr_obj) (by decide) rfl dX7_hourGoes_138 ?_
        refine v_iconst (pc := 141) (nI 1) dX7_hourGoes_141 kI_1 ?_
        refine v_ialdN (pc := 142) (cM_parish) (by decide) (by omega) (by decide) dX7_hourGoes_142 ?_
        refine v_irem (pc := 143) dX7_hourGoes_143 (hdu) ?_
        refine v_if_ne (pc := 144) (tgt := 194) dX7_hourGoes_144 rfl (fun c_144 => ?_) (fun c_144 => ?_)
        · exact v_vret (pc := 194) dX7_hourGoes_194 (⟨rfl, by rw [show m_lo xP xW xL np = l9 from by unfold m_lo; rw [hdw]; exact hl9, show m_hrD xP xW xL np = sh from by unfold m_hrD; rw [hsh, if_neg c_144]]⟩)
        · refine v_iconst (pc := 147) (nI 0) dX7_hourGoes_147 kI_0 ?_
          refine v_istore (pc := 148) [1, 2, 3, 4, 0] [(0, _), (1, _), (2, _), (3, _), (4, _)] dX7_hourGoes_148 (by decide) rfl ?_
          refine dn (P := fun i => V E X ({ frames := 3, cells := 0, slots := 0, locals := 65 } : Room) RX7 cX7_hourGoes 5 none 0 0 (QX E X false 146 (Ff none (cellOf E (c, (mkA xP xR (m_hrD xP xW xL np) xS xZ xG xK xT xQ xF xB (m_lo xP xW xL np) xC, (nI un, nI sz, ft, nI wm, nI fm, nI bm, nI at_, nI bg, sg, nI fg, vl, wr), sd)))) 0 0) false 146 150 [(0, .ref (Ez E + 132)), (1, .ref (Ez E + 135)), (2, .int (nI 1)), (3, .int dw), (4, .int (nI i))] [] (cellOf E (c, (mkA xP xR (itn (st_mho xP) i sh) xS xZ xG xK xT xQ xF xB l9 xC, (nI un, nI sz, ft, nI wm, nI fm, nI bm, nI at_, nI bg, sg, nI fg, vl, wr), sd)))) (N := np) ?_ ?_
          · refine v_iload (pc := 150) 4 dX7_hourGoes_150 rfl ?_
            refine v_aload_n (pc := 152) 0 dX7_hourGoes_152 rfl rfl ?_
            refine g_X7_7 (pc := 153) (cMr_obj) (by decide) rfl dX7_hourGoes_153 ?_
            refine v_iconst (pc := 156) (nI 2) dX7_hourGoes_156 kI_2 ?_
            refine v_ialdN (pc := 157) (cM_parish) (by decide) (by omega) (by decide) dX7_hourGoes_157 ?_
            rw [hp]
            refine v_icmp_geN (pc := 158) (by omega) (by omega) (tgt := 194) dX7_hourGoes_158 rfl (fun c_158 => ?_) (fun c_158 => False.elim ((fun c => by omega) c_158))
            exact v_vret (pc := 194) dX7_hourGoes_194 (⟨rfl, by rw [show m_lo xP xW xL np = l9 from by unfold m_lo; rw [hdw]; exact hl9, show m_hrD xP xW xL np = _ from by unfold m_hrD; rw [hsh, if_pos c_144]]; rfl⟩)
          · intro i hi ih
            have ih : V E X ({ frames := 3, cells := 0, slots := 0, locals := 65 } : Room) RX7 cX7_hourGoes 5 none 0 0 (QX E X false 146 (Ff none (cellOf E (c, (mkA xP xR (m_hrD xP xW xL np) xS xZ xG xK xT xQ xF xB (m_lo xP xW xL np) xC, (nI un, nI sz, ft, nI wm, nI fm, nI bm, nI at_, nI bg, sg, nI fg, vl, wr), sd)))) 0 0) false 146 150 [(0, .ref (Ez E + 132)), (1, .ref (Ez E + 135)), (2, .int (nI 1)), (3, .int dw), (4, .int (nI (i + 1)))] [] (cellOf E (c, (mkA xP xR (st_mho xP i (itn (st_mho xP) i sh)) xS xZ xG xK xT xQ xF xB l9 xC, (nI un, nI sz, ft, nI wm, nI fm, nI bm, nI at_, nI bg, sg, nI fg, vl, wr), sd))) := by rw [itn_s] at ih; exact ih
            generalize hf1 : itn (st_mho xP) i sh = f1 at ih ⊢
            show V E X _ RX7 _ _ _ _ _ _ false 146 _ [(0, .ref (Ez E + 132)), (1, .ref (Ez E + 135)), (2, .int (nI 1)), (3, .int dw), (4, .int (nI i))] [] (cellOf E (c, (mkA xP xR f1 xS xZ xG xK xT xQ xF xB l9 xC, (nI un, nI sz, ft, nI wm, nI fm, nI bm, nI at_, nI bg, sg, nI fg, vl, wr), sd)))
            have hT1 : Trc f1 := by rw [← hf1]; exact m_home_trc hth i (by omega)
            refine v_iload (pc := 150) 4 dX7_hourGoes_150 rfl ?_
            refine v_aload_n (pc := 152) 0 dX7_hourGoes_152 rfl rfl ?_
            refine g_X7_7 (pc := 153) (cMr_obj) (by decide) rfl dX7_hourGoes_153 ?_
            refine v_iconst (pc := 156) (nI 2) dX7_hourGoes_156 kI_2 ?_
            refine v_ialdN (pc := 157) (cM_parish) (by decide) (by omega) (by decide) dX7_hourGoes_157 ?_
            rw [hp]
            refine v_icmp_geN (pc := 158) (by omega) (by omega) (tgt := 194) dX7_hourGoes_158 rfl (fun c_158 => False.elim ((fun c => by omega) c_158)) (fun c_158 => ?_)
            refine v_aload_n (pc := 161) 0 dX7_hourGoes_161 rfl rfl ?_
            refine g_X7_7 (pc := 162) (cMr_obj) (by decide) rfl dX7_hourGoes_162 ?_
            refine v_iconst (pc := 165) (nI 4) dX7_hourGoes_165 kI_4 ?_
            refine v_iload (pc := 166) 4 dX7_hourGoes_166 rfl ?_
            refine v_iaddN (pc := 168) dX7_hourGoes_168 ?_
            refine v_ialdN (pc := 169) (cM_parish) (by decide) (by omega) (by decide) dX7_hourGoes_169 ?_
            refine v_iconst (pc := 170) (nI 2) dX7_hourGoes_170 kI_2 ?_
            refine v_icmp_eq (pc := 171) (tgt := 188) dX7_hourGoes_171 rfl (fun c_171 => ?_) (fun c_171 => ?_)
            · refine v_iincN (pc := 188) 4 [1, 2, 3, 4, 0] [(0, _), (1, _), (2, _), (3, _), (4, _)] kI_1 dX7_hourGoes_188 rfl (by decide) rfl ?_
              refine v_goto (pc := 191) (tgt := 150) dX7_hourGoes_191 rfl ?_
              rw [show st_mho xP i f1 = _ from if_pos c_171] at ih
              exact ih
            · refine v_aload_n (pc := 174) 1 dX7_hourGoes_174 rfl rfl ?_
              refine v_iload (pc := 175) 4 dX7_hourGoes_175 rfl ?_
              refine v_bipush (pc := 177) (-2) dX7_hourGoes_177 kB_m2 ?_
              refine v_aload_n (pc := 179) 1 dX7_hourGoes_179 rfl rfl ?_
              refine v_iconst (pc := 180) (nI 0) dX7_hourGoes_180 kI_0 ?_
              refine v_iload (pc := 181) 4 dX7_hourGoes_181 rfl ?_
              refine v_iaddN (pc := 183) dX7_hourGoes_183 ?_
              refine v_ialdN (pc := 184) (cM_now) (by decide) (by omega) (by decide) dX7_hourGoes_184 ?_
              refine v_callS (pc := 185) _ _ k_X7_158 (m_fliesW hT1 (plc_n (by omega)) plc_t _) ⟨rfl, rfl, by decide⟩ rfl rfl (Nat.le_of_ble_eq_true rfl) ⟨Nat.le_of_ble_eq_true rfl, Nat.le_of_ble_eq_true rfl⟩ dX7_hourGoes_185 (unS ?_)
              show V E X _ RX7 _ _ _ 0 0 _ false 146 188 _ [] _
              refine v_iincN (pc := 188) 4 [1, 2, 3, 4, 0] [(0, _), (1, _), (2, _), (3, _), (4, _)] kI_1 dX7_hourGoes_188 rfl (by decide) rfl ?_
              refine v_goto (pc := 191) (tgt := 150) dX7_hourGoes_191 rfl ?_
              rw [show st_mho xP i f1 = _ from if_neg c_171] at ih
              exact ih
      · intro i hi ih
        have ih : V E X ({ frames := 3, cells := 0, slots := 0, locals := 65 } : Room) RX7 cX7_hourGoes 5 none 0 0 (QX E X false 146 (Ff none (cellOf E (c, (mkA xP xR (m_hrD xP xW xL np) xS xZ xG xK xT xQ xF xB (m_lo xP xW xL np) xC, (nI un, nI sz, ft, nI wm, nI fm, nI bm, nI at_, nI bg, sg, nI fg, vl, wr), sd)))) 0 0) false 146 93 [(0, .ref (Ez E + 132)), (1, .ref (Ez E + 135)), (2, .int (nI 1)), (3, .int dw), (4, .int (nI (i + 1)))] [] (cellOf E (c, (mkA xP xR (upd (itn (fun p f => upd f (7 + p) (f (7 + p) / nI 2)) i s9) (7 + i) ((itn (fun p f => upd f (7 + p) (f (7 + p) / nI 2)) i s9) (7 + i) / nI 2)) xS xZ xG xK xT xQ xF xB l9 xC, (nI un, nI sz, ft, nI wm, nI fm, nI bm, nI at_, nI bg, sg, nI fg, vl, wr), sd))) := by rw [itn_s] at ih; exact ih
        generalize itn (fun p f => upd f (7 + p) (f (7 + p) / nI 2)) i s9 = f1 at ih ⊢
        show V E X _ RX7 _ _ _ _ _ _ false 146 _ [(0, .ref (Ez E + 132)), (1, .ref (Ez E + 135)), (2, .int (nI 1)), (3, .int dw), (4, .int (nI i))] [] (cellOf E (c, (mkA xP xR f1 xS xZ xG xK xT xQ xF xB l9 xC, (nI un, nI sz, ft, nI wm, nI fm, nI bm, nI at_, nI bg, sg, nI fg, vl, wr), sd)))
        refine v_iload (pc := 93) 4 dX7_hourGoes_93 rfl ?_
        refine v_aload_n (pc := 95) 0 dX7_hourGoes_95 rfl rfl ?_
        refine g_X7_7 (pc := 96) (cMr_obj) (by decide) rfl dX7_hourGoes_96 ?_
        refine v_iconst (pc := 99) (nI 2) dX7_hourGoes_99 kI_2 ?_
        refine v_ialdN (pc := 100) (cM_parish) (by decide) (by omega) (by decide) dX7_hourGoes_100 ?_
        rw [hp]
        refine v_icmp_geN (pc := 101) (by omega) (by omega) (tgt := 121) dX7_hourGoes_101 rfl (fun c_101 => False.elim ((fun c => by omega) c_101)) (fun c_101 => ?_)
        refine v_aload_n (pc := 104) 1 dX7_hourGoes_104 rfl rfl ?_
        refine v_bipush (pc := 105) (nI 7) dX7_hourGoes_105 kB_7 ?_
        refine v_iload (pc := 107) 4 dX7_hourGoes_107 rfl ?_
        refine v_iaddN (pc := 109) dX7_hourGoes_109 ?_
        refine v_dup2 (pc := 110) dX7_hourGoes_110 rfl rfl ?_
        refine v_ialdN (pc := 111) (cM_now) (by decide) (by omega) (by decide) dX7_hourGoes_111 ?_
        refine v_iconst (pc := 112) (nI 2) dX7_hourGoes_112 kI_2 ?_
        refine v_idiv (pc := 113) dX7_hourGoes_113 (by decide) ?_
        refine v_iastN (pc := 114) (cM_now) (by decide) (by omega) (by decide) dX7_hourGoes_114 (wM_now) ?_
        refine v_iincN (pc := 115) 4 [1, 2, 3, 4, 0] [(0, _), (1, _), (2, _), (3, _), (4, _)] kI_1 dX7_hourGoes_115 rfl (by decide) rfl ?_
        refine v_goto (pc := 118) (tgt := 93) dX7_hourGoes_118 rfl ?_
        exact ih
    · intro i hi ih
      have ih : V E X ({ frames := 3, cells := 0, slots := 0, locals := 65 } : Room) RX7 cX7_hourGoes 5 none 0 0 (QX E X false 146 (Ff none (cellOf E (c, (mkA xP xR (m_hrD xP xW xL np) xS xZ xG xK xT xQ xF xB (m_lo xP xW xL np) xC, (nI un, nI sz, ft, nI wm, nI fm, nI bm, nI at_, nI bg, sg, nI fg, vl, wr), sd)))) 0 0) false 146 53 [(0, .ref (Ez E + 132)), (1, .ref (Ez E + 135)), (2, .int (nI 1)), (3, .int dw), (4, .int (nI (i + 1)))] [] (cellOf E (c, (mkA xP xR (st_mgo l9 dw i (itn (st_mgo l9 dw) i xW)) xS xZ xG xK xT xQ xF xB l9 xC, (nI un, nI sz, ft, nI wm, nI fm, nI bm, nI at_, nI bg, sg, nI fg, vl, wr), sd))) := by rw [itn_s] at ih; exact ih
      generalize hf1 : itn (st_mgo l9 dw) i xW = f1 at ih ⊢
      show V E X _ RX7 _ _ _ _ _ _ false 146 _ [(0, .ref (Ez E + 132)), (1, .ref (Ez E + 135)), (2, .int (nI 1)), (3, .int dw), (4, .int (nI i))] [] (cellOf E (c, (mkA xP xR f1 xS xZ xG xK xT xQ xF xB l9 xC, (nI un, nI sz, ft, nI wm, nI fm, nI bm, nI at_, nI bg, sg, nI fg, vl, wr), sd)))
      have hT1 : Trc f1 := by rw [← hf1]; exact m_go_trc ht hdp i (by omega)
      refine v_iload (pc := 53) 4 dX7_hourGoes_53 rfl ?_
      refine v_aload_n (pc := 55) 0 dX7_hourGoes_55 rfl rfl ?_
      refine g_X7_7 (pc := 56) (cMr_obj) (by decide) rfl dX7_hourGoes_56 ?_
      refine v_iconst (pc := 59) (nI 2) dX7_hourGoes_59 kI_2 ?_
      refine v_ialdN (pc := 60) (cM_parish) (by decide) (by omega) (by decide) dX7_hourGoes_60 ?_
      rw [hp]
      refine v_icmp_geN (pc := 61) (by omega) (by omega) (tgt := 90) dX7_hourGoes_61 rfl (fun c_61 => False.elim ((fun c => by omega) c_61)) (fun c_61 => ?_)
      refine v_iload (pc := 64) 4 dX7_hourGoes_64 rfl ?_
      refine v_iload_n (pc := 66) 3 dX7_hourGoes_66 rfl rfl ?_
      refine v_icmp_eq (pc := 67) (tgt := 84) dX7_hourGoes_67 rfl (fun c_67 => ?_) (fun c_67 => ?_)
      · refine v_iincN (pc := 84) 4 [1, 2, 3, 4, 0] [(0, _), (1, _), (2, _), (3, _), (4, _)] kI_1 dX7_hourGoes_84 rfl (by decide) rfl ?_
        refine v_goto (pc := 87) (tgt := 53) dX7_hourGoes_87 rfl ?_
        rw [show st_mgo l9 dw i f1 = _ from if_pos c_67] at ih
        exact ih
      · refine v_aload_n (pc := 70) 1 dX7_hourGoes_70 rfl rfl ?_
        refine v_iload (pc := 71) 4 dX7_hourGoes_71 rfl ?_
        refine v_iload_n (pc := 73) 3 dX7_hourGoes_73 rfl rfl ?_
        refine v_aload_n (pc := 74) 0 dX7_hourGoes_74 rfl rfl ?_
        refine g_X7_48 (pc := 75) (cMr_obj) (by decide) rfl dX7_hourGoes_75 ?_
        refine v_iload (pc := 78) 4 dX7_hourGoes_78 rfl ?_
        refine v_ialdN (pc := 80) (cM_loss) (by decide) (by omega) (by decide) dX7_hourGoes_80 ?_
        refine v_callS (pc := 81) _ _ k_X7_158 (m_fliesW hT1 (plc_n (by omega)) hdp _) ⟨rfl, rfl, by decide⟩ rfl rfl (Nat.le_of_ble_eq_true rfl) ⟨Nat.le_of_ble_eq_true rfl, Nat.le_of_ble_eq_true rfl⟩ dX7_hourGoes_81 (unS ?_)
        show V E X _ RX7 _ _ _ 0 0 _ false 146 84 _ [] _
        refine v_iincN (pc := 84) 4 [1, 2, 3, 4, 0] [(0, _), (1, _), (2, _), (3, _), (4, _)] kI_1 dX7_hourGoes_84 rfl (by decide) rfl ?_
        refine v_goto (pc := 87) (tgt := 53) dX7_hourGoes_87 rfl ?_
        rw [show st_mgo l9 dw i f1 = _ from if_neg c_67] at ih
        exact ih
  · intro i hi ih
    have ih : V E X ({ frames := 3, cells := 0, slots := 0, locals := 65 } : Room) RX7 cX7_hourGoes 5 none 0 0 (QX E X false 146 (Ff none (cellOf E (c, (mkA xP xR (m_hrD xP xW xL np) xS xZ xG xK xT xQ xF xB (m_lo xP xW xL np) xC, (nI un, nI sz, ft, nI wm, nI fm, nI bm, nI at_, nI bg, sg, nI fg, vl, wr), sd)))) 0 0) false 146 9 [(0, .ref (Ez E + 132)), (1, .ref (Ez E + 135)), (2, .int (nI 1)), (3, .int dw), (4, .int (nI (i + 1)))] [] (cellOf E (c, (mkA xP xR xW xS xZ xG xK xT xQ xF xB (upd (itn (fun p f => upd f p (if nI p = dw then nI 0 else loI xP xW p)) i xL) i (if nI i = dw then nI 0 else loI xP xW i)) xC, (nI un, nI sz, ft, nI wm, nI fm, nI bm, nI at_, nI bg, sg, nI fg, vl, wr), sd))) := by rw [itn_s] at ih; exact ih
    generalize itn (fun p f => upd f p (if nI p = dw then nI 0 else loI xP xW p)) i xL = f1 at ih ⊢
    show V E X _ RX7 _ _ _ _ _ _ false 146 _ [(0, .ref (Ez E + 132)), (1, .ref (Ez E + 135)), (2, .int (nI 1)), (3, .int dw), (4, .int (nI i))] [] (cellOf E (c, (mkA xP xR xW xS xZ xG xK xT xQ xF xB f1 xC, (nI un, nI sz, ft, nI wm, nI fm, nI bm, nI at_, nI bg, sg, nI fg, vl, wr), sd)))
    refine v_iload (pc := 9) 4 dX7_hourGoes_9 rfl ?_
    refine v_aload_n (pc := 11) 0 dX7_hourGoes_11 rfl rfl ?_
    refine g_X7_7 (pc := 12) (cMr_obj) (by decide) rfl dX7_hourGoes_12 ?_
    refine v_iconst (pc := 15) (nI 2) dX7_hourGoes_15 kI_2 ?_
    refine v_ialdN (pc := 16) (cM_parish) (by decide) (by omega) (by decide) dX7_hourGoes_16 ?_
    rw [hp]
    refine v_icmp_geN (pc := 17) (by omega) (by omega) (tgt := 50) dX7_hourGoes_17 rfl (fun c_17 => False.elim ((fun c => by omega) c_17)) (fun c_17 => ?_)
    refine v_aload_n (pc := 20) 0 dX7_hourGoes_20 rfl rfl ?_
    refine g_X7_48 (pc := 21) (cMr_obj) (by decide) rfl dX7_hourGoes_21 ?_
    refine v_iload (pc := 24) 4 dX7_hourGoes_24 rfl ?_
    refine v_iload (pc := 26) 4 dX7_hourGoes_26 rfl ?_
    refine v_iload_n (pc := 28) 3 dX7_hourGoes_28 rfl rfl ?_
    refine v_icmp_ne (pc := 29) (tgt := 36) dX7_hourGoes_29 rfl (fun c_29 => ?_) (fun c_29 => ?_)
    · refine v_aload_n (pc := 36) 0 dX7_hourGoes_36 rfl rfl ?_
      refine v_aload_n (pc := 37) 1 dX7_hourGoes_37 rfl rfl ?_
      refine v_iload (pc := 38) 4 dX7_hourGoes_38 rfl ?_
      refine v_callV (pc := 40) _ _ k_X7_154 (cMr_obj) rfl (by decide) (m_lossOnW (by omega)) ⟨rfl, rfl, by decide⟩ rfl rfl (Nat.le_of_ble_eq_true rfl) ⟨Nat.le_of_ble_eq_true rfl, Nat.le_of_ble_eq_true rfl⟩ dX7_hourGoes_40 (unS ?_)
      show V E X _ RX7 _ _ _ 0 0 _ false 146 43 _ [_, _, _] _
      refine v_iastN (pc := 43) (cM_loss) (by decide) (by omega) (by decide) dX7_hourGoes_43 (wM_loss) ?_
      refine v_iincN (pc := 44) 4 [1, 2, 3, 4, 0] [(0, _), (1, _), (2, _), (3, _), (4, _)] kI_1 dX7_hourGoes_44 rfl (by decide) rfl ?_
      refine v_goto (pc := 47) (tgt := 9) dX7_hourGoes_47 rfl ?_
      rw [if_neg c_29] at ih
      exact ih
    · refine v_iconst (pc := 32) (nI 0) dX7_hourGoes_32 kI_0 ?_
      refine v_goto (pc := 33) (tgt := 43) dX7_hourGoes_33 rfl ?_
      refine v_iastN (pc := 43) (cM_loss) (by decide) (by omega) (by decide) dX7_hourGoes_43 (wM_loss) ?_
      refine v_iincN (pc := 44) 4 [1, 2, 3, 4, 0] [(0, _), (1, _), (2, _), (3, _), (4, _)] kI_1 dX7_hourGoes_44 rfl (by decide) rfl ?_
      refine v_goto (pc := 47) (tgt := 9) dX7_hourGoes_47 rfl ?_
      rw [if_pos c_29] at ih
      exact ih
set_option maxHeartbeats 4000000 in
set_option maxRecDepth 100000 in
theorem m_hourST {E : Ev} {c : CSt} {xP xR xW xS xZ xG xK xT xQ xF xB xL xC : Fn} {un sz wm fm bm at_ bg fg : Nat} {ft sg vl wr : Int32} {sd : Int64} {np : Nat} (hp : xP 2 = nI np) (hnp : np ≤ 7) (ht : Trc xS) (hdu : ¬ xP 1 = 0) : Ct E yX7_hourGoes cX7_hourGoes 5 none ({ frames := 3, cells := 0, slots := 0, locals := 65 } : Room) false 146 [.ref (Ez E + 132), .ref (Ez E + 136), .int (nI 1)] (cellOf E (c, (mkA xP xR xW xS xZ xG xK xT xQ xF xB xL xC, (nI un, nI sz, ft, nI wm, nI fm, nI bm, nI at_, nI bg, sg, nI fg, vl, wr), sd))) 146 0 0 (Ff none (cellOf E (c, (mkA xP xR xW (m_hrD xP xS xL np) xZ xG xK xT xQ xF xB (m_lo xP xS xL np) xC, (nI un, nI sz, ft, nI wm, nI fm, nI bm, nI at_, nI bg, sg, nI fg, vl, wr), sd)))) := by
  refine Ct.ofV (by decide) (Nat.le_of_ble_eq_true rfl) (fun X hnm => ?_)
  show V E X _ RX7 _ _ _ _ _ _ false 146 0 [(0, .ref (Ez E + 132)), (1, .ref (Ez E + 136)), (2, .int (nI 1))] [] _
  refine v_aload_n (pc := 0) 0 dX7_hourGoes_0 rfl rfl ?_
  refine v_aload_n (pc := 1) 1 dX7_hourGoes_1 rfl rfl ?_
  refine v_callV (pc := 2) _ _ k_X7_150 (cMr_obj) rfl (by decide) (m_drawerS hp hnp) ⟨rfl, rfl, by decide⟩ rfl rfl (Nat.le_of_ble_eq_true rfl) ⟨Nat.le_of_ble_eq_true rfl, Nat.le_of_ble_eq_true rfl⟩ dX7_hourGoes_2 (unS ?_)
  show V E X _ RX7 _ _ _ 0 0 _ false 146 5 _ [_] _
  have hdp := m_drw_plc xS np hnp
  generalize hdw : m_drw xS np = dw at hdp ⊢
  refine v_istore_n (pc := 5) [1, 2, 3, 0] [(0, _), (1, _), (2, _), (3, _)] dX7_hourGoes_5 rfl (by decide) rfl ?_
  refine v_iconst (pc := 6) (nI 0) dX7_hourGoes_6 kI_0 ?_
  refine v_istore (pc := 7) [1, 2, 3, 4, 0] [(0, _), (1, _), (2, _), (3, _), (4, _)] dX7_hourGoes_7 (by decide) rfl ?_
  refine dn (P := fun i => V E X ({ frames := 3, cells := 0, slots := 0, locals := 65 } : Room) RX7 cX7_hourGoes 5 none 0 0 (QX E X false 146 (Ff none (cellOf E (c, (mkA xP xR xW (m_hrD xP xS xL np) xZ xG xK xT xQ xF xB (m_lo xP xS xL np) xC, (nI un, nI sz, ft, nI wm, nI fm, nI bm, nI at_, nI bg, sg, nI fg, vl, wr), sd)))) 0 0) false 146 9 [(0, .ref (Ez E + 132)), (1, .ref (Ez E + 136)), (2, .int (nI 1)), (3, .int dw), (4, .int (nI i))] [] (cellOf E (c, (mkA xP xR xW xS xZ xG xK xT xQ xF xB (itn (fun p f => upd f p (if nI p = dw then nI 0 else loI xP xS p)) i xL) xC, (nI un, nI sz, ft, nI wm, nI fm, nI bm, nI at_, nI bg, sg, nI fg, vl, wr), sd)))) (N := np) ?_ ?_
  · generalize hl9 : itn (fun p f => upd f p (if nI p = dw then nI 0 else loI xP xS p)) np xL = l9 
    show V E X _ RX7 _ _ _ _ _ _ false 146 _ [(0, .ref (Ez E + 132)), (1, .ref (Ez E + 136)), (2, .int (nI 1)), (3, .int dw), (4, .int (nI np))] [] (cellOf E (c, (mkA xP xR xW xS xZ xG xK xT xQ xF xB l9 xC, (nI un, nI sz, ft, nI wm, nI fm, nI bm, nI at_, nI bg, sg, nI fg, vl, wr), sd)))
    refine v_iload (pc := 9) 4 dX7_hourGoes_9 rfl ?_
    refine v_aload_n (pc := 11) 0 dX7_hourGoes_11 rfl rfl ?_
    refine g_X7_7 (pc := 12) (cMr_obj) (by decide) rfl dX7_hourGoes_12 ?_
    refine v_iconst (pc := 15) (nI 2) dX7_hourGoes_15 kI_2 ?_
    refine v_ialdN (pc := 16) (cM_parish) (by decide) (by omega) (by decide) dX7_hourGoes_16 ?_
    rw [hp]
    refine v_icmp_geN (pc := 17) (by omega) (by omega) (tgt := 50) dX7_hourGoes_17 rfl (fun c_17 => ?_) (fun c_17 => False.elim ((fun c => by omega) c_17))
    refine v_iconst (pc := 50) (nI 0) dX7_hourGoes_50 kI_0 ?_
    refine v_istore (pc := 51) [1, 2, 3, 4, 0] [(0, _), (1, _), (2, _), (3, _), (4, _)] dX7_hourGoes_51 (by decide) rfl ?_
    refine dn (P := fun i => V E X ({ frames := 3, cells := 0, slots := 0, locals := 65 } : Room) RX7 cX7_hourGoes 5 none 0 0 (QX E X false 146 (Ff none (cellOf E (c, (mkA xP xR xW (m_hrD xP xS xL np) xZ xG xK xT xQ xF xB (m_lo xP xS xL np) xC, (nI un, nI sz, ft, nI wm, nI fm, nI bm, nI at_, nI bg, sg, nI fg, vl, wr), sd)))) 0 0) false 146 53 [(0, .ref (Ez E + 132)), (1, .ref (Ez E + 136)), (2, .int (nI 1)), (3, .int dw), (4, .int (nI i))] [] (cellOf E (c, (mkA xP xR xW (itn (st_mgo l9 dw) i xS) xZ xG xK xT xQ xF xB l9 xC, (nI un, nI sz, ft, nI wm, nI fm, nI bm, nI at_, nI bg, sg, nI fg, vl, wr), sd)))) (N := np) ?_ ?_
    · generalize hs9 : itn (st_mgo l9 dw) np xS = s9 
      show V E X _ RX7 _ _ _ _ _ _ false 146 _ [(0, .ref (Ez E + 132)), (1, .ref (Ez E + 136)), (2, .int (nI 1)), (3, .int dw), (4, .int (nI np))] [] (cellOf E (c, (mkA xP xR xW s9 xZ xG xK xT xQ xF xB l9 xC, (nI un, nI sz, ft, nI wm, nI fm, nI bm, nI at_, nI bg, sg, nI fg, vl, wr), sd)))
      refine v_iload (pc := 53) 4 dX7_hourGoes_53 rfl ?_
      refine v_aload_n (pc := 55) 0 dX7_hourGoes_55 rfl rfl ?_
      refine g_X7_7 (pc := 56) (cMr_obj) (by decide) rfl dX7_hourGoes_56 ?_
      refine v_iconst (pc := 59) (nI 2) dX7_hourGoes_59 kI_2 ?_
      refine v_ialdN (pc := 60) (cM_parish) (by decide) (by omega) (by decide) dX7_hourGoes_60 ?_
      rw [hp]
      refine v_icmp_geN (pc := 61) (by omega) (by omega) (tgt := 90) dX7_hourGoes_61 rfl (fun c_61 => ?_) (fun c_61 => False.elim ((fun c => by omega) c_61))
      refine v_iconst (pc := 90) (nI 0) dX7_hourGoes_90 kI_0 ?_
      refine v_istore (pc := 91) [1, 2, 3, 4, 0] [(0, _), (1, _), (2, _), (3, _), (4, _)] dX7_hourGoes_91 (by decide) rfl ?_
      refine dn (P := fun i => V E X ({ frames := 3, cells := 0, slots := 0, locals := 65 } : Room) RX7 cX7_hourGoes 5 none 0 0 (QX E X false 146 (Ff none (cellOf E (c, (mkA xP xR xW (m_hrD xP xS xL np) xZ xG xK xT xQ xF xB (m_lo xP xS xL np) xC, (nI un, nI sz, ft, nI wm, nI fm, nI bm, nI at_, nI bg, sg, nI fg, vl, wr), sd)))) 0 0) false 146 93 [(0, .ref (Ez E + 132)), (1, .ref (Ez E + 136)), (2, .int (nI 1)), (3, .int dw), (4, .int (nI i))] [] (cellOf E (c, (mkA xP xR xW (itn (fun p f => upd f (7 + p) (f (7 + p) / nI 2)) i s9) xZ xG xK xT xQ xF xB l9 xC, (nI un, nI sz, ft, nI wm, nI fm, nI bm, nI at_, nI bg, sg, nI fg, vl, wr), sd)))) (N := np) ?_ ?_
      · generalize hs8 : itn (fun p f => upd f (7 + p) (f (7 + p) / nI 2)) np s9 = s8 
        show V E X _ RX7 _ _ _ _ _ _ false 146 _ [(0, .ref (Ez E + 132)), (1, .ref (Ez E + 136)), (2, .int (nI 1)), (3, .int dw), (4, .int (nI np))] [] (cellOf E (c, (mkA xP xR xW s8 xZ xG xK xT xQ xF xB l9 xC, (nI un, nI sz, ft, nI wm, nI fm, nI bm, nI at_, nI bg, sg, nI fg, vl, wr), sd)))
        refine v_iload (pc := 93) 4 dX7_hourGoes_93 rfl ?_
        refine v_aload_n (pc := 95) 0 dX7_hourGoes_95 rfl rfl ?_
        refine g_X7_7 (pc := 96) (cMr_obj) (by decide) rfl dX7_hourGoes_96 ?_
        refine v_iconst (pc := 99) (nI 2) dX7_hourGoes_99 kI_2 ?_
        refine v_ialdN (pc := 100) (cM_parish) (by decide) (by omega) (by decide) dX7_hourGoes_100 ?_
        rw [hp]
        refine v_icmp_geN (pc := 101) (by omega) (by omega) (tgt := 121) dX7_hourGoes_101 rfl (fun c_101 => ?_) (fun c_101 => False.elim ((fun c => by omega) c_101))
        refine v_aload_n (pc := 121) 1 dX7_hourGoes_121 rfl rfl ?_
        refine v_bipush (pc := 122) (nI 16) dX7_hourGoes_122 kB_16 ?_
        refine v_dup2 (pc := 124) dX7_hourGoes_124 rfl rfl ?_
        refine v_ialdN (pc := 125) (cM_aside) (by decide) (by omega) (by decide) dX7_hourGoes_125 ?_
        refine v_iconst (pc := 126) (nI 1) dX7_hourGoes_126 kI_1 ?_
        refine v_iadd (pc := 127) dX7_hourGoes_127 ?_
        refine v_iastN (pc := 128) (cM_aside) (by decide) (by omega) (by decide) dX7_hourGoes_128 (wM_aside) ?_
        have hmr : m_hr xP xS xL np = upd s8 16 (s8 16 + nI 1) := by unfold m_hr; rw [hdw, show m_los xP xS dw np xL = l9 from hl9, show m_go l9 dw np xS = s9 from hs9, show m_half np s9 = s8 from hs8]
        rw [← hmr]
        have hth : Trc (m_hr xP xS xL np) := m_hr_trc ht hnp
        generalize hsh : m_hr xP xS xL np = sh at hth ⊢
        refine v_iload_n (pc := 129) 2 dX7_hourGoes_129 rfl rfl ?_
        refine v_if_eqN (pc := 130) (by omega) (tgt := 194) dX7_hourGoes_130 rfl (fun c_130 => False.elim ((fun z : 1 = 0 => absurd z (by decide)) c_130)) (fun c_130 => ?_)
        refine v_aload_n (pc := 133) 1 dX7_hourGoes_133 rfl rfl ?_
        refine v_bipush (pc := 134) (nI 16) dX7_hourGoes_134 kB_16 ?_
        refine v_ialdN (pc := 136) (cM_aside) (by decide) (by omega) (by decide) dX7_hourGoes_136 ?_
        refine v_aload_n (pc := 137) 0 dX7_hourGoes_137 rfl rfl ?_
        refine g_X7_7 (pc := 138) (cMr_obj) (by decide) rfl dX7_hourGoes_138 ?_
        refine v_iconst (pc := 141) (nI 1) dX7_hourGoes_141 kI_1 ?_
        refine v_ialdN (pc := 142) (cM_parish) (by decide) (by omega) (by decide) dX7_hourGoes_142 ?_
        refine v_irem (pc := 143) dX7_hourGoes_143 (hdu) ?_
        refine v_if_ne (pc := 144) (tgt := 194) dX7_hourGoes_144 rfl (fun c_144 => ?_) (fun c_144 => ?_)
        · exact v_vret (pc := 194) dX7_hourGoes_194 (⟨rfl, by rw [show m_lo xP xS xL np = l9 from by unfold m_lo; rw [hdw]; exact hl9, show m_hrD xP xS xL np = sh from by unfold m_hrD; rw [hsh, if_neg c_144]]⟩)
        · refine v_iconst (pc := 147) (nI 0) dX7_hourGoes_147 kI_0 ?_
          refine v_istore (pc := 148) [1, 2, 3, 4, 0] [(0, _), (1, _), (2, _), (3, _), (4, _)] dX7_hourGoes_148 (by decide) rfl ?_
          refine dn (P := fun i => V E X ({ frames := 3, cells := 0, slots := 0, locals := 65 } : Room) RX7 cX7_hourGoes 5 none 0 0 (QX E X false 146 (Ff none (cellOf E (c, (mkA xP xR xW (m_hrD xP xS xL np) xZ xG xK xT xQ xF xB (m_lo xP xS xL np) xC, (nI un, nI sz, ft, nI wm, nI fm, nI bm, nI at_, nI bg, sg, nI fg, vl, wr), sd)))) 0 0) false 146 150 [(0, .ref (Ez E + 132)), (1, .ref (Ez E + 136)), (2, .int (nI 1)), (3, .int dw), (4, .int (nI i))] [] (cellOf E (c, (mkA xP xR xW (itn (st_mho xP) i sh) xZ xG xK xT xQ xF xB l9 xC, (nI un, nI sz, ft, nI wm, nI fm, nI bm, nI at_, nI bg, sg, nI fg, vl, wr), sd)))) (N := np) ?_ ?_
          · refine v_iload (pc := 150) 4 dX7_hourGoes_150 rfl ?_
            refine v_aload_n (pc := 152) 0 dX7_hourGoes_152 rfl rfl ?_
            refine g_X7_7 (pc := 153) (cMr_obj) (by decide) rfl dX7_hourGoes_153 ?_
            refine v_iconst (pc := 156) (nI 2) dX7_hourGoes_156 kI_2 ?_
            refine v_ialdN (pc := 157) (cM_parish) (by decide) (by omega) (by decide) dX7_hourGoes_157 ?_
            rw [hp]
            refine v_icmp_geN (pc := 158) (by omega) (by omega) (tgt := 194) dX7_hourGoes_158 rfl (fun c_158 => ?_) (fun c_158 => False.elim ((fun c => by omega) c_158))
            exact v_vret (pc := 194) dX7_hourGoes_194 (⟨rfl, by rw [show m_lo xP xS xL np = l9 from by unfold m_lo; rw [hdw]; exact hl9, show m_hrD xP xS xL np = _ from by unfold m_hrD; rw [hsh, if_pos c_144]]; rfl⟩)
          · intro i hi ih
            have ih : V E X ({ frames := 3, cells := 0, slots := 0, locals := 65 } : Room) RX7 cX7_hourGoes 5 none 0 0 (QX E X false 146 (Ff none (cellOf E (c, (mkA xP xR xW (m_hrD xP xS xL np) xZ xG xK xT xQ xF xB (m_lo xP xS xL np) xC, (nI un, nI sz, ft, nI wm, nI fm, nI bm, nI at_, nI bg, sg, nI fg, vl, wr), sd)))) 0 0) false 146 150 [(0, .ref (Ez E + 132)), (1, .ref (Ez E + 136)), (2, .int (nI 1)), (3, .int dw), (4, .int (nI (i + 1)))] [] (cellOf E (c, (mkA xP xR xW (st_mho xP i (itn (st_mho xP) i sh)) xZ xG xK xT xQ xF xB l9 xC, (nI un, nI sz, ft, nI wm, nI fm, nI bm, nI at_, nI bg, sg, nI fg, vl, wr), sd))) := by rw [itn_s] at ih; exact ih
            generalize hf1 : itn (st_mho xP) i sh = f1 at ih ⊢
            show V E X _ RX7 _ _ _ _ _ _ false 146 _ [(0, .ref (Ez E + 132)), (1, .ref (Ez E + 136)), (2, .int (nI 1)), (3, .int dw), (4, .int (nI i))] [] (cellOf E (c, (mkA xP xR xW f1 xZ xG xK xT xQ xF xB l9 xC, (nI un, nI sz, ft, nI wm, nI fm, nI bm, nI at_, nI bg, sg, nI fg, vl, wr), sd)))
            have hT1 : Trc f1 := by rw [← hf1]; exact m_home_trc hth i (by omega)
            refine v_iload (pc := 150) 4 dX7_hourGoes_150 rfl ?_
            refine v_aload_n (pc := 152) 0 dX7_hourGoes_152 rfl rfl ?_
            refine g_X7_7 (pc := 153) (cMr_obj) (by decide) rfl dX7_hourGoes_153 ?_
            refine v_iconst (pc := 156) (nI 2) dX7_hourGoes_156 kI_2 ?_
            refine v_ialdN (pc := 157) (cM_parish) (by decide) (by omega) (by decide) dX7_hourGoes_157 ?_
            rw [hp]
            refine v_icmp_geN (pc := 158) (by omega) (by omega) (tgt := 194) dX7_hourGoes_158 rfl (fun c_158 => False.elim ((fun c => by omega) c_158)) (fun c_158 => ?_)
            refine v_aload_n (pc := 161) 0 dX7_hourGoes_161 rfl rfl ?_
            refine g_X7_7 (pc := 162) (cMr_obj) (by decide) rfl dX7_hourGoes_162 ?_
            refine v_iconst (pc := 165) (nI 4) dX7_hourGoes_165 kI_4 ?_
            refine v_iload (pc := 166) 4 dX7_hourGoes_166 rfl ?_
            refine v_iaddN (pc := 168) dX7_hourGoes_168 ?_
            refine v_ialdN (pc := 169) (cM_parish) (by decide) (by omega) (by decide) dX7_hourGoes_169 ?_
            refine v_iconst (pc := 170) (nI 2) dX7_hourGoes_170 kI_2 ?_
            refine v_icmp_eq (pc := 171) (tgt := 188) dX7_hourGoes_171 rfl (fun c_171 => ?_) (fun c_171 => ?_)
            · refine v_iincN (pc := 188) 4 [1, 2, 3, 4, 0] [(0, _), (1, _), (2, _), (3, _), (4, _)] kI_1 dX7_hourGoes_188 rfl (by decide) rfl ?_
              refine v_goto (pc := 191) (tgt := 150) dX7_hourGoes_191 rfl ?_
              rw [show st_mho xP i f1 = _ from if_pos c_171] at ih
              exact ih
            · refine v_aload_n (pc := 174) 1 dX7_hourGoes_174 rfl rfl ?_
              refine v_iload (pc := 175) 4 dX7_hourGoes_175 rfl ?_
              refine v_bipush (pc := 177) (-2) dX7_hourGoes_177 kB_m2 ?_
              refine v_aload_n (pc := 179) 1 dX7_hourGoes_179 rfl rfl ?_
              refine v_iconst (pc := 180) (nI 0) dX7_hourGoes_180 kI_0 ?_
              refine v_iload (pc := 181) 4 dX7_hourGoes_181 rfl ?_
              refine v_iaddN (pc := 183) dX7_hourGoes_183 ?_
              refine v_ialdN (pc := 184) (cM_aside) (by decide) (by omega) (by decide) dX7_hourGoes_184 ?_
              refine v_callS (pc := 185) _ _ k_X7_158 (m_fliesS hT1 (plc_n (by omega)) plc_t _) ⟨rfl, rfl, by decide⟩ rfl rfl (Nat.le_of_ble_eq_true rfl) ⟨Nat.le_of_ble_eq_true rfl, Nat.le_of_ble_eq_true rfl⟩ dX7_hourGoes_185 (unS ?_)
              show V E X _ RX7 _ _ _ 0 0 _ false 146 188 _ [] _
              refine v_iincN (pc := 188) 4 [1, 2, 3, 4, 0] [(0, _), (1, _), (2, _), (3, _), (4, _)] kI_1 dX7_hourGoes_188 rfl (by decide) rfl ?_
              refine v_goto (pc := 191) (tgt := 150) dX7_hourGoes_191 rfl ?_
              rw [show st_mho xP i f1 = _ from if_neg c_171] at ih
              exact ih
      · intro i hi ih
        have ih : V E X ({ frames := 3, cells := 0, slots := 0, locals := 65 } : Room) RX7 cX7_hourGoes 5 none 0 0 (QX E X false 146 (Ff none (cellOf E (c, (mkA xP xR xW (m_hrD xP xS xL np) xZ xG xK xT xQ xF xB (m_lo xP xS xL np) xC, (nI un, nI sz, ft, nI wm, nI fm, nI bm, nI at_, nI bg, sg, nI fg, vl, wr), sd)))) 0 0) false 146 93 [(0, .ref (Ez E + 132)), (1, .ref (Ez E + 136)), (2, .int (nI 1)), (3, .int dw), (4, .int (nI (i + 1)))] [] (cellOf E (c, (mkA xP xR xW (upd (itn (fun p f => upd f (7 + p) (f (7 + p) / nI 2)) i s9) (7 + i) ((itn (fun p f => upd f (7 + p) (f (7 + p) / nI 2)) i s9) (7 + i) / nI 2)) xZ xG xK xT xQ xF xB l9 xC, (nI un, nI sz, ft, nI wm, nI fm, nI bm, nI at_, nI bg, sg, nI fg, vl, wr), sd))) := by rw [itn_s] at ih; exact ih
        generalize itn (fun p f => upd f (7 + p) (f (7 + p) / nI 2)) i s9 = f1 at ih ⊢
        show V E X _ RX7 _ _ _ _ _ _ false 146 _ [(0, .ref (Ez E + 132)), (1, .ref (Ez E + 136)), (2, .int (nI 1)), (3, .int dw), (4, .int (nI i))] [] (cellOf E (c, (mkA xP xR xW f1 xZ xG xK xT xQ xF xB l9 xC, (nI un, nI sz, ft, nI wm, nI fm, nI bm, nI at_, nI bg, sg, nI fg, vl, wr), sd)))
        refine v_iload (pc := 93) 4 dX7_hourGoes_93 rfl ?_
        refine v_aload_n (pc := 95) 0 dX7_hourGoes_95 rfl rfl ?_
        refine g_X7_7 (pc := 96) (cMr_obj) (by decide) rfl dX7_hourGoes_96 ?_
        refine v_iconst (pc := 99) (nI 2) dX7_hourGoes_99 kI_2 ?_
        refine v_ialdN (pc := 100) (cM_parish) (by decide) (by omega) (by decide) dX7_hourGoes_100 ?_
        rw [hp]
        refine v_icmp_geN (pc := 101) (by omega) (by omega) (tgt := 121) dX7_hourGoes_101 rfl (fun c_101 => False.elim ((fun c => by omega) c_101)) (fun c_101 => ?_)
        refine v_aload_n (pc := 104) 1 dX7_hourGoes_104 rfl rfl ?_
        refine v_bipush (pc := 105) (nI 7) dX7_hourGoes_105 kB_7 ?_
        refine v_iload (pc := 107) 4 dX7_hourGoes_107 rfl ?_
        refine v_iaddN (pc := 109) dX7_hourGoes_109 ?_
        refine v_dup2 (pc := 110) dX7_hourGoes_110 rfl rfl ?_
        refine v_ialdN (pc := 111) (cM_aside) (by decide) (by omega) (by decide) dX7_hourGoes_111 ?_
        refine v_iconst (pc := 112) (nI 2) dX7_hourGoes_112 kI_2 ?_
        refine v_idiv (pc := 113) dX7_hourGoes_113 (by decide) ?_
        refine v_iastN (pc := 114) (cM_aside) (by decide) (by omega) (by decide) dX7_hourGoes_114 (wM_aside) ?_
        refine v_iincN (pc := 115) 4 [1, 2, 3, 4, 0] [(0, _), (1, _), (2, _), (3, _), (4, _)] kI_1 dX7_hourGoes_115 rfl (by decide) rfl ?_
        refine v_goto (pc := 118) (tgt := 93) dX7_hourGoes_118 rfl ?_
        exact ih
    · intro i hi ih
      have ih : V E X ({ frames := 3, cells := 0, slots := 0, locals := 65 } : Room) RX7 cX7_hourGoes 5 none 0 0 (QX E X false 146 (Ff none (cellOf E (c, (mkA xP xR xW (m_hrD xP xS xL np) xZ xG xK xT xQ xF xB (m_lo xP xS xL np) xC, (nI un, nI sz, ft, nI wm, nI fm, nI bm, nI at_, nI bg, sg, nI fg, vl, wr), sd)))) 0 0) false 146 53 [(0, .ref (Ez E + 132)), (1, .ref (Ez E + 136)), (2, .int (nI 1)), (3, .int dw), (4, .int (nI (i + 1)))] [] (cellOf E (c, (mkA xP xR xW (st_mgo l9 dw i (itn (st_mgo l9 dw) i xS)) xZ xG xK xT xQ xF xB l9 xC, (nI un, nI sz, ft, nI wm, nI fm, nI bm, nI at_, nI bg, sg, nI fg, vl, wr), sd))) := by rw [itn_s] at ih; exact ih
      generalize hf1 : itn (st_mgo l9 dw) i xS = f1 at ih ⊢
      show V E X _ RX7 _ _ _ _ _ _ false 146 _ [(0, .ref (Ez E + 132)), (1, .ref (Ez E + 136)), (2, .int (nI 1)), (3, .int dw), (4, .int (nI i))] [] (cellOf E (c, (mkA xP xR xW f1 xZ xG xK xT xQ xF xB l9 xC, (nI un, nI sz, ft, nI wm, nI fm, nI bm, nI at_, nI bg, sg, nI fg, vl, wr), sd)))
      have hT1 : Trc f1 := by rw [← hf1]; exact m_go_trc ht hdp i (by omega)
      refine v_iload (pc := 53) 4 dX7_hourGoes_53 rfl ?_
      refine v_aload_n (pc := 55) 0 dX7_hourGoes_55 rfl rfl ?_
      refine g_X7_7 (pc := 56) (cMr_obj) (by decide) rfl dX7_hourGoes_56 ?_
      refine v_iconst (pc := 59) (nI 2) dX7_hourGoes_59 kI_2 ?_
      refine v_ialdN (pc := 60) (cM_parish) (by decide) (by omega) (by decide) dX7_hourGoes_60 ?_
      rw [hp]
      refine v_icmp_geN (pc := 61) (by omega) (by omega) (tgt := 90) dX7_hourGoes_61 rfl (fun c_61 => False.elim ((fun c => by omega) c_61)) (fun c_61 => ?_)
      refine v_iload (pc := 64) 4 dX7_hourGoes_64 rfl ?_
      refine v_iload_n (pc := 66) 3 dX7_hourGoes_66 rfl rfl ?_
      refine v_icmp_eq (pc := 67) (tgt := 84) dX7_hourGoes_67 rfl (fun c_67 => ?_) (fun c_67 => ?_)
      · refine v_iincN (pc := 84) 4 [1, 2, 3, 4, 0] [(0, _), (1, _), (2, _), (3, _), (4, _)] kI_1 dX7_hourGoes_84 rfl (by decide) rfl ?_
        refine v_goto (pc := 87) (tgt := 53) dX7_hourGoes_87 rfl ?_
        rw [show st_mgo l9 dw i f1 = _ from if_pos c_67] at ih
        exact ih
      · refine v_aload_n (pc := 70) 1 dX7_hourGoes_70 rfl rfl ?_
        refine v_iload (pc := 71) 4 dX7_hourGoes_71 rfl ?_
        refine v_iload_n (pc := 73) 3 dX7_hourGoes_73 rfl rfl ?_
        refine v_aload_n (pc := 74) 0 dX7_hourGoes_74 rfl rfl ?_
        refine g_X7_48 (pc := 75) (cMr_obj) (by decide) rfl dX7_hourGoes_75 ?_
        refine v_iload (pc := 78) 4 dX7_hourGoes_78 rfl ?_
        refine v_ialdN (pc := 80) (cM_loss) (by decide) (by omega) (by decide) dX7_hourGoes_80 ?_
        refine v_callS (pc := 81) _ _ k_X7_158 (m_fliesS hT1 (plc_n (by omega)) hdp _) ⟨rfl, rfl, by decide⟩ rfl rfl (Nat.le_of_ble_eq_true rfl) ⟨Nat.le_of_ble_eq_true rfl, Nat.le_of_ble_eq_true rfl⟩ dX7_hourGoes_81 (unS ?_)
        show V E X _ RX7 _ _ _ 0 0 _ false 146 84 _ [] _
        refine v_iincN (pc := 84) 4 [1, 2, 3, 4, 0] [(0, _), (1, _), (2, _), (3, _), (4, _)] kI_1 dX7_hourGoes_84 rfl (by decide) rfl ?_
        refine v_goto (pc := 87) (tgt := 53) dX7_hourGoes_87 rfl ?_
        rw [show st_mgo l9 dw i f1 = _ from if_neg c_67] at ih
        exact ih
  · intro i hi ih
    have ih : V E X ({ frames := 3, cells := 0, slots := 0, locals := 65 } : Room) RX7 cX7_hourGoes 5 none 0 0 (QX E X false 146 (Ff none (cellOf E (c, (mkA xP xR xW (m_hrD xP xS xL np) xZ xG xK xT xQ xF xB (m_lo xP xS xL np) xC, (nI un, nI sz, ft, nI wm, nI fm, nI bm, nI at_, nI bg, sg, nI fg, vl, wr), sd)))) 0 0) false 146 9 [(0, .ref (Ez E + 132)), (1, .ref (Ez E + 136)), (2, .int (nI 1)), (3, .int dw), (4, .int (nI (i + 1)))] [] (cellOf E (c, (mkA xP xR xW xS xZ xG xK xT xQ xF xB (upd (itn (fun p f => upd f p (if nI p = dw then nI 0 else loI xP xS p)) i xL) i (if nI i = dw then nI 0 else loI xP xS i)) xC, (nI un, nI sz, ft, nI wm, nI fm, nI bm, nI at_, nI bg, sg, nI fg, vl, wr), sd))) := by rw [itn_s] at ih; exact ih
    generalize itn (fun p f => upd f p (if nI p = dw then nI 0 else loI xP xS p)) i xL = f1 at ih ⊢
    show V E X _ RX7 _ _ _ _ _ _ false 146 _ [(0, .ref (Ez E + 132)), (1, .ref (Ez E + 136)), (2, .int (nI 1)), (3, .int dw), (4, .int (nI i))] [] (cellOf E (c, (mkA xP xR xW xS xZ xG xK xT xQ xF xB f1 xC, (nI un, nI sz, ft, nI wm, nI fm, nI bm, nI at_, nI bg, sg, nI fg, vl, wr), sd)))
    refine v_iload (pc := 9) 4 dX7_hourGoes_9 rfl ?_
    refine v_aload_n (pc := 11) 0 dX7_hourGoes_11 rfl rfl ?_
    refine g_X7_7 (pc := 12) (cMr_obj) (by decide) rfl dX7_hourGoes_12 ?_
    refine v_iconst (pc := 15) (nI 2) dX7_hourGoes_15 kI_2 ?_
    refine v_ialdN (pc := 16) (cM_parish) (by decide) (by omega) (by decide) dX7_hourGoes_16 ?_
    rw [hp]
    refine v_icmp_geN (pc := 17) (by omega) (by omega) (tgt := 50) dX7_hourGoes_17 rfl (fun c_17 => False.elim ((fun c => by omega) c_17)) (fun c_17 => ?_)
    refine v_aload_n (pc := 20) 0 dX7_hourGoes_20 rfl rfl ?_
    refine g_X7_48 (pc := 21) (cMr_obj) (by decide) rfl dX7_hourGoes_21 ?_
    refine v_iload (pc := 24) 4 dX7_hourGoes_24 rfl ?_
    refine v_iload (pc := 26) 4 dX7_hourGoes_26 rfl ?_
    refine v_iload_n (pc := 28) 3 dX7_hourGoes_28 rfl rfl ?_
    refine v_icmp_ne (pc := 29) (tgt := 36) dX7_hourGoes_29 rfl (fun c_29 => ?_) (fun c_29 => ?_)
    · refine v_aload_n (pc := 36) 0 dX7_hourGoes_36 rfl rfl ?_
      refine v_aload_n (pc := 37) 1 dX7_hourGoes_37 rfl rfl ?_
      refine v_iload (pc := 38) 4 dX7_hourGoes_38 rfl ?_
      refine v_callV (pc := 40) _ _ k_X7_154 (cMr_obj) rfl (by decide) (m_lossOnS (by omega)) ⟨rfl, rfl, by decide⟩ rfl rfl (Nat.le_of_ble_eq_true rfl) ⟨Nat.le_of_ble_eq_true rfl, Nat.le_of_ble_eq_true rfl⟩ dX7_hourGoes_40 (unS ?_)
      show V E X _ RX7 _ _ _ 0 0 _ false 146 43 _ [_, _, _] _
      refine v_iastN (pc := 43) (cM_loss) (by decide) (by omega) (by decide) dX7_hourGoes_43 (wM_loss) ?_
      refine v_iincN (pc := 44) 4 [1, 2, 3, 4, 0] [(0, _), (1, _), (2, _), (3, _), (4, _)] kI_1 dX7_hourGoes_44 rfl (by decide) rfl ?_
      refine v_goto (pc := 47) (tgt := 9) dX7_hourGoes_47 rfl ?_
      rw [if_neg c_29] at ih
      exact ih
    · refine v_iconst (pc := 32) (nI 0) dX7_hourGoes_32 kI_0 ?_
      refine v_goto (pc := 33) (tgt := 43) dX7_hourGoes_33 rfl ?_
      refine v_iastN (pc := 43) (cM_loss) (by decide) (by omega) (by decide) dX7_hourGoes_43 (wM_loss) ?_
      refine v_iincN (pc := 44) 4 [1, 2, 3, 4, 0] [(0, _), (1, _), (2, _), (3, _), (4, _)] kI_1 dX7_hourGoes_44 rfl (by decide) rfl ?_
      refine v_goto (pc := 47) (tgt := 9) dX7_hourGoes_47 rfl ?_
      rw [if_pos c_29] at ih
      exact ih
set_option maxHeartbeats 4000000 in
set_option maxRecDepth 100000 in
theorem m_hourSF {E : Ev} {c : CSt} {xP xR xW xS xZ xG xK xT xQ xF xB xL xC : Fn} {un sz wm fm bm at_ bg fg : Nat} {ft sg vl wr : Int32} {sd : Int64} {np : Nat} (hp : xP 2 = nI np) (hnp : np ≤ 7) (ht : Trc xS) : Ct E yX7_hourGoes cX7_hourGoes 5 none ({ frames := 3, cells := 0, slots := 0, locals := 65 } : Room) false 146 [.ref (Ez E + 132), .ref (Ez E + 136), .int (nI 0)] (cellOf E (c, (mkA xP xR xW xS xZ xG xK xT xQ xF xB xL xC, (nI un, nI sz, ft, nI wm, nI fm, nI bm, nI at_, nI bg, sg, nI fg, vl, wr), sd))) 146 0 0 (Ff none (cellOf E (c, (mkA xP xR xW (m_hr xP xS xL np) xZ xG xK xT xQ xF xB (m_lo xP xS xL np) xC, (nI un, nI sz, ft, nI wm, nI fm, nI bm, nI at_, nI bg, sg, nI fg, vl, wr), sd)))) := by
  refine Ct.ofV (by decide) (Nat.le_of_ble_eq_true rfl) (fun X hnm => ?_)
  show V E X _ RX7 _ _ _ _ _ _ false 146 0 [(0, .ref (Ez E + 132)), (1, .ref (Ez E + 136)), (2, .int (nI 0))] [] _
  refine v_aload_n (pc := 0) 0 dX7_hourGoes_0 rfl rfl ?_
  refine v_aload_n (pc := 1) 1 dX7_hourGoes_1 rfl rfl ?_
  refine v_callV (pc := 2) _ _ k_X7_150 (cMr_obj) rfl (by decide) (m_drawerS hp hnp) ⟨rfl, rfl, by decide⟩ rfl rfl (Nat.le_of_ble_eq_true rfl) ⟨Nat.le_of_ble_eq_true rfl, Nat.le_of_ble_eq_true rfl⟩ dX7_hourGoes_2 (unS ?_)
  show V E X _ RX7 _ _ _ 0 0 _ false 146 5 _ [_] _
  have hdp := m_drw_plc xS np hnp
  generalize hdw : m_drw xS np = dw at hdp ⊢
  refine v_istore_n (pc := 5) [1, 2, 3, 0] [(0, _), (1, _), (2, _), (3, _)] dX7_hourGoes_5 rfl (by decide) rfl ?_
  refine v_iconst (pc := 6) (nI 0) dX7_hourGoes_6 kI_0 ?_
  refine v_istore (pc := 7) [1, 2, 3, 4, 0] [(0, _), (1, _), (2, _), (3, _), (4, _)] dX7_hourGoes_7 (by decide) rfl ?_
  refine dn (P := fun i => V E X ({ frames := 3, cells := 0, slots := 0, locals := 65 } : Room) RX7 cX7_hourGoes 5 none 0 0 (QX E X false 146 (Ff none (cellOf E (c, (mkA xP xR xW (m_hr xP xS xL np) xZ xG xK xT xQ xF xB (m_lo xP xS xL np) xC, (nI un, nI sz, ft, nI wm, nI fm, nI bm, nI at_, nI bg, sg, nI fg, vl, wr), sd)))) 0 0) false 146 9 [(0, .ref (Ez E + 132)), (1, .ref (Ez E + 136)), (2, .int (nI 0)), (3, .int dw), (4, .int (nI i))] [] (cellOf E (c, (mkA xP xR xW xS xZ xG xK xT xQ xF xB (itn (fun p f => upd f p (if nI p = dw then nI 0 else loI xP xS p)) i xL) xC, (nI un, nI sz, ft, nI wm, nI fm, nI bm, nI at_, nI bg, sg, nI fg, vl, wr), sd)))) (N := np) ?_ ?_
  · generalize hl9 : itn (fun p f => upd f p (if nI p = dw then nI 0 else loI xP xS p)) np xL = l9 
    show V E X _ RX7 _ _ _ _ _ _ false 146 _ [(0, .ref (Ez E + 132)), (1, .ref (Ez E + 136)), (2, .int (nI 0)), (3, .int dw), (4, .int (nI np))] [] (cellOf E (c, (mkA xP xR xW xS xZ xG xK xT xQ xF xB l9 xC, (nI un, nI sz, ft, nI wm, nI fm, nI bm, nI at_, nI bg, sg, nI fg, vl, wr), sd)))
    refine v_iload (pc := 9) 4 dX7_hourGoes_9 rfl ?_
    refine v_aload_n (pc := 11) 0 dX7_hourGoes_11 rfl rfl ?_
    refine g_X7_7 (pc := 12) (cMr_obj) (by decide) rfl dX7_hourGoes_12 ?_
    refine v_iconst (pc := 15) (nI 2) dX7_hourGoes_15 kI_2 ?_
    refine v_ialdN (pc := 16) (cM_parish) (by decide) (by omega) (by decide) dX7_hourGoes_16 ?_
    rw [hp]
    refine v_icmp_geN (pc := 17) (by omega) (by omega) (tgt := 50) dX7_hourGoes_17 rfl (fun c_17 => ?_) (fun c_17 => False.elim ((fun c => by omega) c_17))
    refine v_iconst (pc := 50) (nI 0) dX7_hourGoes_50 kI_0 ?_
    refine v_istore (pc := 51) [1, 2, 3, 4, 0] [(0, _), (1, _), (2, _), (3, _), (4, _)] dX7_hourGoes_51 (by decide) rfl ?_
    refine dn (P := fun i => V E X ({ frames := 3, cells := 0, slots := 0, locals := 65 } : Room) RX7 cX7_hourGoes 5 none 0 0 (QX E X false 146 (Ff none (cellOf E (c, (mkA xP xR xW (m_hr xP xS xL np) xZ xG xK xT xQ xF xB (m_lo xP xS xL np) xC, (nI un, nI sz, ft, nI wm, nI fm, nI bm, nI at_, nI bg, sg, nI fg, vl, wr), sd)))) 0 0) false 146 53 [(0, .ref (Ez E + 132)), (1, .ref (Ez E + 136)), (2, .int (nI 0)), (3, .int dw), (4, .int (nI i))] [] (cellOf E (c, (mkA xP xR xW (itn (st_mgo l9 dw) i xS) xZ xG xK xT xQ xF xB l9 xC, (nI un, nI sz, ft, nI wm, nI fm, nI bm, nI at_, nI bg, sg, nI fg, vl, wr), sd)))) (N := np) ?_ ?_
    · generalize hs9 : itn (st_mgo l9 dw) np xS = s9 
      show V E X _ RX7 _ _ _ _ _ _ false 146 _ [(0, .ref (Ez E + 132)), (1, .ref (Ez E + 136)), (2, .int (nI 0)), (3, .int dw), (4, .int (nI np))] [] (cellOf E (c, (mkA xP xR xW s9 xZ xG xK xT xQ xF xB l9 xC, (nI un, nI sz, ft, nI wm, nI fm, nI bm, nI at_, nI bg, sg, nI fg, vl, wr), sd)))
      refine v_iload (pc := 53) 4 dX7_hourGoes_53 rfl ?_
      refine v_aload_n (pc := 55) 0 dX7_hourGoes_55 rfl rfl ?_
      refine g_X7_7 (pc := 56) (cMr_obj) (by decide) rfl dX7_hourGoes_56 ?_
      refine v_iconst (pc := 59) (nI 2) dX7_hourGoes_59 kI_2 ?_
      refine v_ialdN (pc := 60) (cM_parish) (by decide) (by omega) (by decide) dX7_hourGoes_60 ?_
      rw [hp]
      refine v_icmp_geN (pc := 61) (by omega) (by omega) (tgt := 90) dX7_hourGoes_61 rfl (fun c_61 => ?_) (fun c_61 => False.elim ((fun c => by omega) c_61))
      refine v_iconst (pc := 90) (nI 0) dX7_hourGoes_90 kI_0 ?_
      refine v_istore (pc := 91) [1, 2, 3, 4, 0] [(0, _), (1, _), (2, _), (3, _), (4, _)] dX7_hourGoes_91 (by decide) rfl ?_
      refine dn (P := fun i => V E X ({ frames := 3, cells := 0, slots := 0, locals := 65 } : Room) RX7 cX7_hourGoes 5 none 0 0 (QX E X false 146 (Ff none (cellOf E (c, (mkA xP xR xW (m_hr xP xS xL np) xZ xG xK xT xQ xF xB (m_lo xP xS xL np) xC, (nI un, nI sz, ft, nI wm, nI fm, nI bm, nI at_, nI bg, sg, nI fg, vl, wr), sd)))) 0 0) false 146 93 [(0, .ref (Ez E + 132)), (1, .ref (Ez E + 136)), (2, .int (nI 0)), (3, .int dw), (4, .int (nI i))] [] (cellOf E (c, (mkA xP xR xW (itn (fun p f => upd f (7 + p) (f (7 + p) / nI 2)) i s9) xZ xG xK xT xQ xF xB l9 xC, (nI un, nI sz, ft, nI wm, nI fm, nI bm, nI at_, nI bg, sg, nI fg, vl, wr), sd)))) (N := np) ?_ ?_
      · generalize hs8 : itn (fun p f => upd f (7 + p) (f (7 + p) / nI 2)) np s9 = s8 
        show V E X _ RX7 _ _ _ _ _ _ false 146 _ [(0, .ref (Ez E + 132)), (1, .ref (Ez E + 136)), (2, .int (nI 0)), (3, .int dw), (4, .int (nI np))] [] (cellOf E (c, (mkA xP xR xW s8 xZ xG xK xT xQ xF xB l9 xC, (nI un, nI sz, ft, nI wm, nI fm, nI bm, nI at_, nI bg, sg, nI fg, vl, wr), sd)))
        refine v_iload (pc := 93) 4 dX7_hourGoes_93 rfl ?_
        refine v_aload_n (pc := 95) 0 dX7_hourGoes_95 rfl rfl ?_
        refine g_X7_7 (pc := 96) (cMr_obj) (by decide) rfl dX7_hourGoes_96 ?_
        refine v_iconst (pc := 99) (nI 2) dX7_hourGoes_99 kI_2 ?_
        refine v_ialdN (pc := 100) (cM_parish) (by decide) (by omega) (by decide) dX7_hourGoes_100 ?_
        rw [hp]
        refine v_icmp_geN (pc := 101) (by omega) (by omega) (tgt := 121) dX7_hourGoes_101 rfl (fun c_101 => ?_) (fun c_101 => False.elim ((fun c => by omega) c_101))
        refine v_aload_n (pc := 121) 1 dX7_hourGoes_121 rfl rfl ?_
        refine v_bipush (pc := 122) (nI 16) dX7_hourGoes_122 kB_16 ?_
        refine v_dup2 (pc := 124) dX7_hourGoes_124 rfl rfl ?_
        refine v_ialdN (pc := 125) (cM_aside) (by decide) (by omega) (by decide) dX7_hourGoes_125 ?_
        refine v_iconst (pc := 126) (nI 1) dX7_hourGoes_126 kI_1 ?_
        refine v_iadd (pc := 127) dX7_hourGoes_127 ?_
        refine v_iastN (pc := 128) (cM_aside) (by decide) (by omega) (by decide) dX7_hourGoes_128 (wM_aside) ?_
        have hmr : m_hr xP xS xL np = upd s8 16 (s8 16 + nI 1) := by unfold m_hr; rw [hdw, show m_los xP xS dw np xL = l9 from hl9, show m_go l9 dw np xS = s9 from hs9, show m_half np s9 = s8 from hs8]
        rw [← hmr]
        have hth : Trc (m_hr xP xS xL np) := m_hr_trc ht hnp
        generalize hsh : m_hr xP xS xL np = sh at hth ⊢
        refine v_iload_n (pc := 129) 2 dX7_hourGoes_129 rfl rfl ?_
        refine v_if_eqN (pc := 130) (by omega) (tgt := 194) dX7_hourGoes_130 rfl (fun c_130 => ?_) (fun c_130 => False.elim ((fun z => z (by rfl)) c_130))
        exact v_vret (pc := 194) dX7_hourGoes_194 (⟨rfl, by rw [show m_lo xP xS xL np = l9 from by unfold m_lo; rw [hdw]; exact hl9]⟩)
      · intro i hi ih
        have ih : V E X ({ frames := 3, cells := 0, slots := 0, locals := 65 } : Room) RX7 cX7_hourGoes 5 none 0 0 (QX E X false 146 (Ff none (cellOf E (c, (mkA xP xR xW (m_hr xP xS xL np) xZ xG xK xT xQ xF xB (m_lo xP xS xL np) xC, (nI un, nI sz, ft, nI wm, nI fm, nI bm, nI at_, nI bg, sg, nI fg, vl, wr), sd)))) 0 0) false 146 93 [(0, .ref (Ez E + 132)), (1, .ref (Ez E + 136)), (2, .int (nI 0)), (3, .int dw), (4, .int (nI (i + 1)))] [] (cellOf E (c, (mkA xP xR xW (upd (itn (fun p f => upd f (7 + p) (f (7 + p) / nI 2)) i s9) (7 + i) ((itn (fun p f => upd f (7 + p) (f (7 + p) / nI 2)) i s9) (7 + i) / nI 2)) xZ xG xK xT xQ xF xB l9 xC, (nI un, nI sz, ft, nI wm, nI fm, nI bm, nI at_, nI bg, sg, nI fg, vl, wr), sd))) := by rw [itn_s] at ih; exact ih
        generalize itn (fun p f => upd f (7 + p) (f (7 + p) / nI 2)) i s9 = f1 at ih ⊢
        show V E X _ RX7 _ _ _ _ _ _ false 146 _ [(0, .ref (Ez E + 132)), (1, .ref (Ez E + 136)), (2, .int (nI 0)), (3, .int dw), (4, .int (nI i))] [] (cellOf E (c, (mkA xP xR xW f1 xZ xG xK xT xQ xF xB l9 xC, (nI un, nI sz, ft, nI wm, nI fm, nI bm, nI at_, nI bg, sg, nI fg, vl, wr), sd)))
        refine v_iload (pc := 93) 4 dX7_hourGoes_93 rfl ?_
        refine v_aload_n (pc := 95) 0 dX7_hourGoes_95 rfl rfl ?_
        refine g_X7_7 (pc := 96) (cMr_obj) (by decide) rfl dX7_hourGoes_96 ?_
        refine v_iconst (pc := 99) (nI 2) dX7_hourGoes_99 kI_2 ?_
        refine v_ialdN (pc := 100) (cM_parish) (by decide) (by omega) (by decide) dX7_hourGoes_100 ?_
        rw [hp]
        refine v_icmp_geN (pc := 101) (by omega) (by omega) (tgt := 121) dX7_hourGoes_101 rfl (fun c_101 => False.elim ((fun c => by omega) c_101)) (fun c_101 => ?_)
        refine v_aload_n (pc := 104) 1 dX7_hourGoes_104 rfl rfl ?_
        refine v_bipush (pc := 105) (nI 7) dX7_hourGoes_105 kB_7 ?_
        refine v_iload (pc := 107) 4 dX7_hourGoes_107 rfl ?_
        refine v_iaddN (pc := 109) dX7_hourGoes_109 ?_
        refine v_dup2 (pc := 110) dX7_hourGoes_110 rfl rfl ?_
        refine v_ialdN (pc := 111) (cM_aside) (by decide) (by omega) (by decide) dX7_hourGoes_111 ?_
        refine v_iconst (pc := 112) (nI 2) dX7_hourGoes_112 kI_2 ?_
        refine v_idiv (pc := 113) dX7_hourGoes_113 (by decide) ?_
        refine v_iastN (pc := 114) (cM_aside) (by decide) (by omega) (by decide) dX7_hourGoes_114 (wM_aside) ?_
        refine v_iincN (pc := 115) 4 [1, 2, 3, 4, 0] [(0, _), (1, _), (2, _), (3, _), (4, _)] kI_1 dX7_hourGoes_115 rfl (by decide) rfl ?_
        refine v_goto (pc := 118) (tgt := 93) dX7_hourGoes_118 rfl ?_
        exact ih
    · intro i hi ih
      have ih : V E X ({ frames := 3, cells := 0, slots := 0, locals := 65 } : Room) RX7 cX7_hourGoes 5 none 0 0 (QX E X false 146 (Ff none (cellOf E (c, (mkA xP xR xW (m_hr xP xS xL np) xZ xG xK xT xQ xF xB (m_lo xP xS xL np) xC, (nI un, nI sz, ft, nI wm, nI fm, nI bm, nI at_, nI bg, sg, nI fg, vl, wr), sd)))) 0 0) false 146 53 [(0, .ref (Ez E + 132)), (1, .ref (Ez E + 136)), (2, .int (nI 0)), (3, .int dw), (4, .int (nI (i + 1)))] [] (cellOf E (c, (mkA xP xR xW (st_mgo l9 dw i (itn (st_mgo l9 dw) i xS)) xZ xG xK xT xQ xF xB l9 xC, (nI un, nI sz, ft, nI wm, nI fm, nI bm, nI at_, nI bg, sg, nI fg, vl, wr), sd))) := by rw [itn_s] at ih; exact ih
      generalize hf1 : itn (st_mgo l9 dw) i xS = f1 at ih ⊢
      show V E X _ RX7 _ _ _ _ _ _ false 146 _ [(0, .ref (Ez E + 132)), (1, .ref (Ez E + 136)), (2, .int (nI 0)), (3, .int dw), (4, .int (nI i))] [] (cellOf E (c, (mkA xP xR xW f1 xZ xG xK xT xQ xF xB l9 xC, (nI un, nI sz, ft, nI wm, nI fm, nI bm, nI at_, nI bg, sg, nI fg, vl, wr), sd)))
      have hT1 : Trc f1 := by rw [← hf1]; exact m_go_trc ht hdp i (by omega)
      refine v_iload (pc := 53) 4 dX7_hourGoes_53 rfl ?_
      refine v_aload_n (pc := 55) 0 dX7_hourGoes_55 rfl rfl ?_
      refine g_X7_7 (pc := 56) (cMr_obj) (by decide) rfl dX7_hourGoes_56 ?_
      refine v_iconst (pc := 59) (nI 2) dX7_hourGoes_59 kI_2 ?_
      refine v_ialdN (pc := 60) (cM_parish) (by decide) (by omega) (by decide) dX7_hourGoes_60 ?_
      rw [hp]
      refine v_icmp_geN (pc := 61) (by omega) (by omega) (tgt := 90) dX7_hourGoes_61 rfl (fun c_61 => False.elim ((fun c => by omega) c_61)) (fun c_61 => ?_)
      refine v_iload (pc := 64) 4 dX7_hourGoes_64 rfl ?_
      refine v_iload_n (pc := 66) 3 dX7_hourGoes_66 rfl rfl ?_
      refine v_icmp_eq (pc := 67) (tgt := 84) dX7_hourGoes_67 rfl (fun c_67 => ?_) (fun c_67 => ?_)
      · refine v_iincN (pc := 84) 4 [1, 2, 3, 4, 0] [(0, _), (1, _), (2, _), (3, _), (4, _)] kI_1 dX7_hourGoes_84 rfl (by decide) rfl ?_
        refine v_goto (pc := 87) (tgt := 53) dX7_hourGoes_87 rfl ?_
        rw [show st_mgo l9 dw i f1 = _ from if_pos c_67] at ih
        exact ih
      · refine v_aload_n (pc := 70) 1 dX7_hourGoes_70 rfl rfl ?_
        refine v_iload (pc := 71) 4 dX7_hourGoes_71 rfl ?_
        refine v_iload_n (pc := 73) 3 dX7_hourGoes_73 rfl rfl ?_
        refine v_aload_n (pc := 74) 0 dX7_hourGoes_74 rfl rfl ?_
        refine g_X7_48 (pc := 75) (cMr_obj) (by decide) rfl dX7_hourGoes_75 ?_
        refine v_iload (pc := 78) 4 dX7_hourGoes_78 rfl ?_
        refine v_ialdN (pc := 80) (cM_loss) (by decide) (by omega) (by decide) dX7_hourGoes_80 ?_
        refine v_callS (pc := 81) _ _ k_X7_158 (m_fliesS hT1 (plc_n (by omega)) hdp _) ⟨rfl, rfl, by decide⟩ rfl rfl (Nat.le_of_ble_eq_true rfl) ⟨Nat.le_of_ble_eq_true rfl, Nat.le_of_ble_eq_true rfl⟩ dX7_hourGoes_81 (unS ?_)
        show V E X _ RX7 _ _ _ 0 0 _ false 146 84 _ [] _
        refine v_iincN (pc := 84) 4 [1, 2, 3, 4, 0] [(0, _), (1, _), (2, _), (3, _), (4, _)] kI_1 dX7_hourGoes_84 rfl (by decide) rfl ?_
        refine v_goto (pc := 87) (tgt := 53) dX7_hourGoes_87 rfl ?_
        rw [show st_mgo l9 dw i f1 = _ from if_neg c_67] at ih
        exact ih
  · intro i hi ih
    have ih : V E X ({ frames := 3, cells := 0, slots := 0, locals := 65 } : Room) RX7 cX7_hourGoes 5 none 0 0 (QX E X false 146 (Ff none (cellOf E (c, (mkA xP xR xW (m_hr xP xS xL np) xZ xG xK xT xQ xF xB (m_lo xP xS xL np) xC, (nI un, nI sz, ft, nI wm, nI fm, nI bm, nI at_, nI bg, sg, nI fg, vl, wr), sd)))) 0 0) false 146 9 [(0, .ref (Ez E + 132)), (1, .ref (Ez E + 136)), (2, .int (nI 0)), (3, .int dw), (4, .int (nI (i + 1)))] [] (cellOf E (c, (mkA xP xR xW xS xZ xG xK xT xQ xF xB (upd (itn (fun p f => upd f p (if nI p = dw then nI 0 else loI xP xS p)) i xL) i (if nI i = dw then nI 0 else loI xP xS i)) xC, (nI un, nI sz, ft, nI wm, nI fm, nI bm, nI at_, nI bg, sg, nI fg, vl, wr), sd))) := by rw [itn_s] at ih; exact ih
    generalize itn (fun p f => upd f p (if nI p = dw then nI 0 else loI xP xS p)) i xL = f1 at ih ⊢
    show V E X _ RX7 _ _ _ _ _ _ false 146 _ [(0, .ref (Ez E + 132)), (1, .ref (Ez E + 136)), (2, .int (nI 0)), (3, .int dw), (4, .int (nI i))] [] (cellOf E (c, (mkA xP xR xW xS xZ xG xK xT xQ xF xB f1 xC, (nI un, nI sz, ft, nI wm, nI fm, nI bm, nI at_, nI bg, sg, nI fg, vl, wr), sd)))
    refine v_iload (pc := 9) 4 dX7_hourGoes_9 rfl ?_
    refine v_aload_n (pc := 11) 0 dX7_hourGoes_11 rfl rfl ?_
    refine g_X7_7 (pc := 12) (cMr_obj) (by decide) rfl dX7_hourGoes_12 ?_
    refine v_iconst (pc := 15) (nI 2) dX7_hourGoes_15 kI_2 ?_
    refine v_ialdN (pc := 16) (cM_parish) (by decide) (by omega) (by decide) dX7_hourGoes_16 ?_
    rw [hp]
    refine v_icmp_geN (pc := 17) (by omega) (by omega) (tgt := 50) dX7_hourGoes_17 rfl (fun c_17 => False.elim ((fun c => by omega) c_17)) (fun c_17 => ?_)
    refine v_aload_n (pc := 20) 0 dX7_hourGoes_20 rfl rfl ?_
    refine g_X7_48 (pc := 21) (cMr_obj) (by decide) rfl dX7_hourGoes_21 ?_
    refine v_iload (pc := 24) 4 dX7_hourGoes_24 rfl ?_
    refine v_iload (pc := 26) 4 dX7_hourGoes_26 rfl ?_
    refine v_iload_n (pc := 28) 3 dX7_hourGoes_28 rfl rfl ?_
    refine v_icmp_ne (pc := 29) (tgt := 36) dX7_hourGoes_29 rfl (fun c_29 => ?_) (fun c_29 => ?_)
    · refine v_aload_n (pc := 36) 0 dX7_hourGoes_36 rfl rfl ?_
      refine v_aload_n (pc := 37) 1 dX7_hourGoes_37 rfl rfl ?_
      refine v_iload (pc := 38) 4 dX7_hourGoes_38 rfl ?_
      refine v_callV (pc := 40) _ _ k_X7_154 (cMr_obj) rfl (by decide) (m_lossOnS (by omega)) ⟨rfl, rfl, by decide⟩ rfl rfl (Nat.le_of_ble_eq_true rfl) ⟨Nat.le_of_ble_eq_true rfl, Nat.le_of_ble_eq_true rfl⟩ dX7_hourGoes_40 (unS ?_)
      show V E X _ RX7 _ _ _ 0 0 _ false 146 43 _ [_, _, _] _
      refine v_iastN (pc := 43) (cM_loss) (by decide) (by omega) (by decide) dX7_hourGoes_43 (wM_loss) ?_
      refine v_iincN (pc := 44) 4 [1, 2, 3, 4, 0] [(0, _), (1, _), (2, _), (3, _), (4, _)] kI_1 dX7_hourGoes_44 rfl (by decide) rfl ?_
      refine v_goto (pc := 47) (tgt := 9) dX7_hourGoes_47 rfl ?_
      rw [if_neg c_29] at ih
      exact ih
    · refine v_iconst (pc := 32) (nI 0) dX7_hourGoes_32 kI_0 ?_
      refine v_goto (pc := 33) (tgt := 43) dX7_hourGoes_33 rfl ?_
      refine v_iastN (pc := 43) (cM_loss) (by decide) (by omega) (by decide) dX7_hourGoes_43 (wM_loss) ?_
      refine v_iincN (pc := 44) 4 [1, 2, 3, 4, 0] [(0, _), (1, _), (2, _), (3, _), (4, _)] kI_1 dX7_hourGoes_44 rfl (by decide) rfl ?_
      refine v_goto (pc := 47) (tgt := 9) dX7_hourGoes_47 rfl ?_
      rw [if_pos c_29] at ih
      exact ih
def hatN (s : Fn) (n : Nat) : Int32 := itn (fun p a => a + s (0 + p)) n (nI 0)
set_option maxHeartbeats 4000000 in
set_option maxRecDepth 100000 in
theorem m_hatsW {E : Ev} {c : CSt} {xP xR xW xS xZ xG xK xT xQ xF xB xL xC : Fn} {un sz wm fm bm at_ bg fg : Nat} {ft sg vl wr : Int32} {sd : Int64} {np : Nat} (hp : xP 2 = nI np) (hnp : np ≤ 7) : Ct E yX7_hatsOn cX7_hatsOn 4 (some .int) ({ frames := 0, cells := 0, slots := 0, locals := 0 } : Room) false 146 [.ref (Ez E + 132), .ref (Ez E + 135)] (cellOf E (c, (mkA xP xR xW xS xZ xG xK xT xQ xF xB xL xC, (nI un, nI sz, ft, nI wm, nI fm, nI bm, nI at_, nI bg, sg, nI fg, vl, wr), sd))) 146 0 0 (Ff (some (.int (hatN xW np))) (cellOf E (c, (mkA xP xR xW xS xZ xG xK xT xQ xF xB xL xC, (nI un, nI sz, ft, nI wm, nI fm, nI bm, nI at_, nI bg, sg, nI fg, vl, wr), sd)))) := by
  refine Ct.ofV (by decide) (Nat.le_of_ble_eq_true rfl) (fun X hnm => ?_)
  show V E X _ RX7 _ _ _ _ _ _ false 146 0 [(0, .ref (Ez E + 132)), (1, .ref (Ez E + 135))] [] _
  refine v_iconst (pc := 0) (nI 0) dX7_hatsOn_0 kI_0 ?_
  refine v_istore_n (pc := 1) [1, 2, 0] [(0, _), (1, _), (2, _)] dX7_hatsOn_1 rfl (by decide) rfl ?_
  refine v_iconst (pc := 2) (nI 0) dX7_hatsOn_2 kI_0 ?_
  refine v_istore_n (pc := 3) [1, 2, 3, 0] [(0, _), (1, _), (2, _), (3, _)] dX7_hatsOn_3 rfl (by decide) rfl ?_
  refine dn (P := fun i => V E X ({ frames := 0, cells := 0, slots := 0, locals := 0 } : Room) RX7 cX7_hatsOn 4 (some .int) 0 0 (QX E X false 146 (Ff (some (.int (hatN xW np))) (cellOf E (c, (mkA xP xR xW xS xZ xG xK xT xQ xF xB xL xC, (nI un, nI sz, ft, nI wm, nI fm, nI bm, nI at_, nI bg, sg, nI fg, vl, wr), sd)))) 0 0) false 146 4 [(0, .ref (Ez E + 132)), (1, .ref (Ez E + 135)), (2, .int (hatN xW i)), (3, .int (nI i))] [] (cellOf E (c, (mkA xP xR xW xS xZ xG xK xT xQ xF xB xL xC, (nI un, nI sz, ft, nI wm, nI fm, nI bm, nI at_, nI bg, sg, nI fg, vl, wr), sd)))) (N := np) ?_ ?_
  · refine v_iload_n (pc := 4) 3 dX7_hatsOn_4 rfl rfl ?_
    refine v_aload_n (pc := 5) 0 dX7_hatsOn_5 rfl rfl ?_
    refine g_X7_7 (pc := 6) (cMr_obj) (by decide) rfl dX7_hatsOn_6 ?_
    refine v_iconst (pc := 9) (nI 2) dX7_hatsOn_9 kI_2 ?_
    refine v_ialdN (pc := 10) (cM_parish) (by decide) (by omega) (by decide) dX7_hatsOn_10 ?_
    rw [hp]
    refine v_icmp_geN (pc := 11) (by omega) (by omega) (tgt := 28) dX7_hatsOn_11 rfl (fun c_11 => ?_) (fun c_11 => False.elim ((fun c => by omega) c_11))
    refine v_iload_n (pc := 28) 2 dX7_hatsOn_28 rfl rfl ?_
    exact v_iret (pc := 29) dX7_hatsOn_29 (⟨rfl, rfl⟩)
  · intro i hi ih
    refine v_iload_n (pc := 4) 3 dX7_hatsOn_4 rfl rfl ?_
    refine v_aload_n (pc := 5) 0 dX7_hatsOn_5 rfl rfl ?_
    refine g_X7_7 (pc := 6) (cMr_obj) (by decide) rfl dX7_hatsOn_6 ?_
    refine v_iconst (pc := 9) (nI 2) dX7_hatsOn_9 kI_2 ?_
    refine v_ialdN (pc := 10) (cM_parish) (by decide) (by omega) (by decide) dX7_hatsOn_10 ?_
    rw [hp]
    refine v_icmp_geN (pc := 11) (by omega) (by omega) (tgt := 28) dX7_hatsOn_11 rfl (fun c_11 => False.elim ((fun c => by omega) c_11)) (fun c_11 => ?_)
    refine v_iload_n (pc := 14) 2 dX7_hatsOn_14 rfl rfl ?_
    refine v_aload_n (pc := 15) 1 dX7_hatsOn_15 rfl rfl ?_
    refine v_iconst (pc := 16) (nI 0) dX7_hatsOn_16 kI_0 ?_
    refine v_iload_n (pc := 17) 3 dX7_hatsOn_17 rfl rfl ?_
    refine v_iaddN (pc := 18) dX7_hatsOn_18 ?_
    refine v_ialdN (pc := 19) (cM_now) (by decide) (by omega) (by decide) dX7_hatsOn_19 ?_
    refine v_iadd (pc := 20) dX7_hatsOn_20 ?_
    refine v_istore_n (pc := 21) [1, 2, 0, 3] [(0, _), (1, _), (2, _), (3, _)] dX7_hatsOn_21 rfl (by decide) rfl ?_
    refine v_iincN (pc := 22) 3 [1, 2, 3, 0] [(0, _), (1, _), (2, _), (3, _)] kI_1 dX7_hatsOn_22 rfl (by decide) rfl ?_
    refine v_goto (pc := 25) (tgt := 4) dX7_hatsOn_25 rfl ?_
    exact ih
set_option maxHeartbeats 4000000 in
set_option maxRecDepth 100000 in
theorem m_hatsS {E : Ev} {c : CSt} {xP xR xW xS xZ xG xK xT xQ xF xB xL xC : Fn} {un sz wm fm bm at_ bg fg : Nat} {ft sg vl wr : Int32} {sd : Int64} {np : Nat} (hp : xP 2 = nI np) (hnp : np ≤ 7) : Ct E yX7_hatsOn cX7_hatsOn 4 (some .int) ({ frames := 0, cells := 0, slots := 0, locals := 0 } : Room) false 146 [.ref (Ez E + 132), .ref (Ez E + 136)] (cellOf E (c, (mkA xP xR xW xS xZ xG xK xT xQ xF xB xL xC, (nI un, nI sz, ft, nI wm, nI fm, nI bm, nI at_, nI bg, sg, nI fg, vl, wr), sd))) 146 0 0 (Ff (some (.int (hatN xS np))) (cellOf E (c, (mkA xP xR xW xS xZ xG xK xT xQ xF xB xL xC, (nI un, nI sz, ft, nI wm, nI fm, nI bm, nI at_, nI bg, sg, nI fg, vl, wr), sd)))) := by
  refine Ct.ofV (by decide) (Nat.le_of_ble_eq_true rfl) (fun X hnm => ?_)
  show V E X _ RX7 _ _ _ _ _ _ false 146 0 [(0, .ref (Ez E + 132)), (1, .ref (Ez E + 136))] [] _
  refine v_iconst (pc := 0) (nI 0) dX7_hatsOn_0 kI_0 ?_
  refine v_istore_n (pc := 1) [1, 2, 0] [(0, _), (1, _), (2, _)] dX7_hatsOn_1 rfl (by decide) rfl ?_
  refine v_iconst (pc := 2) (nI 0) dX7_hatsOn_2 kI_0 ?_
  refine v_istore_n (pc := 3) [1, 2, 3, 0] [(0, _), (1, _), (2, _), (3, _)] dX7_hatsOn_3 rfl (by decide) rfl ?_
  refine dn (P := fun i => V E X ({ frames := 0, cells := 0, slots := 0, locals := 0 } : Room) RX7 cX7_hatsOn 4 (some .int) 0 0 (QX E X false 146 (Ff (some (.int (hatN xS np))) (cellOf E (c, (mkA xP xR xW xS xZ xG xK xT xQ xF xB xL xC, (nI un, nI sz, ft, nI wm, nI fm, nI bm, nI at_, nI bg, sg, nI fg, vl, wr), sd)))) 0 0) false 146 4 [(0, .ref (Ez E + 132)), (1, .ref (Ez E + 136)), (2, .int (hatN xS i)), (3, .int (nI i))] [] (cellOf E (c, (mkA xP xR xW xS xZ xG xK xT xQ xF xB xL xC, (nI un, nI sz, ft, nI wm, nI fm, nI bm, nI at_, nI bg, sg, nI fg, vl, wr), sd)))) (N := np) ?_ ?_
  · refine v_iload_n (pc := 4) 3 dX7_hatsOn_4 rfl rfl ?_
    refine v_aload_n (pc := 5) 0 dX7_hatsOn_5 rfl rfl ?_
    refine g_X7_7 (pc := 6) (cMr_obj) (by decide) rfl dX7_hatsOn_6 ?_
    refine v_iconst (pc := 9) (nI 2) dX7_hatsOn_9 kI_2 ?_
    refine v_ialdN (pc := 10) (cM_parish) (by decide) (by omega) (by decide) dX7_hatsOn_10 ?_
    rw [hp]
    refine v_icmp_geN (pc := 11) (by omega) (by omega) (tgt := 28) dX7_hatsOn_11 rfl (fun c_11 => ?_) (fun c_11 => False.elim ((fun c => by omega) c_11))
    refine v_iload_n (pc := 28) 2 dX7_hatsOn_28 rfl rfl ?_
    exact v_iret (pc := 29) dX7_hatsOn_29 (⟨rfl, rfl⟩)
  · intro i hi ih
    refine v_iload_n (pc := 4) 3 dX7_hatsOn_4 rfl rfl ?_
    refine v_aload_n (pc := 5) 0 dX7_hatsOn_5 rfl rfl ?_
    refine g_X7_7 (pc := 6) (cMr_obj) (by decide) rfl dX7_hatsOn_6 ?_
    refine v_iconst (pc := 9) (nI 2) dX7_hatsOn_9 kI_2 ?_
    refine v_ialdN (pc := 10) (cM_parish) (by decide) (by omega) (by decide) dX7_hatsOn_10 ?_
    rw [hp]
    refine v_icmp_geN (pc := 11) (by omega) (by omega) (tgt := 28) dX7_hatsOn_11 rfl (fun c_11 => False.elim ((fun c => by omega) c_11)) (fun c_11 => ?_)
    refine v_iload_n (pc := 14) 2 dX7_hatsOn_14 rfl rfl ?_
    refine v_aload_n (pc := 15) 1 dX7_hatsOn_15 rfl rfl ?_
    refine v_iconst (pc := 16) (nI 0) dX7_hatsOn_16 kI_0 ?_
    refine v_iload_n (pc := 17) 3 dX7_hatsOn_17 rfl rfl ?_
    refine v_iaddN (pc := 18) dX7_hatsOn_18 ?_
    refine v_ialdN (pc := 19) (cM_aside) (by decide) (by omega) (by decide) dX7_hatsOn_19 ?_
    refine v_iadd (pc := 20) dX7_hatsOn_20 ?_
    refine v_istore_n (pc := 21) [1, 2, 0, 3] [(0, _), (1, _), (2, _), (3, _)] dX7_hatsOn_21 rfl (by decide) rfl ?_
    refine v_iincN (pc := 22) 3 [1, 2, 3, 0] [(0, _), (1, _), (2, _), (3, _)] kI_1 dX7_hatsOn_22 rfl (by decide) rfl ?_
    refine v_goto (pc := 25) (tgt := 4) dX7_hatsOn_25 rfl ?_
    exact ih
set_option maxHeartbeats 4000000 in
set_option maxRecDepth 100000 in
theorem m_isP {E : Ev} {c : CSt} {xP xR xW xS xZ xG xK xT xQ xF xB xL xC : Fn} {un sz wm fm bm at_ bg fg : Nat} {ft sg vl wr : Int32} {sd : Int64} (a : Int32) : Ct E yX7_isPerson cX7_isPerson 2 (some .boolean) ({ frames := 1, cells := 0, slots := 0, locals := 25 } : Room) false 146 [.ref (Ez E + 132), .int a] (cellOf E (c, (mkA xP xR xW xS xZ xG xK xT xQ xF xB xL xC, (nI un, nI sz, ft, nI wm, nI fm, nI bm, nI at_, nI bg, sg, nI fg, vl, wr), sd))) 146 0 0 (Ff (some (.int (bI (inB a (nI 0) (xP 2 - nI 1))))) (cellOf E (c, (mkA xP xR xW xS xZ xG xK xT xQ xF xB xL xC, (nI un, nI sz, ft, nI wm, nI fm, nI bm, nI at_, nI bg, sg, nI fg, vl, wr), sd)))) := by
  refine Ct.ofV (by decide) (Nat.le_of_ble_eq_true rfl) (fun X hnm => ?_)
  show V E X _ RX7 _ _ _ _ _ _ false 146 0 [(0, .ref (Ez E + 132)), (1, .int a)] [] _
  refine v_iload_n (pc := 0) 1 dX7_isPerson_0 rfl rfl ?_
  refine v_i2l (pc := 1) dX7_isPerson_1 ?_
  refine v_lconst (pc := 2) ((nI 0).toInt64) dX7_isPerson_2 (by decide) ?_
  refine v_aload_n (pc := 3) 0 dX7_isPerson_3 rfl rfl ?_
  refine g_X7_7 (pc := 4) (cMr_obj) (by decide) rfl dX7_isPerson_4 ?_
  refine v_iconst (pc := 7) (nI 2) dX7_isPerson_7 kI_2 ?_
  refine v_ialdN (pc := 8) (cM_parish) (by decide) (by omega) (by decide) dX7_isPerson_8 ?_
  refine v_iconst (pc := 9) (nI 1) dX7_isPerson_9 kI_1 ?_
  refine v_isub (pc := 10) dX7_isPerson_10 ?_
  refine v_i2l (pc := 11) dX7_isPerson_11 ?_
  refine v_callS (pc := 12) _ _ k_X7_72 (m_in _ _ _) ⟨rfl, rfl, by decide⟩ rfl rfl (Nat.le_of_ble_eq_true rfl) ⟨Nat.le_of_ble_eq_true rfl, Nat.le_of_ble_eq_true rfl⟩ dX7_isPerson_12 (unS ?_)
  show V E X _ RX7 _ _ _ 0 0 _ false 146 15 _ [_] _
  exact v_zret (pc := 15) dX7_isPerson_15 (bI_nar _) (⟨rfl, rfl⟩)
set_option maxHeartbeats 4000000 in
set_option maxRecDepth 100000 in
theorem m_fails {E : Ev} {c : CSt} {xP xR xW xS xZ xG xK xT xQ xF xB xL xC : Fn} {un sz wm fm bm at_ bg fg : Nat} {ft sg vl wr : Int32} {sd : Int64} (a : Int32) : Ct E yX7_fails cX7_fails 2 (some .boolean) ({ frames := 0, cells := 0, slots := 0, locals := 0 } : Room) false 146 [.ref (Ez E + 132), .int a] (cellOf E (c, (mkA xP xR xW xS xZ xG xK xT xQ xF xB xL xC, (nI un, nI sz, ft, nI wm, nI fm, nI bm, nI at_, nI bg, sg, nI fg, vl, wr), sd))) 146 0 0 (Ff (some (.int (nI 0))) (cellOf E (c, (mkA xP xR xW xS xZ xG xK xT xQ xF xB xL xC, (nI un, nI sz, ft, nI wm, nI fm, nI bm, nI at_, nI bg, sg, nI fg, vl, a), sd)))) := by
  refine Ct.ofV (by decide) (Nat.le_of_ble_eq_true rfl) (fun X hnm => ?_)
  show V E X _ RX7 _ _ _ _ _ _ false 146 0 [(0, .ref (Ez E + 132)), (1, .int a)] [] _
  refine v_aload_n (pc := 0) 0 dX7_fails_0 rfl rfl ?_
  refine v_iload_n (pc := 1) 1 dX7_fails_1 rfl rfl ?_
  refine p_X7_104 (pc := 2) (cMr_obj) (by decide) rfl rfl (Nat.le_of_ble_eq_true rfl) dX7_fails_2 (wM_wr) ?_
  refine v_iconst (pc := 5) (nI 0) dX7_fails_5 kI_0 ?_
  exact v_zret (pc := 6) dX7_fails_6 ((by rfl)) (⟨rfl, rfl⟩)
def hrI (T : Fn) (L a : Nat) : Int32 := if a < L then T a else -1
set_option maxHeartbeats 4000000 in
set_option maxRecDepth 100000 in
theorem m_here {E : Ev} {c : CSt} {xP xR xW xS xZ xG xK xT xQ xF xB xL xC : Fn} {un sz wm fm bm at_ bg fg : Nat} {ft sg vl wr : Int32} {sd : Int64} (hsz : sz ≤ 240) (hat : at_ ≤ 240) : Ct E yX7_here cX7_here 1 (some .int) ({ frames := 0, cells := 0, slots := 0, locals := 0 } : Room) false 146 [.ref (Ez E + 132)] (cellOf E (c, (mkA xP xR xW xS xZ xG xK xT xQ xF xB xL xC, (nI un, nI sz, ft, nI wm, nI fm, nI bm, nI at_, nI bg, sg, nI fg, vl, wr), sd))) 146 0 0 (Ff (some (.int (hrI xT sz at_))) (cellOf E (c, (mkA xP xR xW xS xZ xG xK xT xQ xF xB xL xC, (nI un, nI sz, ft, nI wm, nI fm, nI bm, nI at_, nI bg, sg, nI fg, vl, wr), sd)))) := by
  refine Ct.ofV (by decide) (Nat.le_of_ble_eq_true rfl) (fun X hnm => ?_)
  show V E X _ RX7 _ _ _ _ _ _ false 146 0 [(0, .ref (Ez E + 132))] [] _
  refine v_aload_n (pc := 0) 0 dX7_here_0 rfl rfl ?_
  refine g_X7_81 (pc := 1) (cMr_obj) (by decide) rfl dX7_here_1 ?_
  refine v_aload_n (pc := 4) 0 dX7_here_4 rfl rfl ?_
  refine g_X7_77 (pc := 5) (cMr_obj) (by decide) rfl dX7_here_5 ?_
  refine v_icmp_geN (pc := 8) (by omega) (by omega) (tgt := 23) dX7_here_8 rfl (fun c_8 => ?_) (fun c_8 => ?_)
  · refine v_iconst (pc := 23) (-1) dX7_here_23 kI_m1 ?_
    exact v_iret (pc := 24) dX7_here_24 (⟨by rw [show hrI xT sz at_ = _ from if_neg (by omega)], rfl⟩)
  · refine v_aload_n (pc := 11) 0 dX7_here_11 rfl rfl ?_
    refine g_X7_32 (pc := 12) (cMr_obj) (by decide) rfl dX7_here_12 ?_
    refine v_aload_n (pc := 15) 0 dX7_here_15 rfl rfl ?_
    refine g_X7_81 (pc := 16) (cMr_obj) (by decide) rfl dX7_here_16 ?_
    refine v_ialdN (pc := 19) (cM_text) (by decide) (by omega) (by decide) dX7_here_19 ?_
    refine v_goto (pc := 20) (tgt := 24) dX7_here_20 rfl ?_
    exact v_iret (pc := 24) dX7_here_24 (⟨by rw [show hrI xT sz at_ = _ from if_pos (by omega)], rfl⟩)
def owM (P W : Fn) (a z : Int32) (n : Nat) : Int32 := itn (fun d s => s + (if (a = -1 ∨ P (25 + d) = a) ∧ (z = -1 ∨ P (34 + d) = z) then W (17 + d) else nI 0)) n (nI 0)
def st_ri (W : Fn) (i : Nat) (b : Int32) : Int32 := if b = -1 ∨ ¬ W (0 + i) ≤ W (nI 0 + b).toNatClampNeg then nI i else b
def riM (W : Fn) (n : Nat) : Int32 := itn (st_ri W) n (-1)
def drM (P W : Fn) (a : Int32) (n : Nat) : Int32 := itn (fun p s => s + (if nI p = a ∨ hasB (W 14) (nI p) = true then nI 0 else lbI (P (4 + p)) (W (0 + p)) false)) n (nI 0)
theorem riM_ok (W : Fn) : ∀ n, n ≤ 7 → riM W n = -1 ∨ ∃ i, i < 7 ∧ riM W n = nI i
  | 0, _ => Or.inl rfl
  | n + 1, h => by
    show st_ri W n (riM W n) = -1 ∨ ∃ i, i < 7 ∧ st_ri W n (riM W n) = nI i
    unfold st_ri
    by_cases q : riM W n = -1 ∨ ¬ W (0 + n) ≤ W (nI 0 + riM W n).toNatClampNeg
    · rw [if_pos q]; exact Or.inr ⟨n, by omega, rfl⟩
    · rw [if_neg q]; exact riM_ok W n (by omega)
set_option maxHeartbeats 4000000 in
set_option maxRecDepth 100000 in
theorem m_owes {E : Ev} {c : CSt} {xP xR xW xS xZ xG xK xT xQ xF xB xL xC : Fn} {un sz wm fm bm at_ bg fg : Nat} {ft sg vl wr : Int32} {sd : Int64} {nd : Nat} (hd : xP 3 = nI nd) (hnd : nd ≤ 9) (a z : Int32) : Ct E yX7_owes cX7_owes 6 (some .int) ({ frames := 0, cells := 0, slots := 0, locals := 0 } : Room) false 146 [.ref (Ez E + 132), .int a, .int z] (cellOf E (c, (mkA xP xR xW xS xZ xG xK xT xQ xF xB xL xC, (nI un, nI sz, ft, nI wm, nI fm, nI bm, nI at_, nI bg, sg, nI fg, vl, wr), sd))) 146 0 0 (Ff (some (.int (owM xP xW a z nd))) (cellOf E (c, (mkA xP xR xW xS xZ xG xK xT xQ xF xB xL xC, (nI un, nI sz, ft, nI wm, nI fm, nI bm, nI at_, nI bg, sg, nI fg, vl, wr), sd)))) := by
  refine Ct.ofV (by decide) (Nat.le_of_ble_eq_true rfl) (fun X hnm => ?_)
  show V E X _ RX7 _ _ _ _ _ _ false 146 0 [(0, .ref (Ez E + 132)), (1, .int a), (2, .int z)] [] _
  refine v_iconst (pc := 0) (nI 0) dX7_owes_0 kI_0 ?_
  refine v_istore_n (pc := 1) [1, 2, 3, 0] [(0, _), (1, _), (2, _), (3, _)] dX7_owes_1 rfl (by decide) rfl ?_
  refine v_iconst (pc := 2) (nI 0) dX7_owes_2 kI_0 ?_
  refine v_istore (pc := 3) [1, 2, 3, 4, 0] [(0, _), (1, _), (2, _), (3, _), (4, _)] dX7_owes_3 (by decide) rfl ?_
  refine dn (P := fun e => V E X ({ frames := 0, cells := 0, slots := 0, locals := 0 } : Room) RX7 cX7_owes 6 (some .int) 0 0 (QX E X false 146 (Ff (some (.int (owM xP xW a z nd))) (cellOf E (c, (mkA xP xR xW xS xZ xG xK xT xQ xF xB xL xC, (nI un, nI sz, ft, nI wm, nI fm, nI bm, nI at_, nI bg, sg, nI fg, vl, wr), sd)))) 0 0) false 146 5 [(0, .ref (Ez E + 132)), (1, .int a), (2, .int z), (3, .int (itn (fun d s => s + (if (a = -1 ∨ xP (25 + d) = a) ∧ (z = -1 ∨ xP (34 + d) = z) then xW (17 + d) else nI 0)) e (nI 0))), (4, .int (nI e))] [] (cellOf E (c, (mkA xP xR xW xS xZ xG xK xT xQ xF xB xL xC, (nI un, nI sz, ft, nI wm, nI fm, nI bm, nI at_, nI bg, sg, nI fg, vl, wr), sd)))) (N := nd) ?_ ?_
  · refine v_iload (pc := 5) 4 dX7_owes_5 rfl ?_
    refine v_aload_n (pc := 7) 0 dX7_owes_7 rfl rfl ?_
    refine g_X7_7 (pc := 8) (cMr_obj) (by decide) rfl dX7_owes_8 ?_
    refine v_iconst (pc := 11) (nI 3) dX7_owes_11 kI_3 ?_
    refine v_ialdN (pc := 12) (cM_parish) (by decide) (by omega) (by decide) dX7_owes_12 ?_
    rw [hd]
    refine v_icmp_geN (pc := 13) (by omega) (by omega) (tgt := 89) dX7_owes_13 rfl (fun c_13 => ?_) (fun c_13 => False.elim ((fun c => by omega) c_13))
    refine v_iload_n (pc := 89) 3 dX7_owes_89 rfl rfl ?_
    exact v_iret (pc := 90) dX7_owes_90 (⟨rfl, rfl⟩)
  · intro e he ih
    have ih : V E X ({ frames := 0, cells := 0, slots := 0, locals := 0 } : Room) RX7 cX7_owes 6 (some .int) 0 0 (QX E X false 146 (Ff (some (.int (owM xP xW a z nd))) (cellOf E (c, (mkA xP xR xW xS xZ xG xK xT xQ xF xB xL xC, (nI un, nI sz, ft, nI wm, nI fm, nI bm, nI at_, nI bg, sg, nI fg, vl, wr), sd)))) 0 0) false 146 5 [(0, .ref (Ez E + 132)), (1, .int a), (2, .int z), (3, .int (itn (fun d s => s + (if (a = -1 ∨ xP (25 + d) = a) ∧ (z = -1 ∨ xP (34 + d) = z) then xW (17 + d) else nI 0)) e (nI 0) + (if (a = -1 ∨ xP (25 + e) = a) ∧ (z = -1 ∨ xP (34 + e) = z) then xW (17 + e) else nI 0))), (4, .int (nI (e + 1)))] [] (cellOf E (c, (mkA xP xR xW xS xZ xG xK xT xQ xF xB xL xC, (nI un, nI sz, ft, nI wm, nI fm, nI bm, nI at_, nI bg, sg, nI fg, vl, wr), sd))) := by rw [itn_s] at ih; exact ih
    generalize itn (fun d s => s + (if (a = -1 ∨ xP (25 + d) = a) ∧ (z = -1 ∨ xP (34 + d) = z) then xW (17 + d) else nI 0)) e (nI 0) = s1 at ih ⊢
    show V E X _ RX7 _ _ _ _ _ _ false 146 _ [(0, .ref (Ez E + 132)), (1, .int a), (2, .int z), (3, .int (s1)), (4, .int (nI e))] [] (cellOf E (c, (mkA xP xR xW xS xZ xG xK xT xQ xF xB xL xC, (nI un, nI sz, ft, nI wm, nI fm, nI bm, nI at_, nI bg, sg, nI fg, vl, wr), sd)))
    refine v_iload (pc := 5) 4 dX7_owes_5 rfl ?_
    refine v_aload_n (pc := 7) 0 dX7_owes_7 rfl rfl ?_
    refine g_X7_7 (pc := 8) (cMr_obj) (by decide) rfl dX7_owes_8 ?_
    refine v_iconst (pc := 11) (nI 3) dX7_owes_11 kI_3 ?_
    refine v_ialdN (pc := 12) (cM_parish) (by decide) (by omega) (by decide) dX7_owes_12 ?_
    rw [hd]
    refine v_icmp_geN (pc := 13) (by omega) (by omega) (tgt := 89) dX7_owes_13 rfl (fun c_13 => False.elim ((fun c => by omega) c_13)) (fun c_13 => ?_)
    refine v_iload_n (pc := 16) 1 dX7_owes_16 rfl rfl ?_
    refine v_iconst (pc := 17) (-1) dX7_owes_17 kI_m1 ?_
    refine v_icmp_eq (pc := 18) (tgt := 35) dX7_owes_18 rfl (fun c_18 => ?_) (fun c_18 => ?_)
    · refine v_iload_n (pc := 35) 2 dX7_owes_35 rfl rfl ?_
      refine v_iconst (pc := 36) (-1) dX7_owes_36 kI_m1 ?_
      refine v_icmp_eq (pc := 37) (tgt := 54) dX7_owes_37 rfl (fun c_37 => ?_) (fun c_37 => ?_)
      · refine v_iconst (pc := 54) (nI 1) dX7_owes_54 kI_1 ?_
        refine v_goto (pc := 55) (tgt := 59) dX7_owes_55 rfl ?_
        refine v_istore (pc := 59) [1, 2, 3, 4, 5, 0] [(0, _), (1, _), (2, _), (3, _), (4, _), (5, _)] dX7_owes_59 (by decide) rfl ?_
        refine v_iload_n (pc := 61) 3 dX7_owes_61 rfl rfl ?_
        refine v_iload (pc := 62) 5 dX7_owes_62 rfl ?_
        refine v_if_eqN (pc := 64) (by omega) (tgt := 80) dX7_owes_64 rfl (fun c_64 => False.elim ((fun z => absurd z (by decide)) c_64)) (fun c_64 => ?_)
        refine v_aload_n (pc := 67) 0 dX7_owes_67 rfl rfl ?_
        refine g_X7_16 (pc := 68) (cMr_obj) (by decide) rfl dX7_owes_68 ?_
        refine v_bipush (pc := 71) (nI 17) dX7_owes_71 kB_17 ?_
        refine v_iload (pc := 73) 4 dX7_owes_73 rfl ?_
        refine v_iaddN (pc := 75) dX7_owes_75 ?_
        refine v_ialdN (pc := 76) (cM_now) (by decide) (by omega) (by decide) dX7_owes_76 ?_
        refine v_goto (pc := 77) (tgt := 81) dX7_owes_77 rfl ?_
        refine v_iadd (pc := 81) dX7_owes_81 ?_
        refine v_istore_n (pc := 82) [1, 2, 3, 0, 4, 5] [(0, _), (1, _), (2, _), (3, _), (4, _), (5, _)] dX7_owes_82 rfl (by decide) rfl ?_
        refine v_iincN (pc := 83) 4 [1, 2, 3, 4, 0, 5] [(0, _), (1, _), (2, _), (3, _), (4, _), (5, _)] kI_1 dX7_owes_83 rfl (by decide) rfl ?_
        refine v_goto (pc := 86) (tgt := 5) dX7_owes_86 rfl ?_
        refine v_sub [0, 1, 2, 3, 4] rfl ?_
        rw [if_pos ⟨Or.inl c_18, Or.inl c_37⟩] at ih
        exact ih
      · refine v_aload_n (pc := 40) 0 dX7_owes_40 rfl rfl ?_
        refine g_X7_7 (pc := 41) (cMr_obj) (by decide) rfl dX7_owes_41 ?_
        refine v_bipush (pc := 44) (nI 34) dX7_owes_44 kB_34 ?_
        refine v_iload (pc := 46) 4 dX7_owes_46 rfl ?_
        refine v_iaddN (pc := 48) dX7_owes_48 ?_
        refine v_ialdN (pc := 49) (cM_parish) (by decide) (by omega) (by decide) dX7_owes_49 ?_
        refine v_iload_n (pc := 50) 2 dX7_owes_50 rfl rfl ?_
        refine v_icmp_ne (pc := 51) (tgt := 58) dX7_owes_51 rfl (fun c_51 => ?_) (fun c_51 => ?_)
        · refine v_iconst (pc := 58) (nI 0) dX7_owes_58 kI_0 ?_
          refine v_istore (pc := 59) [1, 2, 3, 4, 5, 0] [(0, _), (1, _), (2, _), (3, _), (4, _), (5, _)] dX7_owes_59 (by decide) rfl ?_
          refine v_iload_n (pc := 61) 3 dX7_owes_61 rfl rfl ?_
          refine v_iload (pc := 62) 5 dX7_owes_62 rfl ?_
          refine v_if_eqN (pc := 64) (by omega) (tgt := 80) dX7_owes_64 rfl (fun c_64 => ?_) (fun c_64 => False.elim ((fun z => z (by rfl)) c_64))
          refine v_iconst (pc := 80) (nI 0) dX7_owes_80 kI_0 ?_
          refine v_iadd (pc := 81) dX7_owes_81 ?_
          refine v_istore_n (pc := 82) [1, 2, 3, 0, 4, 5] [(0, _), (1, _), (2, _), (3, _), (4, _), (5, _)] dX7_owes_82 rfl (by decide) rfl ?_
          refine v_iincN (pc := 83) 4 [1, 2, 3, 4, 0, 5] [(0, _), (1, _), (2, _), (3, _), (4, _), (5, _)] kI_1 dX7_owes_83 rfl (by decide) rfl ?_
          refine v_goto (pc := 86) (tgt := 5) dX7_owes_86 rfl ?_
          refine v_sub [0, 1, 2, 3, 4] rfl ?_
          rw [if_neg (by rintro ⟨-, q | q⟩; exact c_37 q; exact c_51 q)] at ih
          exact ih
        · refine v_iconst (pc := 54) (nI 1) dX7_owes_54 kI_1 ?_
          refine v_goto (pc := 55) (tgt := 59) dX7_owes_55 rfl ?_
          refine v_istore (pc := 59) [1, 2, 3, 4, 5, 0] [(0, _), (1, _), (2, _), (3, _), (4, _), (5, _)] dX7_owes_59 (by decide) rfl ?_
          refine v_iload_n (pc := 61) 3 dX7_owes_61 rfl rfl ?_
          refine v_iload (pc := 62) 5 dX7_owes_62 rfl ?_
          refine v_if_eqN (pc := 64) (by omega) (tgt := 80) dX7_owes_64 rfl (fun c_64 => False.elim ((fun z => absurd z (by decide)) c_64)) (fun c_64 => ?_)
          refine v_aload_n (pc := 67) 0 dX7_owes_67 rfl rfl ?_
          refine g_X7_16 (pc := 68) (cMr_obj) (by decide) rfl dX7_owes_68 ?_
          refine v_bipush (pc := 71) (nI 17) dX7_owes_71 kB_17 ?_
          refine v_iload (pc := 73) 4 dX7_owes_73 rfl ?_
          refine v_iaddN (pc := 75) dX7_owes_75 ?_
          refine v_ialdN (pc := 76) (cM_now) (by decide) (by omega) (by decide) dX7_owes_76 ?_
          refine v_goto (pc := 77) (tgt := 81) dX7_owes_77 rfl ?_
          refine v_iadd (pc := 81) dX7_owes_81 ?_
          refine v_istore_n (pc := 82) [1, 2, 3, 0, 4, 5] [(0, _), (1, _), (2, _), (3, _), (4, _), (5, _)] dX7_owes_82 rfl (by decide) rfl ?_
          refine v_iincN (pc := 83) 4 [1, 2, 3, 4, 0, 5] [(0, _), (1, _), (2, _), (3, _), (4, _), (5, _)] kI_1 dX7_owes_83 rfl (by decide) rfl ?_
          refine v_goto (pc := 86) (tgt := 5) dX7_owes_86 rfl ?_
          refine v_sub [0, 1, 2, 3, 4] rfl ?_
          rw [if_pos ⟨Or.inl c_18, Or.inr c_51⟩] at ih
          exact ih
    · refine v_aload_n (pc := 21) 0 dX7_owes_21 rfl rfl ?_
      refine g_X7_7 (pc := 22) (cMr_obj) (by decide) rfl dX7_owes_22 ?_
      refine v_bipush (pc := 25) (nI 25) dX7_owes_25 kB_25 ?_
      refine v_iload (pc := 27) 4 dX7_owes_27 rfl ?_
      refine v_iaddN (pc := 29) dX7_owes_29 ?_
      refine v_ialdN (pc := 30) (cM_parish) (by decide) (by omega) (by decide) dX7_owes_30 ?_
      refine v_iload_n (pc := 31) 1 dX7_owes_31 rfl rfl ?_
      refine v_icmp_ne (pc := 32) (tgt := 58) dX7_owes_32 rfl (fun c_32 => ?_) (fun c_32 => ?_)
      · refine v_iconst (pc := 58) (nI 0) dX7_owes_58 kI_0 ?_
        refine v_istore (pc := 59) [1, 2, 3, 4, 5, 0] [(0, _), (1, _), (2, _), (3, _), (4, _), (5, _)] dX7_owes_59 (by decide) rfl ?_
        refine v_iload_n (pc := 61) 3 dX7_owes_61 rfl rfl ?_
        refine v_iload (pc := 62) 5 dX7_owes_62 rfl ?_
        refine v_if_eqN (pc := 64) (by omega) (tgt := 80) dX7_owes_64 rfl (fun c_64 => ?_) (fun c_64 => False.elim ((fun z => z (by rfl)) c_64))
        refine v_iconst (pc := 80) (nI 0) dX7_owes_80 kI_0 ?_
        refine v_iadd (pc := 81) dX7_owes_81 ?_
        refine v_istore_n (pc := 82) [1, 2, 3, 0, 4, 5] [(0, _), (1, _), (2, _), (3, _), (4, _), (5, _)] dX7_owes_82 rfl (by decide) rfl ?_
        refine v_iincN (pc := 83) 4 [1, 2, 3, 4, 0, 5] [(0, _), (1, _), (2, _), (3, _), (4, _), (5, _)] kI_1 dX7_owes_83 rfl (by decide) rfl ?_
        refine v_goto (pc := 86) (tgt := 5) dX7_owes_86 rfl ?_
        refine v_sub [0, 1, 2, 3, 4] rfl ?_
        rw [if_neg (by rintro ⟨q | q, -⟩; exact c_18 q; exact c_32 q)] at ih
        exact ih
      · refine v_iload_n (pc := 35) 2 dX7_owes_35 rfl rfl ?_
        refine v_iconst (pc := 36) (-1) dX7_owes_36 kI_m1 ?_
        refine v_icmp_eq (pc := 37) (tgt := 54) dX7_owes_37 rfl (fun c_37 => ?_) (fun c_37 => ?_)
        · refine v_iconst (pc := 54) (nI 1) dX7_owes_54 kI_1 ?_
          refine v_goto (pc := 55) (tgt := 59) dX7_owes_55 rfl ?_
          refine v_istore (pc := 59) [1, 2, 3, 4, 5, 0] [(0, _), (1, _), (2, _), (3, _), (4, _), (5, _)] dX7_owes_59 (by decide) rfl ?_
          refine v_iload_n (pc := 61) 3 dX7_owes_61 rfl rfl ?_
          refine v_iload (pc := 62) 5 dX7_owes_62 rfl ?_
          refine v_if_eqN (pc := 64) (by omega) (tgt := 80) dX7_owes_64 rfl (fun c_64 => False.elim ((fun z => absurd z (by decide)) c_64)) (fun c_64 => ?_)
          refine v_aload_n (pc := 67) 0 dX7_owes_67 rfl rfl ?_
          refine g_X7_16 (pc := 68) (cMr_obj) (by decide) rfl dX7_owes_68 ?_
          refine v_bipush (pc := 71) (nI 17) dX7_owes_71 kB_17 ?_
          refine v_iload (pc := 73) 4 dX7_owes_73 rfl ?_
          refine v_iaddN (pc := 75) dX7_owes_75 ?_
          refine v_ialdN (pc := 76) (cM_now) (by decide) (by omega) (by decide) dX7_owes_76 ?_
          refine v_goto (pc := 77) (tgt := 81) dX7_owes_77 rfl ?_
          refine v_iadd (pc := 81) dX7_owes_81 ?_
          refine v_istore_n (pc := 82) [1, 2, 3, 0, 4, 5] [(0, _), (1, _), (2, _), (3, _), (4, _), (5, _)] dX7_owes_82 rfl (by decide) rfl ?_
          refine v_iincN (pc := 83) 4 [1, 2, 3, 4, 0, 5] [(0, _), (1, _), (2, _), (3, _), (4, _), (5, _)] kI_1 dX7_owes_83 rfl (by decide) rfl ?_
          refine v_goto (pc := 86) (tgt := 5) dX7_owes_86 rfl ?_
          refine v_sub [0, 1, 2, 3, 4] rfl ?_
          rw [if_pos ⟨Or.inr c_32, Or.inl c_37⟩] at ih
          exact ih
        · refine v_aload_n (pc := 40) 0 dX7_owes_40 rfl rfl ?_
          refine g_X7_7 (pc := 41) (cMr_obj) (by decide) rfl dX7_owes_41 ?_
          refine v_bipush (pc := 44) (nI 34) dX7_owes_44 kB_34 ?_
          refine v_iload (pc := 46) 4 dX7_owes_46 rfl ?_
          refine v_iaddN (pc := 48) dX7_owes_48 ?_
          refine v_ialdN (pc := 49) (cM_parish) (by decide) (by omega) (by decide) dX7_owes_49 ?_
          refine v_iload_n (pc := 50) 2 dX7_owes_50 rfl rfl ?_
          refine v_icmp_ne (pc := 51) (tgt := 58) dX7_owes_51 rfl (fun c_51 => ?_) (fun c_51 => ?_)
          · refine v_iconst (pc := 58) (nI 0) dX7_owes_58 kI_0 ?_
            refine v_istore (pc := 59) [1, 2, 3, 4, 5, 0] [(0, _), (1, _), (2, _), (3, _), (4, _), (5, _)] dX7_owes_59 (by decide) rfl ?_
            refine v_iload_n (pc := 61) 3 dX7_owes_61 rfl rfl ?_
            refine v_iload (pc := 62) 5 dX7_owes_62 rfl ?_
            refine v_if_eqN (pc := 64) (by omega) (tgt := 80) dX7_owes_64 rfl (fun c_64 => ?_) (fun c_64 => False.elim ((fun z => z (by rfl)) c_64))
            refine v_iconst (pc := 80) (nI 0) dX7_owes_80 kI_0 ?_
            refine v_iadd (pc := 81) dX7_owes_81 ?_
            refine v_istore_n (pc := 82) [1, 2, 3, 0, 4, 5] [(0, _), (1, _), (2, _), (3, _), (4, _), (5, _)] dX7_owes_82 rfl (by decide) rfl ?_
            refine v_iincN (pc := 83) 4 [1, 2, 3, 4, 0, 5] [(0, _), (1, _), (2, _), (3, _), (4, _), (5, _)] kI_1 dX7_owes_83 rfl (by decide) rfl ?_
            refine v_goto (pc := 86) (tgt := 5) dX7_owes_86 rfl ?_
            refine v_sub [0, 1, 2, 3, 4] rfl ?_
            rw [if_neg (by rintro ⟨-, q | q⟩; exact c_37 q; exact c_51 q)] at ih
            exact ih
          · refine v_iconst (pc := 54) (nI 1) dX7_owes_54 kI_1 ?_
            refine v_goto (pc := 55) (tgt := 59) dX7_owes_55 rfl ?_
            refine v_istore (pc := 59) [1, 2, 3, 4, 5, 0] [(0, _), (1, _), (2, _), (3, _), (4, _), (5, _)] dX7_owes_59 (by decide) rfl ?_
            refine v_iload_n (pc := 61) 3 dX7_owes_61 rfl rfl ?_
            refine v_iload (pc := 62) 5 dX7_owes_62 rfl ?_
            refine v_if_eqN (pc := 64) (by omega) (tgt := 80) dX7_owes_64 rfl (fun c_64 => False.elim ((fun z => absurd z (by decide)) c_64)) (fun c_64 => ?_)
            refine v_aload_n (pc := 67) 0 dX7_owes_67 rfl rfl ?_
            refine g_X7_16 (pc := 68) (cMr_obj) (by decide) rfl dX7_owes_68 ?_
            refine v_bipush (pc := 71) (nI 17) dX7_owes_71 kB_17 ?_
            refine v_iload (pc := 73) 4 dX7_owes_73 rfl ?_
            refine v_iaddN (pc := 75) dX7_owes_75 ?_
            refine v_ialdN (pc := 76) (cM_now) (by decide) (by omega) (by decide) dX7_owes_76 ?_
            refine v_goto (pc := 77) (tgt := 81) dX7_owes_77 rfl ?_
            refine v_iadd (pc := 81) dX7_owes_81 ?_
            refine v_istore_n (pc := 82) [1, 2, 3, 0, 4, 5] [(0, _), (1, _), (2, _), (3, _), (4, _), (5, _)] dX7_owes_82 rfl (by decide) rfl ?_
            refine v_iincN (pc := 83) 4 [1, 2, 3, 4, 0, 5] [(0, _), (1, _), (2, _), (3, _), (4, _), (5, _)] kI_1 dX7_owes_83 rfl (by decide) rfl ?_
            refine v_goto (pc := 86) (tgt := 5) dX7_owes_86 rfl ?_
            refine v_sub [0, 1, 2, 3, 4] rfl ?_
            rw [if_pos ⟨Or.inr c_32, Or.inr c_51⟩] at ih
            exact ih
set_option maxHeartbeats 4000000 in
set_option maxRecDepth 100000 in
theorem m_rich {E : Ev} {c : CSt} {xP xR xW xS xZ xG xK xT xQ xF xB xL xC : Fn} {un sz wm fm bm at_ bg fg : Nat} {ft sg vl wr : Int32} {sd : Int64} {np : Nat} (hp : xP 2 = nI np) (hnp : np ≤ 7) : Ct E yX7_rich cX7_rich 3 (some .int) ({ frames := 0, cells := 0, slots := 0, locals := 0 } : Room) false 146 [.ref (Ez E + 132)] (cellOf E (c, (mkA xP xR xW xS xZ xG xK xT xQ xF xB xL xC, (nI un, nI sz, ft, nI wm, nI fm, nI bm, nI at_, nI bg, sg, nI fg, vl, wr), sd))) 146 0 0 (Ff (some (.int (riM xW np))) (cellOf E (c, (mkA xP xR xW xS xZ xG xK xT xQ xF xB xL xC, (nI un, nI sz, ft, nI wm, nI fm, nI bm, nI at_, nI bg, sg, nI fg, vl, wr), sd)))) := by
  refine Ct.ofV (by decide) (Nat.le_of_ble_eq_true rfl) (fun X hnm => ?_)
  show V E X _ RX7 _ _ _ _ _ _ false 146 0 [(0, .ref (Ez E + 132))] [] _
  refine v_iconst (pc := 0) (-1) dX7_rich_0 kI_m1 ?_
  refine v_istore_n (pc := 1) [1, 0] [(0, _), (1, _)] dX7_rich_1 rfl (by decide) rfl ?_
  refine v_iconst (pc := 2) (nI 0) dX7_rich_2 kI_0 ?_
  refine v_istore_n (pc := 3) [1, 2, 0] [(0, _), (1, _), (2, _)] dX7_rich_3 rfl (by decide) rfl ?_
  refine dn (P := fun i => V E X ({ frames := 0, cells := 0, slots := 0, locals := 0 } : Room) RX7 cX7_rich 3 (some .int) 0 0 (QX E X false 146 (Ff (some (.int (riM xW np))) (cellOf E (c, (mkA xP xR xW xS xZ xG xK xT xQ xF xB xL xC, (nI un, nI sz, ft, nI wm, nI fm, nI bm, nI at_, nI bg, sg, nI fg, vl, wr), sd)))) 0 0) false 146 4 [(0, .ref (Ez E + 132)), (1, .int (itn (st_ri xW) i (-1))), (2, .int (nI i))] [] (cellOf E (c, (mkA xP xR xW xS xZ xG xK xT xQ xF xB xL xC, (nI un, nI sz, ft, nI wm, nI fm, nI bm, nI at_, nI bg, sg, nI fg, vl, wr), sd)))) (N := np) ?_ ?_
  · refine v_iload_n (pc := 4) 2 dX7_rich_4 rfl rfl ?_
    refine v_aload_n (pc := 5) 0 dX7_rich_5 rfl rfl ?_
    refine g_X7_7 (pc := 6) (cMr_obj) (by decide) rfl dX7_rich_6 ?_
    refine v_iconst (pc := 9) (nI 2) dX7_rich_9 kI_2 ?_
    refine v_ialdN (pc := 10) (cM_parish) (by decide) (by omega) (by decide) dX7_rich_10 ?_
    rw [hp]
    refine v_icmp_geN (pc := 11) (by omega) (by omega) (tgt := 50) dX7_rich_11 rfl (fun c_11 => ?_) (fun c_11 => False.elim ((fun c => by omega) c_11))
    refine v_iload_n (pc := 50) 1 dX7_rich_50 rfl rfl ?_
    exact v_iret (pc := 51) dX7_rich_51 (⟨rfl, rfl⟩)
  · intro i hi ih
    have ih : V E X ({ frames := 0, cells := 0, slots := 0, locals := 0 } : Room) RX7 cX7_rich 3 (some .int) 0 0 (QX E X false 146 (Ff (some (.int (riM xW np))) (cellOf E (c, (mkA xP xR xW xS xZ xG xK xT xQ xF xB xL xC, (nI un, nI sz, ft, nI wm, nI fm, nI bm, nI at_, nI bg, sg, nI fg, vl, wr), sd)))) 0 0) false 146 4 [(0, .ref (Ez E + 132)), (1, .int (st_ri xW i (itn (st_ri xW) i (-1)))), (2, .int (nI (i + 1)))] [] (cellOf E (c, (mkA xP xR xW xS xZ xG xK xT xQ xF xB xL xC, (nI un, nI sz, ft, nI wm, nI fm, nI bm, nI at_, nI bg, sg, nI fg, vl, wr), sd))) := by rw [itn_s] at ih; exact ih
    generalize hb : itn (st_ri xW) i (-1) = b at ih ⊢
    show V E X _ RX7 _ _ _ _ _ _ false 146 _ [(0, .ref (Ez E + 132)), (1, .int (b)), (2, .int (nI i))] [] (cellOf E (c, (mkA xP xR xW xS xZ xG xK xT xQ xF xB xL xC, (nI un, nI sz, ft, nI wm, nI fm, nI bm, nI at_, nI bg, sg, nI fg, vl, wr), sd)))
    have hbv : ¬ b = -1 → vp_in (nI 0 + b) 48 := by intro hne; rcases (hb ▸ riM_ok xW i (by omega) : b = -1 ∨ ∃ i, i < 7 ∧ b = nI i) with q | ⟨q, hq, e⟩; exact absurd q hne; rw [e, nI_add]; exact vp_in_nI (by omega) (by decide)
    refine v_iload_n (pc := 4) 2 dX7_rich_4 rfl rfl ?_
    refine v_aload_n (pc := 5) 0 dX7_rich_5 rfl rfl ?_
    refine g_X7_7 (pc := 6) (cMr_obj) (by decide) rfl dX7_rich_6 ?_
    refine v_iconst (pc := 9) (nI 2) dX7_rich_9 kI_2 ?_
    refine v_ialdN (pc := 10) (cM_parish) (by decide) (by omega) (by decide) dX7_rich_10 ?_
    rw [hp]
    refine v_icmp_geN (pc := 11) (by omega) (by omega) (tgt := 50) dX7_rich_11 rfl (fun c_11 => False.elim ((fun c => by omega) c_11)) (fun c_11 => ?_)
    refine v_iload_n (pc := 14) 1 dX7_rich_14 rfl rfl ?_
    refine v_iconst (pc := 15) (-1) dX7_rich_15 kI_m1 ?_
    refine v_icmp_eq (pc := 16) (tgt := 38) dX7_rich_16 rfl (fun c_16 => ?_) (fun c_16 => ?_)
    · refine v_iload_n (pc := 38) 2 dX7_rich_38 rfl rfl ?_
      refine v_goto (pc := 39) (tgt := 43) dX7_rich_39 rfl ?_
      refine v_istore_n (pc := 43) [1, 0, 2] [(0, _), (1, _), (2, _)] dX7_rich_43 rfl (by decide) rfl ?_
      refine v_iincN (pc := 44) 2 [1, 2, 0] [(0, _), (1, _), (2, _)] kI_1 dX7_rich_44 rfl (by decide) rfl ?_
      refine v_goto (pc := 47) (tgt := 4) dX7_rich_47 rfl ?_
      rw [show st_ri xW i b = _ from if_pos (Or.inl c_16)] at ih
      exact ih
    · refine v_aload_n (pc := 19) 0 dX7_rich_19 rfl rfl ?_
      refine g_X7_16 (pc := 20) (cMr_obj) (by decide) rfl dX7_rich_20 ?_
      refine v_iconst (pc := 23) (nI 0) dX7_rich_23 kI_0 ?_
      refine v_iload_n (pc := 24) 2 dX7_rich_24 rfl rfl ?_
      refine v_iaddN (pc := 25) dX7_rich_25 ?_
      refine v_ialdN (pc := 26) (cM_now) (by decide) (by omega) (by decide) dX7_rich_26 ?_
      refine v_aload_n (pc := 27) 0 dX7_rich_27 rfl rfl ?_
      refine g_X7_16 (pc := 28) (cMr_obj) (by decide) rfl dX7_rich_28 ?_
      refine v_iconst (pc := 31) (nI 0) dX7_rich_31 kI_0 ?_
      refine v_iload_n (pc := 32) 1 dX7_rich_32 rfl rfl ?_
      refine v_iadd (pc := 33) dX7_rich_33 ?_
      refine v_iald (pc := 34) (cM_now) (by decide) (hbv c_16) dX7_rich_34 ?_
      refine v_icmp_le (pc := 35) (tgt := 42) dX7_rich_35 rfl (fun c_35 => ?_) (fun c_35 => ?_)
      · refine v_iload_n (pc := 42) 1 dX7_rich_42 rfl rfl ?_
        refine v_istore_n (pc := 43) [1, 0, 2] [(0, _), (1, _), (2, _)] dX7_rich_43 rfl (by decide) rfl ?_
        refine v_iincN (pc := 44) 2 [1, 2, 0] [(0, _), (1, _), (2, _)] kI_1 dX7_rich_44 rfl (by decide) rfl ?_
        refine v_goto (pc := 47) (tgt := 4) dX7_rich_47 rfl ?_
        rw [show st_ri xW i b = _ from if_neg (by rintro (q | q); exact c_16 q; exact q c_35)] at ih
        exact ih
      · refine v_iload_n (pc := 38) 2 dX7_rich_38 rfl rfl ?_
        refine v_goto (pc := 39) (tgt := 43) dX7_rich_39 rfl ?_
        refine v_istore_n (pc := 43) [1, 0, 2] [(0, _), (1, _), (2, _)] dX7_rich_43 rfl (by decide) rfl ?_
        refine v_iincN (pc := 44) 2 [1, 2, 0] [(0, _), (1, _), (2, _)] kI_1 dX7_rich_44 rfl (by decide) rfl ?_
        refine v_goto (pc := 47) (tgt := 4) dX7_rich_47 rfl ?_
        rw [show st_ri xW i b = _ from if_pos (Or.inr c_35)] at ih
        exact ih
set_option maxHeartbeats 4000000 in
set_option maxRecDepth 100000 in
theorem m_drawn {E : Ev} {c : CSt} {xP xR xW xS xZ xG xK xT xQ xF xB xL xC : Fn} {un sz wm fm bm at_ bg fg : Nat} {ft sg vl wr : Int32} {sd : Int64} {np : Nat} (hp : xP 2 = nI np) (hnp : np ≤ 7) (a : Int32) : Ct E yX7_drawnBy cX7_drawnBy 4 (some .int) ({ frames := 2, cells := 0, slots := 0, locals := 43 } : Room) false 146 [.ref (Ez E + 132), .int a] (cellOf E (c, (mkA xP xR xW xS xZ xG xK xT xQ xF xB xL xC, (nI un, nI sz, ft, nI wm, nI fm, nI bm, nI at_, nI bg, sg, nI fg, vl, wr), sd))) 146 0 0 (Ff (some (.int (drM xP xW a np))) (cellOf E (c, (mkA xP xR xW xS xZ xG xK xT xQ xF xB xL xC, (nI un, nI sz, ft, nI wm, nI fm, nI bm, nI at_, nI bg, sg, nI fg, vl, wr), sd)))) := by
  refine Ct.ofV (by decide) (Nat.le_of_ble_eq_true rfl) (fun X hnm => ?_)
  show V E X _ RX7 _ _ _ _ _ _ false 146 0 [(0, .ref (Ez E + 132)), (1, .int a)] [] _
  refine v_iconst (pc := 0) (nI 0) dX7_drawnBy_0 kI_0 ?_
  refine v_istore_n (pc := 1) [1, 2, 0] [(0, _), (1, _), (2, _)] dX7_drawnBy_1 rfl (by decide) rfl ?_
  refine v_iconst (pc := 2) (nI 0) dX7_drawnBy_2 kI_0 ?_
  refine v_istore_n (pc := 3) [1, 2, 3, 0] [(0, _), (1, _), (2, _), (3, _)] dX7_drawnBy_3 rfl (by decide) rfl ?_
  refine dn (P := fun e => V E X ({ frames := 2, cells := 0, slots := 0, locals := 43 } : Room) RX7 cX7_drawnBy 4 (some .int) 0 0 (QX E X false 146 (Ff (some (.int (drM xP xW a np))) (cellOf E (c, (mkA xP xR xW xS xZ xG xK xT xQ xF xB xL xC, (nI un, nI sz, ft, nI wm, nI fm, nI bm, nI at_, nI bg, sg, nI fg, vl, wr), sd)))) 0 0) false 146 4 [(0, .ref (Ez E + 132)), (1, .int a), (2, .int (itn (fun p s => s + (if nI p = a ∨ hasB (xW 14) (nI p) = true then nI 0 else lbI (xP (4 + p)) (xW (0 + p)) false)) e (nI 0))), (3, .int (nI e))] [] (cellOf E (c, (mkA xP xR xW xS xZ xG xK xT xQ xF xB xL xC, (nI un, nI sz, ft, nI wm, nI fm, nI bm, nI at_, nI bg, sg, nI fg, vl, wr), sd)))) (N := np) ?_ ?_
  · refine v_iload_n (pc := 4) 3 dX7_drawnBy_4 rfl rfl ?_
    refine v_aload_n (pc := 5) 0 dX7_drawnBy_5 rfl rfl ?_
    refine g_X7_7 (pc := 6) (cMr_obj) (by decide) rfl dX7_drawnBy_6 ?_
    refine v_iconst (pc := 9) (nI 2) dX7_drawnBy_9 kI_2 ?_
    refine v_ialdN (pc := 10) (cM_parish) (by decide) (by omega) (by decide) dX7_drawnBy_10 ?_
    rw [hp]
    refine v_icmp_geN (pc := 11) (by omega) (by omega) (tgt := 66) dX7_drawnBy_11 rfl (fun c_11 => ?_) (fun c_11 => False.elim ((fun c => by omega) c_11))
    refine v_iload_n (pc := 66) 2 dX7_drawnBy_66 rfl rfl ?_
    exact v_iret (pc := 67) dX7_drawnBy_67 (⟨rfl, rfl⟩)
  · intro e he ih
    have ih : V E X ({ frames := 2, cells := 0, slots := 0, locals := 43 } : Room) RX7 cX7_drawnBy 4 (some .int) 0 0 (QX E X false 146 (Ff (some (.int (drM xP xW a np))) (cellOf E (c, (mkA xP xR xW xS xZ xG xK xT xQ xF xB xL xC, (nI un, nI sz, ft, nI wm, nI fm, nI bm, nI at_, nI bg, sg, nI fg, vl, wr), sd)))) 0 0) false 146 4 [(0, .ref (Ez E + 132)), (1, .int a), (2, .int (itn (fun p s => s + (if nI p = a ∨ hasB (xW 14) (nI p) = true then nI 0 else lbI (xP (4 + p)) (xW (0 + p)) false)) e (nI 0) + (if nI e = a ∨ hasB (xW 14) (nI e) = true then nI 0 else lbI (xP (4 + e)) (xW (0 + e)) false))), (3, .int (nI (e + 1)))] [] (cellOf E (c, (mkA xP xR xW xS xZ xG xK xT xQ xF xB xL xC, (nI un, nI sz, ft, nI wm, nI fm, nI bm, nI at_, nI bg, sg, nI fg, vl, wr), sd))) := by rw [itn_s] at ih; exact ih
    generalize itn (fun p s => s + (if nI p = a ∨ hasB (xW 14) (nI p) = true then nI 0 else lbI (xP (4 + p)) (xW (0 + p)) false)) e (nI 0) = s1 at ih ⊢
    show V E X _ RX7 _ _ _ _ _ _ false 146 _ [(0, .ref (Ez E + 132)), (1, .int a), (2, .int (s1)), (3, .int (nI e))] [] (cellOf E (c, (mkA xP xR xW xS xZ xG xK xT xQ xF xB xL xC, (nI un, nI sz, ft, nI wm, nI fm, nI bm, nI at_, nI bg, sg, nI fg, vl, wr), sd)))
    refine v_iload_n (pc := 4) 3 dX7_drawnBy_4 rfl rfl ?_
    refine v_aload_n (pc := 5) 0 dX7_drawnBy_5 rfl rfl ?_
    refine g_X7_7 (pc := 6) (cMr_obj) (by decide) rfl dX7_drawnBy_6 ?_
    refine v_iconst (pc := 9) (nI 2) dX7_drawnBy_9 kI_2 ?_
    refine v_ialdN (pc := 10) (cM_parish) (by decide) (by omega) (by decide) dX7_drawnBy_10 ?_
    rw [hp]
    refine v_icmp_geN (pc := 11) (by omega) (by omega) (tgt := 66) dX7_drawnBy_11 rfl (fun c_11 => False.elim ((fun c => by omega) c_11)) (fun c_11 => ?_)
    refine v_iload_n (pc := 14) 2 dX7_drawnBy_14 rfl rfl ?_
    refine v_iload_n (pc := 15) 3 dX7_drawnBy_15 rfl rfl ?_
    refine v_iload_n (pc := 16) 1 dX7_drawnBy_16 rfl rfl ?_
    refine v_icmp_eq (pc := 17) (tgt := 34) dX7_drawnBy_17 rfl (fun c_17 => ?_) (fun c_17 => ?_)
    · refine v_iconst (pc := 34) (nI 0) dX7_drawnBy_34 kI_0 ?_
      refine v_goto (pc := 35) (tgt := 58) dX7_drawnBy_35 rfl ?_
      refine v_iadd (pc := 58) dX7_drawnBy_58 ?_
      refine v_istore_n (pc := 59) [1, 2, 0, 3] [(0, _), (1, _), (2, _), (3, _)] dX7_drawnBy_59 rfl (by decide) rfl ?_
      refine v_iincN (pc := 60) 3 [1, 2, 3, 0] [(0, _), (1, _), (2, _), (3, _)] kI_1 dX7_drawnBy_60 rfl (by decide) rfl ?_
      refine v_goto (pc := 63) (tgt := 4) dX7_drawnBy_63 rfl ?_
      rw [if_pos (Or.inl c_17)] at ih
      exact ih
    · refine v_aload_n (pc := 20) 0 dX7_drawnBy_20 rfl rfl ?_
      refine g_X7_16 (pc := 21) (cMr_obj) (by decide) rfl dX7_drawnBy_21 ?_
      refine v_bipush (pc := 24) (nI 14) dX7_drawnBy_24 kB_14 ?_
      refine v_ialdN (pc := 26) (cM_now) (by decide) (by omega) (by decide) dX7_drawnBy_26 ?_
      refine v_iload_n (pc := 27) 3 dX7_drawnBy_27 rfl rfl ?_
      refine v_callS (pc := 28) _ _ k_X7_142 (m_has _ _) ⟨rfl, rfl, by decide⟩ rfl rfl (Nat.le_of_ble_eq_true rfl) ⟨Nat.le_of_ble_eq_true rfl, Nat.le_of_ble_eq_true rfl⟩ dX7_drawnBy_28 (unS ?_)
      show V E X _ RX7 _ _ _ 0 0 _ false 146 31 _ [_, _] _
      refine v_if_eqB (pc := 31) (tgt := 38) dX7_drawnBy_31 rfl (fun c_31 => ?_) (fun c_31 => ?_)
      · refine v_aload_n (pc := 38) 0 dX7_drawnBy_38 rfl rfl ?_
        refine g_X7_7 (pc := 39) (cMr_obj) (by decide) rfl dX7_drawnBy_39 ?_
        refine v_iconst (pc := 42) (nI 4) dX7_drawnBy_42 kI_4 ?_
        refine v_iload_n (pc := 43) 3 dX7_drawnBy_43 rfl rfl ?_
        refine v_iaddN (pc := 44) dX7_drawnBy_44 ?_
        refine v_ialdN (pc := 45) (cM_parish) (by decide) (by omega) (by decide) dX7_drawnBy_45 ?_
        refine v_aload_n (pc := 46) 0 dX7_drawnBy_46 rfl rfl ?_
        refine g_X7_16 (pc := 47) (cMr_obj) (by decide) rfl dX7_drawnBy_47 ?_
        refine v_iconst (pc := 50) (nI 0) dX7_drawnBy_50 kI_0 ?_
        refine v_iload_n (pc := 51) 3 dX7_drawnBy_51 rfl rfl ?_
        refine v_iaddN (pc := 52) dX7_drawnBy_52 ?_
        refine v_ialdN (pc := 53) (cM_now) (by decide) (by omega) (by decide) dX7_drawnBy_53 ?_
        refine v_iconst (pc := 54) (nI 0) dX7_drawnBy_54 kI_0 ?_
        refine v_callS (pc := 55) _ _ k_X7_146 (m_lossBy _ _ false) ⟨rfl, rfl, by decide⟩ rfl rfl (Nat.le_of_ble_eq_true rfl) ⟨Nat.le_of_ble_eq_true rfl, Nat.le_of_ble_eq_true rfl⟩ dX7_drawnBy_55 (unS ?_)
        show V E X _ RX7 _ _ _ 0 0 _ false 146 58 _ [_, _] _
        refine v_iadd (pc := 58) dX7_drawnBy_58 ?_
        refine v_istore_n (pc := 59) [1, 2, 0, 3] [(0, _), (1, _), (2, _), (3, _)] dX7_drawnBy_59 rfl (by decide) rfl ?_
        refine v_iincN (pc := 60) 3 [1, 2, 3, 0] [(0, _), (1, _), (2, _), (3, _)] kI_1 dX7_drawnBy_60 rfl (by decide) rfl ?_
        refine v_goto (pc := 63) (tgt := 4) dX7_drawnBy_63 rfl ?_
        rw [if_neg (by rintro (q | q); exact c_17 q; rw [c_31] at q; exact Bool.noConfusion q)] at ih
        exact ih
      · refine v_iconst (pc := 34) (nI 0) dX7_drawnBy_34 kI_0 ?_
        refine v_goto (pc := 35) (tgt := 58) dX7_drawnBy_35 rfl ?_
        refine v_iadd (pc := 58) dX7_drawnBy_58 ?_
        refine v_istore_n (pc := 59) [1, 2, 0, 3] [(0, _), (1, _), (2, _), (3, _)] dX7_drawnBy_59 rfl (by decide) rfl ?_
        refine v_iincN (pc := 60) 3 [1, 2, 3, 0] [(0, _), (1, _), (2, _), (3, _)] kI_1 dX7_drawnBy_60 rfl (by decide) rfl ?_
        refine v_goto (pc := 63) (tgt := 4) dX7_drawnBy_63 rfl ?_
        rw [if_pos (Or.inr c_31)] at ih
        exact ih
def st_so (W : Fn) (v : Int32) (k : Nat) (b : Bool) : Bool := b && decide (v = W k)
def soM (Q : Fn) (v : Int32) (n : Nat) : Bool := itn (st_so Q v) n true
def whM (P W Q : Fn) (wm n : Nat) : Int32 := itn (fun p s => s ||| (if soM Q (drM P W (nI p) n) wm = true then nI 1 <<< (nI p &&& 31) else nI 0)) n (nI 0)
set_option maxHeartbeats 4000000 in
set_option maxRecDepth 100000 in
theorem m_who {E : Ev} {c : CSt} {xP xR xW xS xZ xG xK xT xQ xF xB xL xC : Fn} {un sz wm fm bm at_ bg fg : Nat} {ft sg vl wr : Int32} {sd : Int64} {np : Nat} (hp : xP 2 = nI np) (hnp : np ≤ 7) (hwm : wm ≤ 6) : Ct E yX7_who cX7_who 5 (some .int) ({ frames := 3, cells := 0, slots := 0, locals := 66 } : Room) false 146 [.ref (Ez E + 132)] (cellOf E (c, (mkA xP xR xW xS xZ xG xK xT xQ xF xB xL xC, (nI un, nI sz, ft, nI wm, nI fm, nI bm, nI at_, nI bg, sg, nI fg, vl, wr), sd))) 146 0 0 (Ff (some (.int (whM xP xW xQ wm np))) (cellOf E (c, (mkA xP xR xW xS xZ xG xK xT xQ xF xB xL xC, (nI un, nI sz, ft, nI wm, nI fm, nI bm, nI at_, nI bg, sg, nI fg, vl, wr), sd)))) := by
  refine Ct.ofV (by decide) (Nat.le_of_ble_eq_true rfl) (fun X hnm => ?_)
  show V E X _ RX7 _ _ _ _ _ _ false 146 0 [(0, .ref (Ez E + 132))] [] _
  refine v_iconst (pc := 0) (nI 0) dX7_who_0 kI_0 ?_
  refine v_istore_n (pc := 1) [1, 0] [(0, _), (1, _)] dX7_who_1 rfl (by decide) rfl ?_
  refine v_iconst (pc := 2) (nI 0) dX7_who_2 kI_0 ?_
  refine v_istore_n (pc := 3) [1, 2, 0] [(0, _), (1, _), (2, _)] dX7_who_3 rfl (by decide) rfl ?_
  refine dn (P := fun i => V E X ({ frames := 3, cells := 0, slots := 0, locals := 66 } : Room) RX7 cX7_who 5 (some .int) 0 0 (QX E X false 146 (Ff (some (.int (whM xP xW xQ wm np))) (cellOf E (c, (mkA xP xR xW xS xZ xG xK xT xQ xF xB xL xC, (nI un, nI sz, ft, nI wm, nI fm, nI bm, nI at_, nI bg, sg, nI fg, vl, wr), sd)))) 0 0) false 146 4 [(0, .ref (Ez E + 132)), (1, .int (itn (fun p s => s ||| (if soM xQ (drM xP xW (nI p) np) wm = true then nI 1 <<< (nI p &&& 31) else nI 0)) i (nI 0))), (2, .int (nI i))] [] (cellOf E (c, (mkA xP xR xW xS xZ xG xK xT xQ xF xB xL xC, (nI un, nI sz, ft, nI wm, nI fm, nI bm, nI at_, nI bg, sg, nI fg, vl, wr), sd)))) (N := np) ?_ ?_
  · refine v_iload_n (pc := 4) 2 dX7_who_4 rfl rfl ?_
    refine v_aload_n (pc := 5) 0 dX7_who_5 rfl rfl ?_
    refine g_X7_7 (pc := 6) (cMr_obj) (by decide) rfl dX7_who_6 ?_
    refine v_iconst (pc := 9) (nI 2) dX7_who_9 kI_2 ?_
    refine v_ialdN (pc := 10) (cM_parish) (by decide) (by omega) (by decide) dX7_who_10 ?_
    rw [hp]
    refine v_icmp_geN (pc := 11) (by omega) (by omega) (tgt := 79) dX7_who_11 rfl (fun c_11 => ?_) (fun c_11 => False.elim ((fun c => by omega) c_11))
    refine v_iload_n (pc := 79) 1 dX7_who_79 rfl rfl ?_
    exact v_iret (pc := 80) dX7_who_80 (⟨rfl, rfl⟩)
  · intro i hi ih
    have ih : V E X ({ frames := 3, cells := 0, slots := 0, locals := 66 } : Room) RX7 cX7_who 5 (some .int) 0 0 (QX E X false 146 (Ff (some (.int (whM xP xW xQ wm np))) (cellOf E (c, (mkA xP xR xW xS xZ xG xK xT xQ xF xB xL xC, (nI un, nI sz, ft, nI wm, nI fm, nI bm, nI at_, nI bg, sg, nI fg, vl, wr), sd)))) 0 0) false 146 4 [(0, .ref (Ez E + 132)), (1, .int (itn (fun p s => s ||| (if soM xQ (drM xP xW (nI p) np) wm = true then nI 1 <<< (nI p &&& 31) else nI 0)) i (nI 0) ||| (if soM xQ (drM xP xW (nI i) np) wm = true then nI 1 <<< (nI i &&& 31) else nI 0))), (2, .int (nI (i + 1)))] [] (cellOf E (c, (mkA xP xR xW xS xZ xG xK xT xQ xF xB xL xC, (nI un, nI sz, ft, nI wm, nI fm, nI bm, nI at_, nI bg, sg, nI fg, vl, wr), sd))) := by rw [itn_s] at ih; exact ih
    generalize itn (fun p s => s ||| (if soM xQ (drM xP xW (nI p) np) wm = true then nI 1 <<< (nI p &&& 31) else nI 0)) i (nI 0) = s1 at ih ⊢
    show V E X _ RX7 _ _ _ _ _ _ false 146 _ [(0, .ref (Ez E + 132)), (1, .int (s1)), (2, .int (nI i))] [] (cellOf E (c, (mkA xP xR xW xS xZ xG xK xT xQ xF xB xL xC, (nI un, nI sz, ft, nI wm, nI fm, nI bm, nI at_, nI bg, sg, nI fg, vl, wr), sd)))
    refine v_iload_n (pc := 4) 2 dX7_who_4 rfl rfl ?_
    refine v_aload_n (pc := 5) 0 dX7_who_5 rfl rfl ?_
    refine g_X7_7 (pc := 6) (cMr_obj) (by decide) rfl dX7_who_6 ?_
    refine v_iconst (pc := 9) (nI 2) dX7_who_9 kI_2 ?_
    refine v_ialdN (pc := 10) (cM_parish) (by decide) (by omega) (by decide) dX7_who_10 ?_
    rw [hp]
    refine v_icmp_geN (pc := 11) (by omega) (by omega) (tgt := 79) dX7_who_11 rfl (fun c_11 => False.elim ((fun c => by omega) c_11)) (fun c_11 => ?_)
    refine v_iconst (pc := 14) (nI 1) dX7_who_14 kI_1 ?_
    refine v_istore_n (pc := 15) [1, 2, 3, 0] [(0, _), (1, _), (2, _), (3, _)] dX7_who_15 rfl (by decide) rfl ?_
    refine v_iconst (pc := 16) (nI 0) dX7_who_16 kI_0 ?_
    refine v_istore (pc := 17) [1, 2, 3, 4, 0] [(0, _), (1, _), (2, _), (3, _), (4, _)] dX7_who_17 (by decide) rfl ?_
    refine dn (P := fun e => V E X ({ frames := 3, cells := 0, slots := 0, locals := 66 } : Room) RX7 cX7_who 5 (some .int) 0 0 (QX E X false 146 (Ff (some (.int (whM xP xW xQ wm np))) (cellOf E (c, (mkA xP xR xW xS xZ xG xK xT xQ xF xB xL xC, (nI un, nI sz, ft, nI wm, nI fm, nI bm, nI at_, nI bg, sg, nI fg, vl, wr), sd)))) 0 0) false 146 19 [(0, .ref (Ez E + 132)), (1, .int s1), (2, .int (nI i)), (3, .int (bI (itn (st_so xQ (drM xP xW (nI i) np)) e true))), (4, .int (nI e))] [] (cellOf E (c, (mkA xP xR xW xS xZ xG xK xT xQ xF xB xL xC, (nI un, nI sz, ft, nI wm, nI fm, nI bm, nI at_, nI bg, sg, nI fg, vl, wr), sd)))) (N := wm) ?_ ?_
    · refine v_iload (pc := 19) 4 dX7_who_19 rfl ?_
      refine v_aload_n (pc := 21) 0 dX7_who_21 rfl rfl ?_
      refine g_X7_61 (pc := 22) (cMr_obj) (by decide) rfl dX7_who_22 ?_
      refine v_icmp_geN (pc := 25) (by omega) (by omega) (tgt := 59) dX7_who_25 rfl (fun c_25 => ?_) (fun c_25 => False.elim ((fun c => by omega) c_25))
      refine v_iload_n (pc := 59) 1 dX7_who_59 rfl rfl ?_
      refine v_iload_n (pc := 60) 3 dX7_who_60 rfl rfl ?_
      refine v_if_eqB (pc := 61) (tgt := 70) dX7_who_61 rfl (fun c_61 => ?_) (fun c_61 => ?_)
      · refine v_iconst (pc := 70) (nI 0) dX7_who_70 kI_0 ?_
        refine v_ior (pc := 71) dX7_who_71 ?_
        refine v_istore_n (pc := 72) [1, 0, 2, 3, 4] [(0, _), (1, _), (2, _), (3, _), (4, _)] dX7_who_72 rfl (by decide) rfl ?_
        refine v_iincN (pc := 73) 2 [1, 2, 0, 3, 4] [(0, _), (1, _), (2, _), (3, _), (4, _)] kI_1 dX7_who_73 rfl (by decide) rfl ?_
        refine v_goto (pc := 76) (tgt := 4) dX7_who_76 rfl ?_
        refine v_sub [0, 1, 2] rfl ?_
        rw [if_neg (show ¬ soM xQ (drM xP xW (nI i) np) wm = true from by rw [show soM xQ (drM xP xW (nI i) np) wm = false from c_61]; decide)] at ih
        exact ih
      · refine v_iconst (pc := 64) (nI 1) dX7_who_64 kI_1 ?_
        refine v_iload_n (pc := 65) 2 dX7_who_65 rfl rfl ?_
        refine v_ishl (pc := 66) dX7_who_66 ?_
        refine v_goto (pc := 67) (tgt := 71) dX7_who_67 rfl ?_
        refine v_ior (pc := 71) dX7_who_71 ?_
        refine v_istore_n (pc := 72) [1, 0, 2, 3, 4] [(0, _), (1, _), (2, _), (3, _), (4, _)] dX7_who_72 rfl (by decide) rfl ?_
        refine v_iincN (pc := 73) 2 [1, 2, 0, 3, 4] [(0, _), (1, _), (2, _), (3, _), (4, _)] kI_1 dX7_who_73 rfl (by decide) rfl ?_
        refine v_goto (pc := 76) (tgt := 4) dX7_who_76 rfl ?_
        refine v_sub [0, 1, 2] rfl ?_
        rw [if_pos (show soM xQ (drM xP xW (nI i) np) wm = true from c_61)] at ih
        exact ih
    · intro e he ih
      have ih : V E X ({ frames := 3, cells := 0, slots := 0, locals := 66 } : Room) RX7 cX7_who 5 (some .int) 0 0 (QX E X false 146 (Ff (some (.int (whM xP xW xQ wm np))) (cellOf E (c, (mkA xP xR xW xS xZ xG xK xT xQ xF xB xL xC, (nI un, nI sz, ft, nI wm, nI fm, nI bm, nI at_, nI bg, sg, nI fg, vl, wr), sd)))) 0 0) false 146 19 [(0, .ref (Ez E + 132)), (1, .int s1), (2, .int (nI i)), (3, .int (bI (st_so xQ (drM xP xW (nI i) np) e (itn (st_so xQ (drM xP xW (nI i) np)) e true)))), (4, .int (nI (e + 1)))] [] (cellOf E (c, (mkA xP xR xW xS xZ xG xK xT xQ xF xB xL xC, (nI un, nI sz, ft, nI wm, nI fm, nI bm, nI at_, nI bg, sg, nI fg, vl, wr), sd))) := by rw [itn_s] at ih; exact ih
      generalize itn (st_so xQ (drM xP xW (nI i) np)) e true = b1 at ih ⊢
      show V E X _ RX7 _ _ _ _ _ _ false 146 _ [(0, .ref (Ez E + 132)), (1, .int s1), (2, .int (nI i)), (3, .int (bI (b1))), (4, .int (nI e))] [] (cellOf E (c, (mkA xP xR xW xS xZ xG xK xT xQ xF xB xL xC, (nI un, nI sz, ft, nI wm, nI fm, nI bm, nI at_, nI bg, sg, nI fg, vl, wr), sd)))
      refine v_iload (pc := 19) 4 dX7_who_19 rfl ?_
      refine v_aload_n (pc := 21) 0 dX7_who_21 rfl rfl ?_
      refine g_X7_61 (pc := 22) (cMr_obj) (by decide) rfl dX7_who_22 ?_
      refine v_icmp_geN (pc := 25) (by omega) (by omega) (tgt := 59) dX7_who_25 rfl (fun c_25 => False.elim ((fun c => by omega) c_25)) (fun c_25 => ?_)
      refine v_iload_n (pc := 28) 3 dX7_who_28 rfl rfl ?_
      refine v_if_eqB (pc := 29) (tgt := 51) dX7_who_29 rfl (fun c_29 => ?_) (fun c_29 => ?_)
      · refine v_iconst (pc := 51) (nI 0) dX7_who_51 kI_0 ?_
        refine v_istore_n (pc := 52) [1, 2, 3, 0, 4] [(0, _), (1, _), (2, _), (3, _), (4, _)] dX7_who_52 rfl (by decide) rfl ?_
        refine v_iincN (pc := 53) 4 [1, 2, 3, 4, 0] [(0, _), (1, _), (2, _), (3, _), (4, _)] kI_1 dX7_who_53 rfl (by decide) rfl ?_
        refine v_goto (pc := 56) (tgt := 19) dX7_who_56 rfl ?_
        rw [c_29] at ih
        exact ih
      · refine v_aload_n (pc := 32) 0 dX7_who_32 rfl rfl ?_
        refine v_iload_n (pc := 33) 2 dX7_who_33 rfl rfl ?_
        refine v_callV (pc := 34) _ _ k_X7_162 (cMr_obj) rfl (by decide) (m_drawn hp hnp _) ⟨rfl, rfl, by decide⟩ rfl rfl (Nat.le_of_ble_eq_true rfl) ⟨Nat.le_of_ble_eq_true rfl, Nat.le_of_ble_eq_true rfl⟩ dX7_who_34 (unS ?_)
        show V E X _ RX7 _ _ _ 0 0 _ false 146 37 _ [_] _
        refine v_aload_n (pc := 37) 0 dX7_who_37 rfl rfl ?_
        refine g_X7_39 (pc := 38) (cMr_obj) (by decide) rfl dX7_who_38 ?_
        refine v_iload (pc := 41) 4 dX7_who_41 rfl ?_
        refine v_ialdN (pc := 43) (cM_watched) (by decide) (by omega) (by decide) dX7_who_43 ?_
        refine v_icmp_ne (pc := 44) (tgt := 51) dX7_who_44 rfl (fun c_44 => ?_) (fun c_44 => ?_)
        · refine v_iconst (pc := 51) (nI 0) dX7_who_51 kI_0 ?_
          refine v_istore_n (pc := 52) [1, 2, 3, 0, 4] [(0, _), (1, _), (2, _), (3, _), (4, _)] dX7_who_52 rfl (by decide) rfl ?_
          refine v_iincN (pc := 53) 4 [1, 2, 3, 4, 0] [(0, _), (1, _), (2, _), (3, _), (4, _)] kI_1 dX7_who_53 rfl (by decide) rfl ?_
          refine v_goto (pc := 56) (tgt := 19) dX7_who_56 rfl ?_
          rw [c_29, show st_so xQ (drM xP xW (nI i) np) e true = false from decide_eq_false c_44] at ih
          exact ih
        · refine v_iconst (pc := 47) (nI 1) dX7_who_47 kI_1 ?_
          refine v_goto (pc := 48) (tgt := 52) dX7_who_48 rfl ?_
          refine v_istore_n (pc := 52) [1, 2, 3, 0, 4] [(0, _), (1, _), (2, _), (3, _), (4, _)] dX7_who_52 rfl (by decide) rfl ?_
          refine v_iincN (pc := 53) 4 [1, 2, 3, 4, 0] [(0, _), (1, _), (2, _), (3, _), (4, _)] kI_1 dX7_who_53 rfl (by decide) rfl ?_
          refine v_goto (pc := 56) (tgt := 19) dX7_who_56 rfl ?_
          rw [c_29, show st_so xQ (drM xP xW (nI i) np) e true = true from decide_eq_true c_44] at ih
          exact ih
