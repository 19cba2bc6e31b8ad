/-! the reference's parish -/
def mR0 (R : Fn) : Fn := itn (fun k f => upd f k (nI 0)) 52 R
def mNx (T : Fn) (L : Nat) (z : MZ) : Bool × MZ := if (mClause T L z (z.2.2.2.2.2.2 2).toNatClampNeg (z.2.2.2.2.2.2 3).toNatClampNeg).1 = true then (true, mStep T L (mClause T L z (z.2.2.2.2.2.2 2).toNatClampNeg (z.2.2.2.2.2.2 3).toNatClampNeg).2) else mClause T L z (z.2.2.2.2.2.2 2).toNatClampNeg (z.2.2.2.2.2.2 3).toNatClampNeg
def mLp (T : Fn) (L : Nat) : Nat → Bool × MZ → Bool × MZ
  | 0, r => r
  | f + 1, r => if r.2.2.2.1 < 0 ∨ r.1 = false then r else mLp T L f (mNx T L r.2)
theorem mLp_e {T : Fn} {L f : Nat} {r : Bool × MZ} (h : r.2.2.2.1 < 0 ∨ r.1 = false) : mLp T L f r = r := by
  cases f with
  | zero => rfl
  | succ f => exact if_pos h
theorem mLp_s {T : Fn} {L f : Nat} {b : Bool} {z : MZ} (h0 : 0 < f) (hb : b = true) (hx : ¬ z.2.2.1 < 0) : mLp T L f (b, z) = mLp T L (f - 1) (mNx T L z) := by
  cases f with
  | zero => omega
  | succ f => exact if_neg (by rintro (q | q); exact hx q; rw [show b = false from q] at hb; exact Bool.noConfusion hb)
theorem mNx_f {T : Fn} {L : Nat} {z z2 : MZ} {q d : Nat} {b : Bool} (h2 : z.2.2.2.2.2.2 2 = nI q) (h3 : z.2.2.2.2.2.2 3 = nI d) (hq : q ≤ 7) (hd : d ≤ 9) (h : mClause T L z q d = (b, z2)) (hb : b = false) : mNx T L z = (b, z2) := by
  unfold mNx
  rw [h2, h3, nI_clamp (by omega), nI_clamp (by omega), h, if_neg (show ¬ b = true by rw [hb]; decide)]
theorem mNx_t {T : Fn} {L : Nat} {z z2 z3 : MZ} {q d : Nat} {b : Bool} (h2 : z.2.2.2.2.2.2 2 = nI q) (h3 : z.2.2.2.2.2.2 3 = nI d) (hq : q ≤ 7) (hd : d ≤ 9) (h : mClause T L z q d = (b, z2)) (hb : b = true) (hs : mStep T L z2 = z3) : mNx T L z = (b, z3) := by
  unfold mNx
  rw [h2, h3, nI_clamp (by omega), nI_clamp (by omega), h, if_pos hb, hb, hs]
def mMs (L a : Nat) (x : Int32) (b : Bool) : Nat := if x < 0 ∨ b = false then 2 * (L - a) else 2 * (L - a) + 1
theorem mMs_1 {L a : Nat} {x : Int32} {b : Bool} (hx : ¬ x < 0) (hb : b = true) : mMs L a x b = 2 * (L - a) + 1 := if_neg (by rintro (q | q); exact hx q; rw [q] at hb; exact Bool.noConfusion hb)
theorem mMs_le {L a : Nat} {x : Int32} {b : Bool} : mMs L a x b ≤ 2 * (L - a) + 1 := by unfold mMs; split <;> omega
theorem mMs_0 {L a : Nat} {x : Int32} {b : Bool} (h : x < 0 ∨ b = false) : mMs L a x b = 2 * (L - a) := if_pos h
theorem mMs_st {L a1 a2 a3 : Nat} {x1 x3 : Int32} {b1 b3 : Bool} (hx : ¬ x1 < 0) (hb : b1 = true) (h12 : a1 ≤ a2) (h23 : a2 ≤ a3) (h3 : a3 ≤ L) (hl : ¬ x3 < 0 → a2 < a3) : mMs L a3 x3 b3 < mMs L a1 x1 b1 := by
  rw [mMs_1 hx hb]
  by_cases h : x3 < 0
  · rw [mMs_0 (Or.inl h)]; omega
  · have := hl h; have := mMs_le (L := L) (a := a3) (x := x3) (b := b3); omega
theorem mMs_sf {L a1 a2 : Nat} {x1 x2 : Int32} {b1 b2 : Bool} (hx : ¬ x1 < 0) (hb : b1 = true) (h12 : a1 ≤ a2) (h2 : b2 = false) : mMs L a2 x2 b2 < mMs L a1 x1 b1 := by
  rw [mMs_1 hx hb, mMs_0 (Or.inr h2)]; omega
set_option maxHeartbeats 4000000 in
set_option maxRecDepth 100000 in
theorem m_parish {E : Ev} {c : CSt} {xP xR xW xS xZ xG xK xT xQ xF xB xL xC : Fn} {un sz wm fm bm at_ bg fg : Nat} {ft sg vl wr : Int32} {sd : Int64} (hsz : sz ≤ 240) {a9 g9 f9 : Nat} {x9 v9 w9 : Int32} {R9 : Fn} (hr : mLp xT sz 500 (true, mStep xT sz (0, bg, sg, fg, vl, wr, mR0 xR)) = (true, a9, g9, x9, f9, v9, w9, R9)) {np : Nat} (hR2 : R9 2 = nI np) (hnp : np ≤ 7) : Ct E yX7_parish cX7_parish 2 (some .int) ({ frames := 5, cells := 0, slots := 0, locals := 110 } : Room) false 146 [.ref (Ez E + 132)] (cellOf E (c, (mkA xP xR xW xS xZ xG xK xT xQ xF xB xL xC, (nI un, nI sz, ft, nI wm, nI fm, nI bm, nI at_, nI bg, sg, nI fg, vl, wr), sd))) 146 0 0 (Ff (some (.int (nI np))) (cellOf E (c, (mkA (cpA R9 0 xP 0 52) R9 (bgW (cpA R9 0 xP 0 52) np xW) xS xZ xG (upd (upd xK 0 (nI 0)) 1 (nI 0)) xT xQ xF xB xL xC, (nI 0, nI 0, -1, nI 0, nI 0, nI 0, nI a9, nI g9, x9, nI f9, v9, w9), sd)))) := by
  have hp2 : cpA R9 0 xP 0 52 2 = nI np := by have q := cpA_at (a := R9) (b := xP) (i := 0) (j := 0) (n := 52) (k := 2) (by decide); rw [Nat.zero_add] at q; rw [q]; exact hR2
  refine Ct.ofV (by decide) (Nat.le_of_ble_eq_true rfl) (fun X hnm => ?_)
  show V E X _ RX7 _ _ _ _ _ _ false 146 0 [(0, .ref (Ez E + 132))] [] _
  refine v_iconst (pc := 0) (nI 0) dX7_parish_0 kI_0 ?_
  refine v_istore_n (pc := 1) [1, 0] [(0, _), (1, _)] dX7_parish_1 rfl (by decide) rfl ?_
  refine dn (P := fun i => V E X ({ frames := 5, cells := 0, slots := 0, locals := 110 } : Room) RX7 cX7_parish 2 (some .int) 0 0 (QX E X false 146 (Ff (some (.int (nI np))) (cellOf E (c, (mkA (cpA R9 0 xP 0 52) R9 (bgW (cpA R9 0 xP 0 52) np xW) xS xZ xG (upd (upd xK 0 (nI 0)) 1 (nI 0)) xT xQ xF xB xL xC, (nI 0, nI 0, -1, nI 0, nI 0, nI 0, nI a9, nI g9, x9, nI f9, v9, w9), sd)))) 0 0) false 146 2 [(0, .ref (Ez E + 132)), (1, .int (nI i))] [] (cellOf E (c, (mkA xP (itn (fun k f => upd f k (nI 0)) i xR) xW xS xZ xG xK xT xQ xF xB xL xC, (nI un, nI sz, ft, nI wm, nI fm, nI bm, nI at_, nI bg, sg, nI fg, vl, wr), sd)))) (N := 52) ?_ ?_
  · generalize hR0 : itn (fun k f => upd f k (nI 0)) 52 xR = R0 
    show V E X _ RX7 _ _ _ _ _ _ false 146 _ [(0, .ref (Ez E + 132)), (1, .int (nI 52))] [] (cellOf E (c, (mkA xP R0 xW xS xZ xG xK xT xQ xF xB xL xC, (nI un, nI sz, ft, nI wm, nI fm, nI bm, nI at_, nI bg, sg, nI fg, vl, wr), sd)))
    refine v_iload_n (pc := 2) 1 dX7_parish_2 rfl rfl ?_
    refine v_bipush (pc := 3) (nI 52) dX7_parish_3 kB_52 ?_
    refine v_icmp_geN (pc := 5) (by omega) (by omega) (tgt := 21) dX7_parish_5 rfl (fun c_5 => ?_) (fun c_5 => False.elim ((fun c => by omega) c_5))
    refine v_aload_n (pc := 21) 0 dX7_parish_21 rfl rfl ?_
    refine v_iconst (pc := 22) (nI 0) dX7_parish_22 kI_0 ?_
    refine p_X7_81 (pc := 23) (cMr_obj) (by decide) rfl rfl (Nat.le_of_ble_eq_true rfl) dX7_parish_23 (wM_at_) ?_
    refine v_aload_n (pc := 26) 0 dX7_parish_26 rfl rfl ?_
    refine v_iconst (pc := 27) (-1) dX7_parish_27 kI_m1 ?_
    refine p_X7_35 (pc := 28) (cMr_obj) (by decide) rfl rfl (Nat.le_of_ble_eq_true rfl) dX7_parish_28 (wM_ft) ?_
    refine v_iconst (pc := 31) (nI 1) dX7_parish_31 kI_1 ?_
    refine v_istore_n (pc := 32) [1, 0] [(0, _), (1, _)] dX7_parish_32 rfl (by decide) rfl ?_
    show V E X _ RX7 _ _ _ _ _ _ false 146 33 [(0, .ref (Ez E + 132)), (1, .int (bI true))] [] _
    refine v_aload_n (pc := 33) 0 dX7_parish_33 rfl rfl ?_
    refine v_callV (pc := 34) _ _ k_X7_107 (cMr_obj) rfl (by decide) (m_step hsz (Nat.zero_le _)) ⟨rfl, rfl, by decide⟩ rfl rfl (Nat.le_of_ble_eq_true rfl) ⟨Nat.le_of_ble_eq_true rfl, Nat.le_of_ble_eq_true rfl⟩ dX7_parish_34 (unM (fun a0 g0 x0 f0 v0 w0 Q0 hz0 => ?_))
    have so0 := mStep_ok (T := xT) (L := sz) (z := (0, bg, sg, fg, vl, wr, R0)) (Nat.zero_le _)
    rw [hz0] at so0
    have eR0 : Q0 = R0 := congrArg Prod.snd so0.2.2.2
    show V E X _ RX7 _ _ _ 0 0 _ false 146 37 _ [] _
    have hl_37 : ∀ (m_ : Nat) (f : Nat) (b1 : Bool) (a1 : Nat) (g1 : Nat) (x1 : Int32) (f1 : Nat) (v1 : Int32) (w1 : Int32) (R1 : Fn), mMs sz a1 x1 b1 < m_ → (mzOk sz (a1, g1, x1, f1, v1, w1, R1)) → (∃ q d : Nat, R1 2 = nI q ∧ R1 3 = nI d ∧ q ≤ 7 ∧ d ≤ 9) → (mMs sz a1 x1 b1 ≤ f) → (mLp xT sz f (b1, a1, g1, x1, f1, v1, w1, R1) = mLp xT sz 500 (true, mStep xT sz (0, bg, sg, fg, vl, wr, mR0 xR))) → V E X ({ frames := 5, cells := 0, slots := 0, locals := 110 } : Room) RX7 cX7_parish 2 (some .int) 0 0 (QX E X false 146 (Ff (some (.int (nI np))) (cellOf E (c, (mkA (cpA R9 0 xP 0 52) R9 (bgW (cpA R9 0 xP 0 52) np xW) xS xZ xG (upd (upd xK 0 (nI 0)) 1 (nI 0)) xT xQ xF xB xL xC, (nI 0, nI 0, -1, nI 0, nI 0, nI 0, nI a9, nI g9, x9, nI f9, v9, w9), sd)))) 0 0) false 146 37 [(0, .ref (Ez E + 132)), (1, .int (bI b1))] [] (cellOf E (c, (mkA xP R1 xW xS xZ xG xK xT xQ xF xB xL xC, (nI un, nI sz, -1, nI wm, nI fm, nI bm, nI a1, nI g1, x1, nI f1, v1, w1), sd))) := by
      intro m_
      induction m_ with
      | zero => intro f b1 a1 g1 x1 f1 v1 w1 R1 hm; exact absurd hm (Nat.not_lt_zero _)
      | succ m_ ihm =>
        intro f b1 a1 g1 x1 f1 v1 w1 R1 hm hok hqd hf hs1
        refine v_aload_n (pc := 37) 0 dX7_parish_37 rfl rfl ?_
        refine g_X7_91 (pc := 38) (cMr_obj) (by decide) rfl dX7_parish_38 ?_
        refine v_if_lt (pc := 41) (tgt := 64) dX7_parish_41 rfl (fun c_41 => ?_) (fun c_41 => ?_)
        · have he : (b1, a1, g1, x1, f1, v1, w1, R1) = (true, a9, g9, x9, f9, v9, w9, R9) := (mLp_e (r := (b1, a1, g1, x1, f1, v1, w1, R1)) (Or.inl c_41)).symm.trans (hs1.trans hr)
          injection he with e1 he
          injection he with e2 he
          injection he with e3 he
          injection he with e4 he
          injection he with e5 he
          injection he with e6 he
          injection he with e7 e8
          subst e1 e2 e3 e4 e5 e6 e7 e8
          refine v_aload_n (pc := 64) 0 dX7_parish_64 rfl rfl ?_
          refine v_iconst (pc := 65) (nI 0) dX7_parish_65 kI_0 ?_
          refine p_X7_77 (pc := 66) (cMr_obj) (by decide) rfl rfl (Nat.le_of_ble_eq_true rfl) dX7_parish_66 (wM_sz) ?_
          refine v_iload_n (pc := 69) 1 dX7_parish_69 rfl rfl ?_
          refine v_if_neB (pc := 70) (tgt := 89) dX7_parish_70 rfl (fun c_70 => ?_) (fun c_70 => False.elim ((fun q => Bool.noConfusion q) c_70))
          refine v_aload_n (pc := 89) 0 dX7_parish_89 rfl rfl ?_
          refine g_X7_13 (pc := 90) (cMr_obj) (by decide) rfl dX7_parish_90 ?_
          refine v_iconst (pc := 93) (nI 0) dX7_parish_93 kI_0 ?_
          refine v_aload_n (pc := 94) 0 dX7_parish_94 rfl rfl ?_
          refine g_X7_7 (pc := 95) (cMr_obj) (by decide) rfl dX7_parish_95 ?_
          refine v_iconst (pc := 98) (nI 0) dX7_parish_98 kI_0 ?_
          refine v_bipush (pc := 99) (nI 52) dX7_parish_99 kB_52 ?_
          refine v_callS (pc := 101) _ _ k_X7_54 (m_cp_read_parish (by omega) (by omega)) ⟨rfl, rfl, by decide⟩ rfl rfl (Nat.le_of_ble_eq_true rfl) ⟨Nat.le_of_ble_eq_true rfl, Nat.le_of_ble_eq_true rfl⟩ dX7_parish_101 (unS ?_)
          show V E X _ RX7 _ _ _ 0 0 _ false 146 104 _ [] _
          refine v_aload_n (pc := 104) 0 dX7_parish_104 rfl rfl ?_
          refine v_callV (pc := 105) _ _ k_X7_131 (cMr_obj) rfl (by decide) (m_begins hp2 hnp) ⟨rfl, rfl, by decide⟩ rfl rfl (Nat.le_of_ble_eq_true rfl) ⟨Nat.le_of_ble_eq_true rfl, Nat.le_of_ble_eq_true rfl⟩ dX7_parish_105 (unS ?_)
          show V E X _ RX7 _ _ _ 0 0 _ false 146 108 _ [] _
          refine v_aload_n (pc := 108) 0 dX7_parish_108 rfl rfl ?_
          refine g_X7_7 (pc := 109) (cMr_obj) (by decide) rfl dX7_parish_109 ?_
          refine v_iconst (pc := 112) (nI 2) dX7_parish_112 kI_2 ?_
          refine v_ialdN (pc := 113) (cM_parish) (by decide) (by omega) (by decide) dX7_parish_113 ?_
          rw [hp2]
          exact v_iret (pc := 114) dX7_parish_114 (⟨rfl, rfl⟩)
        · refine v_iload_n (pc := 44) 1 dX7_parish_44 rfl rfl ?_
          refine v_if_eqB (pc := 45) (tgt := 64) dX7_parish_45 rfl (fun c_45 => ?_) (fun c_45 => ?_)
          · have he : (b1, a1, g1, x1, f1, v1, w1, R1) = (true, a9, g9, x9, f9, v9, w9, R9) := (mLp_e (r := (b1, a1, g1, x1, f1, v1, w1, R1)) (Or.inr c_45)).symm.trans (hs1.trans hr)
            exact Bool.noConfusion (show true = false from (congrArg Prod.fst he).symm.trans c_45)
          · obtain ⟨q, d, hq2, hd3, hq7, hd9⟩ := hqd
            refine v_aload_n (pc := 48) 0 dX7_parish_48 rfl rfl ?_
            refine v_callV (pc := 49) _ _ k_X7_128 (cMr_obj) rfl (by decide) (m_clause hsz hok.1 hq2 hd3 hq7 hd9) ⟨rfl, rfl, by decide⟩ rfl rfl (Nat.le_of_ble_eq_true rfl) ⟨Nat.le_of_ble_eq_true rfl, Nat.le_of_ble_eq_true rfl⟩ dX7_parish_49 (unB (fun b2 a2 g2 x2 f2 v2 w2 R2 hz2 => ?_))
            have ck := mClause_ck (T := xT) (L := sz) (z := (a1, g1, x1, f1, v1, w1, R1)) hok hq2 hd3 hq7 hd9
            rw [hz2] at ck
            show V E X _ RX7 _ _ _ 0 0 _ false 146 52 _ [_] _
            refine v_istore_n (pc := 52) [1, 0] [(0, _), (1, _)] dX7_parish_52 rfl (by decide) rfl ?_
            refine v_iload_n (pc := 53) 1 dX7_parish_53 rfl rfl ?_
            refine v_if_eqB (pc := 54) (tgt := 37) dX7_parish_54 rfl (fun c_54 => ?_) (fun c_54 => ?_)
            · have hm1 : 1 ≤ f := by have q := mMs_1 (L := sz) (a := a1) c_41 c_45; omega
              have hlt := mMs_sf (L := sz) (a1 := a1) (a2 := a2) (x2 := x2) c_41 c_45 ck.2.1 c_54
              exact ihm (f - 1) b2  a2  g2  x2  f2  v2  w2  R2 (by omega) ck.1 ck.2.2 (by omega) (by rw [← hs1, mLp_s hm1 c_45 c_41, mNx_f (z := (a1, g1, x1, f1, v1, w1, R1)) hq2 hd3 hq7 hd9 hz2 c_54])
            · refine v_aload_n (pc := 57) 0 dX7_parish_57 rfl rfl ?_
              refine v_callV (pc := 58) _ _ k_X7_107 (cMr_obj) rfl (by decide) (m_step hsz ck.1.1) ⟨rfl, rfl, by decide⟩ rfl rfl (Nat.le_of_ble_eq_true rfl) ⟨Nat.le_of_ble_eq_true rfl, Nat.le_of_ble_eq_true rfl⟩ dX7_parish_58 (unM (fun a3 g3 x3 f3 v3 w3 R3 hz3 => ?_))
              have so := mStep_ok (T := xT) (L := sz) (z := (a2, g2, x2, f2, v2, w2, R2)) ck.1.1
              rw [hz3] at so
              show V E X _ RX7 _ _ _ 0 0 _ false 146 61 _ [] _
              refine v_goto (pc := 61) (tgt := 37) dX7_parish_61 rfl ?_
              have hm1 : 1 ≤ f := by have q := mMs_1 (L := sz) (a := a1) c_41 c_45; omega
              have hlt := mMs_st (L := sz) (a1 := a1) (a2 := a2) (a3 := a3) (x3 := x3) (b3 := b2) c_41 c_45 ck.2.1 so.2.1 so.1.1 so.2.2.1
              have eR : R3 = R2 := congrArg Prod.snd so.2.2.2
              exact ihm (f - 1) b2 a3 g3 x3 f3 v3 w3 R3 (by omega) so.1 (by rw [eR]; exact ck.2.2) (by omega) (by rw [← hs1, mLp_s hm1 c_45 c_41, mNx_t (z := (a1, g1, x1, f1, v1, w1, R1)) hq2 hd3 hq7 hd9 hz2 c_54 hz3])
    exact hl_37 (mMs sz a0 x0 true + 1) 500 true a0 g0 x0 f0 v0 w0 Q0 (by omega) so0.1 ⟨0, 0, by rw [eR0, ← hR0]; rfl, by rw [eR0, ← hR0]; rfl, by omega, by omega⟩ (by have := mMs_le (L := sz) (a := a0) (x := x0) (b := true); omega) (by rw [← hz0, ← hR0]; rfl)
  · intro i hi ih
    have ih : V E X ({ frames := 5, cells := 0, slots := 0, locals := 110 } : Room) RX7 cX7_parish 2 (some .int) 0 0 (QX E X false 146 (Ff (some (.int (nI np))) (cellOf E (c, (mkA (cpA R9 0 xP 0 52) R9 (bgW (cpA R9 0 xP 0 52) np xW) xS xZ xG (upd (upd xK 0 (nI 0)) 1 (nI 0)) xT xQ xF xB xL xC, (nI 0, nI 0, -1, nI 0, nI 0, nI 0, nI a9, nI g9, x9, nI f9, v9, w9), sd)))) 0 0) false 146 2 [(0, .ref (Ez E + 132)), (1, .int (nI (i + 1)))] [] (cellOf E (c, (mkA xP (upd (itn (fun k f => upd f k (nI 0)) i xR) i (nI 0)) xW xS xZ xG xK xT xQ xF xB xL xC, (nI un, nI sz, ft, nI wm, nI fm, nI bm, nI at_, nI bg, sg, nI fg, vl, wr), sd))) := by rw [itn_s] at ih; exact ih
    generalize itn (fun k f => upd f k (nI 0)) i xR = f1 at ih ⊢
    show V E X _ RX7 _ _ _ _ _ _ false 146 _ [(0, .ref (Ez E + 132)), (1, .int (nI i))] [] (cellOf E (c, (mkA xP f1 xW xS xZ xG xK xT xQ xF xB xL xC, (nI un, nI sz, ft, nI wm, nI fm, nI bm, nI at_, nI bg, sg, nI fg, vl, wr), sd)))
    refine v_iload_n (pc := 2) 1 dX7_parish_2 rfl rfl ?_
    refine v_bipush (pc := 3) (nI 52) dX7_parish_3 kB_52 ?_
    refine v_icmp_geN (pc := 5) (by omega) (by omega) (tgt := 21) dX7_parish_5 rfl (fun c_5 => False.elim ((fun c => by omega) c_5)) (fun c_5 => ?_)
    refine v_aload_n (pc := 8) 0 dX7_parish_8 rfl rfl ?_
    refine g_X7_13 (pc := 9) (cMr_obj) (by decide) rfl dX7_parish_9 ?_
    refine v_iload_n (pc := 12) 1 dX7_parish_12 rfl rfl ?_
    refine v_iconst (pc := 13) (nI 0) dX7_parish_13 kI_0 ?_
    refine v_iastN (pc := 14) (cM_read) (by decide) (by omega) (by decide) dX7_parish_14 (wM_read) ?_
    refine v_iincN (pc := 15) 1 [1, 0] [(0, _), (1, _)] kI_1 dX7_parish_15 rfl (by decide) rfl ?_
    refine v_goto (pc := 18) (tgt := 2) dX7_parish_18 rfl ?_
    exact ih
set_option maxHeartbeats 4000000 in
set_option maxRecDepth 100000 in
theorem m_parish1 {E : Ev} {c : CSt} {xP xR xW xS xZ xG xK xT xQ xF xB xL xC : Fn} {un sz wm fm bm at_ bg fg : Nat} {ft sg vl wr : Int32} {sd : Int64} (hsz : sz ≤ 240) {a9 g9 f9 : Nat} {x9 v9 w9 : Int32} {R9 : Fn} (hr : mLp xT sz 500 (true, mStep xT sz (0, bg, sg, fg, vl, wr, mR0 xR)) = (false, a9, g9, x9, f9, v9, w9, R9)) : Ct E yX7_parish cX7_parish 2 (some .int) ({ frames := 5, cells := 0, slots := 0, locals := 110 } : Room) false 146 [.ref (Ez E + 132)] (cellOf E (c, (mkA xP xR xW xS xZ xG xK xT xQ xF xB xL xC, (nI un, nI sz, ft, nI wm, nI fm, nI bm, nI at_, nI bg, sg, nI fg, vl, wr), sd))) 146 0 0 (Ff (some (.int (-10 - w9))) (cellOf E (c, (mkA xP R9 xW xS xZ xG xK xT xQ xF xB xL xC, (nI un, nI 0, nI g9, nI wm, nI fm, nI bm, nI a9, nI g9, x9, nI f9, v9, w9), sd)))) := by
  refine Ct.ofV (by decide) (Nat.le_of_ble_eq_true rfl) (fun X hnm => ?_)
  show V E X _ RX7 _ _ _ _ _ _ false 146 0 [(0, .ref (Ez E + 132))] [] _
  refine v_iconst (pc := 0) (nI 0) dX7_parish_0 kI_0 ?_
  refine v_istore_n (pc := 1) [1, 0] [(0, _), (1, _)] dX7_parish_1 rfl (by decide) rfl ?_
  refine dn (P := fun i => V E X ({ frames := 5, cells := 0, slots := 0, locals := 110 } : Room) RX7 cX7_parish 2 (some .int) 0 0 (QX E X false 146 (Ff (some (.int (-10 - w9))) (cellOf E (c, (mkA xP R9 xW xS xZ xG xK xT xQ xF xB xL xC, (nI un, nI 0, nI g9, nI wm, nI fm, nI bm, nI a9, nI g9, x9, nI f9, v9, w9), sd)))) 0 0) false 146 2 [(0, .ref (Ez E + 132)), (1, .int (nI i))] [] (cellOf E (c, (mkA xP (itn (fun k f => upd f k (nI 0)) i xR) xW xS xZ xG xK xT xQ xF xB xL xC, (nI un, nI sz, ft, nI wm, nI fm, nI bm, nI at_, nI bg, sg, nI fg, vl, wr), sd)))) (N := 52) ?_ ?_
  · generalize hR0 : itn (fun k f => upd f k (nI 0)) 52 xR = R0 
    show V E X _ RX7 _ _ _ _ _ _ false 146 _ [(0, .ref (Ez E + 132)), (1, .int (nI 52))] [] (cellOf E (c, (mkA xP R0 xW xS xZ xG xK xT xQ xF xB xL xC, (nI un, nI sz, ft, nI wm, nI fm, nI bm, nI at_, nI bg, sg, nI fg, vl, wr), sd)))
    refine v_iload_n (pc := 2) 1 dX7_parish_2 rfl rfl ?_
    refine v_bipush (pc := 3) (nI 52) dX7_parish_3 kB_52 ?_
    refine v_icmp_geN (pc := 5) (by omega) (by omega) (tgt := 21) dX7_parish_5 rfl (fun c_5 => ?_) (fun c_5 => False.elim ((fun c => by omega) c_5))
    refine v_aload_n (pc := 21) 0 dX7_parish_21 rfl rfl ?_
    refine v_iconst (pc := 22) (nI 0) dX7_parish_22 kI_0 ?_
    refine p_X7_81 (pc := 23) (cMr_obj) (by decide) rfl rfl (Nat.le_of_ble_eq_true rfl) dX7_parish_23 (wM_at_) ?_
    refine v_aload_n (pc := 26) 0 dX7_parish_26 rfl rfl ?_
    refine v_iconst (pc := 27) (-1) dX7_parish_27 kI_m1 ?_
    refine p_X7_35 (pc := 28) (cMr_obj) (by decide) rfl rfl (Nat.le_of_ble_eq_true rfl) dX7_parish_28 (wM_ft) ?_
    refine v_iconst (pc := 31) (nI 1) dX7_parish_31 kI_1 ?_
    refine v_istore_n (pc := 32) [1, 0] [(0, _), (1, _)] dX7_parish_32 rfl (by decide) rfl ?_
    show V E X _ RX7 _ _ _ _ _ _ false 146 33 [(0, .ref (Ez E + 132)), (1, .int (bI true))] [] _
    refine v_aload_n (pc := 33) 0 dX7_parish_33 rfl rfl ?_
    refine v_callV (pc := 34) _ _ k_X7_107 (cMr_obj) rfl (by decide) (m_step hsz (Nat.zero_le _)) ⟨rfl, rfl, by decide⟩ rfl rfl (Nat.le_of_ble_eq_true rfl) ⟨Nat.le_of_ble_eq_true rfl, Nat.le_of_ble_eq_true rfl⟩ dX7_parish_34 (unM (fun a0 g0 x0 f0 v0 w0 Q0 hz0 => ?_))
    have so0 := mStep_ok (T := xT) (L := sz) (z := (0, bg, sg, fg, vl, wr, R0)) (Nat.zero_le _)
    rw [hz0] at so0
    have eR0 : Q0 = R0 := congrArg Prod.snd so0.2.2.2
    show V E X _ RX7 _ _ _ 0 0 _ false 146 37 _ [] _
    have hl_37 : ∀ (m_ : Nat) (f : Nat) (b1 : Bool) (a1 : Nat) (g1 : Nat) (x1 : Int32) (f1 : Nat) (v1 : Int32) (w1 : Int32) (R1 : Fn), mMs sz a1 x1 b1 < m_ → (mzOk sz (a1, g1, x1, f1, v1, w1, R1)) → (∃ q d : Nat, R1 2 = nI q ∧ R1 3 = nI d ∧ q ≤ 7 ∧ d ≤ 9) → (mMs sz a1 x1 b1 ≤ f) → (mLp xT sz f (b1, a1, g1, x1, f1, v1, w1, R1) = mLp xT sz 500 (true, mStep xT sz (0, bg, sg, fg, vl, wr, mR0 xR))) → V E X ({ frames := 5, cells := 0, slots := 0, locals := 110 } : Room) RX7 cX7_parish 2 (some .int) 0 0 (QX E X false 146 (Ff (some (.int (-10 - w9))) (cellOf E (c, (mkA xP R9 xW xS xZ xG xK xT xQ xF xB xL xC, (nI un, nI 0, nI g9, nI wm, nI fm, nI bm, nI a9, nI g9, x9, nI f9, v9, w9), sd)))) 0 0) false 146 37 [(0, .ref (Ez E + 132)), (1, .int (bI b1))] [] (cellOf E (c, (mkA xP R1 xW xS xZ xG xK xT xQ xF xB xL xC, (nI un, nI sz, -1, nI wm, nI fm, nI bm, nI a1, nI g1, x1, nI f1, v1, w1), sd))) := by
      intro m_
      induction m_ with
      | zero => intro f b1 a1 g1 x1 f1 v1 w1 R1 hm; exact absurd hm (Nat.not_lt_zero _)
      | succ m_ ihm =>
        intro f b1 a1 g1 x1 f1 v1 w1 R1 hm hok hqd hf hs1
        refine v_aload_n (pc := 37) 0 dX7_parish_37 rfl rfl ?_
        refine g_X7_91 (pc := 38) (cMr_obj) (by decide) rfl dX7_parish_38 ?_
        refine v_if_lt (pc := 41) (tgt := 64) dX7_parish_41 rfl (fun c_41 => ?_) (fun c_41 => ?_)
        · have he : (b1, a1, g1, x1, f1, v1, w1, R1) = (false, a9, g9, x9, f9, v9, w9, R9) := (mLp_e (r := (b1, a1, g1, x1, f1, v1, w1, R1)) (Or.inl c_41)).symm.trans (hs1.trans hr)
          injection he with e1 he
          injection he with e2 he
          injection he with e3 he
          injection he with e4 he
          injection he with e5 he
          injection he with e6 he
          injection he with e7 e8
          subst e1 e2 e3 e4 e5 e6 e7 e8
          refine v_aload_n (pc := 64) 0 dX7_parish_64 rfl rfl ?_
          refine v_iconst (pc := 65) (nI 0) dX7_parish_65 kI_0 ?_
          refine p_X7_77 (pc := 66) (cMr_obj) (by decide) rfl rfl (Nat.le_of_ble_eq_true rfl) dX7_parish_66 (wM_sz) ?_
          refine v_iload_n (pc := 69) 1 dX7_parish_69 rfl rfl ?_
          refine v_if_neB (pc := 70) (tgt := 89) dX7_parish_70 rfl (fun c_70 => False.elim ((fun q => Bool.noConfusion q) c_70)) (fun c_70 => ?_)
          refine v_aload_n (pc := 73) 0 dX7_parish_73 rfl rfl ?_
          refine v_aload_n (pc := 74) 0 dX7_parish_74 rfl rfl ?_
          refine g_X7_88 (pc := 75) (cMr_obj) (by decide) rfl dX7_parish_75 ?_
          refine p_X7_35 (pc := 78) (cMr_obj) (by decide) rfl rfl (Nat.le_of_ble_eq_true rfl) dX7_parish_78 (wM_ft) ?_
          refine v_bipush (pc := 81) (-10) dX7_parish_81 kB_m10 ?_
          refine v_aload_n (pc := 83) 0 dX7_parish_83 rfl rfl ?_
          refine g_X7_104 (pc := 84) (cMr_obj) (by decide) rfl dX7_parish_84 ?_
          refine v_isub (pc := 87) dX7_parish_87 ?_
          exact v_iret (pc := 88) dX7_parish_88 (⟨rfl, rfl⟩)
        · refine v_iload_n (pc := 44) 1 dX7_parish_44 rfl rfl ?_
          refine v_if_eqB (pc := 45) (tgt := 64) dX7_parish_45 rfl (fun c_45 => ?_) (fun c_45 => ?_)
          · have he : (b1, a1, g1, x1, f1, v1, w1, R1) = (false, a9, g9, x9, f9, v9, w9, R9) := (mLp_e (r := (b1, a1, g1, x1, f1, v1, w1, R1)) (Or.inr c_45)).symm.trans (hs1.trans hr)
            injection he with e1 he
            injection he with e2 he
            injection he with e3 he
            injection he with e4 he
            injection he with e5 he
            injection he with e6 he
            injection he with e7 e8
            subst e1 e2 e3 e4 e5 e6 e7 e8
            refine v_aload_n (pc := 64) 0 dX7_parish_64 rfl rfl ?_
            refine v_iconst (pc := 65) (nI 0) dX7_parish_65 kI_0 ?_
            refine p_X7_77 (pc := 66) (cMr_obj) (by decide) rfl rfl (Nat.le_of_ble_eq_true rfl) dX7_parish_66 (wM_sz) ?_
            refine v_iload_n (pc := 69) 1 dX7_parish_69 rfl rfl ?_
            refine v_if_neB (pc := 70) (tgt := 89) dX7_parish_70 rfl (fun c_70 => False.elim ((fun q => Bool.noConfusion q) c_70)) (fun c_70 => ?_)
            refine v_aload_n (pc := 73) 0 dX7_parish_73 rfl rfl ?_
            refine v_aload_n (pc := 74) 0 dX7_parish_74 rfl rfl ?_
            refine g_X7_88 (pc := 75) (cMr_obj) (by decide) rfl dX7_parish_75 ?_
            refine p_X7_35 (pc := 78) (cMr_obj) (by decide) rfl rfl (Nat.le_of_ble_eq_true rfl) dX7_parish_78 (wM_ft) ?_
            refine v_bipush (pc := 81) (-10) dX7_parish_81 kB_m10 ?_
            refine v_aload_n (pc := 83) 0 dX7_parish_83 rfl rfl ?_
            refine g_X7_104 (pc := 84) (cMr_obj) (by decide) rfl dX7_parish_84 ?_
            refine v_isub (pc := 87) dX7_parish_87 ?_
            exact v_iret (pc := 88) dX7_parish_88 (⟨rfl, rfl⟩)
          · obtain ⟨q, d, hq2, hd3, hq7, hd9⟩ := hqd
            refine v_aload_n (pc := 48) 0 dX7_parish_48 rfl rfl ?_
            refine v_callV (pc := 49) _ _ k_X7_128 (cMr_obj) rfl (by decide) (m_clause hsz hok.1 hq2 hd3 hq7 hd9) ⟨rfl, rfl, by decide⟩ rfl rfl (Nat.le_of_ble_eq_true rfl) ⟨Nat.le_of_ble_eq_true rfl, Nat.le_of_ble_eq_true rfl⟩ dX7_parish_49 (unB (fun b2 a2 g2 x2 f2 v2 w2 R2 hz2 => ?_))
            have ck := mClause_ck (T := xT) (L := sz) (z := (a1, g1, x1, f1, v1, w1, R1)) hok hq2 hd3 hq7 hd9
            rw [hz2] at ck
            show V E X _ RX7 _ _ _ 0 0 _ false 146 52 _ [_] _
            refine v_istore_n (pc := 52) [1, 0] [(0, _), (1, _)] dX7_parish_52 rfl (by decide) rfl ?_
            refine v_iload_n (pc := 53) 1 dX7_parish_53 rfl rfl ?_
            refine v_if_eqB (pc := 54) (tgt := 37) dX7_parish_54 rfl (fun c_54 => ?_) (fun c_54 => ?_)
            · have hm1 : 1 ≤ f := by have q := mMs_1 (L := sz) (a := a1) c_41 c_45; omega
              have hlt := mMs_sf (L := sz) (a1 := a1) (a2 := a2) (x2 := x2) c_41 c_45 ck.2.1 c_54
              exact ihm (f - 1) b2  a2  g2  x2  f2  v2  w2  R2 (by omega) ck.1 ck.2.2 (by omega) (by rw [← hs1, mLp_s hm1 c_45 c_41, mNx_f (z := (a1, g1, x1, f1, v1, w1, R1)) hq2 hd3 hq7 hd9 hz2 c_54])
            · refine v_aload_n (pc := 57) 0 dX7_parish_57 rfl rfl ?_
              refine v_callV (pc := 58) _ _ k_X7_107 (cMr_obj) rfl (by decide) (m_step hsz ck.1.1) ⟨rfl, rfl, by decide⟩ rfl rfl (Nat.le_of_ble_eq_true rfl) ⟨Nat.le_of_ble_eq_true rfl, Nat.le_of_ble_eq_true rfl⟩ dX7_parish_58 (unM (fun a3 g3 x3 f3 v3 w3 R3 hz3 => ?_))
              have so := mStep_ok (T := xT) (L := sz) (z := (a2, g2, x2, f2, v2, w2, R2)) ck.1.1
              rw [hz3] at so
              show V E X _ RX7 _ _ _ 0 0 _ false 146 61 _ [] _
              refine v_goto (pc := 61) (tgt := 37) dX7_parish_61 rfl ?_
              have hm1 : 1 ≤ f := by have q := mMs_1 (L := sz) (a := a1) c_41 c_45; omega
              have hlt := mMs_st (L := sz) (a1 := a1) (a2 := a2) (a3 := a3) (x3 := x3) (b3 := b2) c_41 c_45 ck.2.1 so.2.1 so.1.1 so.2.2.1
              have eR : R3 = R2 := congrArg Prod.snd so.2.2.2
              exact ihm (f - 1) b2 a3 g3 x3 f3 v3 w3 R3 (by omega) so.1 (by rw [eR]; exact ck.2.2) (by omega) (by rw [← hs1, mLp_s hm1 c_45 c_41, mNx_t (z := (a1, g1, x1, f1, v1, w1, R1)) hq2 hd3 hq7 hd9 hz2 c_54 hz3])
    exact hl_37 (mMs sz a0 x0 true + 1) 500 true a0 g0 x0 f0 v0 w0 Q0 (by omega) so0.1 ⟨0, 0, by rw [eR0, ← hR0]; rfl, by rw [eR0, ← hR0]; rfl, by omega, by omega⟩ (by have := mMs_le (L := sz) (a := a0) (x := x0) (b := true); omega) (by rw [← hz0, ← hR0]; rfl)
  · intro i hi ih
    have ih : V E X ({ frames := 5, cells := 0, slots := 0, locals := 110 } : Room) RX7 cX7_parish 2 (some .int) 0 0 (QX E X false 146 (Ff (some (.int (-10 - w9))) (cellOf E (c, (mkA xP R9 xW xS xZ xG xK xT xQ xF xB xL xC, (nI un, nI 0, nI g9, nI wm, nI fm, nI bm, nI a9, nI g9, x9, nI f9, v9, w9), sd)))) 0 0) false 146 2 [(0, .ref (Ez E + 132)), (1, .int (nI (i + 1)))] [] (cellOf E (c, (mkA xP (upd (itn (fun k f => upd f k (nI 0)) i xR) i (nI 0)) xW xS xZ xG xK xT xQ xF xB xL xC, (nI un, nI sz, ft, nI wm, nI fm, nI bm, nI at_, nI bg, sg, nI fg, vl, wr), sd))) := by rw [itn_s] at ih; exact ih
    generalize itn (fun k f => upd f k (nI 0)) i xR = f1 at ih ⊢
    show V E X _ RX7 _ _ _ _ _ _ false 146 _ [(0, .ref (Ez E + 132)), (1, .int (nI i))] [] (cellOf E (c, (mkA xP f1 xW xS xZ xG xK xT xQ xF xB xL xC, (nI un, nI sz, ft, nI wm, nI fm, nI bm, nI at_, nI bg, sg, nI fg, vl, wr), sd)))
    refine v_iload_n (pc := 2) 1 dX7_parish_2 rfl rfl ?_
    refine v_bipush (pc := 3) (nI 52) dX7_parish_3 kB_52 ?_
    refine v_icmp_geN (pc := 5) (by omega) (by omega) (tgt := 21) dX7_parish_5 rfl (fun c_5 => False.elim ((fun c => by omega) c_5)) (fun c_5 => ?_)
    refine v_aload_n (pc := 8) 0 dX7_parish_8 rfl rfl ?_
    refine g_X7_13 (pc := 9) (cMr_obj) (by decide) rfl dX7_parish_9 ?_
    refine v_iload_n (pc := 12) 1 dX7_parish_12 rfl rfl ?_
    refine v_iconst (pc := 13) (nI 0) dX7_parish_13 kI_0 ?_
    refine v_iastN (pc := 14) (cM_read) (by decide) (by omega) (by decide) dX7_parish_14 (wM_read) ?_
    refine v_iincN (pc := 15) 1 [1, 0] [(0, _), (1, _)] kI_1 dX7_parish_15 rfl (by decide) rfl ?_
    refine v_goto (pc := 18) (tgt := 2) dX7_parish_18 rfl ?_
    exact ih
