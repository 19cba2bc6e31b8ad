theorem k_tri {E : Ev} {σ : Sg} : Ct E yX0_copyFrom cX0_copyFrom 2 none ({ frames := 1, cells := 0, slots := 0, locals := 40 } : Room) false 146 [.ref (Ez E + adr 1), .ref (Ez E + adr 0)] (cellOf E σ) 146 0 0 (Ff none (cellOf E (sFl σ 1 (triF σ)))) := c_copyS (by decide) (by decide) (by decide)
theorem k_copyT {E : Ev} {σ : Sg} {G : FlockV} : Ct E yX0_copyFrom cX0_copyFrom 2 none ({ frames := 1, cells := 0, slots := 0, locals := 40 } : Room) false 146 [.ref (Ez E + adr 1), .ref (Ez E + adr 0)] (cellOf E (sFl σ 1 G)) 146 0 0 (Ff none (cellOf E (sFl σ 1 (fl_copy (gF σ 0) G)))) := by
  have h := c_copyS (E := E) (σ := sFl σ 1 G) (k := 1) (l := 0) (by decide) (by decide) (by decide)
  rw [gF_s, gF_ne _ _ (show 0 ≠ 1 by decide), sFl_s] at h; exact h
set_option maxHeartbeats 4000000 in
set_option maxRecDepth 100000 in
theorem s_hat {E : Ev} {σ : Sg} (hW : WC σ) (a n : Int32) : Ct E yX6_hat cX6_hat 4 (some .int) ({ frames := 5, cells := 0, slots := 0, locals := 111 } : Room) false 146 [.ref (Ez E + 0), .int a, .int n] (cellOf E σ) 146 0 0 (Ff (some (.int (cs_hat σ a n).1)) (cellOf E (cs_hat σ a n).2)) := by
  obtain ⟨⟨hj, hdj, hjd⟩, hPs, ⟨x_, s_, hQ, hx, hs⟩, ⟨wa, df, wf, ep, eb, ws, fs, es, hS, hws, hfs, hes, hep⟩, ⟨lt, L, m, fa, fn, ap, hT, hL, hm⟩⟩ := hW
  rcases hU : gU σ with ⟨j, dj, se, is, it, oo⟩
  rw [hU] at hj hdj hjd
  simp only at hj hdj hjd
  obtain ⟨np, nd, sd, du, tr, kd, bd, dr, dt, cr, ow, hP, hnp, hnd, hdt, hcr⟩ := hPs j hj
  have eH : hereP σ = (sd, du, tr, nI np, nI nd, kd, bd, dr, dt, cr, ow) := by show gP σ (gU σ).1 = _; rw [hU]; exact hP
  have eNp : hNp σ = np := by show parNp (hereP σ) = np; rw [eH]; exact nI_clamp (by omega)
  have eNd : hNd σ = nd := by show parNd (hereP σ) = nd; rw [eH]; exact nI_clamp (by omega)
  refine Ct.ofV (by decide) (Nat.le_of_ble_eq_true rfl) (fun X hnm => ?_)
  show V E X _ RX6 _ _ _ _ _ _ false 146 0 [(0, .ref (Ez E + 0)), (1, .int a), (2, .int n)] [] _
  refine v_aload_n (pc := 0) 0 dX6_hat_0 rfl rfl ?_
  refine g_X6_19 (pc := 1) (cUr_obj hU) (by decide) rfl dX6_hat_1 ?_
  refine v_iload_n (pc := 4) 1 dX6_hat_4 rfl rfl ?_
  refine v_callV (pc := 5) _ _ k_X6_156 (cPr_obj hj hP) rfl (pad_lt0 hj) (c_hasPerson hj hP hnp hnd _) ⟨rfl, rfl, by decide⟩ rfl rfl (Nat.le_of_ble_eq_true rfl) ⟨Nat.le_of_ble_eq_true rfl, Nat.le_of_ble_eq_true rfl⟩ dX6_hat_5 (unS ?_)
  show V E X _ RX6 _ _ _ 0 0 _ false 146 8 _ [_] _
  refine v_if_neB (pc := 8) (tgt := 14) dX6_hat_8 rfl (fun c_8 => ?_) (fun c_8 => ?_)
  · refine v_iload_n (pc := 14) 2 dX6_hat_14 rfl rfl ?_
    refine v_iconst (pc := 15) (nI 0) dX6_hat_15 kI_0 ?_
    refine v_bipush (pc := 16) (nI 100) dX6_hat_16 kB_100 ?_
    refine v_callS (pc := 18) _ _ k_X6_76 (c_isOutside _ _ _) ⟨rfl, rfl, by decide⟩ rfl rfl (Nat.le_of_ble_eq_true rfl) ⟨Nat.le_of_ble_eq_true rfl, Nat.le_of_ble_eq_true rfl⟩ dX6_hat_18 (unS ?_)
    show V E X _ RX6 _ _ _ 0 0 _ false 146 21 _ [_] _
    refine v_if_eqB (pc := 21) (tgt := 27) dX6_hat_21 rfl (fun c_21 => ?_) (fun c_21 => ?_)
    · obtain ⟨m, hm1, hm2, rfl⟩ := outB_nat (lo := 0) (hi := 100) (by omega) (by omega) c_21
      refine v_aload_n (pc := 27) 0 dX6_hat_27 rfl rfl ?_
      refine g_X6_33 (pc := 28) (cUr_obj hU) (by decide) rfl dX6_hat_28 ?_
      refine v_aload_n (pc := 31) 0 dX6_hat_31 rfl rfl ?_
      refine g_X6_29 (pc := 32) (cUr_obj hU) (by decide) rfl dX6_hat_32 ?_
      refine v_callV (pc := 35) _ _ k_X6_238 (cF_obj 1 (by decide)) rfl (adr_lt0 (by decide)) (k_tri) ⟨rfl, rfl, by decide⟩ rfl rfl (Nat.le_of_ble_eq_true rfl) ⟨Nat.le_of_ble_eq_true rfl, Nat.le_of_ble_eq_true rfl⟩ dX6_hat_35 (unS ?_)
      show V E X _ RX6 _ _ _ 0 0 _ false 146 38 _ [] _
      refine v_iconst (pc := 38) (nI 0) dX6_hat_38 kI_0 ?_
      refine v_istore_n (pc := 39) [1, 2, 3, 0] [(0, _), (1, _), (2, _), (3, _)] dX6_hat_39 rfl (by decide) rfl ?_
      refine dn (P := fun i => V E X ({ frames := 5, cells := 0, slots := 0, locals := 111 } : Room) RX6 cX6_hat 4 (some .int) 0 0 (QX E X false 146 (Ff (some (.int (cs_hat σ a (nI m)).1)) (cellOf E (cs_hat σ a (nI m)).2)) 0 0) false 146 40 [(0, .ref (Ez E + 0)), (1, .int a), (2, .int (nI m)), (3, .int (nI i))] [] (cellOf E (sFl σ 1 (passN kd du np i (triF σ))))) (N := m) ?_ ?_
      · refine v_iload_n (pc := 40) 3 dX6_hat_40 rfl rfl ?_
        refine v_iload_n (pc := 41) 2 dX6_hat_41 rfl rfl ?_
        refine v_icmp_geN (pc := 42) (by omega) (by omega) (tgt := 62) dX6_hat_42 rfl (fun c_42 => ?_) (fun c_42 => False.elim ((fun c => by omega) c_42))
        refine v_aload_n (pc := 62) 0 dX6_hat_62 rfl rfl ?_
        refine g_X6_33 (pc := 63) (cUr_obj hU) (by decide) rfl dX6_hat_63 ?_
        refine g_X6_164 (pc := 66) (cF_obj 1 (by decide)) (adr_lt0 (by decide)) rfl dX6_hat_66 ?_
        refine v_iload_n (pc := 69) 1 dX6_hat_69 rfl rfl ?_
        refine v_iald (pc := 70) (cF_b 1 (by decide)) (adr_lt (by decide) (by decide)) (perB_in c_8 hnp) dX6_hat_70 ?_
        exact v_iret (pc := 71) dX6_hat_71 (by unfold cs_hat; rw [eNp, if_pos c_8, if_neg (by rw [c_21]; decide), eH, show (nI m).toNatClampNeg = m from nI_clamp (by omega)]; exact ⟨by rw [gF_s], rfl⟩)
      · intro i hi ih
        refine v_iload_n (pc := 40) 3 dX6_hat_40 rfl rfl ?_
        refine v_iload_n (pc := 41) 2 dX6_hat_41 rfl rfl ?_
        refine v_icmp_geN (pc := 42) (by omega) (by omega) (tgt := 62) dX6_hat_42 rfl (fun c_42 => False.elim ((fun c => by omega) c_42)) (fun c_42 => ?_)
        refine v_aload_n (pc := 45) 0 dX6_hat_45 rfl rfl ?_
        refine g_X6_33 (pc := 46) (cUr_obj hU) (by decide) rfl dX6_hat_46 ?_
        refine v_aload_n (pc := 49) 0 dX6_hat_49 rfl rfl ?_
        refine g_X6_19 (pc := 50) (cUr_obj hU) (by decide) rfl dX6_hat_50 ?_
        refine v_callV (pc := 53) _ _ k_X6_229 (cF_obj 1 (by decide)) rfl (adr_lt0 (by decide)) (kS_pass (σ := σ) (k := 1) (by decide) hj hP hnp hnd) ⟨rfl, rfl, by decide⟩ rfl rfl (Nat.le_of_ble_eq_true rfl) ⟨Nat.le_of_ble_eq_true rfl, Nat.le_of_ble_eq_true rfl⟩ dX6_hat_53 (unS ?_)
        show V E X _ RX6 _ _ _ 0 0 _ false 146 56 _ [] _
        refine v_iincN (pc := 56) 3 [1, 2, 3, 0] [(0, _), (1, _), (2, _), (3, _)] kI_1 dX6_hat_56 rfl (by decide) rfl ?_
        refine v_goto (pc := 59) (tgt := 40) dX6_hat_59 rfl ?_
        exact ih
    · refine v_ldc (pc := 24) _ kc_X6_80 dX6_hat_24 rfl ?_
      exact v_iret (pc := 26) dX6_hat_26 (by unfold cs_hat; rw [eNp, if_pos c_8, if_pos c_21]; exact ⟨rfl, rfl⟩)
  · refine v_ldc (pc := 11) _ kc_X6_160 dX6_hat_11 rfl ?_
    exact v_iret (pc := 13) dX6_hat_13 (by unfold cs_hat; rw [eNp, if_neg (by rw [c_8]; decide)]; exact ⟨rfl, rfl⟩)
set_option maxHeartbeats 4000000 in
set_option maxRecDepth 100000 in
theorem s_most {E : Ev} {σ : Sg} (hW : WC σ) (a n w : Int32) : Ct E yX6_most cX6_most 7 (some .int) ({ frames := 5, cells := 0, slots := 0, locals := 111 } : Room) false 146 [.ref (Ez E + 0), .int a, .int n, .int w] (cellOf E σ) 146 0 0 (Ff (some (.int (cs_most σ a n w).1)) (cellOf E (cs_most σ a n w).2)) := by
  obtain ⟨⟨hj, hdj, hjd⟩, hPs, ⟨x_, s_, hQ, hx, hs⟩, ⟨wa, df, wf, ep, eb, ws, fs, es, hS, hws, hfs, hes, hep⟩, ⟨lt, L, m, fa, fn, ap, hT, hL, hm⟩⟩ := hW
  rcases hU : gU σ with ⟨j, dj, se, is, it, oo⟩
  rw [hU] at hj hdj hjd
  simp only at hj hdj hjd
  obtain ⟨np, nd, sd, du, tr, kd, bd, dr, dt, cr, ow, hP, hnp, hnd, hdt, hcr⟩ := hPs j hj
  have eH : hereP σ = (sd, du, tr, nI np, nI nd, kd, bd, dr, dt, cr, ow) := by show gP σ (gU σ).1 = _; rw [hU]; exact hP
  have eNp : hNp σ = np := by show parNp (hereP σ) = np; rw [eH]; exact nI_clamp (by omega)
  have eNd : hNd σ = nd := by show parNd (hereP σ) = nd; rw [eH]; exact nI_clamp (by omega)
  have eM : ∀ a m, mostN σ a m = itn (st_most kd du np a) m (fB (triF σ) a, nI 0, triF σ) := by intro a m; unfold mostN; rw [eH, eNp]
  refine Ct.ofV (by decide) (Nat.le_of_ble_eq_true rfl) (fun X hnm => ?_)
  show V E X _ RX6 _ _ _ _ _ _ false 146 0 [(0, .ref (Ez E + 0)), (1, .int a), (2, .int n), (3, .int w)] [] _
  refine v_aload_n (pc := 0) 0 dX6_most_0 rfl rfl ?_
  refine g_X6_19 (pc := 1) (cUr_obj hU) (by decide) rfl dX6_most_1 ?_
  refine v_iload_n (pc := 4) 1 dX6_most_4 rfl rfl ?_
  refine v_callV (pc := 5) _ _ k_X6_156 (cPr_obj hj hP) rfl (pad_lt0 hj) (c_hasPerson hj hP hnp hnd _) ⟨rfl, rfl, by decide⟩ rfl rfl (Nat.le_of_ble_eq_true rfl) ⟨Nat.le_of_ble_eq_true rfl, Nat.le_of_ble_eq_true rfl⟩ dX6_most_5 (unS ?_)
  show V E X _ RX6 _ _ _ 0 0 _ false 146 8 _ [_] _
  refine v_if_neB (pc := 8) (tgt := 14) dX6_most_8 rfl (fun c_8 => ?_) (fun c_8 => ?_)
  · refine v_iload_n (pc := 14) 2 dX6_most_14 rfl rfl ?_
    refine v_iconst (pc := 15) (nI 0) dX6_most_15 kI_0 ?_
    refine v_bipush (pc := 16) (nI 100) dX6_most_16 kB_100 ?_
    refine v_callS (pc := 18) _ _ k_X6_76 (c_isOutside _ _ _) ⟨rfl, rfl, by decide⟩ rfl rfl (Nat.le_of_ble_eq_true rfl) ⟨Nat.le_of_ble_eq_true rfl, Nat.le_of_ble_eq_true rfl⟩ dX6_most_18 (unS ?_)
    show V E X _ RX6 _ _ _ 0 0 _ false 146 21 _ [_] _
    refine v_if_neB (pc := 21) (tgt := 33) dX6_most_21 rfl (fun c_21 => ?_) (fun c_21 => ?_)
    · refine v_ldc (pc := 33) _ kc_X6_80 dX6_most_33 rfl ?_
      exact v_iret (pc := 35) dX6_most_35 (by unfold cs_most; rw [eNp, if_pos c_8, if_pos (Or.inl c_21)]; exact ⟨rfl, rfl⟩)
    · refine v_iload_n (pc := 24) 3 dX6_most_24 rfl rfl ?_
      refine v_iconst (pc := 25) (nI 0) dX6_most_25 kI_0 ?_
      refine v_iconst (pc := 26) (nI 1) dX6_most_26 kI_1 ?_
      refine v_callS (pc := 27) _ _ k_X6_76 (c_isOutside _ _ _) ⟨rfl, rfl, by decide⟩ rfl rfl (Nat.le_of_ble_eq_true rfl) ⟨Nat.le_of_ble_eq_true rfl, Nat.le_of_ble_eq_true rfl⟩ dX6_most_27 (unS ?_)
      show V E X _ RX6 _ _ _ 0 0 _ false 146 30 _ [_] _
      refine v_if_eqB (pc := 30) (tgt := 36) dX6_most_30 rfl (fun c_30 => ?_) (fun c_30 => ?_)
      · obtain ⟨m, hm1, hm2, rfl⟩ := outB_nat (lo := 0) (hi := 100) (by omega) (by omega) c_21
        refine v_aload_n (pc := 36) 0 dX6_most_36 rfl rfl ?_
        refine g_X6_33 (pc := 37) (cUr_obj hU) (by decide) rfl dX6_most_37 ?_
        refine v_aload_n (pc := 40) 0 dX6_most_40 rfl rfl ?_
        refine g_X6_29 (pc := 41) (cUr_obj hU) (by decide) rfl dX6_most_41 ?_
        refine v_callV (pc := 44) _ _ k_X6_238 (cF_obj 1 (by decide)) rfl (adr_lt0 (by decide)) (k_tri) ⟨rfl, rfl, by decide⟩ rfl rfl (Nat.le_of_ble_eq_true rfl) ⟨Nat.le_of_ble_eq_true rfl, Nat.le_of_ble_eq_true rfl⟩ dX6_most_44 (unS ?_)
        show V E X _ RX6 _ _ _ 0 0 _ false 146 47 _ [] _
        refine v_aload_n (pc := 47) 0 dX6_most_47 rfl rfl ?_
        refine g_X6_33 (pc := 48) (cUr_obj hU) (by decide) rfl dX6_most_48 ?_
        refine g_X6_164 (pc := 51) (cF_obj 1 (by decide)) (adr_lt0 (by decide)) rfl dX6_most_51 ?_
        refine v_iload_n (pc := 54) 1 dX6_most_54 rfl rfl ?_
        refine v_iald (pc := 55) (cF_b 1 (by decide)) (adr_lt (by decide) (by decide)) (perB_in c_8 hnp) dX6_most_55 ?_
        refine v_istore (pc := 56) [1, 2, 3, 4, 0] [(0, _), (1, _), (2, _), (3, _), (4, _)] dX6_most_56 (by decide) rfl ?_
        rw [gF_s]
        refine v_iconst (pc := 58) (nI 0) dX6_most_58 kI_0 ?_
        refine v_istore (pc := 59) [1, 2, 3, 4, 5, 0] [(0, _), (1, _), (2, _), (3, _), (4, _), (5, _)] dX6_most_59 (by decide) rfl ?_
        refine v_iconst (pc := 61) (nI 1) dX6_most_61 kI_1 ?_
        refine v_istore (pc := 62) [1, 2, 3, 4, 5, 6, 0] [(0, _), (1, _), (2, _), (3, _), (4, _), (5, _), (6, _)] dX6_most_62 (by decide) rfl ?_
        refine dn (P := fun i => V E X ({ frames := 5, cells := 0, slots := 0, locals := 111 } : Room) RX6 cX6_most 7 (some .int) 0 0 (QX E X false 146 (Ff (some (.int (cs_most σ a (nI m) w).1)) (cellOf E (cs_most σ a (nI m) w).2)) 0 0) false 146 64 [(0, .ref (Ez E + 0)), (1, .int a), (2, .int (nI m)), (3, .int w), (4, .int (itn (st_most kd du np a.toNatClampNeg) i (fB (triF σ) a.toNatClampNeg, nI 0, triF σ)).1), (5, .int (itn (st_most kd du np a.toNatClampNeg) i (fB (triF σ) a.toNatClampNeg, nI 0, triF σ)).2.1), (6, .int (nI (i + 1)))] [] (cellOf E (sFl σ 1 (itn (st_most kd du np a.toNatClampNeg) i (fB (triF σ) a.toNatClampNeg, nI 0, triF σ)).2.2))) (N := m) ?_ ?_
        · generalize hFl : itn (st_most kd du np a.toNatClampNeg) m (fB (triF σ) a.toNatClampNeg, nI 0, triF σ) = z_ 
          obtain ⟨z8, z9, F9⟩ := z_
          show V E X _ RX6 _ _ _ _ _ _ false 146 _ [(0, .ref (Ez E + 0)), (1, .int a), (2, .int (nI m)), (3, .int w), (4, .int z8), (5, .int z9), (6, .int (nI (m + 1)))] [] (cellOf E (sFl σ 1 F9))
          refine v_iload (pc := 64) 6 dX6_most_64 rfl ?_
          refine v_iload_n (pc := 66) 2 dX6_most_66 rfl rfl ?_
          refine v_icmp_gtN (pc := 67) (by omega) (by omega) (tgt := 116) dX6_most_67 rfl (fun c_67 => ?_) (fun c_67 => False.elim ((fun c => by omega) c_67))
          refine v_iload_n (pc := 116) 3 dX6_most_116 rfl rfl ?_
          refine v_if_ne (pc := 117) (tgt := 125) dX6_most_117 rfl (fun c_117 => ?_) (fun c_117 => ?_)
          · refine v_iload (pc := 125) 4 dX6_most_125 rfl ?_
            exact v_iret (pc := 127) dX6_most_127 (by unfold cs_most; rw [eNp, if_pos c_8, if_neg (by rintro (q | q); rw [c_21] at q; exact Bool.noConfusion q; rw [c_30] at q; exact Bool.noConfusion q), show (nI m).toNatClampNeg = m from nI_clamp (by omega), eM, hFl]; exact ⟨by rw [if_neg c_117], rfl⟩)
          · refine v_iload (pc := 120) 5 dX6_most_120 rfl ?_
            refine v_goto (pc := 122) (tgt := 127) dX6_most_122 rfl ?_
            exact v_iret (pc := 127) dX6_most_127 (by unfold cs_most; rw [eNp, if_pos c_8, if_neg (by rintro (q | q); rw [c_21] at q; exact Bool.noConfusion q; rw [c_30] at q; exact Bool.noConfusion q), show (nI m).toNatClampNeg = m from nI_clamp (by omega), eM, hFl]; exact ⟨by rw [if_pos c_117], rfl⟩)
        · intro i hi ih
          have ih : V E X ({ frames := 5, cells := 0, slots := 0, locals := 111 } : Room) RX6 cX6_most 7 (some .int) 0 0 (QX E X false 146 (Ff (some (.int (cs_most σ a (nI m) w).1)) (cellOf E (cs_most σ a (nI m) w).2)) 0 0) false 146 64 [(0, .ref (Ez E + 0)), (1, .int a), (2, .int (nI m)), (3, .int w), (4, .int (st_most kd du np a.toNatClampNeg i (itn (st_most kd du np a.toNatClampNeg) i (fB (triF σ) a.toNatClampNeg, nI 0, triF σ))).1), (5, .int (st_most kd du np a.toNatClampNeg i (itn (st_most kd du np a.toNatClampNeg) i (fB (triF σ) a.toNatClampNeg, nI 0, triF σ))).2.1), (6, .int (nI ((i + 1) + 1)))] [] (cellOf E (sFl σ 1 (st_most kd du np a.toNatClampNeg i (itn (st_most kd du np a.toNatClampNeg) i (fB (triF σ) a.toNatClampNeg, nI 0, triF σ))).2.2)) := by rw [itn_s] at ih; exact ih
          generalize itn (st_most kd du np a.toNatClampNeg) i (fB (triF σ) a.toNatClampNeg, nI 0, triF σ) = z_ at ih ⊢
          obtain ⟨z1, z2, F1⟩ := z_
          show V E X _ RX6 _ _ _ _ _ _ false 146 _ [(0, .ref (Ez E + 0)), (1, .int a), (2, .int (nI m)), (3, .int w), (4, .int z1), (5, .int z2), (6, .int (nI (i + 1)))] [] (cellOf E (sFl σ 1 F1))
          refine v_iload (pc := 64) 6 dX6_most_64 rfl ?_
          refine v_iload_n (pc := 66) 2 dX6_most_66 rfl rfl ?_
          refine v_icmp_gtN (pc := 67) (by omega) (by omega) (tgt := 116) dX6_most_67 rfl (fun c_67 => False.elim ((fun c => by omega) c_67)) (fun c_67 => ?_)
          refine v_aload_n (pc := 70) 0 dX6_most_70 rfl rfl ?_
          refine g_X6_33 (pc := 71) (cUr_obj hU) (by decide) rfl dX6_most_71 ?_
          refine v_aload_n (pc := 74) 0 dX6_most_74 rfl rfl ?_
          refine g_X6_19 (pc := 75) (cUr_obj hU) (by decide) rfl dX6_most_75 ?_
          refine v_callV (pc := 78) _ _ k_X6_229 (cF_obj 1 (by decide)) rfl (adr_lt0 (by decide)) (kS_pass (σ := σ) (k := 1) (by decide) hj hP hnp hnd) ⟨rfl, rfl, by decide⟩ rfl rfl (Nat.le_of_ble_eq_true rfl) ⟨Nat.le_of_ble_eq_true rfl, Nat.le_of_ble_eq_true rfl⟩ dX6_most_78 (unS ?_)
          show V E X _ RX6 _ _ _ 0 0 _ false 146 81 _ [] _
          refine v_aload_n (pc := 81) 0 dX6_most_81 rfl rfl ?_
          refine g_X6_33 (pc := 82) (cUr_obj hU) (by decide) rfl dX6_most_82 ?_
          refine g_X6_164 (pc := 85) (cF_obj 1 (by decide)) (adr_lt0 (by decide)) rfl dX6_most_85 ?_
          refine v_iload_n (pc := 88) 1 dX6_most_88 rfl rfl ?_
          refine v_iald (pc := 89) (cF_b 1 (by decide)) (adr_lt (by decide) (by decide)) (perB_in c_8 hnp) dX6_most_89 ?_
          refine v_iload (pc := 90) 4 dX6_most_90 rfl ?_
          refine v_icmp_le (pc := 92) (tgt := 110) dX6_most_92 rfl (fun c_92 => ?_) (fun c_92 => ?_)
          · refine v_iincN (pc := 110) 6 [1, 2, 3, 4, 5, 6, 0] [(0, _), (1, _), (2, _), (3, _), (4, _), (5, _), (6, _)] kI_1 dX6_most_110 rfl (by decide) rfl ?_
            refine v_goto (pc := 113) (tgt := 64) dX6_most_113 rfl ?_
            rw [gF_s] at c_92
            rw [show st_most kd du np a.toNatClampNeg i (z1, z2, F1) = _ from if_pos c_92] at ih
            exact ih
          · refine v_aload_n (pc := 95) 0 dX6_most_95 rfl rfl ?_
            refine g_X6_33 (pc := 96) (cUr_obj hU) (by decide) rfl dX6_most_96 ?_
            refine g_X6_164 (pc := 99) (cF_obj 1 (by decide)) (adr_lt0 (by decide)) rfl dX6_most_99 ?_
            refine v_iload_n (pc := 102) 1 dX6_most_102 rfl rfl ?_
            refine v_iald (pc := 103) (cF_b 1 (by decide)) (adr_lt (by decide) (by decide)) (perB_in c_8 hnp) dX6_most_103 ?_
            refine v_istore (pc := 104) [1, 2, 3, 4, 0, 5, 6] [(0, _), (1, _), (2, _), (3, _), (4, _), (5, _), (6, _)] dX6_most_104 (by decide) rfl ?_
            refine v_iload (pc := 106) 6 dX6_most_106 rfl ?_
            refine v_istore (pc := 108) [1, 2, 3, 4, 5, 0, 6] [(0, _), (1, _), (2, _), (3, _), (4, _), (5, _), (6, _)] dX6_most_108 (by decide) rfl ?_
            refine v_iincN (pc := 110) 6 [1, 2, 3, 4, 5, 6, 0] [(0, _), (1, _), (2, _), (3, _), (4, _), (5, _), (6, _)] kI_1 dX6_most_110 rfl (by decide) rfl ?_
            refine v_goto (pc := 113) (tgt := 64) dX6_most_113 rfl ?_
            rw [gF_s] at c_92
            rw [show st_most kd du np a.toNatClampNeg i (z1, z2, F1) = (fB (fl_pass F1 kd du np) a.toNatClampNeg, nI (i + 1), fl_pass F1 kd du np) from if_neg c_92] at ih
            rw [gF_s]
            exact ih
      · refine v_ldc (pc := 33) _ kc_X6_80 dX6_most_33 rfl ?_
        exact v_iret (pc := 35) dX6_most_35 (by unfold cs_most; rw [eNp, if_pos c_8, if_pos (Or.inr c_30)]; exact ⟨rfl, rfl⟩)
  · refine v_ldc (pc := 11) _ kc_X6_160 dX6_most_11 rfl ?_
    exact v_iret (pc := 13) dX6_most_13 (by unfold cs_most; rw [eNp, if_neg (by rw [c_8]; decide)]; exact ⟨rfl, rfl⟩)
set_option maxHeartbeats 4000000 in
set_option maxRecDepth 100000 in
theorem s_kept {E : Ev} {σ : Sg} (hW : WC σ) (a : Int32) : Ct E yX6_kept cX6_kept 3 (some .int) ({ frames := 4, cells := 0, slots := 0, locals := 90 } : Room) false 146 [.ref (Ez E + 0), .int a] (cellOf E σ) 146 0 0 (Ff (some (.int (cs_kept σ a).1)) (cellOf E (cs_kept σ a).2)) := by
  obtain ⟨⟨hj, hdj, hjd⟩, hPs, ⟨x_, s_, hQ, hx, hs⟩, ⟨wa, df, wf, ep, eb, ws, fs, es, hS, hws, hfs, hes, hep⟩, ⟨lt, L, m, fa, fn, ap, hT, hL, hm⟩⟩ := hW
  rcases hU : gU σ with ⟨j, dj, se, is, it, oo⟩
  rw [hU] at hj hdj hjd
  simp only at hj hdj hjd
  obtain ⟨np, nd, sd, du, tr, kd, bd, dr, dt, cr, ow, hP, hnp, hnd, hdt, hcr⟩ := hPs j hj
  have eH : hereP σ = (sd, du, tr, nI np, nI nd, kd, bd, dr, dt, cr, ow) := by show gP σ (gU σ).1 = _; rw [hU]; exact hP
  have eNp : hNp σ = np := by show parNp (hereP σ) = np; rw [eH]; exact nI_clamp (by omega)
  have eNd : hNd σ = nd := by show parNd (hereP σ) = nd; rw [eH]; exact nI_clamp (by omega)
  refine Ct.ofV (by decide) (Nat.le_of_ble_eq_true rfl) (fun X hnm => ?_)
  show V E X _ RX6 _ _ _ _ _ _ false 146 0 [(0, .ref (Ez E + 0)), (1, .int a)] [] _
  refine v_aload_n (pc := 0) 0 dX6_kept_0 rfl rfl ?_
  refine g_X6_19 (pc := 1) (cUr_obj hU) (by decide) rfl dX6_kept_1 ?_
  refine v_iload_n (pc := 4) 1 dX6_kept_4 rfl rfl ?_
  refine v_callV (pc := 5) _ _ k_X6_156 (cPr_obj hj hP) rfl (pad_lt0 hj) (c_hasPerson hj hP hnp hnd _) ⟨rfl, rfl, by decide⟩ rfl rfl (Nat.le_of_ble_eq_true rfl) ⟨Nat.le_of_ble_eq_true rfl, Nat.le_of_ble_eq_true rfl⟩ dX6_kept_5 (unS ?_)
  show V E X _ RX6 _ _ _ 0 0 _ false 146 8 _ [_] _
  refine v_if_neB (pc := 8) (tgt := 14) dX6_kept_8 rfl (fun c_8 => ?_) (fun c_8 => ?_)
  · refine v_aload_n (pc := 14) 0 dX6_kept_14 rfl rfl ?_
    refine g_X6_33 (pc := 15) (cUr_obj hU) (by decide) rfl dX6_kept_15 ?_
    refine v_aload_n (pc := 18) 0 dX6_kept_18 rfl rfl ?_
    refine g_X6_29 (pc := 19) (cUr_obj hU) (by decide) rfl dX6_kept_19 ?_
    refine v_callV (pc := 22) _ _ k_X6_238 (cF_obj 1 (by decide)) rfl (adr_lt0 (by decide)) (k_tri) ⟨rfl, rfl, by decide⟩ rfl rfl (Nat.le_of_ble_eq_true rfl) ⟨Nat.le_of_ble_eq_true rfl, Nat.le_of_ble_eq_true rfl⟩ dX6_kept_22 (unS ?_)
    show V E X _ RX6 _ _ _ 0 0 _ false 146 25 _ [] _
    refine v_aload_n (pc := 25) 0 dX6_kept_25 rfl rfl ?_
    refine g_X6_33 (pc := 26) (cUr_obj hU) (by decide) rfl dX6_kept_26 ?_
    refine v_aload_n (pc := 29) 0 dX6_kept_29 rfl rfl ?_
    refine g_X6_19 (pc := 30) (cUr_obj hU) (by decide) rfl dX6_kept_30 ?_
    refine v_callV (pc := 33) _ _ k_X6_241 (cF_obj 1 (by decide)) rfl (adr_lt0 (by decide)) (kS_fly (σ := σ) (k := 1) (by decide) hj hP hnp hnd) ⟨rfl, rfl, by decide⟩ rfl rfl (Nat.le_of_ble_eq_true rfl) ⟨Nat.le_of_ble_eq_true rfl, Nat.le_of_ble_eq_true rfl⟩ dX6_kept_33 (unS ?_)
    show V E X _ RX6 _ _ _ 0 0 _ false 146 36 _ [] _
    refine v_iconst (pc := 36) (nI 1) dX6_kept_36 kI_1 ?_
    refine v_istore_n (pc := 37) [1, 2, 0] [(0, _), (1, _), (2, _)] dX6_kept_37 rfl (by decide) rfl ?_
    have hl_38 : ∀ (m_ : Nat) (i : Nat) (F1 : FlockV), 24 - i < m_ → (1 ≤ i) → (i ≤ 24) → (kpN kd du np (24 - i) F1 = kpN kd du np 23 (fl_fly (triF σ) kd np)) → V E X ({ frames := 4, cells := 0, slots := 0, locals := 90 } : Room) RX6 cX6_kept 3 (some .int) 0 0 (QX E X false 146 (Ff (some (.int (cs_kept σ a).1)) (cellOf E (cs_kept σ a).2)) 0 0) false 146 38 [(0, .ref (Ez E + 0)), (1, .int a), (2, .int (nI i))] [] (cellOf E (sFl σ 1 F1)) := by
      intro m_
      induction m_ with
      | zero => intro i F1 hm; exact absurd hm (Nat.not_lt_zero _)
      | succ m_ ihm =>
        intro i F1 hm hi1 hi hs1
        refine v_iload_n (pc := 38) 2 dX6_kept_38 rfl rfl ?_
        refine v_bipush (pc := 39) (nI 24) dX6_kept_39 kB_24 ?_
        refine v_icmp_geN (pc := 41) (by omega) (by omega) (tgt := 75) dX6_kept_41 rfl (fun c_41 => ?_) (fun c_41 => ?_)
        · refine v_aload_n (pc := 75) 0 dX6_kept_75 rfl rfl ?_
          refine g_X6_33 (pc := 76) (cUr_obj hU) (by decide) rfl dX6_kept_76 ?_
          refine g_X6_164 (pc := 79) (cF_obj 1 (by decide)) (adr_lt0 (by decide)) rfl dX6_kept_79 ?_
          refine v_iload_n (pc := 82) 1 dX6_kept_82 rfl rfl ?_
          refine v_iald (pc := 83) (cF_b 1 (by decide)) (adr_lt (by decide) (by decide)) (perB_in c_8 hnp) dX6_kept_83 ?_
          exact v_iret (pc := 84) dX6_kept_84 (by unfold cs_kept; rw [eNp, if_pos c_8, eH, show kpN (parKd (sd, du, tr, nI np, nI nd, kd, bd, dr, dt, cr, ow)) (parDu (sd, du, tr, nI np, nI nd, kd, bd, dr, dt, cr, ow)) np 23 (fl_fly (triF σ) (parKd (sd, du, tr, nI np, nI nd, kd, bd, dr, dt, cr, ow)) np) = F1 from hs1.symm.trans (show kpN kd du np (24 - i) F1 = F1 from by rw [show 24 - i = 0 by omega]; rfl)]; exact ⟨by rw [gF_s], rfl⟩)
        · refine v_aload_n (pc := 44) 0 dX6_kept_44 rfl rfl ?_
          refine g_X6_33 (pc := 45) (cUr_obj hU) (by decide) rfl dX6_kept_45 ?_
          refine v_aload_n (pc := 48) 0 dX6_kept_48 rfl rfl ?_
          refine g_X6_19 (pc := 49) (cUr_obj hU) (by decide) rfl dX6_kept_49 ?_
          refine v_callV (pc := 52) _ _ k_X6_244 (cF_obj 1 (by decide)) rfl (adr_lt0 (by decide)) (k_dusk (k := 1) (by decide) rfl hj hP hnp hnd) ⟨rfl, rfl, by decide⟩ rfl rfl (Nat.le_of_ble_eq_true rfl) ⟨Nat.le_of_ble_eq_true rfl, Nat.le_of_ble_eq_true rfl⟩ dX6_kept_52 (unS ?_)
          show V E X _ RX6 _ _ _ 0 0 _ false 146 55 _ [_] _
          refine v_if_neB (pc := 55) (tgt := 75) dX6_kept_55 rfl (fun c_55 => ?_) (fun c_55 => ?_)
          · refine v_aload_n (pc := 75) 0 dX6_kept_75 rfl rfl ?_
            refine g_X6_33 (pc := 76) (cUr_obj hU) (by decide) rfl dX6_kept_76 ?_
            refine g_X6_164 (pc := 79) (cF_obj 1 (by decide)) (adr_lt0 (by decide)) rfl dX6_kept_79 ?_
            refine v_iload_n (pc := 82) 1 dX6_kept_82 rfl rfl ?_
            refine v_iald (pc := 83) (cF_b 1 (by decide)) (adr_lt (by decide) (by decide)) (perB_in c_8 hnp) dX6_kept_83 ?_
            exact v_iret (pc := 84) dX6_kept_84 (by unfold cs_kept; rw [eNp, if_pos c_8, eH, show kpN (parKd (sd, du, tr, nI np, nI nd, kd, bd, dr, dt, cr, ow)) (parDu (sd, du, tr, nI np, nI nd, kd, bd, dr, dt, cr, ow)) np 23 (fl_fly (triF σ) (parKd (sd, du, tr, nI np, nI nd, kd, bd, dr, dt, cr, ow)) np) = F1 from hs1.symm.trans (show kpN kd du np (24 - i) F1 = F1 from by rw [show 24 - i = (23 - i) + 1 by omega]; show (if duskB (fH F1) du = true then _ else _) = _; rw [if_pos (by rw [← gF_s σ 1 F1, c_55])])]; exact ⟨by rw [gF_s], rfl⟩)
          · refine v_aload_n (pc := 58) 0 dX6_kept_58 rfl rfl ?_
            refine g_X6_33 (pc := 59) (cUr_obj hU) (by decide) rfl dX6_kept_59 ?_
            refine v_aload_n (pc := 62) 0 dX6_kept_62 rfl rfl ?_
            refine g_X6_19 (pc := 63) (cUr_obj hU) (by decide) rfl dX6_kept_63 ?_
            refine v_callV (pc := 66) _ _ k_X6_241 (cF_obj 1 (by decide)) rfl (adr_lt0 (by decide)) (kS_fly (σ := σ) (k := 1) (by decide) hj hP hnp hnd) ⟨rfl, rfl, by decide⟩ rfl rfl (Nat.le_of_ble_eq_true rfl) ⟨Nat.le_of_ble_eq_true rfl, Nat.le_of_ble_eq_true rfl⟩ dX6_kept_66 (unS ?_)
            show V E X _ RX6 _ _ _ 0 0 _ false 146 69 _ [] _
            refine v_iincN (pc := 69) 2 [1, 2, 0] [(0, _), (1, _), (2, _)] kI_1 dX6_kept_69 rfl (by decide) rfl ?_
            refine v_goto (pc := 72) (tgt := 38) dX6_kept_72 rfl ?_
            exact ihm (i + 1) _ (by omega) (by omega) (by omega) (by rw [← hs1, show 24 - i = (24 - (i + 1)) + 1 by omega]; show _ = if duskB (fH F1) du = true then _ else _; rw [if_neg (by rw [← gF_s σ 1 F1, c_55]; decide)])
    exact hl_38 (24) 1 (fl_fly (triF σ) kd np) (by omega) (by omega) (by omega) rfl
  · refine v_ldc (pc := 11) _ kc_X6_160 dX6_kept_11 rfl ?_
    exact v_iret (pc := 13) dX6_kept_13 (by unfold cs_kept; rw [eNp, if_neg (by rw [c_8]; decide)]; exact ⟨rfl, rfl⟩)
theorem wF_net {E : Ev} {σ : Sg} {F : FlockV} {v : Int32} (o' : Nat) (ho : o' < 146) : cellOf E (sFl σ 1 (fl_net F v)) o' = va_up (cellOf E (sFl σ 1 F)) (adr 1) (.inr (0, [.int (fT F), .int (fH F), .int v, .int (fR F), .int (fE F), .ref (Ez E + (adr 1 + 1)), .ref (Ez E + (adr 1 + 2)), .ref (Ez E + (adr 1 + 3)), .ref (Ez E + (adr 1 + 4))])) o' := by
  obtain ⟨t, hr, nt, rg, pe, b, c, o, p⟩ := F
  exact wF_nt (by decide) o' ho
theorem cF_objS {E : Ev} {σ : Sg} {F : FlockV} : cellOf E (sFl σ 1 F) (adr 1) = .inr (0, [.int (fT F), .int (fH F), .int (fN F), .int (fR F), .int (fE F), .ref (Ez E + (adr 1 + 1)), .ref (Ez E + (adr 1 + 2)), .ref (Ez E + (adr 1 + 3)), .ref (Ez E + (adr 1 + 4))]) := by
  obtain ⟨t, hr, nt, rg, pe, b, c, o, p⟩ := F
  exact cFr_obj (by decide) (gF_s _ _ _)
set_option maxHeartbeats 4000000 in
set_option maxRecDepth 100000 in
theorem c_bw {E : Ev} {σ : Sg} {G : FlockV} {dj : Nat} {se : Int32} {is it oo : Fn} {j np nd : Nat} {sd du tr : Int32} {kd bd dr dt cr ow : Fn} (hj : j < 2) (hP : gP σ j = (sd, du, tr, nI np, nI nd, kd, bd, dr, dt, cr, ow)) (hnp : np ≤ 7) (hnd : nd ≤ 9) (hU : gU σ = (j, dj, se, is, it, oo)) (s : Int32) {m : Nat} (hm : m ≤ 24) : Ct E yX6_birdsWithNets cX6_birdsWithNets 4 (some .int) ({ frames := 5, cells := 0, slots := 0, locals := 111 } : Room) false 146 [.ref (Ez E + 0), .int s, .int (nI m)] (cellOf E (sFl σ 1 G)) 146 0 0 (Ff (some (.int (sm (fB (bwN (gF σ 0) kd du np s m G)) 7))) (cellOf E (sFl σ 1 (bwN (gF σ 0) kd du np s m G)))) := by
  refine Ct.ofV (by decide) (Nat.le_of_ble_eq_true rfl) (fun X hnm => ?_)
  show V E X _ RX6 _ _ _ _ _ _ false 146 0 [(0, .ref (Ez E + 0)), (1, .int s), (2, .int (nI m))] [] _
  refine v_aload_n (pc := 0) 0 dX6_birdsWithNets_0 rfl rfl ?_
  refine g_X6_33 (pc := 1) (cUr_obj hU) (by decide) rfl dX6_birdsWithNets_1 ?_
  refine v_aload_n (pc := 4) 0 dX6_birdsWithNets_4 rfl rfl ?_
  refine g_X6_29 (pc := 5) (cUr_obj hU) (by decide) rfl dX6_birdsWithNets_5 ?_
  refine v_callV (pc := 8) _ _ k_X6_238 (cF_objS) rfl (adr_lt0 (by decide)) (k_copyT) ⟨rfl, rfl, by decide⟩ rfl rfl (Nat.le_of_ble_eq_true rfl) ⟨Nat.le_of_ble_eq_true rfl, Nat.le_of_ble_eq_true rfl⟩ dX6_birdsWithNets_8 (unS ?_)
  show V E X _ RX6 _ _ _ 0 0 _ false 146 11 _ [] _
  refine v_aload_n (pc := 11) 0 dX6_birdsWithNets_11 rfl rfl ?_
  refine g_X6_33 (pc := 12) (cUr_obj hU) (by decide) rfl dX6_birdsWithNets_12 ?_
  refine v_dup (pc := 15) dX6_birdsWithNets_15 rfl ?_
  refine g_X6_123 (pc := 16) (cF_objS) (adr_lt0 (by decide)) rfl dX6_birdsWithNets_16 ?_
  refine v_iload_n (pc := 19) 1 dX6_birdsWithNets_19 rfl rfl ?_
  refine v_ior (pc := 20) dX6_birdsWithNets_20 ?_
  refine p_X6_123 (pc := 21) (cF_objS) (adr_lt0 (by decide)) rfl rfl (Nat.le_of_ble_eq_true rfl) dX6_birdsWithNets_21 (wF_net) ?_
  refine v_iconst (pc := 24) (nI 0) dX6_birdsWithNets_24 kI_0 ?_
  refine v_istore_n (pc := 25) [1, 2, 3, 0] [(0, _), (1, _), (2, _), (3, _)] dX6_birdsWithNets_25 rfl (by decide) rfl ?_
  refine dn (P := fun i => V E X ({ frames := 5, cells := 0, slots := 0, locals := 111 } : Room) RX6 cX6_birdsWithNets 4 (some .int) 0 0 (QX E X false 146 (Ff (some (.int (sm (fB (bwN (gF σ 0) kd du np s m G)) 7))) (cellOf E (sFl σ 1 (bwN (gF σ 0) kd du np s m G)))) 0 0) false 146 26 [(0, .ref (Ez E + 0)), (1, .int s), (2, .int (nI m)), (3, .int (nI i))] [] (cellOf E (sFl σ 1 (passN kd du np i (fl_net (fl_copy (gF σ 0) G) (fN (fl_copy (gF σ 0) G) ||| s)))))) (N := m) ?_ ?_
  · refine v_iload_n (pc := 26) 3 dX6_birdsWithNets_26 rfl rfl ?_
    refine v_iload_n (pc := 27) 2 dX6_birdsWithNets_27 rfl rfl ?_
    refine v_icmp_geN (pc := 28) (by omega) (by omega) (tgt := 48) dX6_birdsWithNets_28 rfl (fun c_28 => ?_) (fun c_28 => False.elim ((fun c => by omega) c_28))
    refine v_aload_n (pc := 48) 0 dX6_birdsWithNets_48 rfl rfl ?_
    refine g_X6_33 (pc := 49) (cUr_obj hU) (by decide) rfl dX6_birdsWithNets_49 ?_
    refine v_callV (pc := 52) _ _ k_X6_119 (cF_objS) rfl (adr_lt0 (by decide)) (k_hats (by decide) (gF_s σ 1 _)) ⟨rfl, rfl, by decide⟩ rfl rfl (Nat.le_of_ble_eq_true rfl) ⟨Nat.le_of_ble_eq_true rfl, Nat.le_of_ble_eq_true rfl⟩ dX6_birdsWithNets_52 (unS ?_)
    show V E X _ RX6 _ _ _ 0 0 _ false 146 55 _ [_] _
    exact v_iret (pc := 55) dX6_birdsWithNets_55 (⟨rfl, rfl⟩)
  · intro i hi ih
    refine v_iload_n (pc := 26) 3 dX6_birdsWithNets_26 rfl rfl ?_
    refine v_iload_n (pc := 27) 2 dX6_birdsWithNets_27 rfl rfl ?_
    refine v_icmp_geN (pc := 28) (by omega) (by omega) (tgt := 48) dX6_birdsWithNets_28 rfl (fun c_28 => False.elim ((fun c => by omega) c_28)) (fun c_28 => ?_)
    refine v_aload_n (pc := 31) 0 dX6_birdsWithNets_31 rfl rfl ?_
    refine g_X6_33 (pc := 32) (cUr_obj hU) (by decide) rfl dX6_birdsWithNets_32 ?_
    refine v_aload_n (pc := 35) 0 dX6_birdsWithNets_35 rfl rfl ?_
    refine g_X6_19 (pc := 36) (cUr_obj hU) (by decide) rfl dX6_birdsWithNets_36 ?_
    refine v_callV (pc := 39) _ _ k_X6_229 (cF_objS) rfl (adr_lt0 (by decide)) (kS_pass (σ := σ) (k := 1) (by decide) hj hP hnp hnd) ⟨rfl, rfl, by decide⟩ rfl rfl (Nat.le_of_ble_eq_true rfl) ⟨Nat.le_of_ble_eq_true rfl, Nat.le_of_ble_eq_true rfl⟩ dX6_birdsWithNets_39 (unS ?_)
    show V E X _ RX6 _ _ _ 0 0 _ false 146 42 _ [] _
    refine v_iincN (pc := 42) 3 [1, 2, 3, 0] [(0, _), (1, _), (2, _), (3, _)] kI_1 dX6_birdsWithNets_42 rfl (by decide) rfl ?_
    refine v_goto (pc := 45) (tgt := 26) dX6_birdsWithNets_45 rfl ?_
    exact ih
theorem pow7 {n : Nat} (h : n ≤ 7) : 2 ^ n ≤ 128 := Nat.pow_le_pow_right (by decide) h
set_option maxHeartbeats 4000000 in
set_option maxRecDepth 100000 in
theorem s_nets {E : Ev} {σ : Sg} (hW : WC σ) (n h : Int32) : Ct E yX6_nets cX6_nets 8 (some .int) ({ frames := 6, cells := 0, slots := 0, locals := 134 } : Room) false 146 [.ref (Ez E + 0), .int n, .int h] (cellOf E σ) 146 0 0 (Ff (some (.int (cs_nets σ n h).1)) (cellOf E (cs_nets σ n h).2)) := by
  obtain ⟨⟨hj, hdj, hjd⟩, hPs, ⟨x_, s_, hQ, hx, hs⟩, ⟨wa, df, wf, ep, eb, ws, fs, es, hS, hws, hfs, hes, hep⟩, ⟨lt, L, m, fa, fn, ap, hT, hL, hm⟩⟩ := hW
  rcases hU : gU σ with ⟨j, dj, se, is, it, oo⟩
  rw [hU] at hj hdj hjd
  simp only at hj hdj hjd
  obtain ⟨np, nd, sd, du, tr, kd, bd, dr, dt, cr, ow, hP, hnp, hnd, hdt, hcr⟩ := hPs j hj
  have eH : hereP σ = (sd, du, tr, nI np, nI nd, kd, bd, dr, dt, cr, ow) := by show gP σ (gU σ).1 = _; rw [hU]; exact hP
  have eNp : hNp σ = np := by show parNp (hereP σ) = np; rw [eH]; exact nI_clamp (by omega)
  have eNd : hNd σ = nd := by show parNd (hereP σ) = nd; rw [eH]; exact nI_clamp (by omega)
  have h2p := pow7 hnp
  have eM : ∀ n m, netsN σ n m = itn (st_nets (gF σ 0) kd du np n m) (2 ^ np) (-1, nI 8, gF σ 1) := by intro n m; unfold netsN; rw [eH, eNp]
  have h0 : sFl σ 1 (gF σ 1) = σ := sFl_id _ _
  refine Ct.ofV (by decide) (Nat.le_of_ble_eq_true rfl) (fun X hnm => ?_)
  show V E X _ RX6 _ _ _ _ _ _ false 146 0 [(0, .ref (Ez E + 0)), (1, .int n), (2, .int h)] [] _
  refine v_iload_n (pc := 0) 1 dX6_nets_0 rfl rfl ?_
  refine v_iconst (pc := 1) (nI 0) dX6_nets_1 kI_0 ?_
  refine v_sipush (pc := 2) (nI 9999) dX6_nets_2 kS_9999 ?_
  refine v_callS (pc := 5) _ _ k_X6_76 (c_isOutside _ _ _) ⟨rfl, rfl, by decide⟩ rfl rfl (Nat.le_of_ble_eq_true rfl) ⟨Nat.le_of_ble_eq_true rfl, Nat.le_of_ble_eq_true rfl⟩ dX6_nets_5 (unS ?_)
  show V E X _ RX6 _ _ _ 0 0 _ false 146 8 _ [_] _
  refine v_if_neB (pc := 8) (tgt := 21) dX6_nets_8 rfl (fun c_8 => ?_) (fun c_8 => ?_)
  · refine v_ldc (pc := 21) _ kc_X6_80 dX6_nets_21 rfl ?_
    exact v_iret (pc := 23) dX6_nets_23 (by unfold cs_nets; rw [if_pos (Or.inl c_8)]; exact ⟨rfl, rfl⟩)
  · refine v_iload_n (pc := 11) 2 dX6_nets_11 rfl rfl ?_
    refine v_iconst (pc := 12) (nI 1) dX6_nets_12 kI_1 ?_
    refine v_bipush (pc := 13) (nI 24) dX6_nets_13 kB_24 ?_
    refine v_callS (pc := 15) _ _ k_X6_76 (c_isOutside _ _ _) ⟨rfl, rfl, by decide⟩ rfl rfl (Nat.le_of_ble_eq_true rfl) ⟨Nat.le_of_ble_eq_true rfl, Nat.le_of_ble_eq_true rfl⟩ dX6_nets_15 (unS ?_)
    show V E X _ RX6 _ _ _ 0 0 _ false 146 18 _ [_] _
    refine v_if_eqB (pc := 18) (tgt := 24) dX6_nets_18 rfl (fun c_18 => ?_) (fun c_18 => ?_)
    · refine v_aload_n (pc := 24) 0 dX6_nets_24 rfl rfl ?_
      refine g_X6_19 (pc := 25) (cUr_obj hU) (by decide) rfl dX6_nets_25 ?_
      refine g_X6_218 (pc := 28) (cPr_obj hj hP) (pad_lt0 hj) rfl dX6_nets_28 ?_
      refine v_if_ne (pc := 31) (tgt := 36) dX6_nets_31 rfl (fun c_31 => ?_) (fun c_31 => ?_)
      · obtain ⟨m, hm1, hm2, rfl⟩ := outB_nat (lo := 1) (hi := 24) (by omega) (by omega) c_18
        have hv : ∀ {P : Sg → Prop}, P (sFl σ 1 (gF σ 1)) → P σ := fun {P} z => by rw [h0] at z; exact z
        refine hv (P := fun τ => V E X _ RX6 _ _ _ _ _ _ false 146 _ _ [] (cellOf E τ)) ?_
        refine v_iconst (pc := 36) (-1) dX6_nets_36 kI_m1 ?_
        refine v_istore_n (pc := 37) [1, 2, 3, 0] [(0, _), (1, _), (2, _), (3, _)] dX6_nets_37 rfl (by decide) rfl ?_
        refine v_bipush (pc := 38) (nI 8) dX6_nets_38 kB_8 ?_
        refine v_istore (pc := 40) [1, 2, 3, 4, 0] [(0, _), (1, _), (2, _), (3, _), (4, _)] dX6_nets_40 (by decide) rfl ?_
        refine v_iconst (pc := 42) (nI 0) dX6_nets_42 kI_0 ?_
        refine v_istore (pc := 43) [1, 2, 3, 4, 5, 0] [(0, _), (1, _), (2, _), (3, _), (4, _), (5, _)] dX6_nets_43 (by decide) rfl ?_
        refine dn (P := fun i => V E X ({ frames := 6, cells := 0, slots := 0, locals := 134 } : Room) RX6 cX6_nets 8 (some .int) 0 0 (QX E X false 146 (Ff (some (.int (cs_nets σ n (nI m)).1)) (cellOf E (cs_nets σ n (nI m)).2)) 0 0) false 146 45 [(0, .ref (Ez E + 0)), (1, .int n), (2, .int (nI m)), (3, .int (itn (st_nets (gF σ 0) kd du np n m) i (-1, nI 8, gF σ 1)).1), (4, .int (itn (st_nets (gF σ 0) kd du np n m) i (-1, nI 8, gF σ 1)).2.1), (5, .int (nI i))] [] (cellOf E (sFl σ 1 (itn (st_nets (gF σ 0) kd du np n m) i (-1, nI 8, gF σ 1)).2.2))) (N := 2 ^ np) ?_ ?_
        · generalize hFl : itn (st_nets (gF σ 0) kd du np n m) (2 ^ np) (-1, nI 8, gF σ 1) = z_ 
          obtain ⟨z8, z9, F9⟩ := z_
          show V E X _ RX6 _ _ _ _ _ _ false 146 _ [(0, .ref (Ez E + 0)), (1, .int n), (2, .int (nI m)), (3, .int z8), (4, .int z9), (5, .int (nI (2 ^ np)))] [] (cellOf E (sFl σ 1 F9))
          refine v_iload (pc := 45) 5 dX6_nets_45 rfl ?_
          refine v_iconst (pc := 47) (nI 1) dX6_nets_47 kI_1 ?_
          refine v_aload_n (pc := 48) 0 dX6_nets_48 rfl rfl ?_
          refine g_X6_19 (pc := 49) (cUr_obj hU) (by decide) rfl dX6_nets_49 ?_
          refine g_X6_101 (pc := 52) (cPr_obj hj hP) (pad_lt0 hj) rfl dX6_nets_52 ?_
          refine v_ishl (pc := 55) dX6_nets_55 ?_
          rw [shl1 (by omega)]
          refine v_icmp_geN (pc := 56) (by omega) (by omega) (tgt := 122) dX6_nets_56 rfl (fun c_56 => ?_) (fun c_56 => False.elim ((fun c => by omega) c_56))
          refine v_iload_n (pc := 122) 3 dX6_nets_122 rfl rfl ?_
          exact v_iret (pc := 123) dX6_nets_123 (by unfold cs_nets; rw [if_neg (by rintro (q | q); rw [c_8] at q; exact Bool.noConfusion q; rw [c_18] at q; exact Bool.noConfusion q), eH, if_neg c_31, show (nI m).toNatClampNeg = m from nI_clamp (by omega), eM, hFl]; exact ⟨rfl, rfl⟩)
        · intro i hi ih
          have ih : V E X ({ frames := 6, cells := 0, slots := 0, locals := 134 } : Room) RX6 cX6_nets 8 (some .int) 0 0 (QX E X false 146 (Ff (some (.int (cs_nets σ n (nI m)).1)) (cellOf E (cs_nets σ n (nI m)).2)) 0 0) false 146 45 [(0, .ref (Ez E + 0)), (1, .int n), (2, .int (nI m)), (3, .int (st_nets (gF σ 0) kd du np n m i (itn (st_nets (gF σ 0) kd du np n m) i (-1, nI 8, gF σ 1))).1), (4, .int (st_nets (gF σ 0) kd du np n m i (itn (st_nets (gF σ 0) kd du np n m) i (-1, nI 8, gF σ 1))).2.1), (5, .int (nI (i + 1)))] [] (cellOf E (sFl σ 1 (st_nets (gF σ 0) kd du np n m i (itn (st_nets (gF σ 0) kd du np n m) i (-1, nI 8, gF σ 1))).2.2)) := by rw [itn_s] at ih; exact ih
          generalize itn (st_nets (gF σ 0) kd du np n m) i (-1, nI 8, gF σ 1) = z_ at ih ⊢
          obtain ⟨z1, z2, F1⟩ := z_
          show V E X _ RX6 _ _ _ _ _ _ false 146 _ [(0, .ref (Ez E + 0)), (1, .int n), (2, .int (nI m)), (3, .int z1), (4, .int z2), (5, .int (nI i))] [] (cellOf E (sFl σ 1 F1))
          refine v_iload (pc := 45) 5 dX6_nets_45 rfl ?_
          refine v_iconst (pc := 47) (nI 1) dX6_nets_47 kI_1 ?_
          refine v_aload_n (pc := 48) 0 dX6_nets_48 rfl rfl ?_
          refine g_X6_19 (pc := 49) (cUr_obj hU) (by decide) rfl dX6_nets_49 ?_
          refine g_X6_101 (pc := 52) (cPr_obj hj hP) (pad_lt0 hj) rfl dX6_nets_52 ?_
          refine v_ishl (pc := 55) dX6_nets_55 ?_
          rw [shl1 (by omega)]
          refine v_icmp_geN (pc := 56) (by omega) (by omega) (tgt := 122) dX6_nets_56 rfl (fun c_56 => False.elim ((fun c => by omega) c_56)) (fun c_56 => ?_)
          refine v_iload (pc := 59) 5 dX6_nets_59 rfl ?_
          refine v_callS (pc := 61) _ _ k_X6_259 (c_bitCount _) ⟨rfl, rfl, by decide⟩ rfl rfl (Nat.le_of_ble_eq_true rfl) ⟨Nat.le_of_ble_eq_true rfl, Nat.le_of_ble_eq_true rfl⟩ dX6_nets_61 (unS ?_)
          show V E X _ RX6 _ _ _ 0 0 _ false 146 64 _ [_] _
          refine v_istore (pc := 64) [1, 2, 3, 4, 5, 6, 0] [(0, _), (1, _), (2, _), (3, _), (4, _), (5, _), (6, _)] dX6_nets_64 (by decide) rfl ?_
          refine v_iload (pc := 66) 5 dX6_nets_66 rfl ?_
          refine v_aload_n (pc := 68) 0 dX6_nets_68 rfl rfl ?_
          refine g_X6_29 (pc := 69) (cUr_obj hU) (by decide) rfl dX6_nets_69 ?_
          refine g_X6_123 (pc := 72) (cF_obj 0 (by decide)) (adr_lt0 (by decide)) rfl dX6_nets_72 ?_
          refine v_iand (pc := 75) dX6_nets_75 ?_
          refine v_if_ne (pc := 76) (tgt := 83) dX6_nets_76 rfl (fun c_76 => ?_) (fun c_76 => ?_)
          · refine v_iconst (pc := 83) (nI 0) dX6_nets_83 kI_0 ?_
            refine v_istore (pc := 84) [1, 2, 3, 4, 5, 6, 7, 0] [(0, _), (1, _), (2, _), (3, _), (4, _), (5, _), (6, _), (7, _)] dX6_nets_84 (by decide) rfl ?_
            refine v_iload (pc := 86) 7 dX6_nets_86 rfl ?_
            refine v_if_eqN (pc := 88) (by omega) (tgt := 116) dX6_nets_88 rfl (fun c_88 => ?_) (fun c_88 => False.elim ((fun z => z (by rfl)) c_88))
            refine v_iincN (pc := 116) 5 [1, 2, 3, 4, 5, 0, 6, 7] [(0, _), (1, _), (2, _), (3, _), (4, _), (5, _), (6, _), (7, _)] kI_1 dX6_nets_116 rfl (by decide) rfl ?_
            refine v_goto (pc := 119) (tgt := 45) dX6_nets_119 rfl ?_
            refine v_sub [0, 1, 2, 3, 4, 5] rfl ?_
            rw [show st_nets (gF σ 0) kd du np n m i (z1, z2, F1) = _ from if_neg (by rintro ⟨q, -⟩; exact c_76 q)] at ih
            exact ih
          · refine v_iconst (pc := 79) (nI 1) dX6_nets_79 kI_1 ?_
            refine v_goto (pc := 80) (tgt := 84) dX6_nets_80 rfl ?_
            refine v_istore (pc := 84) [1, 2, 3, 4, 5, 6, 7, 0] [(0, _), (1, _), (2, _), (3, _), (4, _), (5, _), (6, _), (7, _)] dX6_nets_84 (by decide) rfl ?_
            refine v_iload (pc := 86) 7 dX6_nets_86 rfl ?_
            refine v_if_eqN (pc := 88) (by omega) (tgt := 116) dX6_nets_88 rfl (fun c_88 => False.elim ((fun z => absurd z (by decide)) c_88)) (fun c_88 => ?_)
            refine v_iload (pc := 91) 6 dX6_nets_91 rfl ?_
            refine v_iload (pc := 93) 4 dX6_nets_93 rfl ?_
            refine v_icmp_ge (pc := 95) (tgt := 116) dX6_nets_95 rfl (fun c_95 => ?_) (fun c_95 => ?_)
            · refine v_iincN (pc := 116) 5 [1, 2, 3, 4, 5, 0, 6, 7] [(0, _), (1, _), (2, _), (3, _), (4, _), (5, _), (6, _), (7, _)] kI_1 dX6_nets_116 rfl (by decide) rfl ?_
              refine v_goto (pc := 119) (tgt := 45) dX6_nets_119 rfl ?_
              refine v_sub [0, 1, 2, 3, 4, 5] rfl ?_
              rw [show st_nets (gF σ 0) kd du np n m i (z1, z2, F1) = _ from if_neg (by rintro ⟨-, q⟩; exact absurd q (Int32.not_lt.mpr c_95))] at ih
              exact ih
            · refine v_aload_n (pc := 98) 0 dX6_nets_98 rfl rfl ?_
              refine v_iload (pc := 99) 5 dX6_nets_99 rfl ?_
              refine v_iload_n (pc := 101) 2 dX6_nets_101 rfl rfl ?_
              refine v_callV (pc := 102) _ _ k_X6_264 (cUr_obj hU) rfl (by decide) (c_bw hj hP hnp hnd hU _ (by omega)) ⟨rfl, rfl, by decide⟩ rfl rfl (Nat.le_of_ble_eq_true rfl) ⟨Nat.le_of_ble_eq_true rfl, Nat.le_of_ble_eq_true rfl⟩ dX6_nets_102 (unS ?_)
              show V E X _ RX6 _ _ _ 0 0 _ false 146 105 _ [_] _
              refine v_iload_n (pc := 105) 1 dX6_nets_105 rfl rfl ?_
              refine v_icmp_lt (pc := 106) (tgt := 116) dX6_nets_106 rfl (fun c_106 => ?_) (fun c_106 => ?_)
              · refine v_iincN (pc := 116) 5 [1, 2, 3, 4, 5, 0, 6, 7] [(0, _), (1, _), (2, _), (3, _), (4, _), (5, _), (6, _), (7, _)] kI_1 dX6_nets_116 rfl (by decide) rfl ?_
                refine v_goto (pc := 119) (tgt := 45) dX6_nets_119 rfl ?_
                refine v_sub [0, 1, 2, 3, 4, 5] rfl ?_
                rw [show st_nets (gF σ 0) kd du np n m i (z1, z2, F1) = _ from (if_pos ⟨c_76, Int32.not_le.mp c_95⟩).trans (if_pos c_106)] at ih
                exact ih
              · refine v_iload (pc := 109) 5 dX6_nets_109 rfl ?_
                refine v_istore_n (pc := 111) [1, 2, 3, 0, 4, 5, 6, 7] [(0, _), (1, _), (2, _), (3, _), (4, _), (5, _), (6, _), (7, _)] dX6_nets_111 rfl (by decide) rfl ?_
                refine v_iload (pc := 112) 6 dX6_nets_112 rfl ?_
                refine v_istore (pc := 114) [1, 2, 3, 4, 0, 5, 6, 7] [(0, _), (1, _), (2, _), (3, _), (4, _), (5, _), (6, _), (7, _)] dX6_nets_114 (by decide) rfl ?_
                refine v_iincN (pc := 116) 5 [1, 2, 3, 4, 5, 0, 6, 7] [(0, _), (1, _), (2, _), (3, _), (4, _), (5, _), (6, _), (7, _)] kI_1 dX6_nets_116 rfl (by decide) rfl ?_
                refine v_goto (pc := 119) (tgt := 45) dX6_nets_119 rfl ?_
                refine v_sub [0, 1, 2, 3, 4, 5] rfl ?_
                rw [show st_nets (gF σ 0) kd du np n m i (z1, z2, F1) = _ from (if_pos ⟨c_76, Int32.not_le.mp c_95⟩).trans (if_neg c_106)] at ih
                exact ih
      · refine v_iconst (pc := 34) (-1) dX6_nets_34 kI_m1 ?_
        exact v_iret (pc := 35) dX6_nets_35 (by unfold cs_nets; rw [if_neg (by rintro (q | q); rw [c_8] at q; exact Bool.noConfusion q; rw [c_18] at q; exact Bool.noConfusion q), eH, if_pos c_31]; exact ⟨rfl, rfl⟩)
    · refine v_ldc (pc := 21) _ kc_X6_80 dX6_nets_21 rfl ?_
      exact v_iret (pc := 23) dX6_nets_23 (by unfold cs_nets; rw [if_pos (Or.inr c_18)]; exact ⟨rfl, rfl⟩)
