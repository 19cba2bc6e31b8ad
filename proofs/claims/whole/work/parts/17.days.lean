/-! hours, trials, draws, rings, images and the parish itself -/
def passN (kd : Fn) (du : Int32) (np n : Nat) (F : FlockV) : FlockV := itn (fun _ G => fl_pass G kd du np) n F
theorem refI_nat {sd hr n : Int32} (h : refI sd hr n = 0) : ∃ m, 1 ≤ m ∧ m ≤ 60 ∧ n = nI m := by
  unfold refI at h
  by_cases h1 : outB n (nI 1) (nI 60) = true
  · rw [if_pos h1] at h; exact absurd h (by decide)
  · exact outB_nat (by omega) (by omega) (Bool.eq_false_iff.mpr h1)
def drw (s : Int32) : Int32 := (s * 1103515245 + nI 12345) &&& 2147483647
def drv (s n : Int32) : Int32 := if n ≤ 0 then nI 0 else s / 65536 - s / 65536 / n * n
def doD (dr : Fn) (np : Nat) (z : Int32 × FlockV) : Int32 × FlockV :=
  if drv (drw z.1) (nI 5) = 0 then (drw (drw z.1), fl_move z.2 (-2) (drv (drw (drw z.1)) (nI np)) (mnI (nI 9) (fT z.2)))
  else if drv (drw z.1) (nI 5) = nI 1 then (drw (drw (drw z.1)), fl_crumb z.2 (drv (drw (drw z.1)) (nI np)) (drv (drw (drw (drw z.1))) (nI 20)))
  else if drv (drw z.1) (nI 5) = nI 2 then (drw (drw (drw z.1)), (itn (st_scare dr (drv (drw (drw z.1)) (nI 51)) (drv (drw (drw (drw z.1))) (nI 10))) np (nI 0, z.2)).2)
  else (drw z.1, z.2)
def st_drift (kd dr : Fn) (du : Int32) (np : Nat) (z : Int32 × FlockV) : Int32 × FlockV := ((if np = 0 then z else doD dr np z).1, fl_pass (if np = 0 then z else doD dr np z).2 kd du np)
theorem sFU {τ : Sg} {k : Nat} {F G : FlockV} {u : TopV} : sFl (sU (sFl τ k F) u) k G = sU (sFl τ k G) u := by show sU (sFl (sFl τ k F) k G) u = _; rw [sFl_s]
def cs_hour (σ : Sg) (n : Int32) : Int32 × Sg := if refI (parSd (hereP σ)) (fH (nowF σ)) n = 0 then (fT (passN (parKd (hereP σ)) (parDu (hereP σ)) (hNp σ) n.toNatClampNeg (nowF σ)), sFl (rem_ σ) 0 (passN (parKd (hereP σ)) (parDu (hereP σ)) (hNp σ) n.toNatClampNeg (nowF σ))) else (refI (parSd (hereP σ)) (fH (nowF σ)) n, σ)
def driftN (σ : Sg) (n : Nat) : Int32 × FlockV := itn (fun _ z => st_drift (parKd (hereP σ)) (parDr (hereP σ)) (parDu (hereP σ)) (hNp σ) z) n ((gU σ).2.2.1, nowF σ)
def cs_drift (σ : Sg) (n : Int32) : Int32 × Sg := if refI (parSd (hereP σ)) (fH (nowF σ)) n = 0 then (fT (driftN σ n.toNatClampNeg).2, sU (sFl (rem_ σ) 0 (driftN σ n.toNatClampNeg).2) ((gU σ).1, (gU σ).2.1, (driftN σ n.toNatClampNeg).1, (gU σ).2.2.2)) else (refI (parSd (hereP σ)) (fH (nowF σ)) n, σ)
abbrev triF (σ : Sg) : FlockV := fl_copy (nowF σ) (gF σ 1)
def cs_hat (σ : Sg) (a n : Int32) : Int32 × Sg := if perB a (hNp σ) = true then (if outB n (nI 0) (nI 100) = true then (cOUT, σ) else (fB (passN (parKd (hereP σ)) (parDu (hereP σ)) (hNp σ) n.toNatClampNeg (triF σ)) a.toNatClampNeg, sFl σ 1 (passN (parKd (hereP σ)) (parDu (hereP σ)) (hNp σ) n.toNatClampNeg (triF σ)))) else (cUNK, σ)
def st_most (kd : Fn) (du : Int32) (np a i : Nat) (z : Int32 × Int32 × FlockV) : Int32 × Int32 × FlockV := if fB (fl_pass z.2.2 kd du np) a ≤ z.1 then (z.1, z.2.1, fl_pass z.2.2 kd du np) else (fB (fl_pass z.2.2 kd du np) a, nI (i + 1), fl_pass z.2.2 kd du np)
def mostN (σ : Sg) (a n : Nat) : Int32 × Int32 × FlockV := itn (st_most (parKd (hereP σ)) (parDu (hereP σ)) (hNp σ) a) n (fB (triF σ) a, nI 0, triF σ)
def cs_most (σ : Sg) (a n w : Int32) : Int32 × Sg := if perB a (hNp σ) = true then (if outB n (nI 0) (nI 100) = true ∨ outB w (nI 0) (nI 1) = true then (cOUT, σ) else (if w = 0 then (mostN σ a.toNatClampNeg n.toNatClampNeg).2.1 else (mostN σ a.toNatClampNeg n.toNatClampNeg).1, sFl σ 1 (mostN σ a.toNatClampNeg n.toNatClampNeg).2.2)) else (cUNK, σ)
def kpN (kd : Fn) (du : Int32) (np : Nat) : Nat → FlockV → FlockV
  | 0, F => F
  | f + 1, F => if duskB (fH F) du = true then F else kpN kd du np f (fl_fly F kd np)
def cs_kept (σ : Sg) (a : Int32) : Int32 × Sg := if perB a (hNp σ) = true then (fB (kpN (parKd (hereP σ)) (parDu (hereP σ)) (hNp σ) 23 (fl_fly (triF σ) (parKd (hereP σ)) (hNp σ))) a.toNatClampNeg, sFl σ 1 (kpN (parKd (hereP σ)) (parDu (hereP σ)) (hNp σ) 23 (fl_fly (triF σ) (parKd (hereP σ)) (hNp σ)))) else (cUNK, σ)
def bwN (F0 : FlockV) (kd : Fn) (du : Int32) (np : Nat) (s : Int32) (h : Nat) (G : FlockV) : FlockV := passN kd du np h (fl_net (fl_copy F0 G) (fN (fl_copy F0 G) ||| s))
def st_nets (F0 : FlockV) (kd : Fn) (du : Int32) (np : Nat) (n : Int32) (h i : Nat) (z : Int32 × Int32 × FlockV) : Int32 × Int32 × FlockV :=
  if nI i &&& fN F0 = 0 ∧ bcI (nI i) < z.2.1 then (if sm (fB (bwN F0 kd du np (nI i) h z.2.2)) 7 < n then (z.1, z.2.1, bwN F0 kd du np (nI i) h z.2.2) else (nI i, bcI (nI i), bwN F0 kd du np (nI i) h z.2.2)) else z
def netsN (σ : Sg) (n : Int32) (h : Nat) : Int32 × Int32 × FlockV := itn (st_nets (nowF σ) (parKd (hereP σ)) (parDu (hereP σ)) (hNp σ) n h) (2 ^ hNp σ) (-1, nI 8, gF σ 1)
def cs_nets (σ : Sg) (n h : Int32) : Int32 × Sg := if outB n (nI 0) (nI 9999) = true ∨ outB h (nI 1) (nI 24) = true then (cOUT, σ) else if parSd (hereP σ) = 0 then (-1, σ) else ((netsN σ n h.toNatClampNeg).1, sFl σ 1 (netsN σ n h.toNatClampNeg).2.2)
def figs : Nat → Nat → Nat
  | 0, _ => 0
  | f + 1, n => if n = 0 then 0 else figs f (n / 10) + 1
def lngR (σ : Sg) : Int32 × Int32 × Fn × Fn := longR (parDt (hereP σ)) (parCr (hereP σ)) (fO (nowF σ)) (fB (nowF σ)) (hNd σ) (gL σ)
def cs_settled (σ : Sg) (w : Int32) : Int32 × Sg := if outB w (nI 0) (nI 1) = true then (cOUT, σ) else (if w = 0 then nI (figs 10 (lngR σ).2.1.toNatClampNeg) else (lngR σ).2.1, sSt σ ((lngR σ).2.2.1, (lngR σ).2.2.2))
def floT (σ : Sg) (a : Int32) : Fn × Fn := floR (parDt (hereP σ)) (parCr (hereP σ)) (fO (nowF σ)) (fB (nowF σ)) (hNd σ) a (gL σ)
def cs_toFloat (σ : Sg) (a : Int32) : Int32 × Sg := if perB a (hNp σ) = true then (floV (fO (nowF σ)) (hNd σ) (floT σ a).2, sSt σ ((floT σ a).1, (floT σ a).2)) else (cUNK, σ)
def cs_keep (σ : Sg) (i : Int32) : Int32 × Sg := if outB i (nI 0) (nI 1) = true then (cUNK, σ) else (nI 1, sPa (sU (sFl σ (18 + i.toNatClampNeg) (fl_copy (gF σ 0) (gF σ (18 + i.toNatClampNeg)))) ((gU σ).1, (gU σ).2.1, (gU σ).2.2.1, upd (gU σ).2.2.2.1 i.toNatClampNeg (gU σ).2.2.1, upd (gU σ).2.2.2.2.1 i.toNatClampNeg (nI 1), (gU σ).2.2.2.2.2)) ((gQ σ).1, nI 0))
def cs_goBack (σ : Sg) (i : Int32) : Int32 × Sg := if outB i (nI 0) (nI 1) = true then (cUNK, σ) else if (gU σ).2.2.2.2.1 i.toNatClampNeg = 0 then (cNOT, σ) else (nI 1, sPa (sU (sFl σ 0 (fl_copy (gF σ (18 + i.toNatClampNeg)) (gF σ 0))) ((gU σ).1, (gU σ).2.1, (gU σ).2.2.2.1 i.toNatClampNeg, (gU σ).2.2.2)) ((gQ σ).1, nI 0))
theorem kS_pass {E : Ev} {σ : Sg} {k : Nat} {F : FlockV} (hk : k < 20) {j np nd : Nat} {sd du tr : Int32} {kd bd dr dt cr ow : Fn} (hj : j < 2) (hP : gP σ j = (sd, du, tr, nI np, nI nd, kd, bd, dr, dt, cr, ow)) (hnp : np ≤ 7) (hnd : nd ≤ 9)  : Ct E yX0_passHour cX0_passHour 2 none ({ frames := 4, cells := 0, slots := 0, locals := 90 } : Room) false 146 [.ref (Ez E + adr k), .ref (Ez E + pad j)] (cellOf E (sFl σ k F)) 146 0 0 (Ff none (cellOf E (sFl σ k (fl_pass F kd du np)))) := by
  obtain ⟨t, hr, nt, rg, pe, b, c, o, p⟩ := F
  exact c_pass hk hj hP hnp hnd 
theorem kS_fly {E : Ev} {σ : Sg} {k : Nat} {F : FlockV} (hk : k < 20) {j np nd : Nat} {sd du tr : Int32} {kd bd dr dt cr ow : Fn} (hj : j < 2) (hP : gP σ j = (sd, du, tr, nI np, nI nd, kd, bd, dr, dt, cr, ow)) (hnp : np ≤ 7) (hnd : nd ≤ 9)  : Ct E yX0_flyForAnHour cX0_flyForAnHour 4 none ({ frames := 3, cells := 0, slots := 0, locals := 67 } : Room) false 146 [.ref (Ez E + adr k), .ref (Ez E + pad j)] (cellOf E (sFl σ k F)) 146 0 0 (Ff none (cellOf E (sFl σ k (fl_fly F kd np)))) := by
  obtain ⟨t, hr, nt, rg, pe, b, c, o, p⟩ := F
  exact c_fly hk hj hP hnp hnd 
set_option maxHeartbeats 4000000 in
set_option maxRecDepth 100000 in
theorem s_hour {E : Ev} {σ : Sg} (hW : WC σ) (n : Int32) : Ct E yX6_hour cX6_hour 4 (some .int) ({ frames := 5, cells := 0, slots := 0, locals := 111 } : Room) false 146 [.ref (Ez E + 0), .int n] (cellOf E σ) 146 0 0 (Ff (some (.int (cs_hour σ n).1)) (cellOf E (cs_hour σ n).2)) := by
  obtain ⟨⟨hj, hdj, hjd⟩, hPs, ⟨x_, s_, hQ, hx, hs⟩, ⟨wa, df, wf, ep, eb, ws, fs, es, hS, hws, hfs, hes, hep⟩, ⟨lt, L, m, fa, fn, ap, hT, hL, hm⟩⟩ := hW
  rcases hU : gU σ with ⟨j, dj, se, is, it, oo⟩
  rw [hU] at hj hdj hjd
  simp only at hj hdj hjd
  obtain ⟨np, nd, sd, du, tr, kd, bd, dr, dt, cr, ow, hP, hnp, hnd, hdt, hcr⟩ := hPs j hj
  have eH : hereP σ = (sd, du, tr, nI np, nI nd, kd, bd, dr, dt, cr, ow) := by show gP σ (gU σ).1 = _; rw [hU]; exact hP
  have eNp : hNp σ = np := by show parNp (hereP σ) = np; rw [eH]; exact nI_clamp (by omega)
  have eNd : hNd σ = nd := by show parNd (hereP σ) = nd; rw [eH]; exact nI_clamp (by omega)
  rcases hG : gF σ 0 with ⟨t, hr, nt, rg, pe, b, c, o, p⟩
  have h0 : sFl (rem_ σ) 0 (gF σ 0) = rem_ σ := by rw [← rem_0]; exact sFl_id _ _
  refine Ct.ofV (by decide) (Nat.le_of_ble_eq_true rfl) (fun X hnm => ?_)
  show V E X _ RX6 _ _ _ _ _ _ false 146 0 [(0, .ref (Ez E + 0)), (1, .int n)] [] _
  refine v_aload_n (pc := 0) 0 dX6_hour_0 rfl rfl ?_
  refine v_iload_n (pc := 1) 1 dX6_hour_1 rfl rfl ?_
  refine v_callV (pc := 2) _ _ k_X6_226 (cUr_obj hU) rfl (by decide) (c_refu hj hP hnp hnd hU hG _) ⟨rfl, rfl, by decide⟩ rfl rfl (Nat.le_of_ble_eq_true rfl) ⟨Nat.le_of_ble_eq_true rfl, Nat.le_of_ble_eq_true rfl⟩ dX6_hour_2 (unS ?_)
  show V E X _ RX6 _ _ _ 0 0 _ false 146 5 _ [_] _
  refine v_istore_n (pc := 5) [1, 2, 0] [(0, _), (1, _), (2, _)] dX6_hour_5 rfl (by decide) rfl ?_
  refine v_iload_n (pc := 6) 2 dX6_hour_6 rfl rfl ?_
  refine v_if_eq (pc := 7) (tgt := 12) dX6_hour_7 rfl (fun c_7 => ?_) (fun c_7 => ?_)
  · obtain ⟨m, hm1, hm2, rfl⟩ := refI_nat c_7
    refine v_aload_n (pc := 12) 0 dX6_hour_12 rfl rfl ?_
    refine g_X6_39 (pc := 13) (cUr_obj hU) (by decide) rfl dX6_hour_13 ?_
    refine v_aload_n (pc := 16) 0 dX6_hour_16 rfl rfl ?_
    refine g_X6_29 (pc := 17) (cUr_obj hU) (by decide) rfl dX6_hour_17 ?_
    refine v_callV (pc := 20) _ _ k_X6_202 (cQr_obj hQ) rfl (by decide) (k_remember hQ hx hs) ⟨rfl, rfl, by decide⟩ rfl rfl (Nat.le_of_ble_eq_true rfl) ⟨Nat.le_of_ble_eq_true rfl, Nat.le_of_ble_eq_true rfl⟩ dX6_hour_20 (unS ?_)
    show V E X _ RX6 _ _ _ 0 0 _ false 146 23 _ [] _
    rw [← h0]
    refine v_iconst (pc := 23) (nI 0) dX6_hour_23 kI_0 ?_
    refine v_istore_n (pc := 24) [1, 2, 3, 0] [(0, _), (1, _), (2, _), (3, _)] dX6_hour_24 rfl (by decide) rfl ?_
    refine v_sub [0, 1, 3] rfl ?_
    refine dn (P := fun i => V E X ({ frames := 5, cells := 0, slots := 0, locals := 111 } : Room) RX6 cX6_hour 4 (some .int) 0 0 (QX E X false 146 (Ff (some (.int (cs_hour σ (nI m)).1)) (cellOf E (cs_hour σ (nI m)).2)) 0 0) false 146 25 [(0, .ref (Ez E + 0)), (1, .int (nI m)), (3, .int (nI i))] [] (cellOf E (sFl (rem_ σ) 0 (passN kd du np i (gF σ 0))))) (N := m) ?_ ?_
    · refine v_iload_n (pc := 25) 2 dX6_hour_25 rfl rfl ?_
      refine v_iload_n (pc := 26) 1 dX6_hour_26 rfl rfl ?_
      refine v_icmp_geN (pc := 27) (by omega) (by omega) (tgt := 47) dX6_hour_27 rfl (fun c_27 => ?_) (fun c_27 => False.elim ((fun c => by omega) c_27))
      refine v_aload_n (pc := 47) 0 dX6_hour_47 rfl rfl ?_
      refine g_X6_29 (pc := 48) (cUr_obj hU) (by decide) rfl dX6_hour_48 ?_
      refine g_X6_116 (pc := 51) (cF_obj 0 (by decide)) (adr_lt0 (by decide)) rfl dX6_hour_51 ?_
      exact v_iret (pc := 54) dX6_hour_54 (by unfold cs_hour; rw [eH, eNp, if_pos (show refI sd (fH (nowF σ)) (nI m) = 0 from by rw [show nowF σ = _ from hG]; exact c_7), show (nI m).toNatClampNeg = m from nI_clamp (by omega)]; exact ⟨by rw [gF_s], rfl⟩)
    · intro i hi ih
      refine v_iload_n (pc := 25) 2 dX6_hour_25 rfl rfl ?_
      refine v_iload_n (pc := 26) 1 dX6_hour_26 rfl rfl ?_
      refine v_icmp_geN (pc := 27) (by omega) (by omega) (tgt := 47) dX6_hour_27 rfl (fun c_27 => False.elim ((fun c => by omega) c_27)) (fun c_27 => ?_)
      refine v_aload_n (pc := 30) 0 dX6_hour_30 rfl rfl ?_
      refine g_X6_29 (pc := 31) (cUr_obj hU) (by decide) rfl dX6_hour_31 ?_
      refine v_aload_n (pc := 34) 0 dX6_hour_34 rfl rfl ?_
      refine g_X6_19 (pc := 35) (cUr_obj hU) (by decide) rfl dX6_hour_35 ?_
      refine v_callV (pc := 38) _ _ k_X6_229 (cF_obj 0 (by decide)) rfl (adr_lt0 (by decide)) (kS_pass (σ := rem_ σ) (k := 0) (by decide) hj hP hnp hnd) ⟨rfl, rfl, by decide⟩ rfl rfl (Nat.le_of_ble_eq_true rfl) ⟨Nat.le_of_ble_eq_true rfl, Nat.le_of_ble_eq_true rfl⟩ dX6_hour_38 (unS ?_)
      show V E X _ RX6 _ _ _ 0 0 _ false 146 41 _ [] _
      refine v_iincN (pc := 41) 2 [1, 2, 0] [(0, _), (1, _), (3, _)] kI_1 dX6_hour_41 rfl (by decide) rfl ?_
      refine v_goto (pc := 44) (tgt := 25) dX6_hour_44 rfl ?_
      exact ih
  · refine v_iload_n (pc := 10) 2 dX6_hour_10 rfl rfl ?_
    exact v_iret (pc := 11) dX6_hour_11 (by unfold cs_hour; rw [eH]; rw [if_neg (show ¬ refI sd (fH (nowF σ)) n = 0 from by rw [show nowF σ = _ from hG]; exact c_7), show nowF σ = _ from hG]; exact ⟨rfl, rfl⟩)
set_option maxHeartbeats 4000000 in
set_option maxRecDepth 100000 in
theorem c_drawOf {E : Ev} {σ : Sg} {j dj : Nat} {se : Int32} {is it oo : Fn} (hU : gU σ = (j, dj, se, is, it, oo)) (n : Int32) : Ct E yX6_drawOf cX6_drawOf 2 (some .int) ({ frames := 0, cells := 0, slots := 0, locals := 0 } : Room) false 146 [.ref (Ez E + 0), .int n] (cellOf E σ) 146 0 0 (Ff (some (.int (drv (drw se) n))) (cellOf E (sU σ (j, dj, drw se, is, it, oo)))) := by
  refine Ct.ofV (by decide) (Nat.le_of_ble_eq_true rfl) (fun X hnm => ?_)
  show V E X _ RX6 _ _ _ _ _ _ false 146 0 [(0, .ref (Ez E + 0)), (1, .int n)] [] _
  refine v_aload_n (pc := 0) 0 dX6_drawOf_0 rfl rfl ?_
  refine v_aload_n (pc := 1) 0 dX6_drawOf_1 rfl rfl ?_
  refine g_X6_72 (pc := 2) (cUr_obj hU) (by decide) rfl dX6_drawOf_2 ?_
  refine v_ldcw (pc := 5) _ kc_X6_303 dX6_drawOf_5 rfl ?_
  refine v_imul (pc := 8) dX6_drawOf_8 ?_
  refine v_sipush (pc := 9) (nI 12345) dX6_drawOf_9 kS_12345 ?_
  refine v_iadd (pc := 12) dX6_drawOf_12 ?_
  refine v_ldcw (pc := 13) _ kc_X6_304 dX6_drawOf_13 rfl ?_
  refine v_iand (pc := 16) dX6_drawOf_16 ?_
  refine p_X6_72 (pc := 17) (cUr_obj hU) (by decide) rfl rfl (Nat.le_of_ble_eq_true rfl) dX6_drawOf_17 (uU_se hU) ?_
  refine v_iload_n (pc := 20) 1 dX6_drawOf_20 rfl rfl ?_
  refine v_if_le (pc := 21) (tgt := 37) dX6_drawOf_21 rfl (fun c_21 => ?_) (fun c_21 => ?_)
  · refine v_iconst (pc := 37) (nI 0) dX6_drawOf_37 kI_0 ?_
    exact v_iret (pc := 38) dX6_drawOf_38 (⟨by unfold drv; rw [if_pos c_21], rfl⟩)
  · refine v_aload_n (pc := 24) 0 dX6_drawOf_24 rfl rfl ?_
    refine g_X6_72 (pc := 25) (cUr_obj (show gU (sU σ (j, dj, drw se, is, it, oo)) = _ from rfl)) (by decide) rfl dX6_drawOf_25 ?_
    refine v_ldcw (pc := 28) _ kc_X6_305 dX6_drawOf_28 rfl ?_
    refine v_idiv (pc := 31) dX6_drawOf_31 (by decide) ?_
    refine v_iload_n (pc := 32) 1 dX6_drawOf_32 rfl rfl ?_
    refine v_irem (pc := 33) dX6_drawOf_33 (by intro q; rw [q] at c_21; exact c_21 (by decide)) ?_
    refine v_goto (pc := 34) (tgt := 38) dX6_drawOf_34 rfl ?_
    exact v_iret (pc := 38) dX6_drawOf_38 (⟨by unfold drv; rw [if_neg c_21], rfl⟩)
set_option maxHeartbeats 4000000 in
set_option maxRecDepth 100000 in
theorem c_doDraw {E : Ev} {τ : Sg} {dj : Nat} {s : Int32} {is it oo : Fn} {F : FlockV} {j np nd : Nat} {sd du tr : Int32} {kd bd dr dt cr ow : Fn} (hj : j < 2) (hP : gP τ j = (sd, du, tr, nI np, nI nd, kd, bd, dr, dt, cr, ow)) (hnp : np ≤ 7) (hnd : nd ≤ 9) : Ct E yX6_doByDraw cX6_doByDraw 3 none ({ frames := 4, cells := 0, slots := 0, locals := 90 } : Room) false 146 [.ref (Ez E + 0)] (cellOf E (sU (sFl τ 0 F) (j, dj, s, is, it, oo))) 146 0 0 (Ff none (cellOf E (sU (sFl τ 0 (doD dr np (s, F)).2) (j, dj, (doD dr np (s, F)).1, is, it, oo)))) := by
  refine Ct.ofV (by decide) (Nat.le_of_ble_eq_true rfl) (fun X hnm => ?_)
  show V E X _ RX6 _ _ _ _ _ _ false 146 0 [(0, .ref (Ez E + 0))] [] _
  refine v_aload_n (pc := 0) 0 dX6_doByDraw_0 rfl rfl ?_
  refine v_iconst (pc := 1) (nI 5) dX6_doByDraw_1 kI_5 ?_
  refine v_callV (pc := 2) _ _ k_X6_306 (cUr_obj rfl) rfl (by decide) (c_drawOf (σ := (sU (sFl τ 0 F) (j, dj, s, is, it, oo))) (se := s) rfl _) ⟨rfl, rfl, by decide⟩ rfl rfl (Nat.le_of_ble_eq_true rfl) ⟨Nat.le_of_ble_eq_true rfl, Nat.le_of_ble_eq_true rfl⟩ dX6_doByDraw_2 (unS ?_)
  show V E X _ RX6 _ _ _ 0 0 _ false 146 5 _ [_] _
  refine v_istore_n (pc := 5) [1, 0] [(0, _), (1, _)] dX6_doByDraw_5 rfl (by decide) rfl ?_
  refine v_iload_n (pc := 6) 1 dX6_doByDraw_6 rfl rfl ?_
  refine v_if_ne (pc := 7) (tgt := 47) dX6_doByDraw_7 rfl (fun c_7 => ?_) (fun c_7 => ?_)
  · refine v_iload_n (pc := 47) 1 dX6_doByDraw_47 rfl rfl ?_
    refine v_iconst (pc := 48) (nI 1) dX6_doByDraw_48 kI_1 ?_
    refine v_icmp_ne (pc := 49) (tgt := 81) dX6_doByDraw_49 rfl (fun c_49 => ?_) (fun c_49 => ?_)
    · refine v_iload_n (pc := 81) 1 dX6_doByDraw_81 rfl rfl ?_
      refine v_iconst (pc := 82) (nI 2) dX6_doByDraw_82 kI_2 ?_
      refine v_icmp_ne (pc := 83) (tgt := 112) dX6_doByDraw_83 rfl (fun c_83 => ?_) (fun c_83 => ?_)
      · exact v_vret (pc := 112) dX6_doByDraw_112 (by rw [show doD dr np (s, F) = _ from ((if_neg c_7).trans (if_neg c_49)).trans (if_neg c_83)]; exact ⟨rfl, rfl⟩)
      · refine v_aload_n (pc := 86) 0 dX6_doByDraw_86 rfl rfl ?_
        refine v_bipush (pc := 87) (nI 51) dX6_doByDraw_87 kB_51 ?_
        refine v_callV (pc := 89) _ _ k_X6_306 (cUr_obj rfl) rfl (by decide) (c_drawOf (σ := (sU (sFl τ 0 F) (j, dj, (drw s), is, it, oo))) (se := (drw s)) rfl _) ⟨rfl, rfl, by decide⟩ rfl rfl (Nat.le_of_ble_eq_true rfl) ⟨Nat.le_of_ble_eq_true rfl, Nat.le_of_ble_eq_true rfl⟩ dX6_doByDraw_89 (unS ?_)
        show V E X _ RX6 _ _ _ 0 0 _ false 146 92 _ [_] _
        refine v_istore_n (pc := 92) [1, 2, 0] [(0, _), (1, _), (2, _)] dX6_doByDraw_92 rfl (by decide) rfl ?_
        refine v_aload_n (pc := 93) 0 dX6_doByDraw_93 rfl rfl ?_
        refine g_X6_29 (pc := 94) (cUr_obj rfl) (by decide) rfl dX6_doByDraw_94 ?_
        refine v_aload_n (pc := 97) 0 dX6_doByDraw_97 rfl rfl ?_
        refine g_X6_19 (pc := 98) (cUr_obj rfl) (by decide) rfl dX6_doByDraw_98 ?_
        refine v_iload_n (pc := 101) 2 dX6_doByDraw_101 rfl rfl ?_
        refine v_aload_n (pc := 102) 0 dX6_doByDraw_102 rfl rfl ?_
        refine v_bipush (pc := 103) (nI 10) dX6_doByDraw_103 kB_10 ?_
        refine v_callV (pc := 105) _ _ k_X6_306 (cUr_obj rfl) rfl (by decide) (c_drawOf (σ := (sU (sFl τ 0 F) (j, dj, (drw (drw s)), is, it, oo))) (se := (drw (drw s))) rfl _) ⟨rfl, rfl, by decide⟩ rfl rfl (Nat.le_of_ble_eq_true rfl) ⟨Nat.le_of_ble_eq_true rfl, Nat.le_of_ble_eq_true rfl⟩ dX6_doByDraw_105 (unS ?_)
        show V E X _ RX6 _ _ _ 0 0 _ false 146 108 _ [_, _, _, _] _
        refine v_callV (pc := 108) _ _ k_X6_222 (cF_obj 0 (by decide)) rfl (adr_lt0 (by decide)) (k_scare (σ := (sU (sFl τ 0 F) (j, dj, (drw (drw (drw s))), is, it, oo))) (k := 0) (by decide) (show gF (sU (sFl τ 0 F) _) 0 = F from gF_s τ 0 F) hj hP hnp hnd _ _) ⟨rfl, rfl, by decide⟩ rfl rfl (Nat.le_of_ble_eq_true rfl) ⟨Nat.le_of_ble_eq_true rfl, Nat.le_of_ble_eq_true rfl⟩ dX6_doByDraw_108 (unS ?_)
        show V E X _ RX6 _ _ _ 0 0 _ false 146 111 _ [_] _
        refine v_pop (pc := 111) dX6_doByDraw_111 rfl ?_
        exact v_vret (pc := 112) dX6_doByDraw_112 (by rw [show doD dr np (s, F) = _ from ((if_neg c_7).trans (if_neg c_49)).trans (if_pos c_83), sFU]; exact ⟨rfl, rfl⟩)
    · refine v_aload_n (pc := 52) 0 dX6_doByDraw_52 rfl rfl ?_
      refine v_aload_n (pc := 53) 0 dX6_doByDraw_53 rfl rfl ?_
      refine g_X6_19 (pc := 54) (cUr_obj rfl) (by decide) rfl dX6_doByDraw_54 ?_
      refine g_X6_101 (pc := 57) (cPr_obj hj hP) (pad_lt0 hj) rfl dX6_doByDraw_57 ?_
      refine v_callV (pc := 60) _ _ k_X6_306 (cUr_obj rfl) rfl (by decide) (c_drawOf (σ := (sU (sFl τ 0 F) (j, dj, (drw s), is, it, oo))) (se := (drw s)) rfl _) ⟨rfl, rfl, by decide⟩ rfl rfl (Nat.le_of_ble_eq_true rfl) ⟨Nat.le_of_ble_eq_true rfl, Nat.le_of_ble_eq_true rfl⟩ dX6_doByDraw_60 (unS ?_)
      show V E X _ RX6 _ _ _ 0 0 _ false 146 63 _ [_] _
      refine v_istore_n (pc := 63) [1, 2, 0] [(0, _), (1, _), (2, _)] dX6_doByDraw_63 rfl (by decide) rfl ?_
      refine v_aload_n (pc := 64) 0 dX6_doByDraw_64 rfl rfl ?_
      refine g_X6_29 (pc := 65) (cUr_obj rfl) (by decide) rfl dX6_doByDraw_65 ?_
      refine v_iload_n (pc := 68) 2 dX6_doByDraw_68 rfl rfl ?_
      refine v_aload_n (pc := 69) 0 dX6_doByDraw_69 rfl rfl ?_
      refine v_bipush (pc := 70) (nI 20) dX6_doByDraw_70 kB_20 ?_
      refine v_callV (pc := 72) _ _ k_X6_306 (cUr_obj rfl) rfl (by decide) (c_drawOf (σ := (sU (sFl τ 0 F) (j, dj, (drw (drw s)), is, it, oo))) (se := (drw (drw s))) rfl _) ⟨rfl, rfl, by decide⟩ rfl rfl (Nat.le_of_ble_eq_true rfl) ⟨Nat.le_of_ble_eq_true rfl, Nat.le_of_ble_eq_true rfl⟩ dX6_doByDraw_72 (unS ?_)
      show V E X _ RX6 _ _ _ 0 0 _ false 146 75 _ [_, _, _] _
      refine v_callV (pc := 75) _ _ k_X6_214 (cF_obj 0 (by decide)) rfl (adr_lt0 (by decide)) (k_crumb (σ := (sU (sFl τ 0 F) (j, dj, (drw (drw (drw s))), is, it, oo))) (k := 0) (by decide) (show gF (sU (sFl τ 0 F) _) 0 = F from gF_s τ 0 F) _ _) ⟨rfl, rfl, by decide⟩ rfl rfl (Nat.le_of_ble_eq_true rfl) ⟨Nat.le_of_ble_eq_true rfl, Nat.le_of_ble_eq_true rfl⟩ dX6_doByDraw_75 (unS ?_)
      show V E X _ RX6 _ _ _ 0 0 _ false 146 78 _ [] _
      refine v_goto (pc := 78) (tgt := 112) dX6_doByDraw_78 rfl ?_
      exact v_vret (pc := 112) dX6_doByDraw_112 (by rw [show doD dr np (s, F) = _ from (if_neg c_7).trans (if_pos c_49), sFU]; exact ⟨rfl, rfl⟩)
  · refine v_aload_n (pc := 10) 0 dX6_doByDraw_10 rfl rfl ?_
    refine v_aload_n (pc := 11) 0 dX6_doByDraw_11 rfl rfl ?_
    refine g_X6_19 (pc := 12) (cUr_obj rfl) (by decide) rfl dX6_doByDraw_12 ?_
    refine g_X6_101 (pc := 15) (cPr_obj hj hP) (pad_lt0 hj) rfl dX6_doByDraw_15 ?_
    refine v_callV (pc := 18) _ _ k_X6_306 (cUr_obj rfl) rfl (by decide) (c_drawOf (σ := (sU (sFl τ 0 F) (j, dj, (drw s), is, it, oo))) (se := (drw s)) rfl _) ⟨rfl, rfl, by decide⟩ rfl rfl (Nat.le_of_ble_eq_true rfl) ⟨Nat.le_of_ble_eq_true rfl, Nat.le_of_ble_eq_true rfl⟩ dX6_doByDraw_18 (unS ?_)
    show V E X _ RX6 _ _ _ 0 0 _ false 146 21 _ [_] _
    refine v_istore_n (pc := 21) [1, 2, 0] [(0, _), (1, _), (2, _)] dX6_doByDraw_21 rfl (by decide) rfl ?_
    refine v_aload_n (pc := 22) 0 dX6_doByDraw_22 rfl rfl ?_
    refine g_X6_29 (pc := 23) (cUr_obj rfl) (by decide) rfl dX6_doByDraw_23 ?_
    refine v_bipush (pc := 26) (-2) dX6_doByDraw_26 kB_m2 ?_
    refine v_iload_n (pc := 28) 2 dX6_doByDraw_28 rfl rfl ?_
    refine v_bipush (pc := 29) (nI 9) dX6_doByDraw_29 kB_9 ?_
    refine v_aload_n (pc := 31) 0 dX6_doByDraw_31 rfl rfl ?_
    refine g_X6_29 (pc := 32) (cUr_obj rfl) (by decide) rfl dX6_doByDraw_32 ?_
    refine g_X6_116 (pc := 35) (cF_obj 0 (by decide)) (adr_lt0 (by decide)) rfl dX6_doByDraw_35 ?_
    refine v_callS (pc := 38) _ _ k_X6_309 (c_min _ _) ⟨rfl, rfl, by decide⟩ rfl rfl (Nat.le_of_ble_eq_true rfl) ⟨Nat.le_of_ble_eq_true rfl, Nat.le_of_ble_eq_true rfl⟩ dX6_doByDraw_38 (unS ?_)
    show V E X _ RX6 _ _ _ 0 0 _ false 146 41 _ [_, _, _, _] _
    refine v_callV (pc := 41) _ _ k_X6_206 (cF_obj 0 (by decide)) rfl (adr_lt0 (by decide)) (k_move (σ := (sU (sFl τ 0 F) (j, dj, (drw (drw s)), is, it, oo))) (k := 0) (by decide) (show gF (sU (sFl τ 0 F) _) 0 = F from gF_s τ 0 F) _ _ _) ⟨rfl, rfl, by decide⟩ rfl rfl (Nat.le_of_ble_eq_true rfl) ⟨Nat.le_of_ble_eq_true rfl, Nat.le_of_ble_eq_true rfl⟩ dX6_doByDraw_41 (unS ?_)
    show V E X _ RX6 _ _ _ 0 0 _ false 146 44 _ [] _
    refine v_goto (pc := 44) (tgt := 112) dX6_doByDraw_44 rfl ?_
    exact v_vret (pc := 112) dX6_doByDraw_112 (by rw [show doD dr np (s, F) = _ from if_pos c_7, sFU]; exact ⟨rfl, by rw [gF_s]⟩)
theorem k_passU {E : Ev} {σ : Sg} {u : TopV} {F : FlockV} {j np nd : Nat} {sd du tr : Int32} {kd bd dr dt cr ow : Fn} (hj : j < 2) (hP : gP σ j = (sd, du, tr, nI np, nI nd, kd, bd, dr, dt, cr, ow)) (hnp : np ≤ 7) (hnd : nd ≤ 9) : Ct E yX0_passHour cX0_passHour 2 none ({ frames := 4, cells := 0, slots := 0, locals := 90 } : Room) false 146 [.ref (Ez E + adr 0), .ref (Ez E + pad j)] (cellOf E (sU (sFl σ 0 F) u)) 146 0 0 (Ff none (cellOf E (sU (sFl σ 0 (fl_pass F kd du np)) u))) := by
  have h := k_pass (E := E) (σ := sU (sFl σ 0 F) u) (k := 0) (by decide) (show gF (sU (sFl σ 0 F) u) 0 = F from gF_s σ 0 F) hj hP hnp hnd
  rw [sFU] at h; exact h
set_option maxHeartbeats 4000000 in
set_option maxRecDepth 100000 in
theorem s_drift {E : Ev} {σ : Sg} (hW : WC σ) (n : Int32) : Ct E yX6_drift cX6_drift 4 (some .int) ({ frames := 5, cells := 0, slots := 0, locals := 112 } : Room) false 146 [.ref (Ez E + 0), .int n] (cellOf E σ) 146 0 0 (Ff (some (.int (cs_drift σ n).1)) (cellOf E (cs_drift σ n).2)) := by
  obtain ⟨⟨hj, hdj, hjd⟩, hPs, ⟨x_, s_, hQ, hx, hs⟩, ⟨wa, df, wf, ep, eb, ws, fs, es, hS, hws, hfs, hes, hep⟩, ⟨lt, L, m, fa, fn, ap, hT, hL, hm⟩⟩ := hW
  rcases hU : gU σ with ⟨j, dj, se, is, it, oo⟩
  rw [hU] at hj hdj hjd
  simp only at hj hdj hjd
  obtain ⟨np, nd, sd, du, tr, kd, bd, dr, dt, cr, ow, hP, hnp, hnd, hdt, hcr⟩ := hPs j hj
  have eH : hereP σ = (sd, du, tr, nI np, nI nd, kd, bd, dr, dt, cr, ow) := by show gP σ (gU σ).1 = _; rw [hU]; exact hP
  have eNp : hNp σ = np := by show parNp (hereP σ) = np; rw [eH]; exact nI_clamp (by omega)
  have eNd : hNd σ = nd := by show parNd (hereP σ) = nd; rw [eH]; exact nI_clamp (by omega)
  rcases hG : gF σ 0 with ⟨t, hr, nt, rg, pe, b, c, o, p⟩
  have h0 : sFl (rem_ σ) 0 (gF σ 0) = rem_ σ := by rw [← rem_0]; exact sFl_id _ _
  have h1 : sU (sFl (rem_ σ) 0 (gF σ 0)) (j, dj, se, is, it, oo) = rem_ σ := by rw [h0, ← hU]; rfl
  have eD : ∀ m, driftN σ m = itn (fun _ z => st_drift kd dr du np z) m (se, gF σ 0) := by intro m; unfold driftN; rw [eH, eNp, hU]
  refine Ct.ofV (by decide) (Nat.le_of_ble_eq_true rfl) (fun X hnm => ?_)
  show V E X _ RX6 _ _ _ _ _ _ false 146 0 [(0, .ref (Ez E + 0)), (1, .int n)] [] _
  refine v_aload_n (pc := 0) 0 dX6_drift_0 rfl rfl ?_
  refine v_iload_n (pc := 1) 1 dX6_drift_1 rfl rfl ?_
  refine v_callV (pc := 2) _ _ k_X6_226 (cUr_obj hU) rfl (by decide) (c_refu hj hP hnp hnd hU hG _) ⟨rfl, rfl, by decide⟩ rfl rfl (Nat.le_of_ble_eq_true rfl) ⟨Nat.le_of_ble_eq_true rfl, Nat.le_of_ble_eq_true rfl⟩ dX6_drift_2 (unS ?_)
  show V E X _ RX6 _ _ _ 0 0 _ false 146 5 _ [_] _
  refine v_istore_n (pc := 5) [1, 2, 0] [(0, _), (1, _), (2, _)] dX6_drift_5 rfl (by decide) rfl ?_
  refine v_iload_n (pc := 6) 2 dX6_drift_6 rfl rfl ?_
  refine v_if_eq (pc := 7) (tgt := 12) dX6_drift_7 rfl (fun c_7 => ?_) (fun c_7 => ?_)
  · obtain ⟨m, hm1, hm2, rfl⟩ := refI_nat c_7
    refine v_aload_n (pc := 12) 0 dX6_drift_12 rfl rfl ?_
    refine g_X6_39 (pc := 13) (cUr_obj hU) (by decide) rfl dX6_drift_13 ?_
    refine v_aload_n (pc := 16) 0 dX6_drift_16 rfl rfl ?_
    refine g_X6_29 (pc := 17) (cUr_obj hU) (by decide) rfl dX6_drift_17 ?_
    refine v_callV (pc := 20) _ _ k_X6_202 (cQr_obj hQ) rfl (by decide) (k_remember hQ hx hs) ⟨rfl, rfl, by decide⟩ rfl rfl (Nat.le_of_ble_eq_true rfl) ⟨Nat.le_of_ble_eq_true rfl, Nat.le_of_ble_eq_true rfl⟩ dX6_drift_20 (unS ?_)
    show V E X _ RX6 _ _ _ 0 0 _ false 146 23 _ [] _
    rw [← h1]
    refine v_iconst (pc := 23) (nI 0) dX6_drift_23 kI_0 ?_
    refine v_istore_n (pc := 24) [1, 2, 3, 0] [(0, _), (1, _), (2, _), (3, _)] dX6_drift_24 rfl (by decide) rfl ?_
    refine v_sub [0, 1, 3] rfl ?_
    refine dn (P := fun i => V E X ({ frames := 5, cells := 0, slots := 0, locals := 112 } : Room) RX6 cX6_drift 4 (some .int) 0 0 (QX E X false 146 (Ff (some (.int (cs_drift σ (nI m)).1)) (cellOf E (cs_drift σ (nI m)).2)) 0 0) false 146 25 [(0, .ref (Ez E + 0)), (1, .int (nI m)), (3, .int (nI i))] [] (cellOf E (sU (sFl (rem_ σ) 0 (itn (fun _ z => st_drift kd dr du np z) i (se, gF σ 0)).2) (j, dj, (itn (fun _ z => st_drift kd dr du np z) i (se, gF σ 0)).1, is, it, oo)))) (N := m) ?_ ?_
    · generalize hFl : itn (fun _ z => st_drift kd dr du np z) m (se, gF σ 0) = z_ 
      obtain ⟨s9, F9⟩ := z_
      show V E X _ RX6 _ _ _ _ _ _ false 146 _ [(0, .ref (Ez E + 0)), (1, .int (nI m)), (3, .int (nI m))] [] (cellOf E (sU (sFl (rem_ σ) 0 F9) (j, dj, s9, is, it, oo)))
      refine v_iload_n (pc := 25) 2 dX6_drift_25 rfl rfl ?_
      refine v_iload_n (pc := 26) 1 dX6_drift_26 rfl rfl ?_
      refine v_icmp_geN (pc := 27) (by omega) (by omega) (tgt := 61) dX6_drift_27 rfl (fun c_27 => ?_) (fun c_27 => False.elim ((fun c => by omega) c_27))
      refine v_aload_n (pc := 61) 0 dX6_drift_61 rfl rfl ?_
      refine g_X6_29 (pc := 62) (cUr_obj rfl) (by decide) rfl dX6_drift_62 ?_
      refine g_X6_116 (pc := 65) (cF_obj 0 (by decide)) (adr_lt0 (by decide)) rfl dX6_drift_65 ?_
      exact v_iret (pc := 68) dX6_drift_68 (by unfold cs_drift; rw [eH, if_pos (show refI sd (fH (nowF σ)) (nI m) = 0 from by rw [show nowF σ = _ from hG]; exact c_7), show (nI m).toNatClampNeg = m from nI_clamp (by omega), eD, hFl, hU]; exact ⟨by rw [show gF (sU (sFl (rem_ σ) 0 F9) _) 0 = F9 from gF_s _ _ _], rfl⟩)
    · intro i hi ih
      have ih : V E X ({ frames := 5, cells := 0, slots := 0, locals := 112 } : Room) RX6 cX6_drift 4 (some .int) 0 0 (QX E X false 146 (Ff (some (.int (cs_drift σ (nI m)).1)) (cellOf E (cs_drift σ (nI m)).2)) 0 0) false 146 25 [(0, .ref (Ez E + 0)), (1, .int (nI m)), (3, .int (nI (i + 1)))] [] (cellOf E (sU (sFl (rem_ σ) 0 (st_drift kd dr du np (itn (fun _ z => st_drift kd dr du np z) i (se, gF σ 0))).2) (j, dj, (st_drift kd dr du np (itn (fun _ z => st_drift kd dr du np z) i (se, gF σ 0))).1, is, it, oo))) := by rw [itn_s] at ih; exact ih
      generalize itn (fun _ z => st_drift kd dr du np z) i (se, gF σ 0) = z_ at ih ⊢
      obtain ⟨s1, F1⟩ := z_
      show V E X _ RX6 _ _ _ _ _ _ false 146 _ [(0, .ref (Ez E + 0)), (1, .int (nI m)), (3, .int (nI i))] [] (cellOf E (sU (sFl (rem_ σ) 0 F1) (j, dj, s1, is, it, oo)))
      refine v_iload_n (pc := 25) 2 dX6_drift_25 rfl rfl ?_
      refine v_iload_n (pc := 26) 1 dX6_drift_26 rfl rfl ?_
      refine v_icmp_geN (pc := 27) (by omega) (by omega) (tgt := 61) dX6_drift_27 rfl (fun c_27 => False.elim ((fun c => by omega) c_27)) (fun c_27 => ?_)
      refine v_aload_n (pc := 30) 0 dX6_drift_30 rfl rfl ?_
      refine g_X6_19 (pc := 31) (cUr_obj rfl) (by decide) rfl dX6_drift_31 ?_
      refine g_X6_101 (pc := 34) (cPr_obj hj hP) (pad_lt0 hj) rfl dX6_drift_34 ?_
      refine v_if_leN (pc := 37) (by omega) (tgt := 44) dX6_drift_37 rfl (fun c_37 => ?_) (fun c_37 => ?_)
      · refine v_aload_n (pc := 44) 0 dX6_drift_44 rfl rfl ?_
        refine g_X6_29 (pc := 45) (cUr_obj rfl) (by decide) rfl dX6_drift_45 ?_
        refine v_aload_n (pc := 48) 0 dX6_drift_48 rfl rfl ?_
        refine g_X6_19 (pc := 49) (cUr_obj rfl) (by decide) rfl dX6_drift_49 ?_
        refine v_callV (pc := 52) _ _ k_X6_229 (cF_obj 0 (by decide)) rfl (adr_lt0 (by decide)) (k_passU hj (show gP (rem_ σ) j = _ from hP) hnp hnd) ⟨rfl, rfl, by decide⟩ rfl rfl (Nat.le_of_ble_eq_true rfl) ⟨Nat.le_of_ble_eq_true rfl, Nat.le_of_ble_eq_true rfl⟩ dX6_drift_52 (unS ?_)
        show V E X _ RX6 _ _ _ 0 0 _ false 146 55 _ [] _
        refine v_iincN (pc := 55) 2 [1, 2, 0] [(0, _), (1, _), (3, _)] kI_1 dX6_drift_55 rfl (by decide) rfl ?_
        refine v_goto (pc := 58) (tgt := 25) dX6_drift_58 rfl ?_
        rw [show st_drift kd dr du np (s1, F1) = (s1, fl_pass F1 kd du np) from by unfold st_drift; rw [if_pos c_37]] at ih
        exact ih
      · refine v_aload_n (pc := 40) 0 dX6_drift_40 rfl rfl ?_
        refine v_callV (pc := 41) _ _ k_X6_232 (cUr_obj rfl) rfl (by decide) (c_doDraw hj (show gP (rem_ σ) j = _ from hP) hnp hnd) ⟨rfl, rfl, by decide⟩ rfl rfl (Nat.le_of_ble_eq_true rfl) ⟨Nat.le_of_ble_eq_true rfl, Nat.le_of_ble_eq_true rfl⟩ dX6_drift_41 (unS ?_)
        show V E X _ RX6 _ _ _ 0 0 _ false 146 44 _ [] _
        refine v_aload_n (pc := 44) 0 dX6_drift_44 rfl rfl ?_
        refine g_X6_29 (pc := 45) (cUr_obj rfl) (by decide) rfl dX6_drift_45 ?_
        refine v_aload_n (pc := 48) 0 dX6_drift_48 rfl rfl ?_
        refine g_X6_19 (pc := 49) (cUr_obj rfl) (by decide) rfl dX6_drift_49 ?_
        refine v_callV (pc := 52) _ _ k_X6_229 (cF_obj 0 (by decide)) rfl (adr_lt0 (by decide)) (k_passU hj (show gP (rem_ σ) j = _ from hP) hnp hnd) ⟨rfl, rfl, by decide⟩ rfl rfl (Nat.le_of_ble_eq_true rfl) ⟨Nat.le_of_ble_eq_true rfl, Nat.le_of_ble_eq_true rfl⟩ dX6_drift_52 (unS ?_)
        show V E X _ RX6 _ _ _ 0 0 _ false 146 55 _ [] _
        refine v_iincN (pc := 55) 2 [1, 2, 0] [(0, _), (1, _), (3, _)] kI_1 dX6_drift_55 rfl (by decide) rfl ?_
        refine v_goto (pc := 58) (tgt := 25) dX6_drift_58 rfl ?_
        rw [show st_drift kd dr du np (s1, F1) = ((doD dr np (s1, F1)).1, fl_pass (doD dr np (s1, F1)).2 kd du np) from by unfold st_drift; rw [if_neg (show ¬ np = 0 by omega)]] at ih
        generalize doD dr np (s1, F1) = z2 at ih ⊢
        obtain ⟨s2, F2⟩ := z2
        exact ih
  · refine v_iload_n (pc := 10) 2 dX6_drift_10 rfl rfl ?_
    exact v_iret (pc := 11) dX6_drift_11 (by unfold cs_drift; rw [eH]; rw [if_neg (show ¬ refI sd (fH (nowF σ)) n = 0 from by rw [show nowF σ = _ from hG]; exact c_7), show nowF σ = _ from hG]; exact ⟨rfl, rfl⟩)
def ring0 (dt cr o : Fn) (nd np : Nat) (oo : Fn) : Fn := itn (fun p f => upd f p (credI dt cr o (nI p) nd)) np oo
def st_war (v p : Nat) (f : Fn) : Fn := if hasB (f p) (nI v) = true then upd f p (f p ||| f v) else f
def ring1 (np : Nat) (f : Fn) : Fn := itn (fun v g => itn (st_war v) np g) np f
def ringI (np : Nat) (f : Fn) : Int32 := itn (fun p s => s ||| (f p &&& (nI 1 <<< (nI p &&& 31)))) np (nI 0)
set_option maxHeartbeats 4000000 in
set_option maxRecDepth 100000 in
theorem c_rings {E : Ev} {σ : Sg} {dj : Nat} {se : Int32} {is it oo : Fn} {j np nd : Nat} {sd du tr : Int32} {kd bd dr dt cr ow : Fn} (hj : j < 2) (hP : gP σ j = (sd, du, tr, nI np, nI nd, kd, bd, dr, dt, cr, ow)) (hnp : np ≤ 7) (hnd : nd ≤ 9) {t hr nt rg pe : Int32} {b c o p : Fn} (hG : gF σ 0 = (t, hr, nt, rg, pe, b, c, o, p)) : Ct E yX6_rings cX6_rings 3 (some .int) ({ frames := 1, cells := 0, slots := 0, locals := 23 } : Room) false 146 [.ref (Ez E + 0)] (cellOf E (sU σ (j, dj, se, is, it, oo))) 146 0 0 (Ff (some (.int (ringI np (ring1 np (ring0 dt cr o nd np oo))))) (cellOf E (sU σ (j, dj, se, is, it, (ring1 np (ring0 dt cr o nd np oo)))))) := by
  refine Ct.ofV (by decide) (Nat.le_of_ble_eq_true rfl) (fun X hnm => ?_)
  show V E X _ RX6 _ _ _ _ _ _ false 146 0 [(0, .ref (Ez E + 0))] [] _
  refine v_iconst (pc := 0) (nI 0) dX6_rings_0 kI_0 ?_
  refine v_istore_n (pc := 1) [1, 0] [(0, _), (1, _)] dX6_rings_1 rfl (by decide) rfl ?_
  refine dn (P := fun i => V E X ({ frames := 1, cells := 0, slots := 0, locals := 23 } : Room) RX6 cX6_rings 3 (some .int) 0 0 (QX E X false 146 (Ff (some (.int (ringI np (ring1 np (ring0 dt cr o nd np oo))))) (cellOf E (sU σ (j, dj, se, is, it, (ring1 np (ring0 dt cr o nd np oo)))))) 0 0) false 146 2 [(0, .ref (Ez E + 0)), (1, .int (nI i))] [] (cellOf E (sU σ (j, dj, se, is, it, itn (fun p f => upd f p (credI dt cr o (nI p) nd)) i oo)))) (N := np) ?_ ?_
  · generalize hf0 : itn (fun p f => upd f p (credI dt cr o (nI p) nd)) np oo = f0 
    show V E X _ RX6 _ _ _ _ _ _ false 146 _ [(0, .ref (Ez E + 0)), (1, .int (nI np))] [] (cellOf E (sU σ (j, dj, se, is, it, f0)))
    refine v_iload_n (pc := 2) 1 dX6_rings_2 rfl rfl ?_
    refine v_aload_n (pc := 3) 0 dX6_rings_3 rfl rfl ?_
    refine g_X6_19 (pc := 4) (cUr_obj rfl) (by decide) rfl dX6_rings_4 ?_
    refine g_X6_101 (pc := 7) (cPr_obj hj hP) (pad_lt0 hj) rfl dX6_rings_7 ?_
    refine v_icmp_geN (pc := 10) (by omega) (by omega) (tgt := 30) dX6_rings_10 rfl (fun c_10 => ?_) (fun c_10 => False.elim ((fun c => by omega) c_10))
    refine v_iconst (pc := 30) (nI 0) dX6_rings_30 kI_0 ?_
    refine v_istore_n (pc := 31) [1, 0] [(0, _), (1, _)] dX6_rings_31 rfl (by decide) rfl ?_
    refine dn (P := fun i => V E X ({ frames := 1, cells := 0, slots := 0, locals := 23 } : Room) RX6 cX6_rings 3 (some .int) 0 0 (QX E X false 146 (Ff (some (.int (ringI np (ring1 np (ring0 dt cr o nd np oo))))) (cellOf E (sU σ (j, dj, se, is, it, (ring1 np (ring0 dt cr o nd np oo)))))) 0 0) false 146 32 [(0, .ref (Ez E + 0)), (1, .int (nI i))] [] (cellOf E (sU σ (j, dj, se, is, it, itn (fun v g => itn (st_war v) np g) i f0)))) (N := np) ?_ ?_
    · generalize hf9 : itn (fun v g => itn (st_war v) np g) np f0 = f9 
      show V E X _ RX6 _ _ _ _ _ _ false 146 _ [(0, .ref (Ez E + 0)), (1, .int (nI np))] [] (cellOf E (sU σ (j, dj, se, is, it, f9)))
      refine v_iload_n (pc := 32) 1 dX6_rings_32 rfl rfl ?_
      refine v_aload_n (pc := 33) 0 dX6_rings_33 rfl rfl ?_
      refine g_X6_19 (pc := 34) (cUr_obj rfl) (by decide) rfl dX6_rings_34 ?_
      refine g_X6_101 (pc := 37) (cPr_obj hj hP) (pad_lt0 hj) rfl dX6_rings_37 ?_
      refine v_icmp_geN (pc := 40) (by omega) (by omega) (tgt := 96) dX6_rings_40 rfl (fun c_40 => ?_) (fun c_40 => False.elim ((fun c => by omega) c_40))
      refine v_iconst (pc := 96) (nI 0) dX6_rings_96 kI_0 ?_
      refine v_istore_n (pc := 97) [1, 0] [(0, _), (1, _)] dX6_rings_97 rfl (by decide) rfl ?_
      refine v_iconst (pc := 98) (nI 0) dX6_rings_98 kI_0 ?_
      refine v_istore_n (pc := 99) [1, 2, 0] [(0, _), (1, _), (2, _)] dX6_rings_99 rfl (by decide) rfl ?_
      refine dn (P := fun i => V E X ({ frames := 1, cells := 0, slots := 0, locals := 23 } : Room) RX6 cX6_rings 3 (some .int) 0 0 (QX E X false 146 (Ff (some (.int (ringI np (ring1 np (ring0 dt cr o nd np oo))))) (cellOf E (sU σ (j, dj, se, is, it, (ring1 np (ring0 dt cr o nd np oo)))))) 0 0) false 146 100 [(0, .ref (Ez E + 0)), (1, .int (itn (fun p s => s ||| (f9 p &&& (nI 1 <<< (nI p &&& 31)))) i (nI 0))), (2, .int (nI i))] [] (cellOf E (sU σ (j, dj, se, is, it, f9)))) (N := np) ?_ ?_
      · refine v_iload_n (pc := 100) 2 dX6_rings_100 rfl rfl ?_
        refine v_aload_n (pc := 101) 0 dX6_rings_101 rfl rfl ?_
        refine g_X6_19 (pc := 102) (cUr_obj rfl) (by decide) rfl dX6_rings_102 ?_
        refine g_X6_101 (pc := 105) (cPr_obj hj hP) (pad_lt0 hj) rfl dX6_rings_105 ?_
        refine v_icmp_geN (pc := 108) (by omega) (by omega) (tgt := 130) dX6_rings_108 rfl (fun c_108 => ?_) (fun c_108 => False.elim ((fun c => by omega) c_108))
        refine v_iload_n (pc := 130) 1 dX6_rings_130 rfl rfl ?_
        exact v_iret (pc := 131) dX6_rings_131 (by rw [show ring0 dt cr o nd np oo = f0 from hf0, show ring1 np f0 = f9 from hf9]; exact ⟨rfl, rfl⟩)
      · intro i hi ih
        refine v_iload_n (pc := 100) 2 dX6_rings_100 rfl rfl ?_
        refine v_aload_n (pc := 101) 0 dX6_rings_101 rfl rfl ?_
        refine g_X6_19 (pc := 102) (cUr_obj rfl) (by decide) rfl dX6_rings_102 ?_
        refine g_X6_101 (pc := 105) (cPr_obj hj hP) (pad_lt0 hj) rfl dX6_rings_105 ?_
        refine v_icmp_geN (pc := 108) (by omega) (by omega) (tgt := 130) dX6_rings_108 rfl (fun c_108 => False.elim ((fun c => by omega) c_108)) (fun c_108 => ?_)
        refine v_iload_n (pc := 111) 1 dX6_rings_111 rfl rfl ?_
        refine v_aload_n (pc := 112) 0 dX6_rings_112 rfl rfl ?_
        refine g_X6_69 (pc := 113) (cUr_obj rfl) (by decide) rfl dX6_rings_113 ?_
        refine v_iload_n (pc := 116) 2 dX6_rings_116 rfl rfl ?_
        refine v_ialdN (pc := 117) (cUr_oo rfl) (by decide) (by omega) (by decide) dX6_rings_117 ?_
        refine v_iconst (pc := 118) (nI 1) dX6_rings_118 kI_1 ?_
        refine v_iload_n (pc := 119) 2 dX6_rings_119 rfl rfl ?_
        refine v_ishl (pc := 120) dX6_rings_120 ?_
        refine v_iand (pc := 121) dX6_rings_121 ?_
        refine v_ior (pc := 122) dX6_rings_122 ?_
        refine v_istore_n (pc := 123) [1, 0, 2] [(0, _), (1, _), (2, _)] dX6_rings_123 rfl (by decide) rfl ?_
        refine v_iincN (pc := 124) 2 [1, 2, 0] [(0, _), (1, _), (2, _)] kI_1 dX6_rings_124 rfl (by decide) rfl ?_
        refine v_goto (pc := 127) (tgt := 100) dX6_rings_127 rfl ?_
        exact ih
    · intro i hi ih
      have ih : V E X ({ frames := 1, cells := 0, slots := 0, locals := 23 } : Room) RX6 cX6_rings 3 (some .int) 0 0 (QX E X false 146 (Ff (some (.int (ringI np (ring1 np (ring0 dt cr o nd np oo))))) (cellOf E (sU σ (j, dj, se, is, it, (ring1 np (ring0 dt cr o nd np oo)))))) 0 0) false 146 32 [(0, .ref (Ez E + 0)), (1, .int (nI (i + 1)))] [] (cellOf E (sU σ (j, dj, se, is, it, itn (st_war i) np (itn (fun v g => itn (st_war v) np g) i f0)))) := by rw [itn_s] at ih; exact ih
      generalize itn (fun v g => itn (st_war v) np g) i f0 = f1 at ih ⊢
      show V E X _ RX6 _ _ _ _ _ _ false 146 _ [(0, .ref (Ez E + 0)), (1, .int (nI i))] [] (cellOf E (sU σ (j, dj, se, is, it, f1)))
      refine v_iload_n (pc := 32) 1 dX6_rings_32 rfl rfl ?_
      refine v_aload_n (pc := 33) 0 dX6_rings_33 rfl rfl ?_
      refine g_X6_19 (pc := 34) (cUr_obj rfl) (by decide) rfl dX6_rings_34 ?_
      refine g_X6_101 (pc := 37) (cPr_obj hj hP) (pad_lt0 hj) rfl dX6_rings_37 ?_
      refine v_icmp_geN (pc := 40) (by omega) (by omega) (tgt := 96) dX6_rings_40 rfl (fun c_40 => False.elim ((fun c => by omega) c_40)) (fun c_40 => ?_)
      refine v_iconst (pc := 43) (nI 0) dX6_rings_43 kI_0 ?_
      refine v_istore_n (pc := 44) [1, 2, 0] [(0, _), (1, _), (2, _)] dX6_rings_44 rfl (by decide) rfl ?_
      refine dn (P := fun e => V E X ({ frames := 1, cells := 0, slots := 0, locals := 23 } : Room) RX6 cX6_rings 3 (some .int) 0 0 (QX E X false 146 (Ff (some (.int (ringI np (ring1 np (ring0 dt cr o nd np oo))))) (cellOf E (sU σ (j, dj, se, is, it, (ring1 np (ring0 dt cr o nd np oo)))))) 0 0) false 146 45 [(0, .ref (Ez E + 0)), (1, .int (nI i)), (2, .int (nI e))] [] (cellOf E (sU σ (j, dj, se, is, it, itn (st_war i) e f1)))) (N := np) ?_ ?_
      · refine v_iload_n (pc := 45) 2 dX6_rings_45 rfl rfl ?_
        refine v_aload_n (pc := 46) 0 dX6_rings_46 rfl rfl ?_
        refine g_X6_19 (pc := 47) (cUr_obj rfl) (by decide) rfl dX6_rings_47 ?_
        refine g_X6_101 (pc := 50) (cPr_obj hj hP) (pad_lt0 hj) rfl dX6_rings_50 ?_
        refine v_icmp_geN (pc := 53) (by omega) (by omega) (tgt := 90) dX6_rings_53 rfl (fun c_53 => ?_) (fun c_53 => False.elim ((fun c => by omega) c_53))
        refine v_iincN (pc := 90) 1 [1, 0, 2] [(0, _), (1, _), (2, _)] kI_1 dX6_rings_90 rfl (by decide) rfl ?_
        refine v_goto (pc := 93) (tgt := 32) dX6_rings_93 rfl ?_
        refine v_sub [0, 1] rfl ?_
        exact ih
      · intro e he ih
        have ih : V E X ({ frames := 1, cells := 0, slots := 0, locals := 23 } : Room) RX6 cX6_rings 3 (some .int) 0 0 (QX E X false 146 (Ff (some (.int (ringI np (ring1 np (ring0 dt cr o nd np oo))))) (cellOf E (sU σ (j, dj, se, is, it, (ring1 np (ring0 dt cr o nd np oo)))))) 0 0) false 146 45 [(0, .ref (Ez E + 0)), (1, .int (nI i)), (2, .int (nI (e + 1)))] [] (cellOf E (sU σ (j, dj, se, is, it, st_war i e (itn (st_war i) e f1)))) := by rw [itn_s] at ih; exact ih
        generalize itn (st_war i) e f1 = f2 at ih ⊢
        show V E X _ RX6 _ _ _ _ _ _ false 146 _ [(0, .ref (Ez E + 0)), (1, .int (nI i)), (2, .int (nI e))] [] (cellOf E (sU σ (j, dj, se, is, it, f2)))
        refine v_iload_n (pc := 45) 2 dX6_rings_45 rfl rfl ?_
        refine v_aload_n (pc := 46) 0 dX6_rings_46 rfl rfl ?_
        refine g_X6_19 (pc := 47) (cUr_obj rfl) (by decide) rfl dX6_rings_47 ?_
        refine g_X6_101 (pc := 50) (cPr_obj hj hP) (pad_lt0 hj) rfl dX6_rings_50 ?_
        refine v_icmp_geN (pc := 53) (by omega) (by omega) (tgt := 90) dX6_rings_53 rfl (fun c_53 => False.elim ((fun c => by omega) c_53)) (fun c_53 => ?_)
        refine v_aload_n (pc := 56) 0 dX6_rings_56 rfl rfl ?_
        refine g_X6_69 (pc := 57) (cUr_obj rfl) (by decide) rfl dX6_rings_57 ?_
        refine v_iload_n (pc := 60) 2 dX6_rings_60 rfl rfl ?_
        refine v_ialdN (pc := 61) (cUr_oo rfl) (by decide) (by omega) (by decide) dX6_rings_61 ?_
        refine v_iload_n (pc := 62) 1 dX6_rings_62 rfl rfl ?_
        refine v_callS (pc := 63) _ _ k_X6_315 (c_has _ _) ⟨rfl, rfl, by decide⟩ rfl rfl (Nat.le_of_ble_eq_true rfl) ⟨Nat.le_of_ble_eq_true rfl, Nat.le_of_ble_eq_true rfl⟩ dX6_rings_63 (unS ?_)
        show V E X _ RX6 _ _ _ 0 0 _ false 146 66 _ [_] _
        refine v_if_eqB (pc := 66) (tgt := 84) dX6_rings_66 rfl (fun c_66 => ?_) (fun c_66 => ?_)
        · refine v_iincN (pc := 84) 2 [1, 2, 0] [(0, _), (1, _), (2, _)] kI_1 dX6_rings_84 rfl (by decide) rfl ?_
          refine v_goto (pc := 87) (tgt := 45) dX6_rings_87 rfl ?_
          rw [show st_war i e f2 = f2 from if_neg (by rw [c_66]; decide)] at ih
          exact ih
        · refine v_aload_n (pc := 69) 0 dX6_rings_69 rfl rfl ?_
          refine g_X6_69 (pc := 70) (cUr_obj rfl) (by decide) rfl dX6_rings_70 ?_
          refine v_iload_n (pc := 73) 2 dX6_rings_73 rfl rfl ?_
          refine v_dup2 (pc := 74) dX6_rings_74 rfl rfl ?_
          refine v_ialdN (pc := 75) (cUr_oo rfl) (by decide) (by omega) (by decide) dX6_rings_75 ?_
          refine v_aload_n (pc := 76) 0 dX6_rings_76 rfl rfl ?_
          refine g_X6_69 (pc := 77) (cUr_obj rfl) (by decide) rfl dX6_rings_77 ?_
          refine v_iload_n (pc := 80) 1 dX6_rings_80 rfl rfl ?_
          refine v_ialdN (pc := 81) (cUr_oo rfl) (by decide) (by omega) (by decide) dX6_rings_81 ?_
          refine v_ior (pc := 82) dX6_rings_82 ?_
          refine v_iastN (pc := 83) (cUr_oo rfl) (by decide) (by omega) (by decide) dX6_rings_83 (wU_oo) ?_
          refine v_iincN (pc := 84) 2 [1, 2, 0] [(0, _), (1, _), (2, _)] kI_1 dX6_rings_84 rfl (by decide) rfl ?_
          refine v_goto (pc := 87) (tgt := 45) dX6_rings_87 rfl ?_
          rw [show st_war i e f2 = _ from if_pos c_66] at ih
          exact ih
  · intro i hi ih
    have ih : V E X ({ frames := 1, cells := 0, slots := 0, locals := 23 } : Room) RX6 cX6_rings 3 (some .int) 0 0 (QX E X false 146 (Ff (some (.int (ringI np (ring1 np (ring0 dt cr o nd np oo))))) (cellOf E (sU σ (j, dj, se, is, it, (ring1 np (ring0 dt cr o nd np oo)))))) 0 0) false 146 2 [(0, .ref (Ez E + 0)), (1, .int (nI (i + 1)))] [] (cellOf E (sU σ (j, dj, se, is, it, upd (itn (fun p f => upd f p (credI dt cr o (nI p) nd)) i oo) i (credI dt cr o (nI i) nd)))) := by rw [itn_s] at ih; exact ih
    generalize itn (fun p f => upd f p (credI dt cr o (nI p) nd)) i oo = f1 at ih ⊢
    show V E X _ RX6 _ _ _ _ _ _ false 146 _ [(0, .ref (Ez E + 0)), (1, .int (nI i))] [] (cellOf E (sU σ (j, dj, se, is, it, f1)))
    refine v_iload_n (pc := 2) 1 dX6_rings_2 rfl rfl ?_
    refine v_aload_n (pc := 3) 0 dX6_rings_3 rfl rfl ?_
    refine g_X6_19 (pc := 4) (cUr_obj rfl) (by decide) rfl dX6_rings_4 ?_
    refine g_X6_101 (pc := 7) (cPr_obj hj hP) (pad_lt0 hj) rfl dX6_rings_7 ?_
    refine v_icmp_geN (pc := 10) (by omega) (by omega) (tgt := 30) dX6_rings_10 rfl (fun c_10 => False.elim ((fun c => by omega) c_10)) (fun c_10 => ?_)
    refine v_aload_n (pc := 13) 0 dX6_rings_13 rfl rfl ?_
    refine g_X6_69 (pc := 14) (cUr_obj rfl) (by decide) rfl dX6_rings_14 ?_
    refine v_iload_n (pc := 17) 1 dX6_rings_17 rfl rfl ?_
    refine v_aload_n (pc := 18) 0 dX6_rings_18 rfl rfl ?_
    refine v_iload_n (pc := 19) 1 dX6_rings_19 rfl rfl ?_
    refine v_callV (pc := 20) _ _ k_X6_312 (cUr_obj rfl) rfl (by decide) (c_cred (σ := (sU σ (j, dj, se, is, it, f1))) hj hP hnp hnd rfl hG _) ⟨rfl, rfl, by decide⟩ rfl rfl (Nat.le_of_ble_eq_true rfl) ⟨Nat.le_of_ble_eq_true rfl, Nat.le_of_ble_eq_true rfl⟩ dX6_rings_20 (unS ?_)
    show V E X _ RX6 _ _ _ 0 0 _ false 146 23 _ [_, _, _] _
    refine v_iastN (pc := 23) (cUr_oo rfl) (by decide) (by omega) (by decide) dX6_rings_23 (wU_oo) ?_
    refine v_iincN (pc := 24) 1 [1, 0] [(0, _), (1, _)] kI_1 dX6_rings_24 rfl (by decide) rfl ?_
    refine v_goto (pc := 27) (tgt := 2) dX6_rings_27 rfl ?_
    exact ih
theorem k_rings {E : Ev} {σ : Sg} {dj : Nat} {se : Int32} {is it oo : Fn} {j np nd : Nat} {sd du tr : Int32} {kd bd dr dt cr ow : Fn} (hj : j < 2) (hP : gP σ j = (sd, du, tr, nI np, nI nd, kd, bd, dr, dt, cr, ow)) (hnp : np ≤ 7) (hnd : nd ≤ 9) (hU : gU σ = (j, dj, se, is, it, oo)) {t hr nt rg pe : Int32} {b c o p : Fn} (hG : gF σ 0 = (t, hr, nt, rg, pe, b, c, o, p)) : Ct E yX6_rings cX6_rings 3 (some .int) ({ frames := 1, cells := 0, slots := 0, locals := 23 } : Room) false 146 [.ref (Ez E + 0)] (cellOf E σ) 146 0 0 (Ff (some (.int (ringI np (ring1 np (ring0 dt cr o nd np oo))))) (cellOf E (sU σ (j, dj, se, is, it, (ring1 np (ring0 dt cr o nd np oo)))))) := by
  have h := c_rings (E := E) (σ := σ) (dj := dj) (se := se) (is := is) (it := it) (oo := oo) hj hP hnp hnd hG
  rw [show sU σ (j, dj, se, is, it, oo) = σ from by rw [← hU]] at h; exact h
def rgF (σ : Sg) : Fn := ring1 (hNp σ) (ring0 (parDt (hereP σ)) (parCr (hereP σ)) (fO (nowF σ)) (hNd σ) (hNp σ) (gU σ).2.2.2.2.2)
def cs_told (σ : Sg) (w : Int32) : Int32 × Sg := if w = nI 11 then (ringI (hNp σ) (rgF σ), sU σ ((gU σ).1, (gU σ).2.1, (gU σ).2.2.1, (gU σ).2.2.2.1, (gU σ).2.2.2.2.1, rgF σ)) else (
  if w = nI 0 then parDu (hereP σ) else if w = nI 1 then (hereP σ).2.2.2.1 else if w = nI 2 then (hereP σ).2.2.2.2.1 else if w = nI 3 then (gT σ).2.1 else if w = nI 4 then fH (nowF σ) else if w = nI 5 then fT (nowF σ) else if w = nI 6 then sm (fB (nowF σ)) 7
  else if w = nI 7 then fN (nowF σ) else if w = nI 8 then fR (nowF σ) else if w = nI 9 then mnI (fE (nowF σ)) (nI 20) else if w = nI 10 then richI (fB (nowF σ)) (hNp σ) else if w = nI 12 then sm (fO (nowF σ)) (hNd σ)
  else if w = nI 13 then suspI (nowF σ) (parKd (hereP σ)) (gS σ).1 (gS σ).2.2.2.2.2.1.toNatClampNeg (hNp σ) else if w = nI 14 then (gS σ).2.2.2.2.2.1 else if w = nI 15 then (gS σ).2.2.2.2.2.2.1 else if w = nI 16 then (gS σ).2.2.2.2.2.2.2 else if w = nI 17 then (gQ σ).2 else cOUT, σ)
set_option maxHeartbeats 4000000 in
set_option maxRecDepth 100000 in
theorem s_told {E : Ev} {σ : Sg} (hW : WC σ) (w : Int32) : Ct E yX6_told cX6_told 2 (some .int) ({ frames := 5, cells := 0, slots := 0, locals := 113 } : Room) false 146 [.ref (Ez E + 0), .int w] (cellOf E σ) 146 0 0 (Ff (some (.int (cs_told σ w).1)) (cellOf E (cs_told σ w).2)) := by
  obtain ⟨⟨hj, hdj, hjd⟩, hPs, ⟨x_, s_, hQ, hx, hs⟩, ⟨wa, df, wf, ep, eb, ws, fs, es, hS, hws, hfs, hes, hep⟩, ⟨lt, L, m, fa, fn, ap, hT, hL, hm⟩⟩ := hW
  rcases hU : gU σ with ⟨j, dj, se, is, it, oo⟩
  rw [hU] at hj hdj hjd
  simp only at hj hdj hjd
  obtain ⟨np, nd, sd, du, tr, kd, bd, dr, dt, cr, ow, hP, hnp, hnd, hdt, hcr⟩ := hPs j hj
  have eH : hereP σ = (sd, du, tr, nI np, nI nd, kd, bd, dr, dt, cr, ow) := by show gP σ (gU σ).1 = _; rw [hU]; exact hP
  have eNp : hNp σ = np := by show parNp (hereP σ) = np; rw [eH]; exact nI_clamp (by omega)
  have eNd : hNd σ = nd := by show parNd (hereP σ) = nd; rw [eH]; exact nI_clamp (by omega)
  rcases hG : gF σ 0 with ⟨t, hr, nt, rg, pe, b, c, o, p⟩
  refine Ct.ofV (by decide) (Nat.le_of_ble_eq_true rfl) (fun X hnm => ?_)
  show V E X _ RX6 _ _ _ _ _ _ false 146 0 [(0, .ref (Ez E + 0)), (1, .int w)] [] _
  refine v_iload_n (pc := 0) 1 dX6_told_0 rfl rfl ?_
  rcases sw_0_17 w with s_1 | s_1 | s_1 | s_1 | s_1 | s_1 | s_1 | s_1 | s_1 | s_1 | s_1 | s_1 | s_1 | s_1 | s_1 | s_1 | s_1 | s_1 | s_1
  · refine v_tabIn (pc := 1) (off := 87) (tgt := 88) dX6_told_1 (by rw [s_1]; decide) (by rw [s_1]; decide) (by rw [s_1]; rfl) rfl ?_
    refine v_aload_n (pc := 88) 0 dX6_told_88 rfl rfl ?_
    refine g_X6_19 (pc := 89) (cUr_obj hU) (by decide) rfl dX6_told_89 ?_
    refine g_X6_107 (pc := 92) (cPr_obj hj hP) (pad_lt0 hj) rfl dX6_told_92 ?_
    exact v_iret (pc := 95) dX6_told_95 (by unfold cs_told; rw [if_neg (show ¬ w = nI 11 from fun e => by rw [e] at s_1; revert s_1; decide), if_pos s_1, eH]; exact ⟨rfl, rfl⟩)
  · refine v_tabIn (pc := 1) (off := 95) (tgt := 96) dX6_told_1 (by rw [s_1]; decide) (by rw [s_1]; decide) (by rw [s_1]; rfl) rfl ?_
    refine v_aload_n (pc := 96) 0 dX6_told_96 rfl rfl ?_
    refine g_X6_19 (pc := 97) (cUr_obj hU) (by decide) rfl dX6_told_97 ?_
    refine g_X6_101 (pc := 100) (cPr_obj hj hP) (pad_lt0 hj) rfl dX6_told_100 ?_
    exact v_iret (pc := 103) dX6_told_103 (by unfold cs_told; rw [if_neg (show ¬ w = nI 11 from fun e => by rw [e] at s_1; revert s_1; decide), if_neg (show ¬ w = nI 0 from fun e => by rw [e] at s_1; revert s_1; decide), if_pos s_1, eH]; exact ⟨rfl, rfl⟩)
  · refine v_tabIn (pc := 1) (off := 103) (tgt := 104) dX6_told_1 (by rw [s_1]; decide) (by rw [s_1]; decide) (by rw [s_1]; rfl) rfl ?_
    refine v_aload_n (pc := 104) 0 dX6_told_104 rfl rfl ?_
    refine g_X6_19 (pc := 105) (cUr_obj hU) (by decide) rfl dX6_told_105 ?_
    refine g_X6_110 (pc := 108) (cPr_obj hj hP) (pad_lt0 hj) rfl dX6_told_108 ?_
    exact v_iret (pc := 111) dX6_told_111 (by unfold cs_told; rw [if_neg (show ¬ w = nI 11 from fun e => by rw [e] at s_1; revert s_1; decide), if_neg (show ¬ w = nI 0 from fun e => by rw [e] at s_1; revert s_1; decide), if_neg (show ¬ w = nI 1 from fun e => by rw [e] at s_1; revert s_1; decide), if_pos s_1, eH]; exact ⟨rfl, rfl⟩)
  · refine v_tabIn (pc := 1) (off := 111) (tgt := 112) dX6_told_1 (by rw [s_1]; decide) (by rw [s_1]; decide) (by rw [s_1]; rfl) rfl ?_
    refine v_aload_n (pc := 112) 0 dX6_told_112 rfl rfl ?_
    refine g_X6_10 (pc := 113) (cUr_obj hU) (by decide) rfl dX6_told_113 ?_
    refine g_X6_81 (pc := 116) (cTr_obj hT) (by decide) rfl dX6_told_116 ?_
    exact v_iret (pc := 119) dX6_told_119 (by unfold cs_told; rw [if_neg (show ¬ w = nI 11 from fun e => by rw [e] at s_1; revert s_1; decide), if_neg (show ¬ w = nI 0 from fun e => by rw [e] at s_1; revert s_1; decide), if_neg (show ¬ w = nI 1 from fun e => by rw [e] at s_1; revert s_1; decide), if_neg (show ¬ w = nI 2 from fun e => by rw [e] at s_1; revert s_1; decide), if_pos s_1, hT]; exact ⟨rfl, rfl⟩)
  · refine v_tabIn (pc := 1) (off := 119) (tgt := 120) dX6_told_1 (by rw [s_1]; decide) (by rw [s_1]; decide) (by rw [s_1]; rfl) rfl ?_
    refine v_aload_n (pc := 120) 0 dX6_told_120 rfl rfl ?_
    refine g_X6_29 (pc := 121) (cUr_obj hU) (by decide) rfl dX6_told_121 ?_
    refine g_X6_113 (pc := 124) (cF_obj 0 (by decide)) (adr_lt0 (by decide)) rfl dX6_told_124 ?_
    exact v_iret (pc := 127) dX6_told_127 (by unfold cs_told; rw [if_neg (show ¬ w = nI 11 from fun e => by rw [e] at s_1; revert s_1; decide), if_neg (show ¬ w = nI 0 from fun e => by rw [e] at s_1; revert s_1; decide), if_neg (show ¬ w = nI 1 from fun e => by rw [e] at s_1; revert s_1; decide), if_neg (show ¬ w = nI 2 from fun e => by rw [e] at s_1; revert s_1; decide), if_neg (show ¬ w = nI 3 from fun e => by rw [e] at s_1; revert s_1; decide), if_pos s_1]; exact ⟨rfl, rfl⟩)
  · refine v_tabIn (pc := 1) (off := 127) (tgt := 128) dX6_told_1 (by rw [s_1]; decide) (by rw [s_1]; decide) (by rw [s_1]; rfl) rfl ?_
    refine v_aload_n (pc := 128) 0 dX6_told_128 rfl rfl ?_
    refine g_X6_29 (pc := 129) (cUr_obj hU) (by decide) rfl dX6_told_129 ?_
    refine g_X6_116 (pc := 132) (cF_obj 0 (by decide)) (adr_lt0 (by decide)) rfl dX6_told_132 ?_
    exact v_iret (pc := 135) dX6_told_135 (by unfold cs_told; rw [if_neg (show ¬ w = nI 11 from fun e => by rw [e] at s_1; revert s_1; decide), if_neg (show ¬ w = nI 0 from fun e => by rw [e] at s_1; revert s_1; decide), if_neg (show ¬ w = nI 1 from fun e => by rw [e] at s_1; revert s_1; decide), if_neg (show ¬ w = nI 2 from fun e => by rw [e] at s_1; revert s_1; decide), if_neg (show ¬ w = nI 3 from fun e => by rw [e] at s_1; revert s_1; decide), if_neg (show ¬ w = nI 4 from fun e => by rw [e] at s_1; revert s_1; decide), if_pos s_1]; exact ⟨rfl, rfl⟩)
  · refine v_tabIn (pc := 1) (off := 135) (tgt := 136) dX6_told_1 (by rw [s_1]; decide) (by rw [s_1]; decide) (by rw [s_1]; rfl) rfl ?_
    refine v_aload_n (pc := 136) 0 dX6_told_136 rfl rfl ?_
    refine g_X6_29 (pc := 137) (cUr_obj hU) (by decide) rfl dX6_told_137 ?_
    refine v_callV (pc := 140) _ _ k_X6_119 (cF_obj 0 (by decide)) rfl (adr_lt0 (by decide)) (k_hats (by decide) rfl) ⟨rfl, rfl, by decide⟩ rfl rfl (Nat.le_of_ble_eq_true rfl) ⟨Nat.le_of_ble_eq_true rfl, Nat.le_of_ble_eq_true rfl⟩ dX6_told_140 (unS ?_)
    show V E X _ RX6 _ _ _ 0 0 _ false 146 143 _ [_] _
    exact v_iret (pc := 143) dX6_told_143 (by unfold cs_told; rw [if_neg (show ¬ w = nI 11 from fun e => by rw [e] at s_1; revert s_1; decide), if_neg (show ¬ w = nI 0 from fun e => by rw [e] at s_1; revert s_1; decide), if_neg (show ¬ w = nI 1 from fun e => by rw [e] at s_1; revert s_1; decide), if_neg (show ¬ w = nI 2 from fun e => by rw [e] at s_1; revert s_1; decide), if_neg (show ¬ w = nI 3 from fun e => by rw [e] at s_1; revert s_1; decide), if_neg (show ¬ w = nI 4 from fun e => by rw [e] at s_1; revert s_1; decide), if_neg (show ¬ w = nI 5 from fun e => by rw [e] at s_1; revert s_1; decide), if_pos s_1]; exact ⟨rfl, rfl⟩)
  · refine v_tabIn (pc := 1) (off := 143) (tgt := 144) dX6_told_1 (by rw [s_1]; decide) (by rw [s_1]; decide) (by rw [s_1]; rfl) rfl ?_
    refine v_aload_n (pc := 144) 0 dX6_told_144 rfl rfl ?_
    refine g_X6_29 (pc := 145) (cUr_obj hU) (by decide) rfl dX6_told_145 ?_
    refine g_X6_123 (pc := 148) (cF_obj 0 (by decide)) (adr_lt0 (by decide)) rfl dX6_told_148 ?_
    exact v_iret (pc := 151) dX6_told_151 (by unfold cs_told; rw [if_neg (show ¬ w = nI 11 from fun e => by rw [e] at s_1; revert s_1; decide), if_neg (show ¬ w = nI 0 from fun e => by rw [e] at s_1; revert s_1; decide), if_neg (show ¬ w = nI 1 from fun e => by rw [e] at s_1; revert s_1; decide), if_neg (show ¬ w = nI 2 from fun e => by rw [e] at s_1; revert s_1; decide), if_neg (show ¬ w = nI 3 from fun e => by rw [e] at s_1; revert s_1; decide), if_neg (show ¬ w = nI 4 from fun e => by rw [e] at s_1; revert s_1; decide), if_neg (show ¬ w = nI 5 from fun e => by rw [e] at s_1; revert s_1; decide), if_neg (show ¬ w = nI 6 from fun e => by rw [e] at s_1; revert s_1; decide), if_pos s_1]; exact ⟨rfl, rfl⟩)
  · refine v_tabIn (pc := 1) (off := 151) (tgt := 152) dX6_told_1 (by rw [s_1]; decide) (by rw [s_1]; decide) (by rw [s_1]; rfl) rfl ?_
    refine v_aload_n (pc := 152) 0 dX6_told_152 rfl rfl ?_
    refine g_X6_29 (pc := 153) (cUr_obj hU) (by decide) rfl dX6_told_153 ?_
    refine g_X6_126 (pc := 156) (cF_obj 0 (by decide)) (adr_lt0 (by decide)) rfl dX6_told_156 ?_
    exact v_iret (pc := 159) dX6_told_159 (by unfold cs_told; rw [if_neg (show ¬ w = nI 11 from fun e => by rw [e] at s_1; revert s_1; decide), if_neg (show ¬ w = nI 0 from fun e => by rw [e] at s_1; revert s_1; decide), if_neg (show ¬ w = nI 1 from fun e => by rw [e] at s_1; revert s_1; decide), if_neg (show ¬ w = nI 2 from fun e => by rw [e] at s_1; revert s_1; decide), if_neg (show ¬ w = nI 3 from fun e => by rw [e] at s_1; revert s_1; decide), if_neg (show ¬ w = nI 4 from fun e => by rw [e] at s_1; revert s_1; decide), if_neg (show ¬ w = nI 5 from fun e => by rw [e] at s_1; revert s_1; decide), if_neg (show ¬ w = nI 6 from fun e => by rw [e] at s_1; revert s_1; decide), if_neg (show ¬ w = nI 7 from fun e => by rw [e] at s_1; revert s_1; decide), if_pos s_1]; exact ⟨rfl, rfl⟩)
  · refine v_tabIn (pc := 1) (off := 159) (tgt := 160) dX6_told_1 (by rw [s_1]; decide) (by rw [s_1]; decide) (by rw [s_1]; rfl) rfl ?_
    refine v_aload_n (pc := 160) 0 dX6_told_160 rfl rfl ?_
    refine g_X6_29 (pc := 161) (cUr_obj hU) (by decide) rfl dX6_told_161 ?_
    refine v_callV (pc := 164) _ _ k_X6_129 (cF_obj 0 (by decide)) rfl (adr_lt0 (by decide)) (k_known (by decide) rfl) ⟨rfl, rfl, by decide⟩ rfl rfl (Nat.le_of_ble_eq_true rfl) ⟨Nat.le_of_ble_eq_true rfl, Nat.le_of_ble_eq_true rfl⟩ dX6_told_164 (unS ?_)
    show V E X _ RX6 _ _ _ 0 0 _ false 146 167 _ [_] _
    exact v_iret (pc := 167) dX6_told_167 (by unfold cs_told; rw [if_neg (show ¬ w = nI 11 from fun e => by rw [e] at s_1; revert s_1; decide), if_neg (show ¬ w = nI 0 from fun e => by rw [e] at s_1; revert s_1; decide), if_neg (show ¬ w = nI 1 from fun e => by rw [e] at s_1; revert s_1; decide), if_neg (show ¬ w = nI 2 from fun e => by rw [e] at s_1; revert s_1; decide), if_neg (show ¬ w = nI 3 from fun e => by rw [e] at s_1; revert s_1; decide), if_neg (show ¬ w = nI 4 from fun e => by rw [e] at s_1; revert s_1; decide), if_neg (show ¬ w = nI 5 from fun e => by rw [e] at s_1; revert s_1; decide), if_neg (show ¬ w = nI 6 from fun e => by rw [e] at s_1; revert s_1; decide), if_neg (show ¬ w = nI 7 from fun e => by rw [e] at s_1; revert s_1; decide), if_neg (show ¬ w = nI 8 from fun e => by rw [e] at s_1; revert s_1; decide), if_pos s_1]; exact ⟨rfl, rfl⟩)
  · refine v_tabIn (pc := 1) (off := 167) (tgt := 168) dX6_told_1 (by rw [s_1]; decide) (by rw [s_1]; decide) (by rw [s_1]; rfl) rfl ?_
    refine v_aload_n (pc := 168) 0 dX6_told_168 rfl rfl ?_
    refine v_callV (pc := 169) _ _ k_X6_132 (cUr_obj hU) rfl (by decide) (c_rich hj hP hnp hnd hU hG) ⟨rfl, rfl, by decide⟩ rfl rfl (Nat.le_of_ble_eq_true rfl) ⟨Nat.le_of_ble_eq_true rfl, Nat.le_of_ble_eq_true rfl⟩ dX6_told_169 (unS ?_)
    show V E X _ RX6 _ _ _ 0 0 _ false 146 172 _ [_] _
    exact v_iret (pc := 172) dX6_told_172 (by unfold cs_told; rw [if_neg (show ¬ w = nI 11 from fun e => by rw [e] at s_1; revert s_1; decide), if_neg (show ¬ w = nI 0 from fun e => by rw [e] at s_1; revert s_1; decide), if_neg (show ¬ w = nI 1 from fun e => by rw [e] at s_1; revert s_1; decide), if_neg (show ¬ w = nI 2 from fun e => by rw [e] at s_1; revert s_1; decide), if_neg (show ¬ w = nI 3 from fun e => by rw [e] at s_1; revert s_1; decide), if_neg (show ¬ w = nI 4 from fun e => by rw [e] at s_1; revert s_1; decide), if_neg (show ¬ w = nI 5 from fun e => by rw [e] at s_1; revert s_1; decide), if_neg (show ¬ w = nI 6 from fun e => by rw [e] at s_1; revert s_1; decide), if_neg (show ¬ w = nI 7 from fun e => by rw [e] at s_1; revert s_1; decide), if_neg (show ¬ w = nI 8 from fun e => by rw [e] at s_1; revert s_1; decide), if_neg (show ¬ w = nI 9 from fun e => by rw [e] at s_1; revert s_1; decide), if_pos s_1, eNp, show nowF σ = _ from hG]; exact ⟨rfl, rfl⟩)
  · refine v_tabIn (pc := 1) (off := 172) (tgt := 173) dX6_told_1 (by rw [s_1]; decide) (by rw [s_1]; decide) (by rw [s_1]; rfl) rfl ?_
    refine v_aload_n (pc := 173) 0 dX6_told_173 rfl rfl ?_
    refine v_callV (pc := 174) _ _ k_X6_135 (cUr_obj hU) rfl (by decide) (k_rings hj hP hnp hnd hU hG) ⟨rfl, rfl, by decide⟩ rfl rfl (Nat.le_of_ble_eq_true rfl) ⟨Nat.le_of_ble_eq_true rfl, Nat.le_of_ble_eq_true rfl⟩ dX6_told_174 (unS ?_)
    show V E X _ RX6 _ _ _ 0 0 _ false 146 177 _ [_] _
    exact v_iret (pc := 177) dX6_told_177 (by unfold cs_told rgF; rw [if_pos s_1, eH, eNp, eNd, hU, show nowF σ = _ from hG]; exact ⟨rfl, rfl⟩)
  · refine v_tabIn (pc := 1) (off := 177) (tgt := 178) dX6_told_1 (by rw [s_1]; decide) (by rw [s_1]; decide) (by rw [s_1]; rfl) rfl ?_
    refine v_aload_n (pc := 178) 0 dX6_told_178 rfl rfl ?_
    refine v_callV (pc := 179) _ _ k_X6_138 (cUr_obj hU) rfl (by decide) (c_owAll hj hP hnp hnd hU hG) ⟨rfl, rfl, by decide⟩ rfl rfl (Nat.le_of_ble_eq_true rfl) ⟨Nat.le_of_ble_eq_true rfl, Nat.le_of_ble_eq_true rfl⟩ dX6_told_179 (unS ?_)
    show V E X _ RX6 _ _ _ 0 0 _ false 146 182 _ [_] _
    exact v_iret (pc := 182) dX6_told_182 (by unfold cs_told; rw [if_neg (show ¬ w = nI 11 from fun e => by rw [e] at s_1; revert s_1; decide), if_neg (show ¬ w = nI 0 from fun e => by rw [e] at s_1; revert s_1; decide), if_neg (show ¬ w = nI 1 from fun e => by rw [e] at s_1; revert s_1; decide), if_neg (show ¬ w = nI 2 from fun e => by rw [e] at s_1; revert s_1; decide), if_neg (show ¬ w = nI 3 from fun e => by rw [e] at s_1; revert s_1; decide), if_neg (show ¬ w = nI 4 from fun e => by rw [e] at s_1; revert s_1; decide), if_neg (show ¬ w = nI 5 from fun e => by rw [e] at s_1; revert s_1; decide), if_neg (show ¬ w = nI 6 from fun e => by rw [e] at s_1; revert s_1; decide), if_neg (show ¬ w = nI 7 from fun e => by rw [e] at s_1; revert s_1; decide), if_neg (show ¬ w = nI 8 from fun e => by rw [e] at s_1; revert s_1; decide), if_neg (show ¬ w = nI 9 from fun e => by rw [e] at s_1; revert s_1; decide), if_neg (show ¬ w = nI 10 from fun e => by rw [e] at s_1; revert s_1; decide), if_pos s_1, eNd, show nowF σ = _ from hG]; exact ⟨rfl, rfl⟩)
  · refine v_tabIn (pc := 1) (off := 182) (tgt := 183) dX6_told_1 (by rw [s_1]; decide) (by rw [s_1]; decide) (by rw [s_1]; rfl) rfl ?_
    refine v_aload_n (pc := 183) 0 dX6_told_183 rfl rfl ?_
    refine v_callV (pc := 184) _ _ k_X6_141 (cUr_obj hU) rfl (by decide) (c_susp hj hP hnp hnd hU hG hws hfs hes hS) ⟨rfl, rfl, by decide⟩ rfl rfl (Nat.le_of_ble_eq_true rfl) ⟨Nat.le_of_ble_eq_true rfl, Nat.le_of_ble_eq_true rfl⟩ dX6_told_184 (unS ?_)
    show V E X _ RX6 _ _ _ 0 0 _ false 146 187 _ [_] _
    exact v_iret (pc := 187) dX6_told_187 (by unfold cs_told; rw [if_neg (show ¬ w = nI 11 from fun e => by rw [e] at s_1; revert s_1; decide), if_neg (show ¬ w = nI 0 from fun e => by rw [e] at s_1; revert s_1; decide), if_neg (show ¬ w = nI 1 from fun e => by rw [e] at s_1; revert s_1; decide), if_neg (show ¬ w = nI 2 from fun e => by rw [e] at s_1; revert s_1; decide), if_neg (show ¬ w = nI 3 from fun e => by rw [e] at s_1; revert s_1; decide), if_neg (show ¬ w = nI 4 from fun e => by rw [e] at s_1; revert s_1; decide), if_neg (show ¬ w = nI 5 from fun e => by rw [e] at s_1; revert s_1; decide), if_neg (show ¬ w = nI 6 from fun e => by rw [e] at s_1; revert s_1; decide), if_neg (show ¬ w = nI 7 from fun e => by rw [e] at s_1; revert s_1; decide), if_neg (show ¬ w = nI 8 from fun e => by rw [e] at s_1; revert s_1; decide), if_neg (show ¬ w = nI 9 from fun e => by rw [e] at s_1; revert s_1; decide), if_neg (show ¬ w = nI 10 from fun e => by rw [e] at s_1; revert s_1; decide), if_neg (show ¬ w = nI 12 from fun e => by rw [e] at s_1; revert s_1; decide), if_pos s_1, eH, eNp, hS, show nowF σ = _ from hG, show (wa, df, wf, ep, eb, nI ws, nI fs, nI es).2.2.2.2.2.1.toNatClampNeg = ws from nI_clamp (by omega)]; exact ⟨rfl, rfl⟩)
  · refine v_tabIn (pc := 1) (off := 187) (tgt := 188) dX6_told_1 (by rw [s_1]; decide) (by rw [s_1]; decide) (by rw [s_1]; rfl) rfl ?_
    refine v_aload_n (pc := 188) 0 dX6_told_188 rfl rfl ?_
    refine g_X6_65 (pc := 189) (cUr_obj hU) (by decide) rfl dX6_told_189 ?_
    refine g_X6_144 (pc := 192) (cSr_obj hS) (by decide) rfl dX6_told_192 ?_
    exact v_iret (pc := 195) dX6_told_195 (by unfold cs_told; rw [if_neg (show ¬ w = nI 11 from fun e => by rw [e] at s_1; revert s_1; decide), if_neg (show ¬ w = nI 0 from fun e => by rw [e] at s_1; revert s_1; decide), if_neg (show ¬ w = nI 1 from fun e => by rw [e] at s_1; revert s_1; decide), if_neg (show ¬ w = nI 2 from fun e => by rw [e] at s_1; revert s_1; decide), if_neg (show ¬ w = nI 3 from fun e => by rw [e] at s_1; revert s_1; decide), if_neg (show ¬ w = nI 4 from fun e => by rw [e] at s_1; revert s_1; decide), if_neg (show ¬ w = nI 5 from fun e => by rw [e] at s_1; revert s_1; decide), if_neg (show ¬ w = nI 6 from fun e => by rw [e] at s_1; revert s_1; decide), if_neg (show ¬ w = nI 7 from fun e => by rw [e] at s_1; revert s_1; decide), if_neg (show ¬ w = nI 8 from fun e => by rw [e] at s_1; revert s_1; decide), if_neg (show ¬ w = nI 9 from fun e => by rw [e] at s_1; revert s_1; decide), if_neg (show ¬ w = nI 10 from fun e => by rw [e] at s_1; revert s_1; decide), if_neg (show ¬ w = nI 12 from fun e => by rw [e] at s_1; revert s_1; decide), if_neg (show ¬ w = nI 13 from fun e => by rw [e] at s_1; revert s_1; decide), if_pos s_1, hS]; exact ⟨rfl, rfl⟩)
  · refine v_tabIn (pc := 1) (off := 195) (tgt := 196) dX6_told_1 (by rw [s_1]; decide) (by rw [s_1]; decide) (by rw [s_1]; rfl) rfl ?_
    refine v_aload_n (pc := 196) 0 dX6_told_196 rfl rfl ?_
    refine g_X6_65 (pc := 197) (cUr_obj hU) (by decide) rfl dX6_told_197 ?_
    refine g_X6_147 (pc := 200) (cSr_obj hS) (by decide) rfl dX6_told_200 ?_
    exact v_iret (pc := 203) dX6_told_203 (by unfold cs_told; rw [if_neg (show ¬ w = nI 11 from fun e => by rw [e] at s_1; revert s_1; decide), if_neg (show ¬ w = nI 0 from fun e => by rw [e] at s_1; revert s_1; decide), if_neg (show ¬ w = nI 1 from fun e => by rw [e] at s_1; revert s_1; decide), if_neg (show ¬ w = nI 2 from fun e => by rw [e] at s_1; revert s_1; decide), if_neg (show ¬ w = nI 3 from fun e => by rw [e] at s_1; revert s_1; decide), if_neg (show ¬ w = nI 4 from fun e => by rw [e] at s_1; revert s_1; decide), if_neg (show ¬ w = nI 5 from fun e => by rw [e] at s_1; revert s_1; decide), if_neg (show ¬ w = nI 6 from fun e => by rw [e] at s_1; revert s_1; decide), if_neg (show ¬ w = nI 7 from fun e => by rw [e] at s_1; revert s_1; decide), if_neg (show ¬ w = nI 8 from fun e => by rw [e] at s_1; revert s_1; decide), if_neg (show ¬ w = nI 9 from fun e => by rw [e] at s_1; revert s_1; decide), if_neg (show ¬ w = nI 10 from fun e => by rw [e] at s_1; revert s_1; decide), if_neg (show ¬ w = nI 12 from fun e => by rw [e] at s_1; revert s_1; decide), if_neg (show ¬ w = nI 13 from fun e => by rw [e] at s_1; revert s_1; decide), if_neg (show ¬ w = nI 14 from fun e => by rw [e] at s_1; revert s_1; decide), if_pos s_1, hS]; exact ⟨rfl, rfl⟩)
  · refine v_tabIn (pc := 1) (off := 203) (tgt := 204) dX6_told_1 (by rw [s_1]; decide) (by rw [s_1]; decide) (by rw [s_1]; rfl) rfl ?_
    refine v_aload_n (pc := 204) 0 dX6_told_204 rfl rfl ?_
    refine g_X6_65 (pc := 205) (cUr_obj hU) (by decide) rfl dX6_told_205 ?_
    refine g_X6_150 (pc := 208) (cSr_obj hS) (by decide) rfl dX6_told_208 ?_
    exact v_iret (pc := 211) dX6_told_211 (by unfold cs_told; rw [if_neg (show ¬ w = nI 11 from fun e => by rw [e] at s_1; revert s_1; decide), if_neg (show ¬ w = nI 0 from fun e => by rw [e] at s_1; revert s_1; decide), if_neg (show ¬ w = nI 1 from fun e => by rw [e] at s_1; revert s_1; decide), if_neg (show ¬ w = nI 2 from fun e => by rw [e] at s_1; revert s_1; decide), if_neg (show ¬ w = nI 3 from fun e => by rw [e] at s_1; revert s_1; decide), if_neg (show ¬ w = nI 4 from fun e => by rw [e] at s_1; revert s_1; decide), if_neg (show ¬ w = nI 5 from fun e => by rw [e] at s_1; revert s_1; decide), if_neg (show ¬ w = nI 6 from fun e => by rw [e] at s_1; revert s_1; decide), if_neg (show ¬ w = nI 7 from fun e => by rw [e] at s_1; revert s_1; decide), if_neg (show ¬ w = nI 8 from fun e => by rw [e] at s_1; revert s_1; decide), if_neg (show ¬ w = nI 9 from fun e => by rw [e] at s_1; revert s_1; decide), if_neg (show ¬ w = nI 10 from fun e => by rw [e] at s_1; revert s_1; decide), if_neg (show ¬ w = nI 12 from fun e => by rw [e] at s_1; revert s_1; decide), if_neg (show ¬ w = nI 13 from fun e => by rw [e] at s_1; revert s_1; decide), if_neg (show ¬ w = nI 14 from fun e => by rw [e] at s_1; revert s_1; decide), if_neg (show ¬ w = nI 15 from fun e => by rw [e] at s_1; revert s_1; decide), if_pos s_1, hS]; exact ⟨rfl, rfl⟩)
  · refine v_tabIn (pc := 1) (off := 211) (tgt := 212) dX6_told_1 (by rw [s_1]; decide) (by rw [s_1]; decide) (by rw [s_1]; rfl) rfl ?_
    refine v_aload_n (pc := 212) 0 dX6_told_212 rfl rfl ?_
    refine g_X6_39 (pc := 213) (cUr_obj hU) (by decide) rfl dX6_told_213 ?_
    refine g_X6_153 (pc := 216) (cQr_obj hQ) (by decide) rfl dX6_told_216 ?_
    exact v_iret (pc := 219) dX6_told_219 (by unfold cs_told; rw [if_neg (show ¬ w = nI 11 from fun e => by rw [e] at s_1; revert s_1; decide), if_neg (show ¬ w = nI 0 from fun e => by rw [e] at s_1; revert s_1; decide), if_neg (show ¬ w = nI 1 from fun e => by rw [e] at s_1; revert s_1; decide), if_neg (show ¬ w = nI 2 from fun e => by rw [e] at s_1; revert s_1; decide), if_neg (show ¬ w = nI 3 from fun e => by rw [e] at s_1; revert s_1; decide), if_neg (show ¬ w = nI 4 from fun e => by rw [e] at s_1; revert s_1; decide), if_neg (show ¬ w = nI 5 from fun e => by rw [e] at s_1; revert s_1; decide), if_neg (show ¬ w = nI 6 from fun e => by rw [e] at s_1; revert s_1; decide), if_neg (show ¬ w = nI 7 from fun e => by rw [e] at s_1; revert s_1; decide), if_neg (show ¬ w = nI 8 from fun e => by rw [e] at s_1; revert s_1; decide), if_neg (show ¬ w = nI 9 from fun e => by rw [e] at s_1; revert s_1; decide), if_neg (show ¬ w = nI 10 from fun e => by rw [e] at s_1; revert s_1; decide), if_neg (show ¬ w = nI 12 from fun e => by rw [e] at s_1; revert s_1; decide), if_neg (show ¬ w = nI 13 from fun e => by rw [e] at s_1; revert s_1; decide), if_neg (show ¬ w = nI 14 from fun e => by rw [e] at s_1; revert s_1; decide), if_neg (show ¬ w = nI 15 from fun e => by rw [e] at s_1; revert s_1; decide), if_neg (show ¬ w = nI 16 from fun e => by rw [e] at s_1; revert s_1; decide), if_pos s_1, hQ]; exact ⟨rfl, rfl⟩)
  · refine v_tabOut (pc := 1) (tgt := 220) dX6_told_1 s_1 rfl ?_
    refine v_ldc (pc := 220) _ kc_X6_80 dX6_told_220 rfl ?_
    exact v_iret (pc := 222) dX6_told_222 (by unfold cs_told; rw [if_neg (show ¬ w = nI 11 from fun e => by rw [e] at s_1; revert s_1; decide), if_neg (show ¬ w = nI 0 from fun e => by rw [e] at s_1; revert s_1; decide), if_neg (show ¬ w = nI 1 from fun e => by rw [e] at s_1; revert s_1; decide), if_neg (show ¬ w = nI 2 from fun e => by rw [e] at s_1; revert s_1; decide), if_neg (show ¬ w = nI 3 from fun e => by rw [e] at s_1; revert s_1; decide), if_neg (show ¬ w = nI 4 from fun e => by rw [e] at s_1; revert s_1; decide), if_neg (show ¬ w = nI 5 from fun e => by rw [e] at s_1; revert s_1; decide), if_neg (show ¬ w = nI 6 from fun e => by rw [e] at s_1; revert s_1; decide), if_neg (show ¬ w = nI 7 from fun e => by rw [e] at s_1; revert s_1; decide), if_neg (show ¬ w = nI 8 from fun e => by rw [e] at s_1; revert s_1; decide), if_neg (show ¬ w = nI 9 from fun e => by rw [e] at s_1; revert s_1; decide), if_neg (show ¬ w = nI 10 from fun e => by rw [e] at s_1; revert s_1; decide), if_neg (show ¬ w = nI 12 from fun e => by rw [e] at s_1; revert s_1; decide), if_neg (show ¬ w = nI 13 from fun e => by rw [e] at s_1; revert s_1; decide), if_neg (show ¬ w = nI 14 from fun e => by rw [e] at s_1; revert s_1; decide), if_neg (show ¬ w = nI 15 from fun e => by rw [e] at s_1; revert s_1; decide), if_neg (show ¬ w = nI 16 from fun e => by rw [e] at s_1; revert s_1; decide), if_neg (show ¬ w = nI 17 from fun e => by rw [e] at s_1; revert s_1; decide)]; exact ⟨rfl, rfl⟩)
