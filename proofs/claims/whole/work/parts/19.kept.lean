theorem figs_pos {f r : Nat} (h : r < 10 ^ f) (h0 : 0 < r) : 0 < f := by
  cases f with
  | zero => exact absurd h (by rw [Nat.pow_zero]; omega)
  | succ f => exact Nat.succ_pos f
theorem figs_lt {f r : Nat} (h : r < 10 ^ f) (h0 : 0 < r) : 0 < f ∧ r / 10 < 10 ^ (f - 1) := by
  cases f with
  | zero => exact absurd h (by rw [Nat.pow_zero]; omega)
  | succ f => exact ⟨Nat.succ_pos f, by rw [Nat.add_sub_cancel]; rw [Nat.pow_succ] at h; omega⟩
theorem figs_s {f r : Nat} (h : r < 10 ^ f) (h0 : 0 < r) : figs (f - 1) (r / 10) + 1 = figs f r := by
  cases f with
  | zero => exact absurd h (by rw [Nat.pow_zero]; omega)
  | succ f => show figs f (r / 10) + 1 = if r = 0 then 0 else _; rw [if_neg (by omega)]
theorem figs_0 (f : Nat) : figs f 0 = 0 := by cases f <;> rfl
set_option maxHeartbeats 4000000 in
set_option maxRecDepth 100000 in
theorem c_figN {E : Ev} {B : Bool} {N : Nat} {h : Hp} {m : Nat} (hm : m < 2147483648) : Ct E yX6_figuresOf cX6_figuresOf 3 (some .int) ({ frames := 0, cells := 0, slots := 0, locals := 0 } : Room) B N [.int (nI m)] h N 0 0 (Ff (some (.int (nI (figs 10 m)))) h) := by
  refine Ct.ofV (by decide) (Nat.le_of_ble_eq_true rfl) (fun X hnm => ?_)
  show V E X _ RX6 _ _ _ _ _ _ B N 0 [(0, .int (nI m))] [] _
  refine v_iconst (pc := 0) (nI 0) dX6_figuresOf_0 kI_0 ?_
  refine v_istore_n (pc := 1) [1, 0] [(0, _), (1, _)] dX6_figuresOf_1 rfl (by decide) rfl ?_
  refine v_iload_n (pc := 2) 0 dX6_figuresOf_2 rfl rfl ?_
  refine v_istore_n (pc := 3) [1, 2, 0] [(0, _), (1, _), (2, _)] dX6_figuresOf_3 rfl (by decide) rfl ?_
  have hl_4 : ∀ (m_ : Nat) (f : Nat) (c : Nat) (r : Nat), f < m_ → (r < 10 ^ f) → (f ≤ 10) → (r < 2147483648) → (figs f r + c = figs 10 m) → V E X ({ frames := 0, cells := 0, slots := 0, locals := 0 } : Room) RX6 cX6_figuresOf 3 (some .int) 0 0 (QX E X B N (Ff (some (.int (nI (figs 10 m)))) h) 0 0) B N 4 [(0, .int (nI m)), (1, .int (nI c)), (2, .int (nI r))] [] (h) := by
    intro m_
    induction m_ with
    | zero => intro f c r hm; exact absurd hm (Nat.not_lt_zero _)
    | succ m_ ihm =>
      intro f c r hm hr1 hf1 hr2 hs1
      refine v_iload_n (pc := 4) 2 dX6_figuresOf_4 rfl rfl ?_
      refine v_if_leN (pc := 5) (by omega) (tgt := 19) dX6_figuresOf_5 rfl (fun c_5 => ?_) (fun c_5 => ?_)
      · refine v_iload_n (pc := 19) 1 dX6_figuresOf_19 rfl rfl ?_
        exact v_iret (pc := 20) dX6_figuresOf_20 (⟨by rw [← hs1, show r = 0 by omega, figs_0, Nat.zero_add], rfl⟩)
      · refine v_iincN (pc := 8) 1 [1, 0, 2] [(0, _), (1, _), (2, _)] kI_1 dX6_figuresOf_8 rfl (by decide) rfl ?_
        refine v_iload_n (pc := 11) 2 dX6_figuresOf_11 rfl rfl ?_
        refine v_bipush (pc := 12) (nI 10) dX6_figuresOf_12 kB_10 ?_
        refine v_idivN (pc := 14) (by omega) (by omega) (by omega) dX6_figuresOf_14 ?_
        refine v_istore_n (pc := 15) [1, 2, 0] [(0, _), (1, _), (2, _)] dX6_figuresOf_15 rfl (by decide) rfl ?_
        refine v_goto (pc := 16) (tgt := 4) dX6_figuresOf_16 rfl ?_
        exact ihm (f - 1) (c + 1) (r / 10) (by have := figs_pos hr1 (show 0 < r by omega); omega) (figs_lt hr1 (show 0 < r by omega)).2 (by omega) (by omega) (by rw [← hs1, ← figs_s hr1 (show 0 < r by omega)]; omega)
  exact hl_4 (11) 10 0 m (by omega) (by omega) (by omega) hm (by omega)
set_option maxHeartbeats 4000000 in
set_option maxRecDepth 100000 in
theorem c_fig0 {E : Ev} {B : Bool} {N : Nat} {h : Hp} {x : Int32} (hx : x ≤ 0) : Ct E yX6_figuresOf cX6_figuresOf 3 (some .int) ({ frames := 0, cells := 0, slots := 0, locals := 0 } : Room) B N [.int x] h N 0 0 (Ff (some (.int (nI 0))) h) := by
  refine Ct.ofV (by decide) (Nat.le_of_ble_eq_true rfl) (fun X hnm => ?_)
  show V E X _ RX6 _ _ _ _ _ _ B N 0 [(0, .int x)] [] _
  refine v_iconst (pc := 0) (nI 0) dX6_figuresOf_0 kI_0 ?_
  refine v_istore_n (pc := 1) [1, 0] [(0, _), (1, _)] dX6_figuresOf_1 rfl (by decide) rfl ?_
  refine v_iload_n (pc := 2) 0 dX6_figuresOf_2 rfl rfl ?_
  refine v_istore_n (pc := 3) [1, 2, 0] [(0, _), (1, _), (2, _)] dX6_figuresOf_3 rfl (by decide) rfl ?_
  refine v_iload_n (pc := 4) 2 dX6_figuresOf_4 rfl rfl ?_
  refine v_if_le (pc := 5) (tgt := 19) dX6_figuresOf_5 rfl (fun c_5 => ?_) (fun c_5 => False.elim (absurd hx c_5))
  refine v_iload_n (pc := 19) 1 dX6_figuresOf_19 rfl rfl ?_
  exact v_iret (pc := 20) dX6_figuresOf_20 (⟨rfl, rfl⟩)
theorem c_fig {E : Ev} {B : Bool} {N : Nat} {h : Hp} (x : Int32) : Ct E yX6_figuresOf cX6_figuresOf 3 (some .int) ({ frames := 0, cells := 0, slots := 0, locals := 0 } : Room) B N [.int x] h N 0 0 (Ff (some (.int (nI (figs 10 x.toNatClampNeg)))) h) := by
  by_cases hx : x ≤ 0
  · rw [show x.toNatClampNeg = 0 from by
      have h1 : x.toInt ≤ 0 := Int32.le_iff_toInt_le.mp hx
      show x.toInt.toNat = 0
      omega, figs_0]
    exact c_fig0 hx
  · obtain ⟨i, hi, rfl⟩ := nI_of (x := x) (fun z => hx (Int32.le_of_lt z))
    rw [nI_clamp (by omega)]
    exact c_figN hi
theorem k_long {E : Ev} {σ : Sg} {j np nd : Nat} {sd du tr : Int32} {kd bd dr dt cr ow : Fn} (hj : j < 2) (hP : gP σ j = (sd, du, tr, nI np, nI nd, kd, bd, dr, dt, cr, ow)) (hnp : np ≤ 7) (hnd : nd ≤ 9) {t hr nt rg pe : Int32} {b c o p : Fn} (hG : gF σ 0 = (t, hr, nt, rg, pe, b, c, o, p)) (hdt : ∀ d, d < nd → vp_in (dt d) 7) (hcr : ∀ d, d < nd → vp_in (cr d) 7) : Ct E yX4_longestRow cX4_longestRow 9 (some .int) ({ frames := 2, cells := 0, slots := 0, locals := 64 } : Room) false 146 [.ref (Ez E + 112), .ref (Ez E + pad j), .ref (Ez E + adr 0)] (cellOf E σ) 146 0 0 (Ff (some (.int (longR dt cr o b nd (gL σ)).2.1)) (cellOf E (sSt σ ((longR dt cr o b nd (gL σ)).2.2.1, (longR dt cr o b nd (gL σ)).2.2.2)))) := by
  have h := c_long (E := E) (σ := σ) (ht := (gL σ).1) (be := (gL σ).2) hj hP hnp hnd hG hdt hcr
  exact h
theorem k_flo {E : Ev} {σ : Sg} {j np nd : Nat} {sd du tr : Int32} {kd bd dr dt cr ow : Fn} (hj : j < 2) (hP : gP σ j = (sd, du, tr, nI np, nI nd, kd, bd, dr, dt, cr, ow)) (hnp : np ≤ 7) (hnd : nd ≤ 9) {t hr nt rg pe : Int32} {b c o p : Fn} (hG : gF σ 0 = (t, hr, nt, rg, pe, b, c, o, p)) (hdt : ∀ d, d < nd → vp_in (dt d) 7) (hcr : ∀ d, d < nd → vp_in (cr d) 7) (a : Int32) : Ct E yX4_leastFloat cX4_leastFloat 8 (some .int) ({ frames := 2, cells := 0, slots := 0, locals := 64 } : Room) false 146 [.ref (Ez E + 112), .ref (Ez E + pad j), .ref (Ez E + adr 0), .int a] (cellOf E σ) 146 0 0 (Ff (some (.int (floV o nd (floR dt cr o b nd a (gL σ)).2))) (cellOf E (sSt σ ((floR dt cr o b nd a (gL σ)).1, (floR dt cr o b nd a (gL σ)).2)))) := by
  have h := c_flo (E := E) (σ := σ) (ht := (gL σ).1) (be := (gL σ).2) hj hP hnp hnd hG hdt hcr a
  exact h
set_option maxHeartbeats 4000000 in
set_option maxRecDepth 100000 in
theorem s_settled {E : Ev} {σ : Sg} (hW : WC σ) (w : Int32) : Ct E yX6_settled cX6_settled 3 (some .int) ({ frames := 3, cells := 0, slots := 0, locals := 92 } : Room) false 146 [.ref (Ez E + 0), .int w] (cellOf E σ) 146 0 0 (Ff (some (.int (cs_settled σ w).1)) (cellOf E (cs_settled σ w).2)) := by
  obtain ⟨⟨hj, hdj, hjd⟩, hPs, ⟨x_, s_, hQ, hx, hs⟩, ⟨wa, df, wf, ep, eb, ws, fs, es, hS, hws, hfs, hes, hep⟩, ⟨lt, L, m, fa, fn, ap, hT, hL, hm⟩⟩ := hW
  rcases hU : gU σ with ⟨j, dj, se, is, it, oo⟩
  rw [hU] at hj hdj hjd
  simp only at hj hdj hjd
  obtain ⟨np, nd, sd, du, tr, kd, bd, dr, dt, cr, ow, hP, hnp, hnd, hdt, hcr⟩ := hPs j hj
  have eH : hereP σ = (sd, du, tr, nI np, nI nd, kd, bd, dr, dt, cr, ow) := by show gP σ (gU σ).1 = _; rw [hU]; exact hP
  have eNp : hNp σ = np := by show parNp (hereP σ) = np; rw [eH]; exact nI_clamp (by omega)
  have eNd : hNd σ = nd := by show parNd (hereP σ) = nd; rw [eH]; exact nI_clamp (by omega)
  rcases hG : gF σ 0 with ⟨t, hr, nt, rg, pe, b, c, o, p⟩
  have eL : lngR σ = longR dt cr o b nd (gL σ) := by unfold lngR; rw [eH, eNd, show nowF σ = _ from hG]
  refine Ct.ofV (by decide) (Nat.le_of_ble_eq_true rfl) (fun X hnm => ?_)
  show V E X _ RX6 _ _ _ _ _ _ false 146 0 [(0, .ref (Ez E + 0)), (1, .int w)] [] _
  refine v_iload_n (pc := 0) 1 dX6_settled_0 rfl rfl ?_
  refine v_iconst (pc := 1) (nI 0) dX6_settled_1 kI_0 ?_
  refine v_iconst (pc := 2) (nI 1) dX6_settled_2 kI_1 ?_
  refine v_callS (pc := 3) _ _ k_X6_76 (c_isOutside _ _ _) ⟨rfl, rfl, by decide⟩ rfl rfl (Nat.le_of_ble_eq_true rfl) ⟨Nat.le_of_ble_eq_true rfl, Nat.le_of_ble_eq_true rfl⟩ dX6_settled_3 (unS ?_)
  show V E X _ RX6 _ _ _ 0 0 _ false 146 6 _ [_] _
  refine v_if_eqB (pc := 6) (tgt := 12) dX6_settled_6 rfl (fun c_6 => ?_) (fun c_6 => ?_)
  · refine v_aload_n (pc := 12) 0 dX6_settled_12 rfl rfl ?_
    refine g_X6_58 (pc := 13) (cUr_obj hU) (by decide) rfl dX6_settled_13 ?_
    refine v_aload_n (pc := 16) 0 dX6_settled_16 rfl rfl ?_
    refine g_X6_19 (pc := 17) (cUr_obj hU) (by decide) rfl dX6_settled_17 ?_
    refine v_aload_n (pc := 20) 0 dX6_settled_20 rfl rfl ?_
    refine g_X6_29 (pc := 21) (cUr_obj hU) (by decide) rfl dX6_settled_21 ?_
    refine v_callV (pc := 24) _ _ k_X6_248 (cL_obj) rfl (by decide) (k_long hj hP hnp hnd hG hdt hcr) ⟨rfl, rfl, by decide⟩ rfl rfl (Nat.le_of_ble_eq_true rfl) ⟨Nat.le_of_ble_eq_true rfl, Nat.le_of_ble_eq_true rfl⟩ dX6_settled_24 (unS ?_)
    show V E X _ RX6 _ _ _ 0 0 _ false 146 27 _ [_] _
    generalize hLg : longR dt cr o b nd (gL σ) = z_
    obtain ⟨z1, z2, z3, z4⟩ := z_
    show V E X _ RX6 _ _ _ 0 0 _ false 146 27 _ [.int z2] (cellOf E (sSt σ (z3, z4)))
    refine v_istore_n (pc := 27) [1, 2, 0] [(0, _), (1, _), (2, _)] dX6_settled_27 rfl (by decide) rfl ?_
    refine v_iload_n (pc := 28) 1 dX6_settled_28 rfl rfl ?_
    refine v_if_ne (pc := 29) (tgt := 39) dX6_settled_29 rfl (fun c_29 => ?_) (fun c_29 => ?_)
    · refine v_iload_n (pc := 39) 2 dX6_settled_39 rfl rfl ?_
      exact v_iret (pc := 40) dX6_settled_40 (by unfold cs_settled; rw [if_neg (by rw [c_6]; decide), eL, hLg]; exact ⟨by rw [if_neg c_29], rfl⟩)
    · refine v_iload_n (pc := 32) 2 dX6_settled_32 rfl rfl ?_
      refine v_callS (pc := 33) _ _ k_X6_252 (c_fig _) ⟨rfl, rfl, by decide⟩ rfl rfl (Nat.le_of_ble_eq_true rfl) ⟨Nat.le_of_ble_eq_true rfl, Nat.le_of_ble_eq_true rfl⟩ dX6_settled_33 (unS ?_)
      show V E X _ RX6 _ _ _ 0 0 _ false 146 36 _ [_] _
      refine v_goto (pc := 36) (tgt := 40) dX6_settled_36 rfl ?_
      exact v_iret (pc := 40) dX6_settled_40 (by unfold cs_settled; rw [if_neg (by rw [c_6]; decide), eL, hLg]; exact ⟨by rw [if_pos c_29], rfl⟩)
  · refine v_ldc (pc := 9) _ kc_X6_80 dX6_settled_9 rfl ?_
    exact v_iret (pc := 11) dX6_settled_11 (by unfold cs_settled; rw [if_pos c_6]; exact ⟨rfl, rfl⟩)
set_option maxHeartbeats 4000000 in
set_option maxRecDepth 100000 in
theorem s_toFloat {E : Ev} {σ : Sg} (hW : WC σ) (a : Int32) : Ct E yX6_toFloat cX6_toFloat 2 (some .int) ({ frames := 3, cells := 0, slots := 0, locals := 91 } : Room) false 146 [.ref (Ez E + 0), .int a] (cellOf E σ) 146 0 0 (Ff (some (.int (cs_toFloat σ a).1)) (cellOf E (cs_toFloat σ a).2)) := by
  obtain ⟨⟨hj, hdj, hjd⟩, hPs, ⟨x_, s_, hQ, hx, hs⟩, ⟨wa, df, wf, ep, eb, ws, fs, es, hS, hws, hfs, hes, hep⟩, ⟨lt, L, m, fa, fn, ap, hT, hL, hm⟩⟩ := hW
  rcases hU : gU σ with ⟨j, dj, se, is, it, oo⟩
  rw [hU] at hj hdj hjd
  simp only at hj hdj hjd
  obtain ⟨np, nd, sd, du, tr, kd, bd, dr, dt, cr, ow, hP, hnp, hnd, hdt, hcr⟩ := hPs j hj
  have eH : hereP σ = (sd, du, tr, nI np, nI nd, kd, bd, dr, dt, cr, ow) := by show gP σ (gU σ).1 = _; rw [hU]; exact hP
  have eNp : hNp σ = np := by show parNp (hereP σ) = np; rw [eH]; exact nI_clamp (by omega)
  have eNd : hNd σ = nd := by show parNd (hereP σ) = nd; rw [eH]; exact nI_clamp (by omega)
  rcases hG : gF σ 0 with ⟨t, hr, nt, rg, pe, b, c, o, p⟩
  have eF : floT σ a = floR dt cr o b nd a (gL σ) := by unfold floT; rw [eH, eNd, show nowF σ = _ from hG]
  refine Ct.ofV (by decide) (Nat.le_of_ble_eq_true rfl) (fun X hnm => ?_)
  show V E X _ RX6 _ _ _ _ _ _ false 146 0 [(0, .ref (Ez E + 0)), (1, .int a)] [] _
  refine v_aload_n (pc := 0) 0 dX6_toFloat_0 rfl rfl ?_
  refine g_X6_19 (pc := 1) (cUr_obj hU) (by decide) rfl dX6_toFloat_1 ?_
  refine v_iload_n (pc := 4) 1 dX6_toFloat_4 rfl rfl ?_
  refine v_callV (pc := 5) _ _ k_X6_156 (cPr_obj hj hP) rfl (pad_lt0 hj) (c_hasPerson hj hP hnp hnd _) ⟨rfl, rfl, by decide⟩ rfl rfl (Nat.le_of_ble_eq_true rfl) ⟨Nat.le_of_ble_eq_true rfl, Nat.le_of_ble_eq_true rfl⟩ dX6_toFloat_5 (unS ?_)
  show V E X _ RX6 _ _ _ 0 0 _ false 146 8 _ [_] _
  refine v_if_neB (pc := 8) (tgt := 14) dX6_toFloat_8 rfl (fun c_8 => ?_) (fun c_8 => ?_)
  · refine v_aload_n (pc := 14) 0 dX6_toFloat_14 rfl rfl ?_
    refine g_X6_58 (pc := 15) (cUr_obj hU) (by decide) rfl dX6_toFloat_15 ?_
    refine v_aload_n (pc := 18) 0 dX6_toFloat_18 rfl rfl ?_
    refine g_X6_19 (pc := 19) (cUr_obj hU) (by decide) rfl dX6_toFloat_19 ?_
    refine v_aload_n (pc := 22) 0 dX6_toFloat_22 rfl rfl ?_
    refine g_X6_29 (pc := 23) (cUr_obj hU) (by decide) rfl dX6_toFloat_23 ?_
    refine v_iload_n (pc := 26) 1 dX6_toFloat_26 rfl rfl ?_
    refine v_callV (pc := 27) _ _ k_X6_255 (cL_obj) rfl (by decide) (k_flo hj hP hnp hnd hG hdt hcr _) ⟨rfl, rfl, by decide⟩ rfl rfl (Nat.le_of_ble_eq_true rfl) ⟨Nat.le_of_ble_eq_true rfl, Nat.le_of_ble_eq_true rfl⟩ dX6_toFloat_27 (unS ?_)
    show V E X _ RX6 _ _ _ 0 0 _ false 146 30 _ [_] _
    exact v_iret (pc := 30) dX6_toFloat_30 (by unfold cs_toFloat; rw [eNp, if_pos c_8, eF, eNd, show nowF σ = _ from hG]; exact ⟨rfl, rfl⟩)
  · refine v_ldc (pc := 11) _ kc_X6_160 dX6_toFloat_11 rfl ?_
    exact v_iret (pc := 13) dX6_toFloat_13 (by unfold cs_toFloat; rw [eNp, if_neg (by rw [c_8]; decide)]; exact ⟨rfl, rfl⟩)
set_option maxHeartbeats 4000000 in
set_option maxRecDepth 100000 in
theorem s_keep {E : Ev} {σ : Sg} (hW : WC σ) (i : Int32) : Ct E yX6_keep cX6_keep 2 (some .int) ({ frames := 2, cells := 0, slots := 0, locals := 61 } : Room) false 146 [.ref (Ez E + 0), .int i] (cellOf E σ) 146 0 0 (Ff (some (.int (cs_keep σ i).1)) (cellOf E (cs_keep σ i).2)) := by
  obtain ⟨⟨hj, hdj, hjd⟩, hPs, ⟨x_, s_, hQ, hx, hs⟩, ⟨wa, df, wf, ep, eb, ws, fs, es, hS, hws, hfs, hes, hep⟩, ⟨lt, L, m, fa, fn, ap, hT, hL, hm⟩⟩ := hW
  rcases hU : gU σ with ⟨j, dj, se, is, it, oo⟩
  rw [hU] at hj hdj hjd
  simp only at hj hdj hjd
  obtain ⟨np, nd, sd, du, tr, kd, bd, dr, dt, cr, ow, hP, hnp, hnd, hdt, hcr⟩ := hPs j hj
  have eH : hereP σ = (sd, du, tr, nI np, nI nd, kd, bd, dr, dt, cr, ow) := by show gP σ (gU σ).1 = _; rw [hU]; exact hP
  have eNp : hNp σ = np := by show parNp (hereP σ) = np; rw [eH]; exact nI_clamp (by omega)
  have eNd : hNd σ = nd := by show parNd (hereP σ) = nd; rw [eH]; exact nI_clamp (by omega)
  refine Ct.ofV (by decide) (Nat.le_of_ble_eq_true rfl) (fun X hnm => ?_)
  show V E X _ RX6 _ _ _ _ _ _ false 146 0 [(0, .ref (Ez E + 0)), (1, .int i)] [] _
  refine v_iload_n (pc := 0) 1 dX6_keep_0 rfl rfl ?_
  refine v_iconst (pc := 1) (nI 0) dX6_keep_1 kI_0 ?_
  refine v_iconst (pc := 2) (nI 1) dX6_keep_2 kI_1 ?_
  refine v_callS (pc := 3) _ _ k_X6_76 (c_isOutside _ _ _) ⟨rfl, rfl, by decide⟩ rfl rfl (Nat.le_of_ble_eq_true rfl) ⟨Nat.le_of_ble_eq_true rfl, Nat.le_of_ble_eq_true rfl⟩ dX6_keep_3 (unS ?_)
  show V E X _ RX6 _ _ _ 0 0 _ false 146 6 _ [_] _
  refine v_if_eqB (pc := 6) (tgt := 12) dX6_keep_6 rfl (fun c_6 => ?_) (fun c_6 => ?_)
  · obtain ⟨m, hm1, hm2, rfl⟩ := outB_nat (lo := 0) (hi := 1) (by omega) (by omega) c_6
    refine v_aload_n (pc := 12) 0 dX6_keep_12 rfl rfl ?_
    refine g_X6_43 (pc := 13) (cUr_obj hU) (by decide) rfl dX6_keep_13 ?_
    refine v_iload_n (pc := 16) 1 dX6_keep_16 rfl rfl ?_
    refine v_aaldN (pc := 17) (cUr_im) (by decide) (by omega) (by decide) (if_pos (by omega)) dX6_keep_17 ?_
    refine v_aload_n (pc := 18) 0 dX6_keep_18 rfl rfl ?_
    refine g_X6_29 (pc := 19) (cUr_obj hU) (by decide) rfl dX6_keep_19 ?_
    refine v_callV (pc := 22) _ _ k_X6_238 (cF_obj (18 + m) (by omega)) rfl (adr_lt0 (by omega)) (c_copyS (by omega) (by omega) (by omega)) ⟨rfl, rfl, by decide⟩ rfl rfl (Nat.le_of_ble_eq_true rfl) ⟨Nat.le_of_ble_eq_true rfl, Nat.le_of_ble_eq_true rfl⟩ dX6_keep_22 (unS ?_)
    show V E X _ RX6 _ _ _ 0 0 _ false 146 25 _ [] _
    refine v_aload_n (pc := 25) 0 dX6_keep_25 rfl rfl ?_
    refine g_X6_47 (pc := 26) (cUr_obj hU) (by decide) rfl dX6_keep_26 ?_
    refine v_iload_n (pc := 29) 1 dX6_keep_29 rfl rfl ?_
    refine v_aload_n (pc := 30) 0 dX6_keep_30 rfl rfl ?_
    refine g_X6_72 (pc := 31) (cUr_obj hU) (by decide) rfl dX6_keep_31 ?_
    refine v_iastN (pc := 34) (cUr_is hU) (by decide) (by omega) (by decide) dX6_keep_34 (uU_is hU) ?_
    refine v_aload_n (pc := 35) 0 dX6_keep_35 rfl rfl ?_
    refine g_X6_51 (pc := 36) (cUr_obj rfl) (by decide) rfl dX6_keep_36 ?_
    refine v_iload_n (pc := 39) 1 dX6_keep_39 rfl rfl ?_
    refine v_iconst (pc := 40) (nI 1) dX6_keep_40 kI_1 ?_
    refine v_zastN (pc := 41) (cUr_it rfl) (by decide) (by omega) (by decide) dX6_keep_41 (wU_it) ?_
    refine v_aload_n (pc := 42) 0 dX6_keep_42 rfl rfl ?_
    refine g_X6_39 (pc := 43) (cUr_obj rfl) (by decide) rfl dX6_keep_43 ?_
    refine v_callV (pc := 46) _ _ k_X6_97 (cQr_obj hQ) rfl (by decide) (k_pforget hQ hx hs) ⟨rfl, rfl, by decide⟩ rfl rfl (Nat.le_of_ble_eq_true rfl) ⟨Nat.le_of_ble_eq_true rfl, Nat.le_of_ble_eq_true rfl⟩ dX6_keep_46 (unS ?_)
    show V E X _ RX6 _ _ _ 0 0 _ false 146 49 _ [] _
    refine v_iconst (pc := 49) (nI 1) dX6_keep_49 kI_1 ?_
    exact v_iret (pc := 50) dX6_keep_50 (by unfold cs_keep; rw [if_neg (by rw [c_6]; decide), show (nI m).toNatClampNeg = m from nI_clamp (by omega), hU, hQ]; exact ⟨rfl, rfl⟩)
  · refine v_ldc (pc := 9) _ kc_X6_160 dX6_keep_9 rfl ?_
    exact v_iret (pc := 11) dX6_keep_11 (by unfold cs_keep; rw [if_pos c_6]; exact ⟨rfl, rfl⟩)
set_option maxHeartbeats 4000000 in
set_option maxRecDepth 100000 in
theorem s_goBack {E : Ev} {σ : Sg} (hW : WC σ) (i : Int32) : Ct E yX6_goBack cX6_goBack 2 (some .int) ({ frames := 2, cells := 0, slots := 0, locals := 61 } : Room) false 146 [.ref (Ez E + 0), .int i] (cellOf E σ) 146 0 0 (Ff (some (.int (cs_goBack σ i).1)) (cellOf E (cs_goBack σ i).2)) := by
  obtain ⟨⟨hj, hdj, hjd⟩, hPs, ⟨x_, s_, hQ, hx, hs⟩, ⟨wa, df, wf, ep, eb, ws, fs, es, hS, hws, hfs, hes, hep⟩, ⟨lt, L, m, fa, fn, ap, hT, hL, hm⟩⟩ := hW
  rcases hU : gU σ with ⟨j, dj, se, is, it, oo⟩
  rw [hU] at hj hdj hjd
  simp only at hj hdj hjd
  obtain ⟨np, nd, sd, du, tr, kd, bd, dr, dt, cr, ow, hP, hnp, hnd, hdt, hcr⟩ := hPs j hj
  have eH : hereP σ = (sd, du, tr, nI np, nI nd, kd, bd, dr, dt, cr, ow) := by show gP σ (gU σ).1 = _; rw [hU]; exact hP
  have eNp : hNp σ = np := by show parNp (hereP σ) = np; rw [eH]; exact nI_clamp (by omega)
  have eNd : hNd σ = nd := by show parNd (hereP σ) = nd; rw [eH]; exact nI_clamp (by omega)
  refine Ct.ofV (by decide) (Nat.le_of_ble_eq_true rfl) (fun X hnm => ?_)
  show V E X _ RX6 _ _ _ _ _ _ false 146 0 [(0, .ref (Ez E + 0)), (1, .int i)] [] _
  refine v_iload_n (pc := 0) 1 dX6_goBack_0 rfl rfl ?_
  refine v_iconst (pc := 1) (nI 0) dX6_goBack_1 kI_0 ?_
  refine v_iconst (pc := 2) (nI 1) dX6_goBack_2 kI_1 ?_
  refine v_callS (pc := 3) _ _ k_X6_76 (c_isOutside _ _ _) ⟨rfl, rfl, by decide⟩ rfl rfl (Nat.le_of_ble_eq_true rfl) ⟨Nat.le_of_ble_eq_true rfl, Nat.le_of_ble_eq_true rfl⟩ dX6_goBack_3 (unS ?_)
  show V E X _ RX6 _ _ _ 0 0 _ false 146 6 _ [_] _
  refine v_if_eqB (pc := 6) (tgt := 12) dX6_goBack_6 rfl (fun c_6 => ?_) (fun c_6 => ?_)
  · obtain ⟨m, hm1, hm2, rfl⟩ := outB_nat (lo := 0) (hi := 1) (by omega) (by omega) c_6
    refine v_aload_n (pc := 12) 0 dX6_goBack_12 rfl rfl ?_
    refine g_X6_51 (pc := 13) (cUr_obj hU) (by decide) rfl dX6_goBack_13 ?_
    refine v_iload_n (pc := 16) 1 dX6_goBack_16 rfl rfl ?_
    refine v_zaldN (pc := 17) (cUr_it hU) (by decide) (by omega) (by decide) dX6_goBack_17 ?_
    refine v_if_ne (pc := 18) (tgt := 24) dX6_goBack_18 rfl (fun c_18 => ?_) (fun c_18 => ?_)
    · refine v_aload_n (pc := 24) 0 dX6_goBack_24 rfl rfl ?_
      refine g_X6_29 (pc := 25) (cUr_obj hU) (by decide) rfl dX6_goBack_25 ?_
      refine v_aload_n (pc := 28) 0 dX6_goBack_28 rfl rfl ?_
      refine g_X6_43 (pc := 29) (cUr_obj hU) (by decide) rfl dX6_goBack_29 ?_
      refine v_iload_n (pc := 32) 1 dX6_goBack_32 rfl rfl ?_
      refine v_aaldN (pc := 33) (cUr_im) (by decide) (by omega) (by decide) (if_pos (by omega)) dX6_goBack_33 ?_
      refine v_callV (pc := 34) _ _ k_X6_238 (cF_obj 0 (by decide)) rfl (adr_lt0 (by decide)) (c_copyS (by omega) (by omega) (by omega)) ⟨rfl, rfl, by decide⟩ rfl rfl (Nat.le_of_ble_eq_true rfl) ⟨Nat.le_of_ble_eq_true rfl, Nat.le_of_ble_eq_true rfl⟩ dX6_goBack_34 (unS ?_)
      show V E X _ RX6 _ _ _ 0 0 _ false 146 37 _ [] _
      refine v_aload_n (pc := 37) 0 dX6_goBack_37 rfl rfl ?_
      refine v_aload_n (pc := 38) 0 dX6_goBack_38 rfl rfl ?_
      refine g_X6_47 (pc := 39) (cUr_obj hU) (by decide) rfl dX6_goBack_39 ?_
      refine v_iload_n (pc := 42) 1 dX6_goBack_42 rfl rfl ?_
      refine v_ialdN (pc := 43) (cUr_is hU) (by decide) (by omega) (by decide) dX6_goBack_43 ?_
      refine p_X6_72 (pc := 44) (cUr_obj hU) (by decide) rfl rfl (Nat.le_of_ble_eq_true rfl) dX6_goBack_44 (uU_se hU) ?_
      refine v_aload_n (pc := 47) 0 dX6_goBack_47 rfl rfl ?_
      refine g_X6_39 (pc := 48) (cUr_obj rfl) (by decide) rfl dX6_goBack_48 ?_
      refine v_callV (pc := 51) _ _ k_X6_97 (cQr_obj hQ) rfl (by decide) (k_pforget hQ hx hs) ⟨rfl, rfl, by decide⟩ rfl rfl (Nat.le_of_ble_eq_true rfl) ⟨Nat.le_of_ble_eq_true rfl, Nat.le_of_ble_eq_true rfl⟩ dX6_goBack_51 (unS ?_)
      show V E X _ RX6 _ _ _ 0 0 _ false 146 54 _ [] _
      refine v_iconst (pc := 54) (nI 1) dX6_goBack_54 kI_1 ?_
      exact v_iret (pc := 55) dX6_goBack_55 (by unfold cs_goBack; rw [if_neg (by rw [c_6]; decide), show (nI m).toNatClampNeg = m from nI_clamp (by omega), hU, if_neg c_18, hQ]; exact ⟨rfl, rfl⟩)
    · refine v_ldc (pc := 21) _ kc_X6_201 dX6_goBack_21 rfl ?_
      exact v_iret (pc := 23) dX6_goBack_23 (by unfold cs_goBack; rw [if_neg (by rw [c_6]; decide), show (nI m).toNatClampNeg = m from nI_clamp (by omega), hU, if_pos c_18]; exact ⟨rfl, rfl⟩)
  · refine v_ldc (pc := 9) _ kc_X6_160 dX6_goBack_9 rfl ?_
    exact v_iret (pc := 11) dX6_goBack_11 (by unfold cs_goBack; rw [if_pos c_6]; exact ⟨rfl, rfl⟩)
theorem pStep_ok {lt : Fn} {L : Nat} {s : PZ × DV} (hL : L ≤ 240) (h : zOk L s.1) (hd : dOk s.2) (hc : s.1.2.1 = 0 ∧ s.1.2.2.1 < L) : zOk L (pStep lt L s).1 ∧ dOk (pStep lt L s).2 := by
  have q := pClause_ok (lt := lt) hL h hc.2 hd
  exact ⟨⟨q.1.1, sk_L q.1.2.1, q.1.2.2⟩, q.2⟩
theorem pLoop_ok {lt : Fn} {L : Nat} (hL : L ≤ 240) : ∀ (n : Nat) (s : PZ × DV), zOk L s.1 → dOk s.2 → zOk L (pLoop lt L n s).1 ∧ dOk (pLoop lt L n s).2
  | 0, s, h, hd => ⟨h, hd⟩
  | n + 1, s, h, hd => by
    show zOk L (if s.1.2.1 = 0 ∧ s.1.2.2.1 < L then pLoop lt L n (pStep lt L s) else s).1 ∧ dOk (if s.1.2.1 = 0 ∧ s.1.2.2.1 < L then pLoop lt L n (pStep lt L s) else s).2
    by_cases hc : s.1.2.1 = 0 ∧ s.1.2.2.1 < L
    · rw [if_pos hc]
      have q := pStep_ok (lt := lt) hL h hd hc
      exact pLoop_ok hL n _ q.1 q.2
    · rw [if_neg hc]; exact ⟨h, hd⟩
theorem pAll_ok {lt : Fn} {L m : Nat} {D : DV} (hL : L ≤ 240) (hm : m ≤ 240) : zOk L (pAll lt L m D).1 ∧ dOk (pAll lt L m D).2 :=
  pLoop_ok hL 240 _ ⟨Nat.zero_le 4, sk_L (Nat.zero_le _), hm⟩ ⟨Nat.zero_le _, Nat.zero_le _⟩
def parD (P : ParV) : DV := (P.1, P.2.1, P.2.2.1, P.2.2.2.1.toNatClampNeg, P.2.2.2.2.1.toNatClampNeg, P.2.2.2.2.2)
/-- what reading the text that was fed comes to -/
def rdA (σ : Sg) : PZ × DV := pAll (gT σ).1 (gT σ).2.1.toNatClampNeg (gT σ).2.2.2.2.2.toNatClampNeg (parD (gP σ (gU σ).2.1))
def rdS (σ : Sg) : Sg := sTx (sPar σ (gU σ).2.1 (dP (rdA σ).2)) ((gT σ).1, nI 0, (rdA σ).1.1, nI (rdA σ).1.2.1, nI (rdA σ).1.2.2.1, nI (rdA σ).1.2.2.2)
def newF (σ : Sg) : FlockV := fl_begin (nowF σ) (rdA σ).2.1 (rdA σ).2.2.2.1 (rdA σ).2.2.2.2.1 (rdA σ).2.2.2.2.2.1 (rdA σ).2.2.2.2.2.2.2.1 (rdA σ).2.2.2.2.2.2.2.2.2.2.2
def cs_parish (σ : Sg) : Int32 × Sg := if (rdA σ).1.2.1 = 0 then (nI (rdA σ).2.2.2.2.1, sU (sSe (sPa (sFl (rdS σ) 0 (newF σ)) ((gQ σ).1, nI 0)) ((gS σ).1, (gS σ).2.1, (gS σ).2.2.1, (gS σ).2.2.2.1, (gS σ).2.2.2.2.1, nI 0, nI 0, nI 0)) ((gU σ).2.1, (gU σ).1, (gU σ).2.2.1, (gU σ).2.2.2.1, upd (upd (gU σ).2.2.2.2.1 0 (nI 0)) 1 (nI 0), (gU σ).2.2.2.2.2)) else (-10 - nI (rdA σ).1.2.1, rdS σ)
theorem k_read {E : Ev} {σ : Sg} {lt : Fn} {L m : Nat} {fa fn ap : Int32} {dj np nd : Nat} {sd du tr : Int32} {kd bd dr dt cr ow : Fn} (hT : gT σ = (lt, nI L, fa, fn, ap, nI m)) (hL : L ≤ 240) (hm : m ≤ 240) (hdj : dj < 2) (hP : gP σ dj = (sd, du, tr, nI np, nI nd, kd, bd, dr, dt, cr, ow)) (hnp : np ≤ 7) (hnd : nd ≤ 9) {z1 : Int32} {z2 z3 z4 : Nat} {d1 d2 d3 : Int32} {d4 d5 : Nat} {d6 d7 d8 d9 d10 d11 : Fn} (hA : pAll lt L m (sd, du, tr, np, nd, kd, bd, dr, dt, cr, ow) = ((z1, z2, z3, z4), (d1, d2, d3, d4, d5, d6, d7, d8, d9, d10, d11))) : Ct E yX5_readInto cX5_readInto 3 (some .int) ({ frames := 4, cells := 0, slots := 0, locals := 92 } : Room) false 146 [.ref (Ez E + 1), .ref (Ez E + pad dj)] (cellOf E σ) 146 0 0 (Ff (some (.int (nI z2))) (cellOf E (sTx (sPar σ dj (d1, d2, d3, nI d4, nI d5, d6, d7, d8, d9, d10, d11)) (lt, nI 0, z1, nI z2, nI z3, nI z4)))) := by
  have h := c_readInto (E := E) (σ := σ) (lt := lt) (L := L) (m := m) (fa := fa) (fn0 := fn) (ap0 := ap) (j := dj) (np := np) (nd := nd) (sd := sd) (du := du) (tr := tr) (kd := kd) (bd := bd) (dr := dr) (dt := dt) (cr := cr) (ow := ow) hL hm hdj hnp hnd rfl
  rw [hA, show sTx (sPar σ dj (sd, du, tr, nI np, nI nd, kd, bd, dr, dt, cr, ow)) (lt, nI L, fa, fn, ap, nI m) = σ from by rw [← hP, ← hT, sPar_id]] at h
  exact h
set_option maxHeartbeats 4000000 in
set_option maxRecDepth 100000 in
theorem s_parish {E : Ev} {σ : Sg} (hW : WC σ)  : Ct E yX6_parish cX6_parish 4 (some .int) ({ frames := 5, cells := 0, slots := 0, locals := 114 } : Room) false 146 [.ref (Ez E + 0)] (cellOf E σ) 146 0 0 (Ff (some (.int (cs_parish σ).1)) (cellOf E (cs_parish σ).2)) := by
  obtain ⟨⟨hj, hdj, hjd⟩, hPs, ⟨x_, s_, hQ, hx, hs⟩, ⟨wa, df, wf, ep, eb, ws, fs, es, hS, hws, hfs, hes, hep⟩, ⟨lt, L, m, fa, fn, ap, hT, hL, hm⟩⟩ := hW
  rcases hU : gU σ with ⟨j, dj, se, is, it, oo⟩
  rw [hU] at hj hdj hjd
  simp only at hj hdj hjd
  obtain ⟨np, nd, sd, du, tr, kd, bd, dr, dt, cr, ow, hP, hnp, hnd, hdt, hcr⟩ := hPs j hj
  have eH : hereP σ = (sd, du, tr, nI np, nI nd, kd, bd, dr, dt, cr, ow) := by show gP σ (gU σ).1 = _; rw [hU]; exact hP
  have eNp : hNp σ = np := by show parNp (hereP σ) = np; rw [eH]; exact nI_clamp (by omega)
  have eNd : hNd σ = nd := by show parNd (hereP σ) = nd; rw [eH]; exact nI_clamp (by omega)
  obtain ⟨np2, nd2, sd2, du2, tr2, kd2, bd2, dr2, dt2, cr2, ow2, hP2, hnp2, hnd2, -, -⟩ := hPs dj hdj
  have hAo := pAll_ok (lt := lt) (D := (sd2, du2, tr2, np2, nd2, kd2, bd2, dr2, dt2, cr2, ow2)) hL hm
  have eA : rdA σ = pAll lt L m (sd2, du2, tr2, np2, nd2, kd2, bd2, dr2, dt2, cr2, ow2) := by unfold rdA parD; rw [hT, hU, hP2]; show pAll lt (nI L).toNatClampNeg (nI m).toNatClampNeg (sd2, du2, tr2, (nI np2).toNatClampNeg, (nI nd2).toNatClampNeg, kd2, bd2, dr2, dt2, cr2, ow2) = _; rw [nI_clamp (by omega), nI_clamp (by omega), nI_clamp (by omega), nI_clamp (by omega)]
  rcases hA : pAll lt L m (sd2, du2, tr2, np2, nd2, kd2, bd2, dr2, dt2, cr2, ow2) with ⟨⟨z1, z2, z3, z4⟩, ⟨d1, d2, d3, d4, d5, d6, d7, d8, d9, d10, d11⟩⟩
  rw [hA] at hAo eA
  have hz2 : z2 ≤ 4 := hAo.1.1
  have hd4 : d4 ≤ 7 := hAo.2.1
  have hd5 : d5 ≤ 9 := hAo.2.2
  refine Ct.ofV (by decide) (Nat.le_of_ble_eq_true rfl) (fun X hnm => ?_)
  show V E X _ RX6 _ _ _ _ _ _ false 146 0 [(0, .ref (Ez E + 0))] [] _
  refine v_aload_n (pc := 0) 0 dX6_parish_0 rfl rfl ?_
  refine g_X6_10 (pc := 1) (cUr_obj hU) (by decide) rfl dX6_parish_1 ?_
  refine v_aload_n (pc := 4) 0 dX6_parish_4 rfl rfl ?_
  refine g_X6_23 (pc := 5) (cUr_obj hU) (by decide) rfl dX6_parish_5 ?_
  refine v_callV (pc := 8) _ _ k_X6_89 (cTr_obj hT) rfl (by decide) (k_read hT hL hm hdj hP2 hnp2 hnd2 hA) ⟨rfl, rfl, by decide⟩ rfl rfl (Nat.le_of_ble_eq_true rfl) ⟨Nat.le_of_ble_eq_true rfl, Nat.le_of_ble_eq_true rfl⟩ dX6_parish_8 (unS ?_)
  show V E X _ RX6 _ _ _ 0 0 _ false 146 11 _ [_] _
  refine v_istore_n (pc := 11) [1, 0] [(0, _), (1, _)] dX6_parish_11 rfl (by decide) rfl ?_
  refine v_iload_n (pc := 12) 1 dX6_parish_12 rfl rfl ?_
  refine v_if_eqN (pc := 13) (by omega) (tgt := 21) dX6_parish_13 rfl (fun c_13 => ?_) (fun c_13 => ?_)
  · refine v_aload_n (pc := 21) 0 dX6_parish_21 rfl rfl ?_
    refine g_X6_19 (pc := 22) (cUr_obj hU) (by decide) rfl dX6_parish_22 ?_
    refine v_astore_n (pc := 25) [1, 2, 0] [(0, _), (1, _), (2, _)] dX6_parish_25 rfl (by decide) rfl ?_
    refine v_aload_n (pc := 26) 0 dX6_parish_26 rfl rfl ?_
    refine v_aload_n (pc := 27) 0 dX6_parish_27 rfl rfl ?_
    refine g_X6_23 (pc := 28) (cUr_obj hU) (by decide) rfl dX6_parish_28 ?_
    refine p_X6_19 (pc := 31) (cUr_obj hU) (by decide) rfl rfl (Nat.le_of_ble_eq_true rfl) dX6_parish_31 (uU_hj hU) ?_
    refine v_aload_n (pc := 34) 0 dX6_parish_34 rfl rfl ?_
    refine v_aload_n (pc := 35) 2 dX6_parish_35 rfl rfl ?_
    refine p_X6_23 (pc := 36) (cUr_obj rfl) (by decide) rfl rfl (Nat.le_of_ble_eq_true rfl) dX6_parish_36 (wU_dj) ?_
    refine v_aload_n (pc := 39) 0 dX6_parish_39 rfl rfl ?_
    refine g_X6_29 (pc := 40) (cUr_obj rfl) (by decide) rfl dX6_parish_40 ?_
    refine v_aload_n (pc := 43) 0 dX6_parish_43 rfl rfl ?_
    refine g_X6_19 (pc := 44) (cUr_obj rfl) (by decide) rfl dX6_parish_44 ?_
    refine v_callV (pc := 47) _ _ k_X6_93 (cF_obj 0 (by decide)) rfl (adr_lt0 (by decide)) (k_begin (σ := (sU (sTx (sPar σ dj (d1, d2, d3, nI d4, nI d5, d6, d7, d8, d9, d10, d11)) (lt, nI 0, z1, nI z2, nI z3, nI z4)) (dj, j, se, is, it, oo))) (k := 0) (F := gF σ 0) (by decide) rfl hdj (show gP (sU (sTx (sPar σ dj (d1, d2, d3, nI d4, nI d5, d6, d7, d8, d9, d10, d11)) (lt, nI 0, z1, nI z2, nI z3, nI z4)) (dj, j, se, is, it, oo)) dj = (d1, d2, d3, nI d4, nI d5, d6, d7, d8, d9, d10, d11) from gP_s σ dj _) hd4 hd5) ⟨rfl, rfl, by decide⟩ rfl rfl (Nat.le_of_ble_eq_true rfl) ⟨Nat.le_of_ble_eq_true rfl, Nat.le_of_ble_eq_true rfl⟩ dX6_parish_47 (unS ?_)
    show V E X _ RX6 _ _ _ 0 0 _ false 146 50 _ [] _
    refine v_aload_n (pc := 50) 0 dX6_parish_50 rfl rfl ?_
    refine g_X6_39 (pc := 51) (cUr_obj rfl) (by decide) rfl dX6_parish_51 ?_
    refine v_callV (pc := 54) _ _ k_X6_97 (cQr_obj hQ) rfl (by decide) (k_pforget hQ hx hs) ⟨rfl, rfl, by decide⟩ rfl rfl (Nat.le_of_ble_eq_true rfl) ⟨Nat.le_of_ble_eq_true rfl, Nat.le_of_ble_eq_true rfl⟩ dX6_parish_54 (unS ?_)
    show V E X _ RX6 _ _ _ 0 0 _ false 146 57 _ [] _
    refine v_aload_n (pc := 57) 0 dX6_parish_57 rfl rfl ?_
    refine g_X6_65 (pc := 58) (cUr_obj rfl) (by decide) rfl dX6_parish_58 ?_
    refine v_callV (pc := 61) _ _ k_X6_100 (cSr_obj hS) rfl (by decide) (k_sforget hws hfs hes hS) ⟨rfl, rfl, by decide⟩ rfl rfl (Nat.le_of_ble_eq_true rfl) ⟨Nat.le_of_ble_eq_true rfl, Nat.le_of_ble_eq_true rfl⟩ dX6_parish_61 (unS ?_)
    show V E X _ RX6 _ _ _ 0 0 _ false 146 64 _ [] _
    refine v_iconst (pc := 64) (nI 0) dX6_parish_64 kI_0 ?_
    refine v_istore_n (pc := 65) [1, 2, 3, 0] [(0, _), (1, _), (2, _), (3, _)] dX6_parish_65 rfl (by decide) rfl ?_
    refine v_sub [0, 3] rfl ?_
    refine dn (P := fun i => V E X ({ frames := 5, cells := 0, slots := 0, locals := 114 } : Room) RX6 cX6_parish 4 (some .int) 0 0 (QX E X false 146 (Ff (some (.int (cs_parish σ).1)) (cellOf E (cs_parish σ).2)) 0 0) false 146 66 [(0, .ref (Ez E + 0)), (3, .int (nI i))] [] (cellOf E (sU (sSe (sPa (sFl (sTx (sPar σ dj (d1, d2, d3, nI d4, nI d5, d6, d7, d8, d9, d10, d11)) (lt, nI 0, z1, nI z2, nI z3, nI z4)) 0 (fl_begin (gF σ 0) d1 d3 d4 d5 d7 d11)) (nI x_, nI 0)) (wa, df, wf, ep, eb, nI 0, nI 0, nI 0)) (dj, j, se, is, itn (fun i f => upd f i (nI 0)) i it, oo)))) (N := 2) ?_ ?_
    · refine v_iload_n (pc := 66) 1 dX6_parish_66 rfl rfl ?_
      refine v_aload_n (pc := 67) 0 dX6_parish_67 rfl rfl ?_
      refine g_X6_51 (pc := 68) (cUr_obj rfl) (by decide) rfl dX6_parish_68 ?_
      refine v_alen (pc := 71) 1 (nI 2) (cUr_it rfl) (by decide) rfl rfl dX6_parish_71 ?_
      refine v_icmp_geN (pc := 72) (by omega) (by omega) (tgt := 88) dX6_parish_72 rfl (fun c_72 => ?_) (fun c_72 => False.elim ((fun c => by omega) c_72))
      refine v_aload_n (pc := 88) 0 dX6_parish_88 rfl rfl ?_
      refine g_X6_19 (pc := 89) (cUr_obj rfl) (by decide) rfl dX6_parish_89 ?_
      refine g_X6_101 (pc := 92) (cPr_obj hdj (show gP _ dj = (d1, d2, d3, nI d4, nI d5, d6, d7, d8, d9, d10, d11) from gP_s _ _ _)) (pad_lt0 hdj) rfl dX6_parish_92 ?_
      exact v_iret (pc := 95) dX6_parish_95 (by unfold cs_parish rdS newF; rw [eA, if_pos c_13, hU, hT, hQ, hS]; exact ⟨rfl, rfl⟩)
    · intro i hi ih
      have ih : V E X ({ frames := 5, cells := 0, slots := 0, locals := 114 } : Room) RX6 cX6_parish 4 (some .int) 0 0 (QX E X false 146 (Ff (some (.int (cs_parish σ).1)) (cellOf E (cs_parish σ).2)) 0 0) false 146 66 [(0, .ref (Ez E + 0)), (3, .int (nI (i + 1)))] [] (cellOf E (sU (sSe (sPa (sFl (sTx (sPar σ dj (d1, d2, d3, nI d4, nI d5, d6, d7, d8, d9, d10, d11)) (lt, nI 0, z1, nI z2, nI z3, nI z4)) 0 (fl_begin (gF σ 0) d1 d3 d4 d5 d7 d11)) (nI x_, nI 0)) (wa, df, wf, ep, eb, nI 0, nI 0, nI 0)) (dj, j, se, is, upd (itn (fun i f => upd f i (nI 0)) i it) i (nI 0), oo))) := by rw [itn_s] at ih; exact ih
      generalize itn (fun i f => upd f i (nI 0)) i it = f1 at ih ⊢
      show V E X _ RX6 _ _ _ _ _ _ false 146 _ [(0, .ref (Ez E + 0)), (3, .int (nI i))] [] (cellOf E (sU (sSe (sPa (sFl (sTx (sPar σ dj (d1, d2, d3, nI d4, nI d5, d6, d7, d8, d9, d10, d11)) (lt, nI 0, z1, nI z2, nI z3, nI z4)) 0 (fl_begin (gF σ 0) d1 d3 d4 d5 d7 d11)) (nI x_, nI 0)) (wa, df, wf, ep, eb, nI 0, nI 0, nI 0)) (dj, j, se, is, f1, oo)))
      refine v_iload_n (pc := 66) 1 dX6_parish_66 rfl rfl ?_
      refine v_aload_n (pc := 67) 0 dX6_parish_67 rfl rfl ?_
      refine g_X6_51 (pc := 68) (cUr_obj rfl) (by decide) rfl dX6_parish_68 ?_
      refine v_alen (pc := 71) 1 (nI 2) (cUr_it rfl) (by decide) rfl rfl dX6_parish_71 ?_
      refine v_icmp_geN (pc := 72) (by omega) (by omega) (tgt := 88) dX6_parish_72 rfl (fun c_72 => False.elim ((fun c => by omega) c_72)) (fun c_72 => ?_)
      refine v_aload_n (pc := 75) 0 dX6_parish_75 rfl rfl ?_
      refine g_X6_51 (pc := 76) (cUr_obj rfl) (by decide) rfl dX6_parish_76 ?_
      refine v_iload_n (pc := 79) 1 dX6_parish_79 rfl rfl ?_
      refine v_iconst (pc := 80) (nI 0) dX6_parish_80 kI_0 ?_
      refine v_zastN (pc := 81) (cUr_it rfl) (by decide) (by omega) (by decide) dX6_parish_81 (wU_it) ?_
      refine v_iincN (pc := 82) 1 [1, 0] [(0, _), (3, _)] kI_1 dX6_parish_82 rfl (by decide) rfl ?_
      refine v_goto (pc := 85) (tgt := 66) dX6_parish_85 rfl ?_
      exact ih
  · refine v_bipush (pc := 16) (-10) dX6_parish_16 kB_m10 ?_
    refine v_iload_n (pc := 18) 1 dX6_parish_18 rfl rfl ?_
    refine v_isub (pc := 19) dX6_parish_19 ?_
    exact v_iret (pc := 20) dX6_parish_20 (by unfold cs_parish rdS; rw [eA, if_neg c_13, hU, hT]; exact ⟨rfl, rfl⟩)
