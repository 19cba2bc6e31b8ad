/-! the law from its entry to its end -/
set_option maxHeartbeats 4000000 in
set_option maxRecDepth 100000 in
theorem law_loop {E : Ev} {p : Program} {e : Env} {s : State} {m : MethodId} {below : List Frame} {meth : Method} {c : Code} {b L : Nat} {xs : Nat → Int32} (hE : Ez E = s.heap.size) (hL : L ≤ 256) (hX : ScrA E (p, e, s, m, #[Value.ref b], below, meth, c) b L xs) : ∀ σ, RS (1500 * 0) σ → V E (p, e, s, m, #[Value.ref b], below, meth, c) room_1 RL code 4 ret 146 3933 (lw_Z below #[Value.ref b] s) false 146 18 [(0, .ref b), (1, .ref (Ez E + 0)), (2, .ref (Ez E + 132)), (3, .int (nI (4 * 0)))] [] (cellOf E σ) := by
  refine dn (P := fun t => ∀ σ, RS (1500 * t) σ → V E (p, e, s, m, #[Value.ref b], below, meth, c) room_1 RL code 4 ret 146 3933 (lw_Z below #[Value.ref b] s) false 146 18 [(0, .ref b), (1, .ref (Ez E + 0)), (2, .ref (Ez E + 132)), (3, .int (nI (4 * t)))] [] (cellOf E σ)) (N := L / 4) ?_ ?_
  · intro σ h
    refine v_iload_n (pc := 18) 3 dL_law_18 rfl rfl ?_
    refine v_aload_n (pc := 19) 0 dL_law_19 rfl rfl ?_
    refine v_slen (pc := 20) hX dL_law_20 ?_
    refine v_iconst (pc := 21) (nI 4) dL_law_21 kI_4 ?_
    refine v_isub (pc := 22) dL_law_22 ?_
    refine v_icmp_gt (pc := 23) (tgt := 1033) dL_law_23 rfl (fun c_ => ?_) (fun c_ => False.elim (c_ ?_))
    · refine v_iconst (pc := 1033) 1 dL_law_1033 (by decide) ?_
      exact v_lawret (pc := 1034) hE (by decide) (by decide) dL_law_1034
    · have e1 := pk_sub_toInt (a := L) (b := 4) (by omega) (by omega)
      have e2 := nI_toInt (n := 4 * (L / 4)) (by omega)
      rw [Int32.lt_iff_toInt_lt]
      omega
  · intro t ht ih σ h
    have hm : 4 * t + 4 ≤ L := by omega
    have ih2 : ∀ σ2, RS (1500 * t + 1500) σ2 → V E (p, e, s, m, #[Value.ref b], below, meth, c) room_1 RL code 4 ret 146 3933 (lw_Z below #[Value.ref b] s) false 146 18 [(0, .ref b), (1, .ref (Ez E + 0)), (2, .ref (Ez E + 132)), (3, .int (nI (4 * t + 4)))] [] (cellOf E σ2) := fun σ2 hR => by
      have q := ih σ2 (by rw [show 1500 * (t + 1) = 1500 * t + 1500 by omega]; exact hR)
      rw [show 4 * (t + 1) = 4 * t + 4 by omega] at q
      exact q
    refine v_iload_n (pc := 18) 3 dL_law_18 rfl rfl ?_
    refine v_aload_n (pc := 19) 0 dL_law_19 rfl rfl ?_
    refine v_slen (pc := 20) hX dL_law_20 ?_
    refine v_iconst (pc := 21) (nI 4) dL_law_21 kI_4 ?_
    refine v_isub (pc := 22) dL_law_22 ?_
    refine v_icmp_gt (pc := 23) (tgt := 1033) dL_law_23 rfl (fun c_ => False.elim ?_) (fun c_ => ?_)
    · have e1 := pk_sub_toInt (a := L) (b := 4) (by omega) (by omega)
      have e2 := nI_toInt (n := 4 * t) (by omega)
      rw [Int32.lt_iff_toInt_lt] at c_
      omega
    refine v_aload_n (pc := 26) 0 dL_law_26 rfl rfl ?_
    refine v_iload_n (pc := 27) 3 dL_law_27 rfl rfl ?_
    refine v_sld (pc := 28) hX (vp_in_nI (by omega) (by omega)) dL_law_28 ?_
    refine v_bipush (pc := 29) (nI 31) dL_law_29 kB_31 ?_
    refine v_iand (pc := 31) dL_law_31 ?_
    generalize xs (nI (4 * t)).toNatClampNeg &&& nI 31 = w
    rcases sw_0_30 w with s_32 | s_32 | s_32 | s_32 | s_32 | s_32 | s_32 | s_32 | s_32 | s_32 | s_32 | s_32 | s_32 | s_32 | s_32 | s_32 | s_32 | s_32 | s_32 | s_32 | s_32 | s_32 | s_32 | s_32 | s_32 | s_32 | s_32 | s_32 | s_32 | s_32 | s_32 | s_32
    · refine v_tabIn (pc := 32) (off := 140) (tgt := 172) dL_law_32 (by rw [s_32]; decide) (by rw [s_32]; decide) (by rw [s_32]; rfl) rfl ?_
      exact l_feed hX hL hm h ih2
    · refine v_tabIn (pc := 32) (off := 163) (tgt := 195) dL_law_32 (by rw [s_32]; decide) (by rw [s_32]; decide) (by rw [s_32]; rfl) rfl ?_
      exact l_parish hX hL hm h ih2
    · refine v_tabIn (pc := 32) (off := 176) (tgt := 208) dL_law_32 (by rw [s_32]; decide) (by rw [s_32]; decide) (by rw [s_32]; rfl) rfl ?_
      exact l_fault hX hL hm h ih2
    · refine v_tabIn (pc := 32) (off := 189) (tgt := 221) dL_law_32 (by rw [s_32]; decide) (by rw [s_32]; decide) (by rw [s_32]; rfl) rfl ?_
      exact l_told hX hL hm h ih2
    · refine v_tabIn (pc := 32) (off := 212) (tgt := 244) dL_law_32 (by rw [s_32]; decide) (by rw [s_32]; decide) (by rw [s_32]; rfl) rfl ?_
      exact l_person hX hL hm h ih2
    · refine v_tabIn (pc := 32) (off := 245) (tgt := 277) dL_law_32 (by rw [s_32]; decide) (by rw [s_32]; decide) (by rw [s_32]; rfl) rfl ?_
      exact l_debt hX hL hm h ih2
    · refine v_tabIn (pc := 32) (off := 278) (tgt := 310) dL_law_32 (by rw [s_32]; decide) (by rw [s_32]; decide) (by rw [s_32]; rfl) rfl ?_
      exact l_trace hX hL hm h ih2
    · refine v_tabIn (pc := 32) (off := 301) (tgt := 333) dL_law_32 (by rw [s_32]; decide) (by rw [s_32]; decide) (by rw [s_32]; rfl) rfl ?_
      exact l_count hX hL hm h ih2
    · refine v_tabIn (pc := 32) (off := 334) (tgt := 366) dL_law_32 (by rw [s_32]; decide) (by rw [s_32]; decide) (by rw [s_32]; rfl) rfl ?_
      exact l_pay hX hL hm h ih2
    · refine v_tabIn (pc := 32) (off := 377) (tgt := 409) dL_law_32 (by rw [s_32]; decide) (by rw [s_32]; decide) (by rw [s_32]; rfl) rfl ?_
      exact l_strew hX hL hm h ih2
    · refine v_tabIn (pc := 32) (off := 410) (tgt := 442) dL_law_32 (by rw [s_32]; decide) (by rw [s_32]; decide) (by rw [s_32]; rfl) rfl ?_
      exact l_net hX hL hm h ih2
    · refine v_tabIn (pc := 32) (off := 459) (tgt := 491) dL_law_32 (by rw [s_32]; decide) (by rw [s_32]; decide) (by rw [s_32]; rfl) rfl ?_
      exact l_hawk hX hL hm h ih2
    · refine v_tabIn (pc := 32) (off := 492) (tgt := 524) dL_law_32 (by rw [s_32]; decide) (by rw [s_32]; decide) (by rw [s_32]; rfl) rfl ?_
      exact l_hour hX hL hm h ih2
    · refine v_tabIn (pc := 32) (off := 515) (tgt := 547) dL_law_32 (by rw [s_32]; decide) (by rw [s_32]; decide) (by rw [s_32]; rfl) rfl ?_
      exact l_drift hX hL hm h ih2
    · refine v_tabIn (pc := 32) (off := 538) (tgt := 570) dL_law_32 (by rw [s_32]; decide) (by rw [s_32]; decide) (by rw [s_32]; rfl) rfl ?_
      exact l_undo hX hL hm h ih2
    · refine v_tabIn (pc := 32) (off := 551) (tgt := 583) dL_law_32 (by rw [s_32]; decide) (by rw [s_32]; decide) (by rw [s_32]; rfl) rfl ?_
      exact l_hat hX hL hm h ih2
    · refine v_tabIn (pc := 32) (off := 584) (tgt := 616) dL_law_32 (by rw [s_32]; decide) (by rw [s_32]; decide) (by rw [s_32]; rfl) rfl ?_
      exact l_most hX hL hm h ih2
    · refine v_tabIn (pc := 32) (off := 627) (tgt := 659) dL_law_32 (by rw [s_32]; decide) (by rw [s_32]; decide) (by rw [s_32]; rfl) rfl ?_
      exact l_kept hX hL hm h ih2
    · refine v_tabIn (pc := 32) (off := 650) (tgt := 682) dL_law_32 (by rw [s_32]; decide) (by rw [s_32]; decide) (by rw [s_32]; rfl) rfl ?_
      exact l_settled hX hL hm h ih2
    · refine v_tabIn (pc := 32) (off := 673) (tgt := 705) dL_law_32 (by rw [s_32]; decide) (by rw [s_32]; decide) (by rw [s_32]; rfl) rfl ?_
      exact l_toFloat hX hL hm h ih2
    · refine v_tabIn (pc := 32) (off := 696) (tgt := 728) dL_law_32 (by rw [s_32]; decide) (by rw [s_32]; decide) (by rw [s_32]; rfl) rfl ?_
      exact l_nets hX hL hm h ih2
    · refine v_tabIn (pc := 32) (off := 729) (tgt := 761) dL_law_32 (by rw [s_32]; decide) (by rw [s_32]; decide) (by rw [s_32]; rfl) rfl ?_
      exact l_calm hX hL hm h ih2
    · refine v_tabIn (pc := 32) (off := 762) (tgt := 794) dL_law_32 (by rw [s_32]; decide) (by rw [s_32]; decide) (by rw [s_32]; rfl) rfl ?_
      exact l_watch hX hL hm h ih2
    · refine v_tabIn (pc := 32) (off := 785) (tgt := 817) dL_law_32 (by rw [s_32]; decide) (by rw [s_32]; decide) (by rw [s_32]; rfl) rfl ?_
      exact l_feel hX hL hm h ih2
    · refine v_tabIn (pc := 32) (off := 844) (tgt := 876) dL_law_32 (by rw [s_32]; decide) (by rw [s_32]; decide) (by rw [s_32]; rfl) rfl ?_
      exact l_reach hX hL hm h ih2
    · refine v_tabIn (pc := 32) (off := 867) (tgt := 899) dL_law_32 (by rw [s_32]; decide) (by rw [s_32]; decide) (by rw [s_32]; rfl) rfl ?_
      exact l_write hX hL hm h ih2
    · refine v_tabIn (pc := 32) (off := 900) (tgt := 932) dL_law_32 (by rw [s_32]; decide) (by rw [s_32]; decide) (by rw [s_32]; rfl) rfl ?_
      exact l_tear hX hL hm h ih2
    · refine v_tabIn (pc := 32) (off := 913) (tgt := 945) dL_law_32 (by rw [s_32]; decide) (by rw [s_32]; decide) (by rw [s_32]; rfl) rfl ?_
      exact l_judge hX hL hm h ih2
    · refine v_tabIn (pc := 32) (off := 926) (tgt := 958) dL_law_32 (by rw [s_32]; decide) (by rw [s_32]; decide) (by rw [s_32]; rfl) rfl ?_
      exact l_seed hX hL hm h ih2
    · refine v_tabIn (pc := 32) (off := 949) (tgt := 981) dL_law_32 (by rw [s_32]; decide) (by rw [s_32]; decide) (by rw [s_32]; rfl) rfl ?_
      exact l_keep hX hL hm h ih2
    · refine v_tabIn (pc := 32) (off := 972) (tgt := 1004) dL_law_32 (by rw [s_32]; decide) (by rw [s_32]; decide) (by rw [s_32]; rfl) rfl ?_
      exact l_goBack hX hL hm h ih2
    · refine v_tabOut (pc := 32) (tgt := 1027) dL_law_32 s_32 rfl ?_
      refine v_iincN (pc := 1027) 3 [1, 2, 3, 0] [(0, _), (1, _), (2, _), (3, _)] kI_4 dL_law_1027 rfl (by decide) rfl ?_
      refine v_goto (pc := 1030) (tgt := 18) dL_law_1030 rfl ?_
      obtain ⟨D, xP, xR, xW, xS, xZ, xG, xK, xT, xQ, xF, xB, xL, xC, un, sz, wm, fm, bm, at_, bg, fg, ft, sg, vl, wr, sd, e1, hx⟩ := h
      exact ih2 σ ⟨D, xP, xR, xW, xS, xZ, xG, xK, xT, xQ, xF, xB, xL, xC, un, sz, wm, fm, bm, at_, bg, fg, ft, sg, vl, wr, sd, e1, RSx_mono (by omega) hx⟩
set_option maxHeartbeats 4000000 in
set_option maxRecDepth 100000 in
theorem law_from {E : Ev} {p : Program} {e : Env} {s : State} {m : MethodId} {below : List Frame} {meth : Method} {c : Code} {b L : Nat} {xs : Nat → Int32} {h : Hp} (hE : Ez E = s.heap.size) (hL : L ≤ 256) (hX : ScrA E (p, e, s, m, #[Value.ref b], below, meth, c) b L xs) : V E (p, e, s, m, #[Value.ref b], below, meth, c) room_1 RL code 4 ret 0 0 (lw_Z below #[Value.ref b] s) true 0 0 [(0, .ref b)] [] h := by
  refine v_new (pc := 0) (fs := [.null, .null, .null, .null, .null, .null, .null, .null, .null, .null, .null, .null, .int 0]) (h' := va_up h 0 (.inr (6, [.null, .null, .null, .null, .null, .null, .null, .null, .null, .null, .null, .null, .int 0]))) inB6 tyX6 tyX6_ok (ci := 6) rfl cl_L_7 ia_X6 in_X6 (fun j hj => by rcases (show j = 0 ∨ j = 1 ∨ j = 2 ∨ j = 3 ∨ j = 4 ∨ j = 5 ∨ j = 6 ∨ j = 7 ∨ j = 8 ∨ j = 9 ∨ j = 10 ∨ j = 11 ∨ j = 12 by omega) with rfl | rfl | rfl | rfl | rfl | rfl | rfl | rfl | rfl | rfl | rfl | rfl | rfl <;> rfl) (Nat.le_of_ble_eq_true rfl) (Nat.le_of_ble_eq_true rfl) dL_law_0 (fun _ _ => rfl) ?_
  refine v_dup (pc := 3) dL_law_3 rfl ?_
  refine v_callI (pc := 4) [] _ k_L_9 (n_Sparrow (va_up_self _ _ _)) ⟨rfl, rfl, by decide⟩ rfl rfl (Nat.le_of_ble_eq_true rfl) ⟨Nat.le_of_ble_eq_true rfl, Nat.le_of_ble_eq_true rfl⟩ dL_law_4 (unS ?_)
  show V E _ _ RL _ _ _ 132 2026 _ true 132 7 _ [_] _
  refine v_astore_n (pc := 7) [1, 0] [(0, _), (1, _)] dL_law_7 rfl (by decide) rfl ?_
  refine v_new (pc := 8) (fs := [.null, .null, .null, .null, .null, .int 0, .null, .null, .long 0, .null, .int 0, .int 0, .null, .int 0, .null, .int 0, .null, .int 0, .int 0, .int 0, .int 0, .int 0, .int 0, .int 0, .null, .null]) (h' := va_up (cellOf E kG0) 132 (.inr (7, [.null, .null, .null, .null, .null, .int 0, .null, .null, .long 0, .null, .int 0, .int 0, .null, .int 0, .null, .int 0, .null, .int 0, .int 0, .int 0, .int 0, .int 0, .int 0, .int 0, .null, .null]))) inB7 tyX7 tyX7_ok (ci := 7) rfl cl_L_10 ia_X7 in_X7 (fun j hj => by rcases (show j = 0 ∨ j = 1 ∨ j = 2 ∨ j = 3 ∨ j = 4 ∨ j = 5 ∨ j = 6 ∨ j = 7 ∨ j = 8 ∨ j = 9 ∨ j = 10 ∨ j = 11 ∨ j = 12 ∨ j = 13 ∨ j = 14 ∨ j = 15 ∨ j = 16 ∨ j = 17 ∨ j = 18 ∨ j = 19 ∨ j = 20 ∨ j = 21 ∨ j = 22 ∨ j = 23 ∨ j = 24 ∨ j = 25 by omega) with rfl | rfl | rfl | rfl | rfl | rfl | rfl | rfl | rfl | rfl | rfl | rfl | rfl | rfl | rfl | rfl | rfl | rfl | rfl | rfl | rfl | rfl | rfl | rfl | rfl | rfl <;> rfl) (Nat.le_of_ble_eq_true rfl) (Nat.le_of_ble_eq_true rfl) dL_law_8 (fun _ _ => rfl) ?_
  refine v_dup (pc := 11) dL_law_11 rfl ?_
  refine v_callI (pc := 12) [] _ k_L_12 (n_Model (o := 132) (va_up_self _ _ _)) ⟨rfl, rfl, by decide⟩ rfl rfl (Nat.le_of_ble_eq_true rfl) ⟨Nat.le_of_ble_eq_true rfl, Nat.le_of_ble_eq_true rfl⟩ dL_law_12 (unS ?_)
  show V E _ _ RL _ _ _ 146 3933 _ true 146 15 _ [_] _
  refine v_heap (h' := cellOf E kG0) (fun q hq => sub_in (N := 132) (N2 := 146) ((cM_at E kG0 0).trans rfl) (fun j hj => ?_) hq) ?_
  · rw [show 132 + 1 + j = 132 + (j + 1) by omega, cM_at]
    rfl
  refine v_free ?_
  refine v_astore_n (pc := 15) [1, 2, 0] [(0, _), (1, _), (2, _)] dL_law_15 rfl (by decide) rfl ?_
  refine v_iconst (pc := 16) (nI 0) dL_law_16 kI_0 ?_
  refine v_istore_n (pc := 17) [1, 2, 3, 0] [(0, _), (1, _), (2, _), (3, _)] dL_law_17 rfl (by decide) rfl ?_
  exact law_loop hE hL hX kG0 RS_0
set_option maxHeartbeats 4000000 in
set_option maxRecDepth 100000 in
theorem whole_start {p : Program} {e : Env} {s : State} {m : MethodId} {below : List Frame} {meth : Method} {c : Code} (l : Launch) {b L : Nat} {xs : Nat → Int32} (hL : L ≤ 256) (C0 : lw_At p s m meth c b L xs) : W p l e room_1 s m #[Value.ref b] below meth c s.heap [] 0 0 (lw_Z below #[Value.ref b] s) (entryFrame m ([Value.ref b] : List Value).toArray 4) := by
  obtain ⟨hx, hb, hr, hml, hown, hts, hX, hbl, hlocks, hgv⟩ := id C0
  have hTB : ∀ w ∈ TB, w.before #[Value.ref b] s = true := fun w hw => hts w (List.mem_filter.mp hw).1
  obtain ⟨c0, iS0, hKn0⟩ := u_known (C := RX0) (T := TX0) (N := 9) (n := 9) hts inX0 (hTB _ ia_X0)
  obtain ⟨c1, iS1, hKn1⟩ := u_known (C := RX1) (T := TX1) (N := 11) (n := 11) hts inX1 (hTB _ ia_X1)
  obtain ⟨c2, iS2, hKn2⟩ := u_known (C := RX2) (T := TX2) (N := 3) (n := 3) hts inX2 (hTB _ ia_X2)
  obtain ⟨c3, iS3, hKn3⟩ := u_known (C := RX3) (T := TX3) (N := 8) (n := 8) hts inX3 (hTB _ ia_X3)
  obtain ⟨c4, iS4, hKn4⟩ := u_known (C := RX4) (T := TX4) (N := 2) (n := 2) hts inX4 (hTB _ ia_X4)
  obtain ⟨c5, iS5, hKn5⟩ := u_known (C := RX5) (T := TX5) (N := 6) (n := 6) hts inX5 (hTB _ ia_X5)
  obtain ⟨c6, iS6, hKn6⟩ := u_known (C := RX6) (T := TX6) (N := 13) (n := 13) hts inX6 (hTB _ ia_X6)
  obtain ⟨c7, iS7, hKn7⟩ := u_known (C := RX7) (T := TX7) (N := 26) (n := 26) hts inX7 (hTB _ ia_X7)
  obtain ⟨dC, dI, hKc⟩ : ∃ (dC : Nat → ClassId) (dI : Nat → Nat → Nat), ∀ (k : Nat) (q : vw_C), vwCl[k]? = some q → u_Kn s q.1 q.2.1 q.2.2 (dC k) (dI k) := by
    refine ⟨fun k => match k with | 0 => c0 | 1 => c1 | 2 => c2 | 3 => c3 | 4 => c4 | 5 => c5 | 6 => c6 | _ => c7, fun k => match k with | 0 => iS0 | 1 => iS1 | 2 => iS2 | 3 => iS3 | 4 => iS4 | 5 => iS5 | 6 => iS6 | _ => iS7, ?_⟩
    intro k q hq
    match k, hq with
    | 0, hq => cases hq; exact hKn0
    | 1, hq => cases hq; exact hKn1
    | 2, hq => cases hq; exact hKn2
    | 3, hq => cases hq; exact hKn3
    | 4, hq => cases hq; exact hKn4
    | 5, hq => cases hq; exact hKn5
    | 6, hq => cases hq; exact hKn6
    | 7, hq => cases hq; exact hKn7
    | k + 8, hq => simp [vwCl] at hq
  obtain ⟨cI, kI, compI, i1, i2, i3⟩ := Cond.arrayClass_spec (hTB _ ac_int)
  obtain ⟨cZ, kZ, compZ, z1, z2, z3⟩ := Cond.arrayClass_spec (hTB _ ac_boolean)
  have hao : va_AO "SparrowChange$Flock" s := va_AO.of (hts _ ao_in)
  obtain ⟨compF, cF, kF, f1, f2, f3, f4, f5⟩ := Cond.arrayOver_spec (hts _ ao_in)
  have hKK : KK (l, (dC, dI), s.heap.size, cI, cZ, cF) s := by
    refine ⟨⟨hKc, fun k q hq => ?_⟩, fun q hq => va_Nw.of rfl (hts _ (nestW_in q hq)), hao⟩
    match k, hq with
    | 0, hq => cases hq; exact ⟨fun n z => ⟨fun k h => (by cases h), kI, i2, compI, i3⟩, i1⟩
    | 1, hq => cases hq; exact ⟨fun n z => ⟨fun k h => (by cases h), kZ, z2, compZ, z3⟩, z1⟩
    | 2, hq => cases hq; exact ⟨fun n z => ⟨fun k h => (by cases h), kF, f3, compF, f4⟩, kF, compF, f3, f4, f1, f5⟩
    | k + 3, hq => simp [tyE] at hq
  have ok : okX (l, (dC, dI), s.heap.size, cI, cZ, cF) (p, e, s, m, #[Value.ref b], below, meth, c) RL code 4 ret := ⟨hx, hb, hml, hown, hTB, hKK, hr, hlocks, Nat.le_refl _⟩
  have hSc : ScrA (l, (dC, dI), s.heap.size, cI, cZ, cF) (p, e, s, m, #[Value.ref b], below, meth, c) b L xs := ⟨hX, hbl, Nat.not_le.mpr hbl⟩
  have hl := lv_entry ([.ref b]) (n := 4) (Nat.le_of_ble_eq_true rfl)
  rw [lg_entry_eq]
  generalize (lg_sl ([.ref b]) ++ List.replicate (4 - (lg_sl ([.ref b])).length) Slot.unset).toArray = ls at hl ⊢
  have hl : lv_has ls 4 [(0, .ref b)] := hl
  have hV := law_from (E := (l, (dC, dI), s.heap.size, cI, cZ, cF)) (p := p) (e := e) (m := m) (below := below) (meth := meth) (c := c) (h := fun _ => .inr (0, [])) rfl hL hSc
  exact hV ok s.heap [] ls ⟨⟨Nat.le_refl _, fun _ => rfl⟩, fun o ho => absurd ho (Nat.not_lt_zero _)⟩ va_S.rf hl
