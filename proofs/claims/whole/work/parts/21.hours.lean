/-! hours of the reference, over a row s: now or aside -/
theorem upd_ne {f : Fn} {k j : Nat} {x : Int32} (h : j ≠ k) : upd f k x j = f j := if_neg h
theorem upd_self {f : Fn} {k : Nat} {x : Int32} : upd f k x k = x := if_pos rfl
def st_mdr (s : Fn) (i : Nat) (b : Int32) : Int32 := if s (7 + i) ≤ (if b = -2 then nI 0 else s (nI 7 + b).toNatClampNeg) then b else nI i
def m_drw (s : Fn) (n : Nat) : Int32 := itn (st_mdr s) n (-2)
def plc (x : Int32) : Prop := x = -2 ∨ ∃ i, i < 7 ∧ x = nI i
theorem plc_n {i : Nat} (h : i < 7) : plc (nI i) := Or.inr ⟨i, h, rfl⟩
theorem plc_t : plc (-2) := Or.inl rfl
theorem m_drw_plc (s : Fn) : ∀ n, n ≤ 7 → plc (m_drw s n)
  | 0, _ => plc_t
  | n + 1, h => by
    show plc (st_mdr s n (m_drw s n))
    unfold st_mdr
    generalize (if m_drw s n = -2 then nI 0 else s (nI 7 + m_drw s n).toNatClampNeg) = q
    by_cases hq : s (7 + n) ≤ q
    · rw [if_pos hq]; exact m_drw_plc s n (by omega)
    · rw [if_neg hq]; exact plc_n (by omega)
theorem ne_m2 {i : Nat} (h : i < 2147483648) : ¬ nI i = (-2 : Int32) := by
  intro e
  have := congrArg Int32.toInt e
  rw [nI_toInt h] at this
  revert this
  show (i : Int) = -2 → False
  omega
def plN (x : Int32) : Int32 := if x = -2 then nI 15 else nI 0 + x
theorem plN_n {i : Nat} (h : i < 2147483648) : plN (nI i) = nI i := by unfold plN; rw [if_neg (ne_m2 h), nI_add, Nat.zero_add]
theorem plN_t : plN (-2) = nI 15 := rfl
theorem plc_k {x : Int32} (h : plc x) : ∃ k, (k < 7 ∨ k = 15) ∧ plN x = nI k := by
  rcases h with rfl | ⟨i, hi, rfl⟩
  · exact ⟨15, Or.inr rfl, plN_t⟩
  · exact ⟨i, Or.inl hi, plN_n (by omega)⟩
theorem plc_vp {x : Int32} (h : plc x) : vp_in (plN x) 48 := by
  obtain ⟨k, hk, e⟩ := plc_k h
  rw [e]; exact vp_in_nI (by omega) (by decide)
def m_mv (s : Fn) (fr to n : Int32) : Fn := upd (upd s (plN fr).toNatClampNeg (s (plN fr).toNatClampNeg - n)) (plN to).toNatClampNeg (upd s (plN fr).toNatClampNeg (s (plN fr).toNatClampNeg - n) (plN to).toNatClampNeg + n)
theorem m_mv_o {s : Fn} {fr to n : Int32} (h1 : plc fr) (h2 : plc to) {i : Nat} (hi : 16 ≤ i ∨ (7 ≤ i ∧ i < 15)) : m_mv s fr to n i = s i := by
  obtain ⟨k, hk, e⟩ := plc_k h1
  obtain ⟨l, hl, e2⟩ := plc_k h2
  unfold m_mv
  rw [e, e2, nI_clamp (by omega), nI_clamp (by omega), upd_ne (by omega), upd_ne (by omega)]
def m_shift (s : Fn) : Fn := itn (fun k f => upd f (28 + k) (f (28 + k + 1))) 19 s
def m_tr0 (s : Fn) : Fn := if s 27 = nI 20 then upd (m_shift s) 27 (m_shift s 27 - nI 1) else s
def m_tr1 (s : Fn) (to : Int32) : Fn := upd (upd s 26 to) (nI 28 + upd s 26 to 27).toNatClampNeg to
def m_tr (s : Fn) (to : Int32) : Fn := upd (m_tr1 (m_tr0 s) to) 27 (m_tr1 (m_tr0 s) to 27 + nI 1)
def m_fly (s : Fn) (fr to n : Int32) : Fn := if n = 0 ∨ ¬ m_mv s fr to n 26 = fr then m_mv s fr to n else m_tr (m_mv s fr to n) to
/-- the row's trace is within its places -/
def Trc (s : Fn) : Prop := ∃ t, t ≤ 20 ∧ s 27 = nI t
theorem m_shift_o {s : Fn} {i : Nat} (h : i < 28 ∨ 47 ≤ i) : ∀ n, n ≤ 19 → itn (fun k f => upd f (28 + k) (f (28 + k + 1))) n s i = s i
  | 0, _ => rfl
  | n + 1, hn => by
    show upd _ (28 + n) _ i = s i
    rw [upd_ne (by omega)]
    exact m_shift_o h n (by omega)
theorem m_tr0_27 {s : Fn} (h : Trc s) : ∃ t, t ≤ 19 ∧ m_tr0 s 27 = nI t := by
  obtain ⟨t, ht, e⟩ := h
  unfold m_tr0
  by_cases h2 : s 27 = nI 20
  · rw [if_pos h2, upd_self, show m_shift s 27 = s 27 from m_shift_o (Or.inl (by omega)) 19 (Nat.le_refl _), h2]
    exact ⟨19, by omega, by decide⟩
  · rw [if_neg h2]
    refine ⟨t, ?_, e⟩
    rcases Nat.lt_or_ge t 20 with h3 | h3
    · omega
    · exact absurd (by rw [e, show t = 20 by omega]) h2
theorem m_tr_vp {s : Fn} (h : Trc s) {to : Int32} : vp_in (nI 28 + upd (m_tr0 s) 26 to 27) 48 := by
  obtain ⟨t, ht, e⟩ := m_tr0_27 h
  rw [upd_ne (by decide), e, nI_add]
  exact vp_in_nI (by omega) (by decide)
theorem m_tr_trc {s : Fn} (h : Trc s) {to : Int32} : Trc (m_tr s to) := by
  obtain ⟨t, ht, e⟩ := m_tr0_27 h
  refine ⟨t + 1, by omega, ?_⟩
  unfold m_tr
  rw [upd_self]
  unfold m_tr1
  rw [show upd (m_tr0 s) 26 to 27 = nI t from by rw [upd_ne (by decide), e], nI_add, nI_clamp (by omega), upd_ne (by omega), upd_ne (by decide), e, nI_add]
theorem m_mv_trc {s : Fn} (h : Trc s) {fr to n : Int32} (h1 : plc fr) (h2 : plc to) : Trc (m_mv s fr to n) := by
  obtain ⟨t, ht, e⟩ := h
  exact ⟨t, ht, by rw [m_mv_o h1 h2 (Or.inl (by omega)), e]⟩
theorem m_fly_trc {s : Fn} (h : Trc s) {fr to n : Int32} (h1 : plc fr) (h2 : plc to) : Trc (m_fly s fr to n) := by
  unfold m_fly
  split
  · exact m_mv_trc h h1 h2
  · exact m_tr_trc (m_mv_trc h h1 h2)
def m_los (P s : Fn) (d : Int32) (n : Nat) (l : Fn) : Fn := itn (fun p f => upd f p (if nI p = d then nI 0 else loI P s p)) n l
def st_mgo (l : Fn) (d : Int32) (p : Nat) (f : Fn) : Fn := if nI p = d then f else m_fly f (nI p) d (l p)
def m_go (l : Fn) (d : Int32) (n : Nat) (s : Fn) : Fn := itn (st_mgo l d) n s
def m_half (n : Nat) (s : Fn) : Fn := itn (fun p f => upd f (7 + p) (f (7 + p) / nI 2)) n s
def st_mho (P : Fn) (p : Nat) (f : Fn) : Fn := if P (4 + p) = nI 2 then f else m_fly f (nI p) (-2) (f (0 + p))
def m_home (P : Fn) (n : Nat) (s : Fn) : Fn := itn (st_mho P) n s
theorem m_go_trc {l s : Fn} {d : Int32} (h : Trc s) (hd : plc d) : ∀ n, n ≤ 7 → Trc (m_go l d n s)
  | 0, _ => h
  | n + 1, hn => by
    show Trc (if nI n = d then m_go l d n s else m_fly (m_go l d n s) (nI n) d (l n))
    have ih := m_go_trc (l := l) h hd n (by omega)
    split
    · exact ih
    · exact m_fly_trc ih (plc_n (by omega)) hd
theorem m_half_o {s : Fn} {i : Nat} (h : i < 7 ∨ 14 ≤ i) : ∀ n, n ≤ 7 → m_half n s i = s i
  | 0, _ => rfl
  | n + 1, hn => by
    show upd _ (7 + n) _ i = s i
    rw [upd_ne (by omega)]
    exact m_half_o h n (by omega)
theorem m_home_trc {P s : Fn} (h : Trc s) : ∀ n, n ≤ 7 → Trc (m_home P n s)
  | 0, _ => h
  | n + 1, hn => by
    show Trc (if P (4 + n) = nI 2 then m_home P n s else m_fly (m_home P n s) (nI n) (-2) (m_home P n s (0 + n)))
    have ih := m_home_trc (P := P) h n (by omega)
    split
    · exact ih
    · exact m_fly_trc ih (plc_n (by omega)) plc_t
/-- an hour but for dusk -/
def m_hr (P s l : Fn) (n : Nat) : Fn := upd (m_half n (m_go (m_los P s (m_drw s n) n l) (m_drw s n) n s)) 16 (m_half n (m_go (m_los P s (m_drw s n) n l) (m_drw s n) n s) 16 + nI 1)
def m_lo (P s l : Fn) (n : Nat) : Fn := m_los P s (m_drw s n) n l
theorem m_hr_trc {P s l : Fn} {n : Nat} (h : Trc s) (hn : n ≤ 7) : Trc (m_hr P s l n) := by
  obtain ⟨t, ht, e⟩ := m_go_trc (l := m_los P s (m_drw s n) n l) h (m_drw_plc s n hn) n hn
  exact ⟨t, ht, by unfold m_hr; rw [upd_ne (by decide), m_half_o (Or.inr (by omega)) n hn, e]⟩
def m_hrD (P s l : Fn) (n : Nat) : Fn := if m_hr P s l n 16 - m_hr P s l n 16 / P 1 * P 1 = 0 then m_home P n (m_hr P s l n) else m_hr P s l n
theorem m_hrD_trc {P s l : Fn} {n : Nat} (h : Trc s) (hn : n ≤ 7) : Trc (m_hrD P s l n) := by
  unfold m_hrD
  split
  · exact m_home_trc (m_hr_trc h hn) n hn
  · exact m_hr_trc h hn
set_option maxHeartbeats 4000000 in
set_option maxRecDepth 100000 in
theorem m_lossOnW {E : Ev} {c : CSt} {xP xR xW xS xZ xG xK xT xQ xF xB xL xC : Fn} {un sz wm fm bm at_ bg fg : Nat} {ft sg vl wr : Int32} {sd : Int64} {i : Nat} (hi : i < 7) : Ct E yX7_lossOn cX7_lossOn 3 (some .int) ({ frames := 2, cells := 0, slots := 0, locals := 43 } : Room) false 146 [.ref (Ez E + 132), .ref (Ez E + 135), .int (nI i)] (cellOf E (c, (mkA xP xR xW xS xZ xG xK xT xQ xF xB xL xC, (nI un, nI sz, ft, nI wm, nI fm, nI bm, nI at_, nI bg, sg, nI fg, vl, wr), sd))) 146 0 0 (Ff (some (.int (loI xP xW i))) (cellOf E (c, (mkA xP xR xW xS xZ xG xK xT xQ xF xB xL xC, (nI un, nI sz, ft, nI wm, nI fm, nI bm, nI at_, nI bg, sg, nI fg, vl, wr), sd)))) := by
  refine Ct.ofV (by decide) (Nat.le_of_ble_eq_true rfl) (fun X hnm => ?_)
  show V E X _ RX7 _ _ _ _ _ _ false 146 0 [(0, .ref (Ez E + 132)), (1, .ref (Ez E + 135)), (2, .int (nI i))] [] _
  refine v_aload_n (pc := 0) 1 dX7_lossOn_0 rfl rfl ?_
  refine v_bipush (pc := 1) (nI 14) dX7_lossOn_1 kB_14 ?_
  refine v_ialdN (pc := 3) (cM_now) (by decide) (by omega) (by decide) dX7_lossOn_3 ?_
  refine v_iload_n (pc := 4) 2 dX7_lossOn_4 rfl rfl ?_
  refine v_callS (pc := 5) _ _ k_X7_142 (m_has _ _) ⟨rfl, rfl, by decide⟩ rfl rfl (Nat.le_of_ble_eq_true rfl) ⟨Nat.le_of_ble_eq_true rfl, Nat.le_of_ble_eq_true rfl⟩ dX7_lossOn_5 (unS ?_)
  show V E X _ RX7 _ _ _ 0 0 _ false 146 8 _ [_] _
  refine v_if_eqB (pc := 8) (tgt := 15) dX7_lossOn_8 rfl (fun c_8 => ?_) (fun c_8 => ?_)
  · refine v_aload_n (pc := 15) 0 dX7_lossOn_15 rfl rfl ?_
    refine g_X7_7 (pc := 16) (cMr_obj) (by decide) rfl dX7_lossOn_16 ?_
    refine v_iconst (pc := 19) (nI 4) dX7_lossOn_19 kI_4 ?_
    refine v_iload_n (pc := 20) 2 dX7_lossOn_20 rfl rfl ?_
    refine v_iaddN (pc := 21) dX7_lossOn_21 ?_
    refine v_ialdN (pc := 22) (cM_parish) (by decide) (by omega) (by decide) dX7_lossOn_22 ?_
    refine v_aload_n (pc := 23) 1 dX7_lossOn_23 rfl rfl ?_
    refine v_iconst (pc := 24) (nI 0) dX7_lossOn_24 kI_0 ?_
    refine v_iload_n (pc := 25) 2 dX7_lossOn_25 rfl rfl ?_
    refine v_iaddN (pc := 26) dX7_lossOn_26 ?_
    refine v_ialdN (pc := 27) (cM_now) (by decide) (by omega) (by decide) dX7_lossOn_27 ?_
    refine v_aload_n (pc := 28) 1 dX7_lossOn_28 rfl rfl ?_
    refine v_bipush (pc := 29) (nI 7) dX7_lossOn_29 kB_7 ?_
    refine v_iload_n (pc := 31) 2 dX7_lossOn_31 rfl rfl ?_
    refine v_iaddN (pc := 32) dX7_lossOn_32 ?_
    refine v_ialdN (pc := 33) (cM_now) (by decide) (by omega) (by decide) dX7_lossOn_33 ?_
    refine v_if_le (pc := 34) (tgt := 41) dX7_lossOn_34 rfl (fun c_34 => ?_) (fun c_34 => ?_)
    · refine v_iconst (pc := 41) (nI 0) dX7_lossOn_41 kI_0 ?_
      refine v_callS (pc := 42) _ _ k_X7_146 (m_lossBy _ _ false) ⟨rfl, rfl, by decide⟩ rfl rfl (Nat.le_of_ble_eq_true rfl) ⟨Nat.le_of_ble_eq_true rfl, Nat.le_of_ble_eq_true rfl⟩ dX7_lossOn_42 (unS ?_)
      show V E X _ RX7 _ _ _ 0 0 _ false 146 45 _ [_] _
      exact v_iret (pc := 45) dX7_lossOn_45 (⟨by unfold loI; rw [if_neg (by rw [c_8]; decide)]; first | (rw [show decide (¬ xW (7 + i) ≤ 0) = false from decide_eq_false (fun q => q c_34)] <;> rfl) | (rw [show decide (¬ xW (7 + i) ≤ 0) = true from decide_eq_true c_34] <;> rfl), rfl⟩)
    · refine v_iconst (pc := 37) (nI 1) dX7_lossOn_37 kI_1 ?_
      refine v_goto (pc := 38) (tgt := 42) dX7_lossOn_38 rfl ?_
      refine v_callS (pc := 42) _ _ k_X7_146 (m_lossBy _ _ true) ⟨rfl, rfl, by decide⟩ rfl rfl (Nat.le_of_ble_eq_true rfl) ⟨Nat.le_of_ble_eq_true rfl, Nat.le_of_ble_eq_true rfl⟩ dX7_lossOn_42 (unS ?_)
      show V E X _ RX7 _ _ _ 0 0 _ false 146 45 _ [_] _
      exact v_iret (pc := 45) dX7_lossOn_45 (⟨by unfold loI; rw [if_neg (by rw [c_8]; decide)]; first | (rw [show decide (¬ xW (7 + i) ≤ 0) = false from decide_eq_false (fun q => q c_34)] <;> rfl) | (rw [show decide (¬ xW (7 + i) ≤ 0) = true from decide_eq_true c_34] <;> rfl), rfl⟩)
  · refine v_iconst (pc := 11) (nI 0) dX7_lossOn_11 kI_0 ?_
    refine v_goto (pc := 12) (tgt := 45) dX7_lossOn_12 rfl ?_
    exact v_iret (pc := 45) dX7_lossOn_45 (⟨by unfold loI; rw [if_pos c_8], rfl⟩)
set_option maxHeartbeats 4000000 in
set_option maxRecDepth 100000 in
theorem m_drawerW {E : Ev} {c : CSt} {xP xR xW xS xZ xG xK xT xQ xF xB xL xC : Fn} {un sz wm fm bm at_ bg fg : Nat} {ft sg vl wr : Int32} {sd : Int64} {np : Nat} (hp : xP 2 = nI np) (hnp : np ≤ 7) : Ct E yX7_drawerOn cX7_drawerOn 4 (some .int) ({ frames := 0, cells := 0, slots := 0, locals := 0 } : Room) false 146 [.ref (Ez E + 132), .ref (Ez E + 135)] (cellOf E (c, (mkA xP xR xW xS xZ xG xK xT xQ xF xB xL xC, (nI un, nI sz, ft, nI wm, nI fm, nI bm, nI at_, nI bg, sg, nI fg, vl, wr), sd))) 146 0 0 (Ff (some (.int (m_drw xW np))) (cellOf E (c, (mkA xP xR xW xS xZ xG xK xT xQ xF xB xL xC, (nI un, nI sz, ft, nI wm, nI fm, nI bm, nI at_, nI bg, sg, nI fg, vl, wr), sd)))) := by
  refine Ct.ofV (by decide) (Nat.le_of_ble_eq_true rfl) (fun X hnm => ?_)
  show V E X _ RX7 _ _ _ _ _ _ false 146 0 [(0, .ref (Ez E + 132)), (1, .ref (Ez E + 135))] [] _
  refine v_bipush (pc := 0) (-2) dX7_drawerOn_0 kB_m2 ?_
  refine v_istore_n (pc := 2) [1, 2, 0] [(0, _), (1, _), (2, _)] dX7_drawerOn_2 rfl (by decide) rfl ?_
  refine v_iconst (pc := 3) (nI 0) dX7_drawerOn_3 kI_0 ?_
  refine v_istore_n (pc := 4) [1, 2, 3, 0] [(0, _), (1, _), (2, _), (3, _)] dX7_drawerOn_4 rfl (by decide) rfl ?_
  refine dn (P := fun i => V E X ({ frames := 0, cells := 0, slots := 0, locals := 0 } : Room) RX7 cX7_drawerOn 4 (some .int) 0 0 (QX E X false 146 (Ff (some (.int (m_drw xW np))) (cellOf E (c, (mkA xP xR xW xS xZ xG xK xT xQ xF xB xL xC, (nI un, nI sz, ft, nI wm, nI fm, nI bm, nI at_, nI bg, sg, nI fg, vl, wr), sd)))) 0 0) false 146 5 [(0, .ref (Ez E + 132)), (1, .ref (Ez E + 135)), (2, .int (itn (st_mdr xW) i (-2))), (3, .int (nI i))] [] (cellOf E (c, (mkA xP xR xW xS xZ xG xK xT xQ xF xB xL xC, (nI un, nI sz, ft, nI wm, nI fm, nI bm, nI at_, nI bg, sg, nI fg, vl, wr), sd)))) (N := np) ?_ ?_
  · refine v_iload_n (pc := 5) 3 dX7_drawerOn_5 rfl rfl ?_
    refine v_aload_n (pc := 6) 0 dX7_drawerOn_6 rfl rfl ?_
    refine g_X7_7 (pc := 7) (cMr_obj) (by decide) rfl dX7_drawerOn_7 ?_
    refine v_iconst (pc := 10) (nI 2) dX7_drawerOn_10 kI_2 ?_
    refine v_ialdN (pc := 11) (cM_parish) (by decide) (by omega) (by decide) dX7_drawerOn_11 ?_
    rw [hp]
    refine v_icmp_geN (pc := 12) (by omega) (by omega) (tgt := 52) dX7_drawerOn_12 rfl (fun c_12 => ?_) (fun c_12 => False.elim ((fun c => by omega) c_12))
    refine v_iload_n (pc := 52) 2 dX7_drawerOn_52 rfl rfl ?_
    exact v_iret (pc := 53) dX7_drawerOn_53 (⟨rfl, rfl⟩)
  · intro i hi ih
    have ih : V E X ({ frames := 0, cells := 0, slots := 0, locals := 0 } : Room) RX7 cX7_drawerOn 4 (some .int) 0 0 (QX E X false 146 (Ff (some (.int (m_drw xW np))) (cellOf E (c, (mkA xP xR xW xS xZ xG xK xT xQ xF xB xL xC, (nI un, nI sz, ft, nI wm, nI fm, nI bm, nI at_, nI bg, sg, nI fg, vl, wr), sd)))) 0 0) false 146 5 [(0, .ref (Ez E + 132)), (1, .ref (Ez E + 135)), (2, .int (st_mdr xW i (itn (st_mdr xW) i (-2)))), (3, .int (nI (i + 1)))] [] (cellOf E (c, (mkA xP xR xW xS xZ xG xK xT xQ xF xB xL xC, (nI un, nI sz, ft, nI wm, nI fm, nI bm, nI at_, nI bg, sg, nI fg, vl, wr), sd))) := by rw [itn_s] at ih; exact ih
    generalize hb : itn (st_mdr xW) i (-2) = b at ih ⊢
    show V E X _ RX7 _ _ _ _ _ _ false 146 _ [(0, .ref (Ez E + 132)), (1, .ref (Ez E + 135)), (2, .int (b)), (3, .int (nI i))] [] (cellOf E (c, (mkA xP xR xW xS xZ xG xK xT xQ xF xB xL xC, (nI un, nI sz, ft, nI wm, nI fm, nI bm, nI at_, nI bg, sg, nI fg, vl, wr), sd)))
    have hbp : plc b := by rw [← hb]; exact m_drw_plc xW i (by omega)
    have hbv : ¬ b = -2 → vp_in (nI 7 + b) 48 := by rcases hbp with rfl | ⟨q, hq, rfl⟩ <;> intro hne; exact absurd rfl hne; rw [nI_add]; exact vp_in_nI (by omega) (by decide)
    refine v_iload_n (pc := 5) 3 dX7_drawerOn_5 rfl rfl ?_
    refine v_aload_n (pc := 6) 0 dX7_drawerOn_6 rfl rfl ?_
    refine g_X7_7 (pc := 7) (cMr_obj) (by decide) rfl dX7_drawerOn_7 ?_
    refine v_iconst (pc := 10) (nI 2) dX7_drawerOn_10 kI_2 ?_
    refine v_ialdN (pc := 11) (cM_parish) (by decide) (by omega) (by decide) dX7_drawerOn_11 ?_
    rw [hp]
    refine v_icmp_geN (pc := 12) (by omega) (by omega) (tgt := 52) dX7_drawerOn_12 rfl (fun c_12 => False.elim ((fun c => by omega) c_12)) (fun c_12 => ?_)
    refine v_aload_n (pc := 15) 1 dX7_drawerOn_15 rfl rfl ?_
    refine v_bipush (pc := 16) (nI 7) dX7_drawerOn_16 kB_7 ?_
    refine v_iload_n (pc := 18) 3 dX7_drawerOn_18 rfl rfl ?_
    refine v_iaddN (pc := 19) dX7_drawerOn_19 ?_
    refine v_ialdN (pc := 20) (cM_now) (by decide) (by omega) (by decide) dX7_drawerOn_20 ?_
    refine v_iload_n (pc := 21) 2 dX7_drawerOn_21 rfl rfl ?_
    refine v_bipush (pc := 22) (-2) dX7_drawerOn_22 kB_m2 ?_
    refine v_icmp_ne (pc := 24) (tgt := 31) dX7_drawerOn_24 rfl (fun c_24 => ?_) (fun c_24 => ?_)
    · refine v_aload_n (pc := 31) 1 dX7_drawerOn_31 rfl rfl ?_
      refine v_bipush (pc := 32) (nI 7) dX7_drawerOn_32 kB_7 ?_
      refine v_iload_n (pc := 34) 2 dX7_drawerOn_34 rfl rfl ?_
      refine v_iadd (pc := 35) dX7_drawerOn_35 ?_
      refine v_iald (pc := 36) (cM_now) (by decide) (hbv c_24) dX7_drawerOn_36 ?_
      refine v_icmp_le (pc := 37) (tgt := 44) dX7_drawerOn_37 rfl (fun c_37 => ?_) (fun c_37 => ?_)
      · refine v_iload_n (pc := 44) 2 dX7_drawerOn_44 rfl rfl ?_
        refine v_istore_n (pc := 45) [1, 2, 0, 3] [(0, _), (1, _), (2, _), (3, _)] dX7_drawerOn_45 rfl (by decide) rfl ?_
        refine v_iincN (pc := 46) 3 [1, 2, 3, 0] [(0, _), (1, _), (2, _), (3, _)] kI_1 dX7_drawerOn_46 rfl (by decide) rfl ?_
        refine v_goto (pc := 49) (tgt := 5) dX7_drawerOn_49 rfl ?_
        rw [show st_mdr xW i b = _ from by unfold st_mdr; rw [if_neg c_24]] at ih
        rw [if_pos c_37] at ih
        exact ih
      · refine v_iload_n (pc := 40) 3 dX7_drawerOn_40 rfl rfl ?_
        refine v_goto (pc := 41) (tgt := 45) dX7_drawerOn_41 rfl ?_
        refine v_istore_n (pc := 45) [1, 2, 0, 3] [(0, _), (1, _), (2, _), (3, _)] dX7_drawerOn_45 rfl (by decide) rfl ?_
        refine v_iincN (pc := 46) 3 [1, 2, 3, 0] [(0, _), (1, _), (2, _), (3, _)] kI_1 dX7_drawerOn_46 rfl (by decide) rfl ?_
        refine v_goto (pc := 49) (tgt := 5) dX7_drawerOn_49 rfl ?_
        rw [show st_mdr xW i b = _ from by unfold st_mdr; rw [if_neg c_24]] at ih
        rw [if_neg c_37] at ih
        exact ih
    · refine v_iconst (pc := 27) (nI 0) dX7_drawerOn_27 kI_0 ?_
      refine v_goto (pc := 28) (tgt := 37) dX7_drawerOn_28 rfl ?_
      refine v_icmp_le (pc := 37) (tgt := 44) dX7_drawerOn_37 rfl (fun c_37 => ?_) (fun c_37 => ?_)
      · refine v_iload_n (pc := 44) 2 dX7_drawerOn_44 rfl rfl ?_
        refine v_istore_n (pc := 45) [1, 2, 0, 3] [(0, _), (1, _), (2, _), (3, _)] dX7_drawerOn_45 rfl (by decide) rfl ?_
        refine v_iincN (pc := 46) 3 [1, 2, 3, 0] [(0, _), (1, _), (2, _), (3, _)] kI_1 dX7_drawerOn_46 rfl (by decide) rfl ?_
        refine v_goto (pc := 49) (tgt := 5) dX7_drawerOn_49 rfl ?_
        rw [show st_mdr xW i b = _ from by unfold st_mdr; rw [if_pos c_24]] at ih
        rw [if_pos c_37] at ih
        exact ih
      · refine v_iload_n (pc := 40) 3 dX7_drawerOn_40 rfl rfl ?_
        refine v_goto (pc := 41) (tgt := 45) dX7_drawerOn_41 rfl ?_
        refine v_istore_n (pc := 45) [1, 2, 0, 3] [(0, _), (1, _), (2, _), (3, _)] dX7_drawerOn_45 rfl (by decide) rfl ?_
        refine v_iincN (pc := 46) 3 [1, 2, 3, 0] [(0, _), (1, _), (2, _), (3, _)] kI_1 dX7_drawerOn_46 rfl (by decide) rfl ?_
        refine v_goto (pc := 49) (tgt := 5) dX7_drawerOn_49 rfl ?_
        rw [show st_mdr xW i b = _ from by unfold st_mdr; rw [if_pos c_24]] at ih
        rw [if_neg c_37] at ih
        exact ih
set_option maxHeartbeats 4000000 in
set_option maxRecDepth 100000 in
theorem m_fliesW {E : Ev} {c : CSt} {xP xR xW xS xZ xG xK xT xQ xF xB xL xC : Fn} {un sz wm fm bm at_ bg fg : Nat} {ft sg vl wr : Int32} {sd : Int64} (ht : Trc xW) {fr to : Int32} (h1 : plc fr) (h2 : plc to) (n : Int32) : Ct E yX7_flies cX7_flies 5 none ({ frames := 0, cells := 0, slots := 0, locals := 0 } : Room) false 146 [.ref (Ez E + 135), .int fr, .int to, .int n] (cellOf E (c, (mkA xP xR xW xS xZ xG xK xT xQ xF xB xL xC, (nI un, nI sz, ft, nI wm, nI fm, nI bm, nI at_, nI bg, sg, nI fg, vl, wr), sd))) 146 0 0 (Ff none (cellOf E (c, (mkA xP xR (m_fly xW fr to n) xS xZ xG xK xT xQ xF xB xL xC, (nI un, nI sz, ft, nI wm, nI fm, nI bm, nI at_, nI bg, sg, nI fg, vl, wr), sd)))) := by
  refine Ct.ofV (by decide) (Nat.le_of_ble_eq_true rfl) (fun X hnm => ?_)
  show V E X _ RX7 _ _ _ _ _ _ false 146 0 [(0, .ref (Ez E + 135)), (1, .int fr), (2, .int to), (3, .int n)] [] _
  refine v_aload_n (pc := 0) 0 dX7_flies_0 rfl rfl ?_
  refine v_iload_n (pc := 1) 1 dX7_flies_1 rfl rfl ?_
  refine v_bipush (pc := 2) (-2) dX7_flies_2 kB_m2 ?_
  refine v_icmp_ne (pc := 4) (tgt := 12) dX7_flies_4 rfl (fun c_4 => ?_) (fun c_4 => ?_)
  · refine v_iconst (pc := 12) (nI 0) dX7_flies_12 kI_0 ?_
    refine v_iload_n (pc := 13) 1 dX7_flies_13 rfl rfl ?_
    refine v_iadd (pc := 14) dX7_flies_14 ?_
    rw [show nI 0 + fr = plN fr from (if_neg c_4).symm]
    refine v_dup2 (pc := 15) dX7_flies_15 rfl rfl ?_
    refine v_iald (pc := 16) (cM_now) (by decide) (plc_vp h1) dX7_flies_16 ?_
    refine v_iload_n (pc := 17) 3 dX7_flies_17 rfl rfl ?_
    refine v_isub (pc := 18) dX7_flies_18 ?_
    refine v_iast (pc := 19) (cM_now) (by decide) (plc_vp h1) dX7_flies_19 (wM_now) ?_
    refine v_aload_n (pc := 20) 0 dX7_flies_20 rfl rfl ?_
    refine v_iload_n (pc := 21) 2 dX7_flies_21 rfl rfl ?_
    refine v_bipush (pc := 22) (-2) dX7_flies_22 kB_m2 ?_
    refine v_icmp_ne (pc := 24) (tgt := 32) dX7_flies_24 rfl (fun c_24 => ?_) (fun c_24 => ?_)
    · refine v_iconst (pc := 32) (nI 0) dX7_flies_32 kI_0 ?_
      refine v_iload_n (pc := 33) 2 dX7_flies_33 rfl rfl ?_
      refine v_iadd (pc := 34) dX7_flies_34 ?_
      rw [show nI 0 + to = plN to from (if_neg c_24).symm]
      refine v_dup2 (pc := 35) dX7_flies_35 rfl rfl ?_
      refine v_iald (pc := 36) (cM_now) (by decide) (plc_vp h2) dX7_flies_36 ?_
      refine v_iload_n (pc := 37) 3 dX7_flies_37 rfl rfl ?_
      refine v_iadd (pc := 38) dX7_flies_38 ?_
      refine v_iast (pc := 39) (cM_now) (by decide) (plc_vp h2) dX7_flies_39 (wM_now) ?_
      show V E X _ RX7 _ _ _ _ _ _ false 146 40 _ [] (cellOf E (c, (mkA xP xR (m_mv xW fr to n) xS xZ xG xK xT xQ xF xB xL xC, (nI un, nI sz, ft, nI wm, nI fm, nI bm, nI at_, nI bg, sg, nI fg, vl, wr), sd)))
      have htm := m_mv_trc ht (n := n) h1 h2
      generalize hm : m_mv xW fr to n = s2 at htm ⊢
      refine v_iload_n (pc := 40) 3 dX7_flies_40 rfl rfl ?_
      refine v_if_eq (pc := 41) (tgt := 52) dX7_flies_41 rfl (fun c_41 => ?_) (fun c_41 => ?_)
      · exact v_vret (pc := 52) dX7_flies_52 (⟨rfl, by rw [show m_fly xW fr to n = _ from if_pos (Or.inl c_41), hm]⟩)
      · refine v_aload_n (pc := 44) 0 dX7_flies_44 rfl rfl ?_
        refine v_bipush (pc := 45) (nI 26) dX7_flies_45 kB_26 ?_
        refine v_ialdN (pc := 47) (cM_now) (by decide) (by omega) (by decide) dX7_flies_47 ?_
        refine v_iload_n (pc := 48) 1 dX7_flies_48 rfl rfl ?_
        refine v_icmp_eq (pc := 49) (tgt := 53) dX7_flies_49 rfl (fun c_49 => ?_) (fun c_49 => ?_)
        · refine v_aload_n (pc := 53) 0 dX7_flies_53 rfl rfl ?_
          refine v_bipush (pc := 54) (nI 27) dX7_flies_54 kB_27 ?_
          refine v_ialdN (pc := 56) (cM_now) (by decide) (by omega) (by decide) dX7_flies_56 ?_
          refine v_bipush (pc := 57) (nI 20) dX7_flies_57 kB_20 ?_
          refine v_icmp_ne (pc := 59) (tgt := 102) dX7_flies_59 rfl (fun c_59 => ?_) (fun c_59 => ?_)
          · have h116 := m_tr_vp htm (to := to)
            rw [show m_tr0 s2 = s2 from if_neg c_59] at h116
            refine v_aload_n (pc := 102) 0 dX7_flies_102 rfl rfl ?_
            refine v_bipush (pc := 103) (nI 26) dX7_flies_103 kB_26 ?_
            refine v_iload_n (pc := 105) 2 dX7_flies_105 rfl rfl ?_
            refine v_iastN (pc := 106) (cM_now) (by decide) (by omega) (by decide) dX7_flies_106 (wM_now) ?_
            refine v_aload_n (pc := 107) 0 dX7_flies_107 rfl rfl ?_
            refine v_bipush (pc := 108) (nI 28) dX7_flies_108 kB_28 ?_
            refine v_aload_n (pc := 110) 0 dX7_flies_110 rfl rfl ?_
            refine v_bipush (pc := 111) (nI 27) dX7_flies_111 kB_27 ?_
            refine v_ialdN (pc := 113) (cM_now) (by decide) (by omega) (by decide) dX7_flies_113 ?_
            refine v_iadd (pc := 114) dX7_flies_114 ?_
            refine v_iload_n (pc := 115) 2 dX7_flies_115 rfl rfl ?_
            refine v_iast (pc := 116) (cM_now) (by decide) (h116) dX7_flies_116 (wM_now) ?_
            refine v_aload_n (pc := 117) 0 dX7_flies_117 rfl rfl ?_
            refine v_bipush (pc := 118) (nI 27) dX7_flies_118 kB_27 ?_
            refine v_dup2 (pc := 120) dX7_flies_120 rfl rfl ?_
            refine v_ialdN (pc := 121) (cM_now) (by decide) (by omega) (by decide) dX7_flies_121 ?_
            refine v_iconst (pc := 122) (nI 1) dX7_flies_122 kI_1 ?_
            refine v_iadd (pc := 123) dX7_flies_123 ?_
            refine v_iastN (pc := 124) (cM_now) (by decide) (by omega) (by decide) dX7_flies_124 (wM_now) ?_
            exact v_vret (pc := 125) dX7_flies_125 (⟨rfl, by rw [show m_fly xW fr to n = _ from if_neg (by rintro (q | q); exact c_41 q; rw [hm] at q; exact q c_49), hm]; unfold m_tr m_tr1; rw [show m_tr0 s2 = s2 from if_neg c_59]⟩)
          · refine v_iconst (pc := 62) (nI 0) dX7_flies_62 kI_0 ?_
            refine v_istore (pc := 63) [1, 2, 3, 4, 0] [(0, _), (1, _), (2, _), (3, _), (4, _)] dX7_flies_63 (by decide) rfl ?_
            refine dn (P := fun e => V E X ({ frames := 0, cells := 0, slots := 0, locals := 0 } : Room) RX7 cX7_flies 5 none 0 0 (QX E X false 146 (Ff none (cellOf E (c, (mkA xP xR (m_fly xW fr to n) xS xZ xG xK xT xQ xF xB xL xC, (nI un, nI sz, ft, nI wm, nI fm, nI bm, nI at_, nI bg, sg, nI fg, vl, wr), sd)))) 0 0) false 146 65 [(0, .ref (Ez E + 135)), (1, .int fr), (2, .int to), (3, .int n), (4, .int (nI e))] [] (cellOf E (c, (mkA xP xR (itn (fun k f => upd f (28 + k) (f (28 + k + 1))) e s2) xS xZ xG xK xT xQ xF xB xL xC, (nI un, nI sz, ft, nI wm, nI fm, nI bm, nI at_, nI bg, sg, nI fg, vl, wr), sd)))) (N := 19) ?_ ?_
            · generalize hsh : itn (fun k f => upd f (28 + k) (f (28 + k + 1))) 19 s2 = f9 
              show V E X _ RX7 _ _ _ _ _ _ false 146 _ [(0, .ref (Ez E + 135)), (1, .int fr), (2, .int to), (3, .int n), (4, .int (nI 19))] [] (cellOf E (c, (mkA xP xR f9 xS xZ xG xK xT xQ xF xB xL xC, (nI un, nI sz, ft, nI wm, nI fm, nI bm, nI at_, nI bg, sg, nI fg, vl, wr), sd)))
              refine v_iload (pc := 65) 4 dX7_flies_65 rfl ?_
              refine v_bipush (pc := 67) (nI 19) dX7_flies_67 kB_19 ?_
              refine v_icmp_geN (pc := 69) (by omega) (by omega) (tgt := 94) dX7_flies_69 rfl (fun c_69 => ?_) (fun c_69 => False.elim ((fun c => by omega) c_69))
              refine v_aload_n (pc := 94) 0 dX7_flies_94 rfl rfl ?_
              refine v_bipush (pc := 95) (nI 27) dX7_flies_95 kB_27 ?_
              refine v_dup2 (pc := 97) dX7_flies_97 rfl rfl ?_
              refine v_ialdN (pc := 98) (cM_now) (by decide) (by omega) (by decide) dX7_flies_98 ?_
              refine v_iconst (pc := 99) (nI 1) dX7_flies_99 kI_1 ?_
              refine v_isub (pc := 100) dX7_flies_100 ?_
              refine v_iastN (pc := 101) (cM_now) (by decide) (by omega) (by decide) dX7_flies_101 (wM_now) ?_
              have h116 := m_tr_vp htm (to := to)
              rw [show m_tr0 s2 = upd f9 27 (f9 27 - nI 1) from by unfold m_tr0; rw [if_pos c_59, show m_shift s2 = f9 from hsh]] at h116
              refine v_aload_n (pc := 102) 0 dX7_flies_102 rfl rfl ?_
              refine v_bipush (pc := 103) (nI 26) dX7_flies_103 kB_26 ?_
              refine v_iload_n (pc := 105) 2 dX7_flies_105 rfl rfl ?_
              refine v_iastN (pc := 106) (cM_now) (by decide) (by omega) (by decide) dX7_flies_106 (wM_now) ?_
              refine v_aload_n (pc := 107) 0 dX7_flies_107 rfl rfl ?_
              refine v_bipush (pc := 108) (nI 28) dX7_flies_108 kB_28 ?_
              refine v_aload_n (pc := 110) 0 dX7_flies_110 rfl rfl ?_
              refine v_bipush (pc := 111) (nI 27) dX7_flies_111 kB_27 ?_
              refine v_ialdN (pc := 113) (cM_now) (by decide) (by omega) (by decide) dX7_flies_113 ?_
              refine v_iadd (pc := 114) dX7_flies_114 ?_
              refine v_iload_n (pc := 115) 2 dX7_flies_115 rfl rfl ?_
              refine v_iast (pc := 116) (cM_now) (by decide) (h116) dX7_flies_116 (wM_now) ?_
              refine v_aload_n (pc := 117) 0 dX7_flies_117 rfl rfl ?_
              refine v_bipush (pc := 118) (nI 27) dX7_flies_118 kB_27 ?_
              refine v_dup2 (pc := 120) dX7_flies_120 rfl rfl ?_
              refine v_ialdN (pc := 121) (cM_now) (by decide) (by omega) (by decide) dX7_flies_121 ?_
              refine v_iconst (pc := 122) (nI 1) dX7_flies_122 kI_1 ?_
              refine v_iadd (pc := 123) dX7_flies_123 ?_
              refine v_iastN (pc := 124) (cM_now) (by decide) (by omega) (by decide) dX7_flies_124 (wM_now) ?_
              exact v_vret (pc := 125) dX7_flies_125 (⟨rfl, by rw [show m_fly xW fr to n = _ from if_neg (by rintro (q | q); exact c_41 q; rw [hm] at q; exact q c_49), hm]; unfold m_tr m_tr1; rw [show m_tr0 s2 = upd f9 27 (f9 27 - nI 1) from by unfold m_tr0; rw [if_pos c_59, show m_shift s2 = f9 from hsh]]⟩)
            · intro e he ih
              have ih : V E X ({ frames := 0, cells := 0, slots := 0, locals := 0 } : Room) RX7 cX7_flies 5 none 0 0 (QX E X false 146 (Ff none (cellOf E (c, (mkA xP xR (m_fly xW fr to n) xS xZ xG xK xT xQ xF xB xL xC, (nI un, nI sz, ft, nI wm, nI fm, nI bm, nI at_, nI bg, sg, nI fg, vl, wr), sd)))) 0 0) false 146 65 [(0, .ref (Ez E + 135)), (1, .int fr), (2, .int to), (3, .int n), (4, .int (nI (e + 1)))] [] (cellOf E (c, (mkA xP xR (upd (itn (fun k f => upd f (28 + k) (f (28 + k + 1))) e s2) (28 + e) ((itn (fun k f => upd f (28 + k) (f (28 + k + 1))) e s2) (28 + e + 1))) xS xZ xG xK xT xQ xF xB xL xC, (nI un, nI sz, ft, nI wm, nI fm, nI bm, nI at_, nI bg, sg, nI fg, vl, wr), sd))) := by rw [itn_s] at ih; exact ih
              generalize itn (fun k f => upd f (28 + k) (f (28 + k + 1))) e s2 = f1 at ih ⊢
              show V E X _ RX7 _ _ _ _ _ _ false 146 _ [(0, .ref (Ez E + 135)), (1, .int fr), (2, .int to), (3, .int n), (4, .int (nI e))] [] (cellOf E (c, (mkA xP xR f1 xS xZ xG xK xT xQ xF xB xL xC, (nI un, nI sz, ft, nI wm, nI fm, nI bm, nI at_, nI bg, sg, nI fg, vl, wr), sd)))
              refine v_iload (pc := 65) 4 dX7_flies_65 rfl ?_
              refine v_bipush (pc := 67) (nI 19) dX7_flies_67 kB_19 ?_
              refine v_icmp_geN (pc := 69) (by omega) (by omega) (tgt := 94) dX7_flies_69 rfl (fun c_69 => False.elim ((fun c => by omega) c_69)) (fun c_69 => ?_)
              refine v_aload_n (pc := 72) 0 dX7_flies_72 rfl rfl ?_
              refine v_bipush (pc := 73) (nI 28) dX7_flies_73 kB_28 ?_
              refine v_iload (pc := 75) 4 dX7_flies_75 rfl ?_
              refine v_iaddN (pc := 77) dX7_flies_77 ?_
              refine v_aload_n (pc := 78) 0 dX7_flies_78 rfl rfl ?_
              refine v_bipush (pc := 79) (nI 28) dX7_flies_79 kB_28 ?_
              refine v_iload (pc := 81) 4 dX7_flies_81 rfl ?_
              refine v_iaddN (pc := 83) dX7_flies_83 ?_
              refine v_iconst (pc := 84) (nI 1) dX7_flies_84 kI_1 ?_
              refine v_iaddN (pc := 85) dX7_flies_85 ?_
              refine v_ialdN (pc := 86) (cM_now) (by decide) (by omega) (by decide) dX7_flies_86 ?_
              refine v_iastN (pc := 87) (cM_now) (by decide) (by omega) (by decide) dX7_flies_87 (wM_now) ?_
              refine v_iincN (pc := 88) 4 [1, 2, 3, 4, 0] [(0, _), (1, _), (2, _), (3, _), (4, _)] kI_1 dX7_flies_88 rfl (by decide) rfl ?_
              refine v_goto (pc := 91) (tgt := 65) dX7_flies_91 rfl ?_
              exact ih
        · exact v_vret (pc := 52) dX7_flies_52 (⟨rfl, by rw [show m_fly xW fr to n = _ from if_pos (Or.inr (by rw [hm]; exact c_49)), hm]⟩)
    · refine v_bipush (pc := 27) (nI 15) dX7_flies_27 kB_15 ?_
      refine v_goto (pc := 29) (tgt := 35) dX7_flies_29 rfl ?_
      rw [show nI 15 = plN to from (if_pos c_24).symm]
      refine v_dup2 (pc := 35) dX7_flies_35 rfl rfl ?_
      refine v_iald (pc := 36) (cM_now) (by decide) (plc_vp h2) dX7_flies_36 ?_
      refine v_iload_n (pc := 37) 3 dX7_flies_37 rfl rfl ?_
      refine v_iadd (pc := 38) dX7_flies_38 ?_
      refine v_iast (pc := 39) (cM_now) (by decide) (plc_vp h2) dX7_flies_39 (wM_now) ?_
      show V E X _ RX7 _ _ _ _ _ _ false 146 40 _ [] (cellOf E (c, (mkA xP xR (m_mv xW fr to n) xS xZ xG xK xT xQ xF xB xL xC, (nI un, nI sz, ft, nI wm, nI fm, nI bm, nI at_, nI bg, sg, nI fg, vl, wr), sd)))
      have htm := m_mv_trc ht (n := n) h1 h2
      generalize hm : m_mv xW fr to n = s2 at htm ⊢
      refine v_iload_n (pc := 40) 3 dX7_flies_40 rfl rfl ?_
      refine v_if_eq (pc := 41) (tgt := 52) dX7_flies_41 rfl (fun c_41 => ?_) (fun c_41 => ?_)
      · exact v_vret (pc := 52) dX7_flies_52 (⟨rfl, by rw [show m_fly xW fr to n = _ from if_pos (Or.inl c_41), hm]⟩)
      · refine v_aload_n (pc := 44) 0 dX7_flies_44 rfl rfl ?_
        refine v_bipush (pc := 45) (nI 26) dX7_flies_45 kB_26 ?_
        refine v_ialdN (pc := 47) (cM_now) (by decide) (by omega) (by decide) dX7_flies_47 ?_
        refine v_iload_n (pc := 48) 1 dX7_flies_48 rfl rfl ?_
        refine v_icmp_eq (pc := 49) (tgt := 53) dX7_flies_49 rfl (fun c_49 => ?_) (fun c_49 => ?_)
        · refine v_aload_n (pc := 53) 0 dX7_flies_53 rfl rfl ?_
          refine v_bipush (pc := 54) (nI 27) dX7_flies_54 kB_27 ?_
          refine v_ialdN (pc := 56) (cM_now) (by decide) (by omega) (by decide) dX7_flies_56 ?_
          refine v_bipush (pc := 57) (nI 20) dX7_flies_57 kB_20 ?_
          refine v_icmp_ne (pc := 59) (tgt := 102) dX7_flies_59 rfl (fun c_59 => ?_) (fun c_59 => ?_)
          · have h116 := m_tr_vp htm (to := to)
            rw [show m_tr0 s2 = s2 from if_neg c_59] at h116
            refine v_aload_n (pc := 102) 0 dX7_flies_102 rfl rfl ?_
            refine v_bipush (pc := 103) (nI 26) dX7_flies_103 kB_26 ?_
            refine v_iload_n (pc := 105) 2 dX7_flies_105 rfl rfl ?_
            refine v_iastN (pc := 106) (cM_now) (by decide) (by omega) (by decide) dX7_flies_106 (wM_now) ?_
            refine v_aload_n (pc := 107) 0 dX7_flies_107 rfl rfl ?_
            refine v_bipush (pc := 108) (nI 28) dX7_flies_108 kB_28 ?_
            refine v_aload_n (pc := 110) 0 dX7_flies_110 rfl rfl ?_
            refine v_bipush (pc := 111) (nI 27) dX7_flies_111 kB_27 ?_
            refine v_ialdN (pc := 113) (cM_now) (by decide) (by omega) (by decide) dX7_flies_113 ?_
            refine v_iadd (pc := 114) dX7_flies_114 ?_
            refine v_iload_n (pc := 115) 2 dX7_flies_115 rfl rfl ?_
            refine v_iast (pc := 116) (cM_now) (by decide) (h116) dX7_flies_116 (wM_now) ?_
            refine v_aload_n (pc := 117) 0 dX7_flies_117 rfl rfl ?_
            refine v_bipush (pc := 118) (nI 27) dX7_flies_118 kB_27 ?_
            refine v_dup2 (pc := 120) dX7_flies_120 rfl rfl ?_
            refine v_ialdN (pc := 121) (cM_now) (by decide) (by omega) (by decide) dX7_flies_121 ?_
            refine v_iconst (pc := 122) (nI 1) dX7_flies_122 kI_1 ?_
            refine v_iadd (pc := 123) dX7_flies_123 ?_
            refine v_iastN (pc := 124) (cM_now) (by decide) (by omega) (by decide) dX7_flies_124 (wM_now) ?_
            exact v_vret (pc := 125) dX7_flies_125 (⟨rfl, by rw [show m_fly xW fr to n = _ from if_neg (by rintro (q | q); exact c_41 q; rw [hm] at q; exact q c_49), hm]; unfold m_tr m_tr1; rw [show m_tr0 s2 = s2 from if_neg c_59]⟩)
          · refine v_iconst (pc := 62) (nI 0) dX7_flies_62 kI_0 ?_
            refine v_istore (pc := 63) [1, 2, 3, 4, 0] [(0, _), (1, _), (2, _), (3, _), (4, _)] dX7_flies_63 (by decide) rfl ?_
            refine dn (P := fun e => V E X ({ frames := 0, cells := 0, slots := 0, locals := 0 } : Room) RX7 cX7_flies 5 none 0 0 (QX E X false 146 (Ff none (cellOf E (c, (mkA xP xR (m_fly xW fr to n) xS xZ xG xK xT xQ xF xB xL xC, (nI un, nI sz, ft, nI wm, nI fm, nI bm, nI at_, nI bg, sg, nI fg, vl, wr), sd)))) 0 0) false 146 65 [(0, .ref (Ez E + 135)), (1, .int fr), (2, .int to), (3, .int n), (4, .int (nI e))] [] (cellOf E (c, (mkA xP xR (itn (fun k f => upd f (28 + k) (f (28 + k + 1))) e s2) xS xZ xG xK xT xQ xF xB xL xC, (nI un, nI sz, ft, nI wm, nI fm, nI bm, nI at_, nI bg, sg, nI fg, vl, wr), sd)))) (N := 19) ?_ ?_
            · generalize hsh : itn (fun k f => upd f (28 + k) (f (28 + k + 1))) 19 s2 = f9 
              show V E X _ RX7 _ _ _ _ _ _ false 146 _ [(0, .ref (Ez E + 135)), (1, .int fr), (2, .int to), (3, .int n), (4, .int (nI 19))] [] (cellOf E (c, (mkA xP xR f9 xS xZ xG xK xT xQ xF xB xL xC, (nI un, nI sz, ft, nI wm, nI fm, nI bm, nI at_, nI bg, sg, nI fg, vl, wr), sd)))
              refine v_iload (pc := 65) 4 dX7_flies_65 rfl ?_
              refine v_bipush (pc := 67) (nI 19) dX7_flies_67 kB_19 ?_
              refine v_icmp_geN (pc := 69) (by omega) (by omega) (tgt := 94) dX7_flies_69 rfl (fun c_69 => ?_) (fun c_69 => False.elim ((fun c => by omega) c_69))
              refine v_aload_n (pc := 94) 0 dX7_flies_94 rfl rfl ?_
              refine v_bipush (pc := 95) (nI 27) dX7_flies_95 kB_27 ?_
              refine v_dup2 (pc := 97) dX7_flies_97 rfl rfl ?_
              refine v_ialdN (pc := 98) (cM_now) (by decide) (by omega) (by decide) dX7_flies_98 ?_
              refine v_iconst (pc := 99) (nI 1) dX7_flies_99 kI_1 ?_
              refine v_isub (pc := 100) dX7_flies_100 ?_
              refine v_iastN (pc := 101) (cM_now) (by decide) (by omega) (by decide) dX7_flies_101 (wM_now) ?_
              have h116 := m_tr_vp htm (to := to)
              rw [show m_tr0 s2 = upd f9 27 (f9 27 - nI 1) from by unfold m_tr0; rw [if_pos c_59, show m_shift s2 = f9 from hsh]] at h116
              refine v_aload_n (pc := 102) 0 dX7_flies_102 rfl rfl ?_
              refine v_bipush (pc := 103) (nI 26) dX7_flies_103 kB_26 ?_
              refine v_iload_n (pc := 105) 2 dX7_flies_105 rfl rfl ?_
              refine v_iastN (pc := 106) (cM_now) (by decide) (by omega) (by decide) dX7_flies_106 (wM_now) ?_
              refine v_aload_n (pc := 107) 0 dX7_flies_107 rfl rfl ?_
              refine v_bipush (pc := 108) (nI 28) dX7_flies_108 kB_28 ?_
              refine v_aload_n (pc := 110) 0 dX7_flies_110 rfl rfl ?_
              refine v_bipush (pc := 111) (nI 27) dX7_flies_111 kB_27 ?_
              refine v_ialdN (pc := 113) (cM_now) (by decide) (by omega) (by decide) dX7_flies_113 ?_
              refine v_iadd (pc := 114) dX7_flies_114 ?_
              refine v_iload_n (pc := 115) 2 dX7_flies_115 rfl rfl ?_
              refine v_iast (pc := 116) (cM_now) (by decide) (h116) dX7_flies_116 (wM_now) ?_
              refine v_aload_n (pc := 117) 0 dX7_flies_117 rfl rfl ?_
              refine v_bipush (pc := 118) (nI 27) dX7_flies_118 kB_27 ?_
              refine v_dup2 (pc := 120) dX7_flies_120 rfl rfl ?_
              refine v_ialdN (pc := 121) (cM_now) (by decide) (by omega) (by decide) dX7_flies_121 ?_
              refine v_iconst (pc := 122) (nI 1) dX7_flies_122 kI_1 ?_
              refine v_iadd (pc := 123) dX7_flies_123 ?_
              refine v_iastN (pc := 124) (cM_now) (by decide) (by omega) (by decide) dX7_flies_124 (wM_now) ?_
              exact v_vret (pc := 125) dX7_flies_125 (⟨rfl, by rw [show m_fly xW fr to n = _ from if_neg (by rintro (q | q); exact c_41 q; rw [hm] at q; exact q c_49), hm]; unfold m_tr m_tr1; rw [show m_tr0 s2 = upd f9 27 (f9 27 - nI 1) from by unfold m_tr0; rw [if_pos c_59, show m_shift s2 = f9 from hsh]]⟩)
            · intro e he ih
              have ih : V E X ({ frames := 0, cells := 0, slots := 0, locals := 0 } : Room) RX7 cX7_flies 5 none 0 0 (QX E X false 146 (Ff none (cellOf E (c, (mkA xP xR (m_fly xW fr to n) xS xZ xG xK xT xQ xF xB xL xC, (nI un, nI sz, ft, nI wm, nI fm, nI bm, nI at_, nI bg, sg, nI fg, vl, wr), sd)))) 0 0) false 146 65 [(0, .ref (Ez E + 135)), (1, .int fr), (2, .int to), (3, .int n), (4, .int (nI (e + 1)))] [] (cellOf E (c, (mkA xP xR (upd (itn (fun k f => upd f (28 + k) (f (28 + k + 1))) e s2) (28 + e) ((itn (fun k f => upd f (28 + k) (f (28 + k + 1))) e s2) (28 + e + 1))) xS xZ xG xK xT xQ xF xB xL xC, (nI un, nI sz, ft, nI wm, nI fm, nI bm, nI at_, nI bg, sg, nI fg, vl, wr), sd))) := by rw [itn_s] at ih; exact ih
              generalize itn (fun k f => upd f (28 + k) (f (28 + k + 1))) e s2 = f1 at ih ⊢
              show V E X _ RX7 _ _ _ _ _ _ false 146 _ [(0, .ref (Ez E + 135)), (1, .int fr), (2, .int to), (3, .int n), (4, .int (nI e))] [] (cellOf E (c, (mkA xP xR f1 xS xZ xG xK xT xQ xF xB xL xC, (nI un, nI sz, ft, nI wm, nI fm, nI bm, nI at_, nI bg, sg, nI fg, vl, wr), sd)))
              refine v_iload (pc := 65) 4 dX7_flies_65 rfl ?_
              refine v_bipush (pc := 67) (nI 19) dX7_flies_67 kB_19 ?_
              refine v_icmp_geN (pc := 69) (by omega) (by omega) (tgt := 94) dX7_flies_69 rfl (fun c_69 => False.elim ((fun c => by omega) c_69)) (fun c_69 => ?_)
              refine v_aload_n (pc := 72) 0 dX7_flies_72 rfl rfl ?_
              refine v_bipush (pc := 73) (nI 28) dX7_flies_73 kB_28 ?_
              refine v_iload (pc := 75) 4 dX7_flies_75 rfl ?_
              refine v_iaddN (pc := 77) dX7_flies_77 ?_
              refine v_aload_n (pc := 78) 0 dX7_flies_78 rfl rfl ?_
              refine v_bipush (pc := 79) (nI 28) dX7_flies_79 kB_28 ?_
              refine v_iload (pc := 81) 4 dX7_flies_81 rfl ?_
              refine v_iaddN (pc := 83) dX7_flies_83 ?_
              refine v_iconst (pc := 84) (nI 1) dX7_flies_84 kI_1 ?_
              refine v_iaddN (pc := 85) dX7_flies_85 ?_
              refine v_ialdN (pc := 86) (cM_now) (by decide) (by omega) (by decide) dX7_flies_86 ?_
              refine v_iastN (pc := 87) (cM_now) (by decide) (by omega) (by decide) dX7_flies_87 (wM_now) ?_
              refine v_iincN (pc := 88) 4 [1, 2, 3, 4, 0] [(0, _), (1, _), (2, _), (3, _), (4, _)] kI_1 dX7_flies_88 rfl (by decide) rfl ?_
              refine v_goto (pc := 91) (tgt := 65) dX7_flies_91 rfl ?_
              exact ih
        · exact v_vret (pc := 52) dX7_flies_52 (⟨rfl, by rw [show m_fly xW fr to n = _ from if_pos (Or.inr (by rw [hm]; exact c_49)), hm]⟩)
  · refine v_bipush (pc := 7) (nI 15) dX7_flies_7 kB_15 ?_
    refine v_goto (pc := 9) (tgt := 15) dX7_flies_9 rfl ?_
    rw [show nI 15 = plN fr from (if_pos c_4).symm]
    refine v_dup2 (pc := 15) dX7_flies_15 rfl rfl ?_
    refine v_iald (pc := 16) (cM_now) (by decide) (plc_vp h1) dX7_flies_16 ?_
    refine v_iload_n (pc := 17) 3 dX7_flies_17 rfl rfl ?_
    refine v_isub (pc := 18) dX7_flies_18 ?_
    refine v_iast (pc := 19) (cM_now) (by decide) (plc_vp h1) dX7_flies_19 (wM_now) ?_
    refine v_aload_n (pc := 20) 0 dX7_flies_20 rfl rfl ?_
    refine v_iload_n (pc := 21) 2 dX7_flies_21 rfl rfl ?_
    refine v_bipush (pc := 22) (-2) dX7_flies_22 kB_m2 ?_
    refine v_icmp_ne (pc := 24) (tgt := 32) dX7_flies_24 rfl (fun c_24 => ?_) (fun c_24 => ?_)
    · refine v_iconst (pc := 32) (nI 0) dX7_flies_32 kI_0 ?_
      refine v_iload_n (pc := 33) 2 dX7_flies_33 rfl rfl ?_
      refine v_iadd (pc := 34) dX7_flies_34 ?_
      rw [show nI 0 + to = plN to from (if_neg c_24).symm]
      refine v_dup2 (pc := 35) dX7_flies_35 rfl rfl ?_
      refine v_iald (pc := 36) (cM_now) (by decide) (plc_vp h2) dX7_flies_36 ?_
      refine v_iload_n (pc := 37) 3 dX7_flies_37 rfl rfl ?_
      refine v_iadd (pc := 38) dX7_flies_38 ?_
      refine v_iast (pc := 39) (cM_now) (by decide) (plc_vp h2) dX7_flies_39 (wM_now) ?_
      show V E X _ RX7 _ _ _ _ _ _ false 146 40 _ [] (cellOf E (c, (mkA xP xR (m_mv xW fr to n) xS xZ xG xK xT xQ xF xB xL xC, (nI un, nI sz, ft, nI wm, nI fm, nI bm, nI at_, nI bg, sg, nI fg, vl, wr), sd)))
      have htm := m_mv_trc ht (n := n) h1 h2
      generalize hm : m_mv xW fr to n = s2 at htm ⊢
      refine v_iload_n (pc := 40) 3 dX7_flies_40 rfl rfl ?_
      refine v_if_eq (pc := 41) (tgt := 52) dX7_flies_41 rfl (fun c_41 => ?_) (fun c_41 => ?_)
      · exact v_vret (pc := 52) dX7_flies_52 (⟨rfl, by rw [show m_fly xW fr to n = _ from if_pos (Or.inl c_41), hm]⟩)
      · refine v_aload_n (pc := 44) 0 dX7_flies_44 rfl rfl ?_
        refine v_bipush (pc := 45) (nI 26) dX7_flies_45 kB_26 ?_
        refine v_ialdN (pc := 47) (cM_now) (by decide) (by omega) (by decide) dX7_flies_47 ?_
        refine v_iload_n (pc := 48) 1 dX7_flies_48 rfl rfl ?_
        refine v_icmp_eq (pc := 49) (tgt := 53) dX7_flies_49 rfl (fun c_49 => ?_) (fun c_49 => ?_)
        · refine v_aload_n (pc := 53) 0 dX7_flies_53 rfl rfl ?_
          refine v_bipush (pc := 54) (nI 27) dX7_flies_54 kB_27 ?_
          refine v_ialdN (pc := 56) (cM_now) (by decide) (by omega) (by decide) dX7_flies_56 ?_
          refine v_bipush (pc := 57) (nI 20) dX7_flies_57 kB_20 ?_
          refine v_icmp_ne (pc := 59) (tgt := 102) dX7_flies_59 rfl (fun c_59 => ?_) (fun c_59 => ?_)
          · have h116 := m_tr_vp htm (to := to)
            rw [show m_tr0 s2 = s2 from if_neg c_59] at h116
            refine v_aload_n (pc := 102) 0 dX7_flies_102 rfl rfl ?_
            refine v_bipush (pc := 103) (nI 26) dX7_flies_103 kB_26 ?_
            refine v_iload_n (pc := 105) 2 dX7_flies_105 rfl rfl ?_
            refine v_iastN (pc := 106) (cM_now) (by decide) (by omega) (by decide) dX7_flies_106 (wM_now) ?_
            refine v_aload_n (pc := 107) 0 dX7_flies_107 rfl rfl ?_
            refine v_bipush (pc := 108) (nI 28) dX7_flies_108 kB_28 ?_
            refine v_aload_n (pc := 110) 0 dX7_flies_110 rfl rfl ?_
            refine v_bipush (pc := 111) (nI 27) dX7_flies_111 kB_27 ?_
            refine v_ialdN (pc := 113) (cM_now) (by decide) (by omega) (by decide) dX7_flies_113 ?_
            refine v_iadd (pc := 114) dX7_flies_114 ?_
            refine v_iload_n (pc := 115) 2 dX7_flies_115 rfl rfl ?_
            refine v_iast (pc := 116) (cM_now) (by decide) (h116) dX7_flies_116 (wM_now) ?_
            refine v_aload_n (pc := 117) 0 dX7_flies_117 rfl rfl ?_
            refine v_bipush (pc := 118) (nI 27) dX7_flies_118 kB_27 ?_
            refine v_dup2 (pc := 120) dX7_flies_120 rfl rfl ?_
            refine v_ialdN (pc := 121) (cM_now) (by decide) (by omega) (by decide) dX7_flies_121 ?_
            refine v_iconst (pc := 122) (nI 1) dX7_flies_122 kI_1 ?_
            refine v_iadd (pc := 123) dX7_flies_123 ?_
            refine v_iastN (pc := 124) (cM_now) (by decide) (by omega) (by decide) dX7_flies_124 (wM_now) ?_
            exact v_vret (pc := 125) dX7_flies_125 (⟨rfl, by rw [show m_fly xW fr to n = _ from if_neg (by rintro (q | q); exact c_41 q; rw [hm] at q; exact q c_49), hm]; unfold m_tr m_tr1; rw [show m_tr0 s2 = s2 from if_neg c_59]⟩)
          · refine v_iconst (pc := 62) (nI 0) dX7_flies_62 kI_0 ?_
            refine v_istore (pc := 63) [1, 2, 3, 4, 0] [(0, _), (1, _), (2, _), (3, _), (4, _)] dX7_flies_63 (by decide) rfl ?_
            refine dn (P := fun e => V E X ({ frames := 0, cells := 0, slots := 0, locals := 0 } : Room) RX7 cX7_flies 5 none 0 0 (QX E X false 146 (Ff none (cellOf E (c, (mkA xP xR (m_fly xW fr to n) xS xZ xG xK xT xQ xF xB xL xC, (nI un, nI sz, ft, nI wm, nI fm, nI bm, nI at_, nI bg, sg, nI fg, vl, wr), sd)))) 0 0) false 146 65 [(0, .ref (Ez E + 135)), (1, .int fr), (2, .int to), (3, .int n), (4, .int (nI e))] [] (cellOf E (c, (mkA xP xR (itn (fun k f => upd f (28 + k) (f (28 + k + 1))) e s2) xS xZ xG xK xT xQ xF xB xL xC, (nI un, nI sz, ft, nI wm, nI fm, nI bm, nI at_, nI bg, sg, nI fg, vl, wr), sd)))) (N := 19) ?_ ?_
            · generalize hsh : itn (fun k f => upd f (28 + k) (f (28 + k + 1))) 19 s2 = f9 
              show V E X _ RX7 _ _ _ _ _ _ false 146 _ [(0, .ref (Ez E + 135)), (1, .int fr), (2, .int to), (3, .int n), (4, .int (nI 19))] [] (cellOf E (c, (mkA xP xR f9 xS xZ xG xK xT xQ xF xB xL xC, (nI un, nI sz, ft, nI wm, nI fm, nI bm, nI at_, nI bg, sg, nI fg, vl, wr), sd)))
              refine v_iload (pc := 65) 4 dX7_flies_65 rfl ?_
              refine v_bipush (pc := 67) (nI 19) dX7_flies_67 kB_19 ?_
              refine v_icmp_geN (pc := 69) (by omega) (by omega) (tgt := 94) dX7_flies_69 rfl (fun c_69 => ?_) (fun c_69 => False.elim ((fun c => by omega) c_69))
              refine v_aload_n (pc := 94) 0 dX7_flies_94 rfl rfl ?_
              refine v_bipush (pc := 95) (nI 27) dX7_flies_95 kB_27 ?_
              refine v_dup2 (pc := 97) dX7_flies_97 rfl rfl ?_
              refine v_ialdN (pc := 98) (cM_now) (by decide) (by omega) (by decide) dX7_flies_98 ?_
              refine v_iconst (pc := 99) (nI 1) dX7_flies_99 kI_1 ?_
              refine v_isub (pc := 100) dX7_flies_100 ?_
              refine v_iastN (pc := 101) (cM_now) (by decide) (by omega) (by decide) dX7_flies_101 (wM_now) ?_
              have h116 := m_tr_vp htm (to := to)
              rw [show m_tr0 s2 = upd f9 27 (f9 27 - nI 1) from by unfold m_tr0; rw [if_pos c_59, show m_shift s2 = f9 from hsh]] at h116
              refine v_aload_n (pc := 102) 0 dX7_flies_102 rfl rfl ?_
              refine v_bipush (pc := 103) (nI 26) dX7_flies_103 kB_26 ?_
              refine v_iload_n (pc := 105) 2 dX7_flies_105 rfl rfl ?_
              refine v_iastN (pc := 106) (cM_now) (by decide) (by omega) (by decide) dX7_flies_106 (wM_now) ?_
              refine v_aload_n (pc := 107) 0 dX7_flies_107 rfl rfl ?_
              refine v_bipush (pc := 108) (nI 28) dX7_flies_108 kB_28 ?_
              refine v_aload_n (pc := 110) 0 dX7_flies_110 rfl rfl ?_
              refine v_bipush (pc := 111) (nI 27) dX7_flies_111 kB_27 ?_
              refine v_ialdN (pc := 113) (cM_now) (by decide) (by omega) (by decide) dX7_flies_113 ?_
              refine v_iadd (pc := 114) dX7_flies_114 ?_
              refine v_iload_n (pc := 115) 2 dX7_flies_115 rfl rfl ?_
              refine v_iast (pc := 116) (cM_now) (by decide) (h116) dX7_flies_116 (wM_now) ?_
              refine v_aload_n (pc := 117) 0 dX7_flies_117 rfl rfl ?_
              refine v_bipush (pc := 118) (nI 27) dX7_flies_118 kB_27 ?_
              refine v_dup2 (pc := 120) dX7_flies_120 rfl rfl ?_
              refine v_ialdN (pc := 121) (cM_now) (by decide) (by omega) (by decide) dX7_flies_121 ?_
              refine v_iconst (pc := 122) (nI 1) dX7_flies_122 kI_1 ?_
              refine v_iadd (pc := 123) dX7_flies_123 ?_
              refine v_iastN (pc := 124) (cM_now) (by decide) (by omega) (by decide) dX7_flies_124 (wM_now) ?_
              exact v_vret (pc := 125) dX7_flies_125 (⟨rfl, by rw [show m_fly xW fr to n = _ from if_neg (by rintro (q | q); exact c_41 q; rw [hm] at q; exact q c_49), hm]; unfold m_tr m_tr1; rw [show m_tr0 s2 = upd f9 27 (f9 27 - nI 1) from by unfold m_tr0; rw [if_pos c_59, show m_shift s2 = f9 from hsh]]⟩)
            · intro e he ih
              have ih : V E X ({ frames := 0, cells := 0, slots := 0, locals := 0 } : Room) RX7 cX7_flies 5 none 0 0 (QX E X false 146 (Ff none (cellOf E (c, (mkA xP xR (m_fly xW fr to n) xS xZ xG xK xT xQ xF xB xL xC, (nI un, nI sz, ft, nI wm, nI fm, nI bm, nI at_, nI bg, sg, nI fg, vl, wr), sd)))) 0 0) false 146 65 [(0, .ref (Ez E + 135)), (1, .int fr), (2, .int to), (3, .int n), (4, .int (nI (e + 1)))] [] (cellOf E (c, (mkA xP xR (upd (itn (fun k f => upd f (28 + k) (f (28 + k + 1))) e s2) (28 + e) ((itn (fun k f => upd f (28 + k) (f (28 + k + 1))) e s2) (28 + e + 1))) xS xZ xG xK xT xQ xF xB xL xC, (nI un, nI sz, ft, nI wm, nI fm, nI bm, nI at_, nI bg, sg, nI fg, vl, wr), sd))) := by rw [itn_s] at ih; exact ih
              generalize itn (fun k f => upd f (28 + k) (f (28 + k + 1))) e s2 = f1 at ih ⊢
              show V E X _ RX7 _ _ _ _ _ _ false 146 _ [(0, .ref (Ez E + 135)), (1, .int fr), (2, .int to), (3, .int n), (4, .int (nI e))] [] (cellOf E (c, (mkA xP xR f1 xS xZ xG xK xT xQ xF xB xL xC, (nI un, nI sz, ft, nI wm, nI fm, nI bm, nI at_, nI bg, sg, nI fg, vl, wr), sd)))
              refine v_iload (pc := 65) 4 dX7_flies_65 rfl ?_
              refine v_bipush (pc := 67) (nI 19) dX7_flies_67 kB_19 ?_
              refine v_icmp_geN (pc := 69) (by omega) (by omega) (tgt := 94) dX7_flies_69 rfl (fun c_69 => False.elim ((fun c => by omega) c_69)) (fun c_69 => ?_)
              refine v_aload_n (pc := 72) 0 dX7_flies_72 rfl rfl ?_
              refine v_bipush (pc := 73) (nI 28) dX7_flies_73 kB_28 ?_
              refine v_iload (pc := 75) 4 dX7_flies_75 rfl ?_
              refine v_iaddN (pc := 77) dX7_flies_77 ?_
              refine v_aload_n (pc := 78) 0 dX7_flies_78 rfl rfl ?_
              refine v_bipush (pc := 79) (nI 28) dX7_flies_79 kB_28 ?_
              refine v_iload (pc := 81) 4 dX7_flies_81 rfl ?_
              refine v_iaddN (pc := 83) dX7_flies_83 ?_
              refine v_iconst (pc := 84) (nI 1) dX7_flies_84 kI_1 ?_
              refine v_iaddN (pc := 85) dX7_flies_85 ?_
              refine v_ialdN (pc := 86) (cM_now) (by decide) (by omega) (by decide) dX7_flies_86 ?_
              refine v_iastN (pc := 87) (cM_now) (by decide) (by omega) (by decide) dX7_flies_87 (wM_now) ?_
              refine v_iincN (pc := 88) 4 [1, 2, 3, 4, 0] [(0, _), (1, _), (2, _), (3, _), (4, _)] kI_1 dX7_flies_88 rfl (by decide) rfl ?_
              refine v_goto (pc := 91) (tgt := 65) dX7_flies_91 rfl ?_
              exact ih
        · exact v_vret (pc := 52) dX7_flies_52 (⟨rfl, by rw [show m_fly xW fr to n = _ from if_pos (Or.inr (by rw [hm]; exact c_49)), hm]⟩)
    · refine v_bipush (pc := 27) (nI 15) dX7_flies_27 kB_15 ?_
      refine v_goto (pc := 29) (tgt := 35) dX7_flies_29 rfl ?_
      rw [show nI 15 = plN to from (if_pos c_24).symm]
      refine v_dup2 (pc := 35) dX7_flies_35 rfl rfl ?_
      refine v_iald (pc := 36) (cM_now) (by decide) (plc_vp h2) dX7_flies_36 ?_
      refine v_iload_n (pc := 37) 3 dX7_flies_37 rfl rfl ?_
      refine v_iadd (pc := 38) dX7_flies_38 ?_
      refine v_iast (pc := 39) (cM_now) (by decide) (plc_vp h2) dX7_flies_39 (wM_now) ?_
      show V E X _ RX7 _ _ _ _ _ _ false 146 40 _ [] (cellOf E (c, (mkA xP xR (m_mv xW fr to n) xS xZ xG xK xT xQ xF xB xL xC, (nI un, nI sz, ft, nI wm, nI fm, nI bm, nI at_, nI bg, sg, nI fg, vl, wr), sd)))
      have htm := m_mv_trc ht (n := n) h1 h2
      generalize hm : m_mv xW fr to n = s2 at htm ⊢
      refine v_iload_n (pc := 40) 3 dX7_flies_40 rfl rfl ?_
      refine v_if_eq (pc := 41) (tgt := 52) dX7_flies_41 rfl (fun c_41 => ?_) (fun c_41 => ?_)
      · exact v_vret (pc := 52) dX7_flies_52 (⟨rfl, by rw [show m_fly xW fr to n = _ from if_pos (Or.inl c_41), hm]⟩)
      · refine v_aload_n (pc := 44) 0 dX7_flies_44 rfl rfl ?_
        refine v_bipush (pc := 45) (nI 26) dX7_flies_45 kB_26 ?_
        refine v_ialdN (pc := 47) (cM_now) (by decide) (by omega) (by decide) dX7_flies_47 ?_
        refine v_iload_n (pc := 48) 1 dX7_flies_48 rfl rfl ?_
        refine v_icmp_eq (pc := 49) (tgt := 53) dX7_flies_49 rfl (fun c_49 => ?_) (fun c_49 => ?_)
        · refine v_aload_n (pc := 53) 0 dX7_flies_53 rfl rfl ?_
          refine v_bipush (pc := 54) (nI 27) dX7_flies_54 kB_27 ?_
          refine v_ialdN (pc := 56) (cM_now) (by decide) (by omega) (by decide) dX7_flies_56 ?_
          refine v_bipush (pc := 57) (nI 20) dX7_flies_57 kB_20 ?_
          refine v_icmp_ne (pc := 59) (tgt := 102) dX7_flies_59 rfl (fun c_59 => ?_) (fun c_59 => ?_)
          · have h116 := m_tr_vp htm (to := to)
            rw [show m_tr0 s2 = s2 from if_neg c_59] at h116
            refine v_aload_n (pc := 102) 0 dX7_flies_102 rfl rfl ?_
            refine v_bipush (pc := 103) (nI 26) dX7_flies_103 kB_26 ?_
            refine v_iload_n (pc := 105) 2 dX7_flies_105 rfl rfl ?_
            refine v_iastN (pc := 106) (cM_now) (by decide) (by omega) (by decide) dX7_flies_106 (wM_now) ?_
            refine v_aload_n (pc := 107) 0 dX7_flies_107 rfl rfl ?_
            refine v_bipush (pc := 108) (nI 28) dX7_flies_108 kB_28 ?_
            refine v_aload_n (pc := 110) 0 dX7_flies_110 rfl rfl ?_
            refine v_bipush (pc := 111) (nI 27) dX7_flies_111 kB_27 ?_
            refine v_ialdN (pc := 113) (cM_now) (by decide) (by omega) (by decide) dX7_flies_113 ?_
            refine v_iadd (pc := 114) dX7_flies_114 ?_
            refine v_iload_n (pc := 115) 2 dX7_flies_115 rfl rfl ?_
            refine v_iast (pc := 116) (cM_now) (by decide) (h116) dX7_flies_116 (wM_now) ?_
            refine v_aload_n (pc := 117) 0 dX7_flies_117 rfl rfl ?_
            refine v_bipush (pc := 118) (nI 27) dX7_flies_118 kB_27 ?_
            refine v_dup2 (pc := 120) dX7_flies_120 rfl rfl ?_
            refine v_ialdN (pc := 121) (cM_now) (by decide) (by omega) (by decide) dX7_flies_121 ?_
            refine v_iconst (pc := 122) (nI 1) dX7_flies_122 kI_1 ?_
            refine v_iadd (pc := 123) dX7_flies_123 ?_
            refine v_iastN (pc := 124) (cM_now) (by decide) (by omega) (by decide) dX7_flies_124 (wM_now) ?_
            exact v_vret (pc := 125) dX7_flies_125 (⟨rfl, by rw [show m_fly xW fr to n = _ from if_neg (by rintro (q | q); exact c_41 q; rw [hm] at q; exact q c_49), hm]; unfold m_tr m_tr1; rw [show m_tr0 s2 = s2 from if_neg c_59]⟩)
          · refine v_iconst (pc := 62) (nI 0) dX7_flies_62 kI_0 ?_
            refine v_istore (pc := 63) [1, 2, 3, 4, 0] [(0, _), (1, _), (2, _), (3, _), (4, _)] dX7_flies_63 (by decide) rfl ?_
            refine dn (P := fun e => V E X ({ frames := 0, cells := 0, slots := 0, locals := 0 } : Room) RX7 cX7_flies 5 none 0 0 (QX E X false 146 (Ff none (cellOf E (c, (mkA xP xR (m_fly xW fr to n) xS xZ xG xK xT xQ xF xB xL xC, (nI un, nI sz, ft, nI wm, nI fm, nI bm, nI at_, nI bg, sg, nI fg, vl, wr), sd)))) 0 0) false 146 65 [(0, .ref (Ez E + 135)), (1, .int fr), (2, .int to), (3, .int n), (4, .int (nI e))] [] (cellOf E (c, (mkA xP xR (itn (fun k f => upd f (28 + k) (f (28 + k + 1))) e s2) xS xZ xG xK xT xQ xF xB xL xC, (nI un, nI sz, ft, nI wm, nI fm, nI bm, nI at_, nI bg, sg, nI fg, vl, wr), sd)))) (N := 19) ?_ ?_
            · generalize hsh : itn (fun k f => upd f (28 + k) (f (28 + k + 1))) 19 s2 = f9 
              show V E X _ RX7 _ _ _ _ _ _ false 146 _ [(0, .ref (Ez E + 135)), (1, .int fr), (2, .int to), (3, .int n), (4, .int (nI 19))] [] (cellOf E (c, (mkA xP xR f9 xS xZ xG xK xT xQ xF xB xL xC, (nI un, nI sz, ft, nI wm, nI fm, nI bm, nI at_, nI bg, sg, nI fg, vl, wr), sd)))
              refine v_iload (pc := 65) 4 dX7_flies_65 rfl ?_
              refine v_bipush (pc := 67) (nI 19) dX7_flies_67 kB_19 ?_
              refine v_icmp_geN (pc := 69) (by omega) (by omega) (tgt := 94) dX7_flies_69 rfl (fun c_69 => ?_) (fun c_69 => False.elim ((fun c => by omega) c_69))
              refine v_aload_n (pc := 94) 0 dX7_flies_94 rfl rfl ?_
              refine v_bipush (pc := 95) (nI 27) dX7_flies_95 kB_27 ?_
              refine v_dup2 (pc := 97) dX7_flies_97 rfl rfl ?_
              refine v_ialdN (pc := 98) (cM_now) (by decide) (by omega) (by decide) dX7_flies_98 ?_
              refine v_iconst (pc := 99) (nI 1) dX7_flies_99 kI_1 ?_
              refine v_isub (pc := 100) dX7_flies_100 ?_
              refine v_iastN (pc := 101) (cM_now) (by decide) (by omega) (by decide) dX7_flies_101 (wM_now) ?_
              have h116 := m_tr_vp htm (to := to)
              rw [show m_tr0 s2 = upd f9 27 (f9 27 - nI 1) from by unfold m_tr0; rw [if_pos c_59, show m_shift s2 = f9 from hsh]] at h116
              refine v_aload_n (pc := 102) 0 dX7_flies_102 rfl rfl ?_
              refine v_bipush (pc := 103) (nI 26) dX7_flies_103 kB_26 ?_
              refine v_iload_n (pc := 105) 2 dX7_flies_105 rfl rfl ?_
              refine v_iastN (pc := 106) (cM_now) (by decide) (by omega) (by decide) dX7_flies_106 (wM_now) ?_
              refine v_aload_n (pc := 107) 0 dX7_flies_107 rfl rfl ?_
              refine v_bipush (pc := 108) (nI 28) dX7_flies_108 kB_28 ?_
              refine v_aload_n (pc := 110) 0 dX7_flies_110 rfl rfl ?_
              refine v_bipush (pc := 111) (nI 27) dX7_flies_111 kB_27 ?_
              refine v_ialdN (pc := 113) (cM_now) (by decide) (by omega) (by decide) dX7_flies_113 ?_
              refine v_iadd (pc := 114) dX7_flies_114 ?_
              refine v_iload_n (pc := 115) 2 dX7_flies_115 rfl rfl ?_
              refine v_iast (pc := 116) (cM_now) (by decide) (h116) dX7_flies_116 (wM_now) ?_
              refine v_aload_n (pc := 117) 0 dX7_flies_117 rfl rfl ?_
              refine v_bipush (pc := 118) (nI 27) dX7_flies_118 kB_27 ?_
              refine v_dup2 (pc := 120) dX7_flies_120 rfl rfl ?_
              refine v_ialdN (pc := 121) (cM_now) (by decide) (by omega) (by decide) dX7_flies_121 ?_
              refine v_iconst (pc := 122) (nI 1) dX7_flies_122 kI_1 ?_
              refine v_iadd (pc := 123) dX7_flies_123 ?_
              refine v_iastN (pc := 124) (cM_now) (by decide) (by omega) (by decide) dX7_flies_124 (wM_now) ?_
              exact v_vret (pc := 125) dX7_flies_125 (⟨rfl, by rw [show m_fly xW fr to n = _ from if_neg (by rintro (q | q); exact c_41 q; rw [hm] at q; exact q c_49), hm]; unfold m_tr m_tr1; rw [show m_tr0 s2 = upd f9 27 (f9 27 - nI 1) from by unfold m_tr0; rw [if_pos c_59, show m_shift s2 = f9 from hsh]]⟩)
            · intro e he ih
              have ih : V E X ({ frames := 0, cells := 0, slots := 0, locals := 0 } : Room) RX7 cX7_flies 5 none 0 0 (QX E X false 146 (Ff none (cellOf E (c, (mkA xP xR (m_fly xW fr to n) xS xZ xG xK xT xQ xF xB xL xC, (nI un, nI sz, ft, nI wm, nI fm, nI bm, nI at_, nI bg, sg, nI fg, vl, wr), sd)))) 0 0) false 146 65 [(0, .ref (Ez E + 135)), (1, .int fr), (2, .int to), (3, .int n), (4, .int (nI (e + 1)))] [] (cellOf E (c, (mkA xP xR (upd (itn (fun k f => upd f (28 + k) (f (28 + k + 1))) e s2) (28 + e) ((itn (fun k f => upd f (28 + k) (f (28 + k + 1))) e s2) (28 + e + 1))) xS xZ xG xK xT xQ xF xB xL xC, (nI un, nI sz, ft, nI wm, nI fm, nI bm, nI at_, nI bg, sg, nI fg, vl, wr), sd))) := by rw [itn_s] at ih; exact ih
              generalize itn (fun k f => upd f (28 + k) (f (28 + k + 1))) e s2 = f1 at ih ⊢
              show V E X _ RX7 _ _ _ _ _ _ false 146 _ [(0, .ref (Ez E + 135)), (1, .int fr), (2, .int to), (3, .int n), (4, .int (nI e))] [] (cellOf E (c, (mkA xP xR f1 xS xZ xG xK xT xQ xF xB xL xC, (nI un, nI sz, ft, nI wm, nI fm, nI bm, nI at_, nI bg, sg, nI fg, vl, wr), sd)))
              refine v_iload (pc := 65) 4 dX7_flies_65 rfl ?_
              refine v_bipush (pc := 67) (nI 19) dX7_flies_67 kB_19 ?_
              refine v_icmp_geN (pc := 69) (by omega) (by omega) (tgt := 94) dX7_flies_69 rfl (fun c_69 => False.elim ((fun c => by omega) c_69)) (fun c_69 => ?_)
              refine v_aload_n (pc := 72) 0 dX7_flies_72 rfl rfl ?_
              refine v_bipush (pc := 73) (nI 28) dX7_flies_73 kB_28 ?_
              refine v_iload (pc := 75) 4 dX7_flies_75 rfl ?_
              refine v_iaddN (pc := 77) dX7_flies_77 ?_
              refine v_aload_n (pc := 78) 0 dX7_flies_78 rfl rfl ?_
              refine v_bipush (pc := 79) (nI 28) dX7_flies_79 kB_28 ?_
              refine v_iload (pc := 81) 4 dX7_flies_81 rfl ?_
              refine v_iaddN (pc := 83) dX7_flies_83 ?_
              refine v_iconst (pc := 84) (nI 1) dX7_flies_84 kI_1 ?_
              refine v_iaddN (pc := 85) dX7_flies_85 ?_
              refine v_ialdN (pc := 86) (cM_now) (by decide) (by omega) (by decide) dX7_flies_86 ?_
              refine v_iastN (pc := 87) (cM_now) (by decide) (by omega) (by decide) dX7_flies_87 (wM_now) ?_
              refine v_iincN (pc := 88) 4 [1, 2, 3, 4, 0] [(0, _), (1, _), (2, _), (3, _), (4, _)] kI_1 dX7_flies_88 rfl (by decide) rfl ?_
              refine v_goto (pc := 91) (tgt := 65) dX7_flies_91 rfl ?_
              exact ih
        · exact v_vret (pc := 52) dX7_flies_52 (⟨rfl, by rw [show m_fly xW fr to n = _ from if_pos (Or.inr (by rw [hm]; exact c_49)), hm]⟩)
set_option maxHeartbeats 4000000 in
set_option maxRecDepth 100000 in
theorem m_lossOnS {E : Ev} {c : CSt} {xP xR xW xS xZ xG xK xT xQ xF xB xL xC : Fn} {un sz wm fm bm at_ bg fg : Nat} {ft sg vl wr : Int32} {sd : Int64} {i : Nat} (hi : i < 7) : Ct E yX7_lossOn cX7_lossOn 3 (some .int) ({ frames := 2, cells := 0, slots := 0, locals := 43 } : Room) false 146 [.ref (Ez E + 132), .ref (Ez E + 136), .int (nI i)] (cellOf E (c, (mkA xP xR xW xS xZ xG xK xT xQ xF xB xL xC, (nI un, nI sz, ft, nI wm, nI fm, nI bm, nI at_, nI bg, sg, nI fg, vl, wr), sd))) 146 0 0 (Ff (some (.int (loI xP xS i))) (cellOf E (c, (mkA xP xR xW xS xZ xG xK xT xQ xF xB xL xC, (nI un, nI sz, ft, nI wm, nI fm, nI bm, nI at_, nI bg, sg, nI fg, vl, wr), sd)))) := by
  refine Ct.ofV (by decide) (Nat.le_of_ble_eq_true rfl) (fun X hnm => ?_)
  show V E X _ RX7 _ _ _ _ _ _ false 146 0 [(0, .ref (Ez E + 132)), (1, .ref (Ez E + 136)), (2, .int (nI i))] [] _
  refine v_aload_n (pc := 0) 1 dX7_lossOn_0 rfl rfl ?_
  refine v_bipush (pc := 1) (nI 14) dX7_lossOn_1 kB_14 ?_
  refine v_ialdN (pc := 3) (cM_aside) (by decide) (by omega) (by decide) dX7_lossOn_3 ?_
  refine v_iload_n (pc := 4) 2 dX7_lossOn_4 rfl rfl ?_
  refine v_callS (pc := 5) _ _ k_X7_142 (m_has _ _) ⟨rfl, rfl, by decide⟩ rfl rfl (Nat.le_of_ble_eq_true rfl) ⟨Nat.le_of_ble_eq_true rfl, Nat.le_of_ble_eq_true rfl⟩ dX7_lossOn_5 (unS ?_)
  show V E X _ RX7 _ _ _ 0 0 _ false 146 8 _ [_] _
  refine v_if_eqB (pc := 8) (tgt := 15) dX7_lossOn_8 rfl (fun c_8 => ?_) (fun c_8 => ?_)
  · refine v_aload_n (pc := 15) 0 dX7_lossOn_15 rfl rfl ?_
    refine g_X7_7 (pc := 16) (cMr_obj) (by decide) rfl dX7_lossOn_16 ?_
    refine v_iconst (pc := 19) (nI 4) dX7_lossOn_19 kI_4 ?_
    refine v_iload_n (pc := 20) 2 dX7_lossOn_20 rfl rfl ?_
    refine v_iaddN (pc := 21) dX7_lossOn_21 ?_
    refine v_ialdN (pc := 22) (cM_parish) (by decide) (by omega) (by decide) dX7_lossOn_22 ?_
    refine v_aload_n (pc := 23) 1 dX7_lossOn_23 rfl rfl ?_
    refine v_iconst (pc := 24) (nI 0) dX7_lossOn_24 kI_0 ?_
    refine v_iload_n (pc := 25) 2 dX7_lossOn_25 rfl rfl ?_
    refine v_iaddN (pc := 26) dX7_lossOn_26 ?_
    refine v_ialdN (pc := 27) (cM_aside) (by decide) (by omega) (by decide) dX7_lossOn_27 ?_
    refine v_aload_n (pc := 28) 1 dX7_lossOn_28 rfl rfl ?_
    refine v_bipush (pc := 29) (nI 7) dX7_lossOn_29 kB_7 ?_
    refine v_iload_n (pc := 31) 2 dX7_lossOn_31 rfl rfl ?_
    refine v_iaddN (pc := 32) dX7_lossOn_32 ?_
    refine v_ialdN (pc := 33) (cM_aside) (by decide) (by omega) (by decide) dX7_lossOn_33 ?_
    refine v_if_le (pc := 34) (tgt := 41) dX7_lossOn_34 rfl (fun c_34 => ?_) (fun c_34 => ?_)
    · refine v_iconst (pc := 41) (nI 0) dX7_lossOn_41 kI_0 ?_
      refine v_callS (pc := 42) _ _ k_X7_146 (m_lossBy _ _ false) ⟨rfl, rfl, by decide⟩ rfl rfl (Nat.le_of_ble_eq_true rfl) ⟨Nat.le_of_ble_eq_true rfl, Nat.le_of_ble_eq_true rfl⟩ dX7_lossOn_42 (unS ?_)
      show V E X _ RX7 _ _ _ 0 0 _ false 146 45 _ [_] _
      exact v_iret (pc := 45) dX7_lossOn_45 (⟨by unfold loI; rw [if_neg (by rw [c_8]; decide)]; first | (rw [show decide (¬ xS (7 + i) ≤ 0) = false from decide_eq_false (fun q => q c_34)] <;> rfl) | (rw [show decide (¬ xS (7 + i) ≤ 0) = true from decide_eq_true c_34] <;> rfl), rfl⟩)
    · refine v_iconst (pc := 37) (nI 1) dX7_lossOn_37 kI_1 ?_
      refine v_goto (pc := 38) (tgt := 42) dX7_lossOn_38 rfl ?_
      refine v_callS (pc := 42) _ _ k_X7_146 (m_lossBy _ _ true) ⟨rfl, rfl, by decide⟩ rfl rfl (Nat.le_of_ble_eq_true rfl) ⟨Nat.le_of_ble_eq_true rfl, Nat.le_of_ble_eq_true rfl⟩ dX7_lossOn_42 (unS ?_)
      show V E X _ RX7 _ _ _ 0 0 _ false 146 45 _ [_] _
      exact v_iret (pc := 45) dX7_lossOn_45 (⟨by unfold loI; rw [if_neg (by rw [c_8]; decide)]; first | (rw [show decide (¬ xS (7 + i) ≤ 0) = false from decide_eq_false (fun q => q c_34)] <;> rfl) | (rw [show decide (¬ xS (7 + i) ≤ 0) = true from decide_eq_true c_34] <;> rfl), rfl⟩)
  · refine v_iconst (pc := 11) (nI 0) dX7_lossOn_11 kI_0 ?_
    refine v_goto (pc := 12) (tgt := 45) dX7_lossOn_12 rfl ?_
    exact v_iret (pc := 45) dX7_lossOn_45 (⟨by unfold loI; rw [if_pos c_8], rfl⟩)
set_option maxHeartbeats 4000000 in
set_option maxRecDepth 100000 in
theorem m_drawerS {E : Ev} {c : CSt} {xP xR xW xS xZ xG xK xT xQ xF xB xL xC : Fn} {un sz wm fm bm at_ bg fg : Nat} {ft sg vl wr : Int32} {sd : Int64} {np : Nat} (hp : xP 2 = nI np) (hnp : np ≤ 7) : Ct E yX7_drawerOn cX7_drawerOn 4 (some .int) ({ frames := 0, cells := 0, slots := 0, locals := 0 } : Room) false 146 [.ref (Ez E + 132), .ref (Ez E + 136)] (cellOf E (c, (mkA xP xR xW xS xZ xG xK xT xQ xF xB xL xC, (nI un, nI sz, ft, nI wm, nI fm, nI bm, nI at_, nI bg, sg, nI fg, vl, wr), sd))) 146 0 0 (Ff (some (.int (m_drw xS np))) (cellOf E (c, (mkA xP xR xW xS xZ xG xK xT xQ xF xB xL xC, (nI un, nI sz, ft, nI wm, nI fm, nI bm, nI at_, nI bg, sg, nI fg, vl, wr), sd)))) := by
  refine Ct.ofV (by decide) (Nat.le_of_ble_eq_true rfl) (fun X hnm => ?_)
  show V E X _ RX7 _ _ _ _ _ _ false 146 0 [(0, .ref (Ez E + 132)), (1, .ref (Ez E + 136))] [] _
  refine v_bipush (pc := 0) (-2) dX7_drawerOn_0 kB_m2 ?_
  refine v_istore_n (pc := 2) [1, 2, 0] [(0, _), (1, _), (2, _)] dX7_drawerOn_2 rfl (by decide) rfl ?_
  refine v_iconst (pc := 3) (nI 0) dX7_drawerOn_3 kI_0 ?_
  refine v_istore_n (pc := 4) [1, 2, 3, 0] [(0, _), (1, _), (2, _), (3, _)] dX7_drawerOn_4 rfl (by decide) rfl ?_
  refine dn (P := fun i => V E X ({ frames := 0, cells := 0, slots := 0, locals := 0 } : Room) RX7 cX7_drawerOn 4 (some .int) 0 0 (QX E X false 146 (Ff (some (.int (m_drw xS np))) (cellOf E (c, (mkA xP xR xW xS xZ xG xK xT xQ xF xB xL xC, (nI un, nI sz, ft, nI wm, nI fm, nI bm, nI at_, nI bg, sg, nI fg, vl, wr), sd)))) 0 0) false 146 5 [(0, .ref (Ez E + 132)), (1, .ref (Ez E + 136)), (2, .int (itn (st_mdr xS) i (-2))), (3, .int (nI i))] [] (cellOf E (c, (mkA xP xR xW xS xZ xG xK xT xQ xF xB xL xC, (nI un, nI sz, ft, nI wm, nI fm, nI bm, nI at_, nI bg, sg, nI fg, vl, wr), sd)))) (N := np) ?_ ?_
  · refine v_iload_n (pc := 5) 3 dX7_drawerOn_5 rfl rfl ?_
    refine v_aload_n (pc := 6) 0 dX7_drawerOn_6 rfl rfl ?_
    refine g_X7_7 (pc := 7) (cMr_obj) (by decide) rfl dX7_drawerOn_7 ?_
    refine v_iconst (pc := 10) (nI 2) dX7_drawerOn_10 kI_2 ?_
    refine v_ialdN (pc := 11) (cM_parish) (by decide) (by omega) (by decide) dX7_drawerOn_11 ?_
    rw [hp]
    refine v_icmp_geN (pc := 12) (by omega) (by omega) (tgt := 52) dX7_drawerOn_12 rfl (fun c_12 => ?_) (fun c_12 => False.elim ((fun c => by omega) c_12))
    refine v_iload_n (pc := 52) 2 dX7_drawerOn_52 rfl rfl ?_
    exact v_iret (pc := 53) dX7_drawerOn_53 (⟨rfl, rfl⟩)
  · intro i hi ih
    have ih : V E X ({ frames := 0, cells := 0, slots := 0, locals := 0 } : Room) RX7 cX7_drawerOn 4 (some .int) 0 0 (QX E X false 146 (Ff (some (.int (m_drw xS np))) (cellOf E (c, (mkA xP xR xW xS xZ xG xK xT xQ xF xB xL xC, (nI un, nI sz, ft, nI wm, nI fm, nI bm, nI at_, nI bg, sg, nI fg, vl, wr), sd)))) 0 0) false 146 5 [(0, .ref (Ez E + 132)), (1, .ref (Ez E + 136)), (2, .int (st_mdr xS i (itn (st_mdr xS) i (-2)))), (3, .int (nI (i + 1)))] [] (cellOf E (c, (mkA xP xR xW xS xZ xG xK xT xQ xF xB xL xC, (nI un, nI sz, ft, nI wm, nI fm, nI bm, nI at_, nI bg, sg, nI fg, vl, wr), sd))) := by rw [itn_s] at ih; exact ih
    generalize hb : itn (st_mdr xS) i (-2) = b at ih ⊢
    show V E X _ RX7 _ _ _ _ _ _ false 146 _ [(0, .ref (Ez E + 132)), (1, .ref (Ez E + 136)), (2, .int (b)), (3, .int (nI i))] [] (cellOf E (c, (mkA xP xR xW xS xZ xG xK xT xQ xF xB xL xC, (nI un, nI sz, ft, nI wm, nI fm, nI bm, nI at_, nI bg, sg, nI fg, vl, wr), sd)))
    have hbp : plc b := by rw [← hb]; exact m_drw_plc xS i (by omega)
    have hbv : ¬ b = -2 → vp_in (nI 7 + b) 48 := by rcases hbp with rfl | ⟨q, hq, rfl⟩ <;> intro hne; exact absurd rfl hne; rw [nI_add]; exact vp_in_nI (by omega) (by decide)
    refine v_iload_n (pc := 5) 3 dX7_drawerOn_5 rfl rfl ?_
    refine v_aload_n (pc := 6) 0 dX7_drawerOn_6 rfl rfl ?_
    refine g_X7_7 (pc := 7) (cMr_obj) (by decide) rfl dX7_drawerOn_7 ?_
    refine v_iconst (pc := 10) (nI 2) dX7_drawerOn_10 kI_2 ?_
    refine v_ialdN (pc := 11) (cM_parish) (by decide) (by omega) (by decide) dX7_drawerOn_11 ?_
    rw [hp]
    refine v_icmp_geN (pc := 12) (by omega) (by omega) (tgt := 52) dX7_drawerOn_12 rfl (fun c_12 => False.elim ((fun c => by omega) c_12)) (fun c_12 => ?_)
    refine v_aload_n (pc := 15) 1 dX7_drawerOn_15 rfl rfl ?_
    refine v_bipush (pc := 16) (nI 7) dX7_drawerOn_16 kB_7 ?_
    refine v_iload_n (pc := 18) 3 dX7_drawerOn_18 rfl rfl ?_
    refine v_iaddN (pc := 19) dX7_drawerOn_19 ?_
    refine v_ialdN (pc := 20) (cM_aside) (by decide) (by omega) (by decide) dX7_drawerOn_20 ?_
    refine v_iload_n (pc := 21) 2 dX7_drawerOn_21 rfl rfl ?_
    refine v_bipush (pc := 22) (-2) dX7_drawerOn_22 kB_m2 ?_
    refine v_icmp_ne (pc := 24) (tgt := 31) dX7_drawerOn_24 rfl (fun c_24 => ?_) (fun c_24 => ?_)
    · refine v_aload_n (pc := 31) 1 dX7_drawerOn_31 rfl rfl ?_
      refine v_bipush (pc := 32) (nI 7) dX7_drawerOn_32 kB_7 ?_
      refine v_iload_n (pc := 34) 2 dX7_drawerOn_34 rfl rfl ?_
      refine v_iadd (pc := 35) dX7_drawerOn_35 ?_
      refine v_iald (pc := 36) (cM_aside) (by decide) (hbv c_24) dX7_drawerOn_36 ?_
      refine v_icmp_le (pc := 37) (tgt := 44) dX7_drawerOn_37 rfl (fun c_37 => ?_) (fun c_37 => ?_)
      · refine v_iload_n (pc := 44) 2 dX7_drawerOn_44 rfl rfl ?_
        refine v_istore_n (pc := 45) [1, 2, 0, 3] [(0, _), (1, _), (2, _), (3, _)] dX7_drawerOn_45 rfl (by decide) rfl ?_
        refine v_iincN (pc := 46) 3 [1, 2, 3, 0] [(0, _), (1, _), (2, _), (3, _)] kI_1 dX7_drawerOn_46 rfl (by decide) rfl ?_
        refine v_goto (pc := 49) (tgt := 5) dX7_drawerOn_49 rfl ?_
        rw [show st_mdr xS i b = _ from by unfold st_mdr; rw [if_neg c_24]] at ih
        rw [if_pos c_37] at ih
        exact ih
      · refine v_iload_n (pc := 40) 3 dX7_drawerOn_40 rfl rfl ?_
        refine v_goto (pc := 41) (tgt := 45) dX7_drawerOn_41 rfl ?_
        refine v_istore_n (pc := 45) [1, 2, 0, 3] [(0, _), (1, _), (2, _), (3, _)] dX7_drawerOn_45 rfl (by decide) rfl ?_
        refine v_iincN (pc := 46) 3 [1, 2, 3, 0] [(0, _), (1, _), (2, _), (3, _)] kI_1 dX7_drawerOn_46 rfl (by decide) rfl ?_
        refine v_goto (pc := 49) (tgt := 5) dX7_drawerOn_49 rfl ?_
        rw [show st_mdr xS i b = _ from by unfold st_mdr; rw [if_neg c_24]] at ih
        rw [if_neg c_37] at ih
        exact ih
    · refine v_iconst (pc := 27) (nI 0) dX7_drawerOn_27 kI_0 ?_
      refine v_goto (pc := 28) (tgt := 37) dX7_drawerOn_28 rfl ?_
      refine v_icmp_le (pc := 37) (tgt := 44) dX7_drawerOn_37 rfl (fun c_37 => ?_) (fun c_37 => ?_)
      · refine v_iload_n (pc := 44) 2 dX7_drawerOn_44 rfl rfl ?_
        refine v_istore_n (pc := 45) [1, 2, 0, 3] [(0, _), (1, _), (2, _), (3, _)] dX7_drawerOn_45 rfl (by decide) rfl ?_
        refine v_iincN (pc := 46) 3 [1, 2, 3, 0] [(0, _), (1, _), (2, _), (3, _)] kI_1 dX7_drawerOn_46 rfl (by decide) rfl ?_
        refine v_goto (pc := 49) (tgt := 5) dX7_drawerOn_49 rfl ?_
        rw [show st_mdr xS i b = _ from by unfold st_mdr; rw [if_pos c_24]] at ih
        rw [if_pos c_37] at ih
        exact ih
      · refine v_iload_n (pc := 40) 3 dX7_drawerOn_40 rfl rfl ?_
        refine v_goto (pc := 41) (tgt := 45) dX7_drawerOn_41 rfl ?_
        refine v_istore_n (pc := 45) [1, 2, 0, 3] [(0, _), (1, _), (2, _), (3, _)] dX7_drawerOn_45 rfl (by decide) rfl ?_
        refine v_iincN (pc := 46) 3 [1, 2, 3, 0] [(0, _), (1, _), (2, _), (3, _)] kI_1 dX7_drawerOn_46 rfl (by decide) rfl ?_
        refine v_goto (pc := 49) (tgt := 5) dX7_drawerOn_49 rfl ?_
        rw [show st_mdr xS i b = _ from by unfold st_mdr; rw [if_pos c_24]] at ih
        rw [if_neg c_37] at ih
        exact ih
set_option maxHeartbeats 4000000 in
set_option maxRecDepth 100000 in
theorem m_fliesS {E : Ev} {c : CSt} {xP xR xW xS xZ xG xK xT xQ xF xB xL xC : Fn} {un sz wm fm bm at_ bg fg : Nat} {ft sg vl wr : Int32} {sd : Int64} (ht : Trc xS) {fr to : Int32} (h1 : plc fr) (h2 : plc to) (n : Int32) : Ct E yX7_flies cX7_flies 5 none ({ frames := 0, cells := 0, slots := 0, locals := 0 } : Room) false 146 [.ref (Ez E + 136), .int fr, .int to, .int n] (cellOf E (c, (mkA xP xR xW xS xZ xG xK xT xQ xF xB xL xC, (nI un, nI sz, ft, nI wm, nI fm, nI bm, nI at_, nI bg, sg, nI fg, vl, wr), sd))) 146 0 0 (Ff none (cellOf E (c, (mkA xP xR xW (m_fly xS fr to n) xZ xG xK xT xQ xF xB xL xC, (nI un, nI sz, ft, nI wm, nI fm, nI bm, nI at_, nI bg, sg, nI fg, vl, wr), sd)))) := by
  refine Ct.ofV (by decide) (Nat.le_of_ble_eq_true rfl) (fun X hnm => ?_)
  show V E X _ RX7 _ _ _ _ _ _ false 146 0 [(0, .ref (Ez E + 136)), (1, .int fr), (2, .int to), (3, .int n)] [] _
  refine v_aload_n (pc := 0) 0 dX7_flies_0 rfl rfl ?_
  refine v_iload_n (pc := 1) 1 dX7_flies_1 rfl rfl ?_
  refine v_bipush (pc := 2) (-2) dX7_flies_2 kB_m2 ?_
  refine v_icmp_ne (pc := 4) (tgt := 12) dX7_flies_4 rfl (fun c_4 => ?_) (fun c_4 => ?_)
  · refine v_iconst (pc := 12) (nI 0) dX7_flies_12 kI_0 ?_
    refine v_iload_n (pc := 13) 1 dX7_flies_13 rfl rfl ?_
    refine v_iadd (pc := 14) dX7_flies_14 ?_
    rw [show nI 0 + fr = plN fr from (if_neg c_4).symm]
    refine v_dup2 (pc := 15) dX7_flies_15 rfl rfl ?_
    refine v_iald (pc := 16) (cM_aside) (by decide) (plc_vp h1) dX7_flies_16 ?_
    refine v_iload_n (pc := 17) 3 dX7_flies_17 rfl rfl ?_
    refine v_isub (pc := 18) dX7_flies_18 ?_
    refine v_iast (pc := 19) (cM_aside) (by decide) (plc_vp h1) dX7_flies_19 (wM_aside) ?_
    refine v_aload_n (pc := 20) 0 dX7_flies_20 rfl rfl ?_
    refine v_iload_n (pc := 21) 2 dX7_flies_21 rfl rfl ?_
    refine v_bipush (pc := 22) (-2) dX7_flies_22 kB_m2 ?_
    refine v_icmp_ne (pc := 24) (tgt := 32) dX7_flies_24 rfl (fun c_24 => ?_) (fun c_24 => ?_)
    · refine v_iconst (pc := 32) (nI 0) dX7_flies_32 kI_0 ?_
      refine v_iload_n (pc := 33) 2 dX7_flies_33 rfl rfl ?_
      refine v_iadd (pc := 34) dX7_flies_34 ?_
      rw [show nI 0 + to = plN to from (if_neg c_24).symm]
      refine v_dup2 (pc := 35) dX7_flies_35 rfl rfl ?_
      refine v_iald (pc := 36) (cM_aside) (by decide) (plc_vp h2) dX7_flies_36 ?_
      refine v_iload_n (pc := 37) 3 dX7_flies_37 rfl rfl ?_
      refine v_iadd (pc := 38) dX7_flies_38 ?_
      refine v_iast (pc := 39) (cM_aside) (by decide) (plc_vp h2) dX7_flies_39 (wM_aside) ?_
      show V E X _ RX7 _ _ _ _ _ _ false 146 40 _ [] (cellOf E (c, (mkA xP xR xW (m_mv xS fr to n) xZ xG xK xT xQ xF xB xL xC, (nI un, nI sz, ft, nI wm, nI fm, nI bm, nI at_, nI bg, sg, nI fg, vl, wr), sd)))
      have htm := m_mv_trc ht (n := n) h1 h2
      generalize hm : m_mv xS fr to n = s2 at htm ⊢
      refine v_iload_n (pc := 40) 3 dX7_flies_40 rfl rfl ?_
      refine v_if_eq (pc := 41) (tgt := 52) dX7_flies_41 rfl (fun c_41 => ?_) (fun c_41 => ?_)
      · exact v_vret (pc := 52) dX7_flies_52 (⟨rfl, by rw [show m_fly xS fr to n = _ from if_pos (Or.inl c_41), hm]⟩)
      · refine v_aload_n (pc := 44) 0 dX7_flies_44 rfl rfl ?_
        refine v_bipush (pc := 45) (nI 26) dX7_flies_45 kB_26 ?_
        refine v_ialdN (pc := 47) (cM_aside) (by decide) (by omega) (by decide) dX7_flies_47 ?_
        refine v_iload_n (pc := 48) 1 dX7_flies_48 rfl rfl ?_
        refine v_icmp_eq (pc := 49) (tgt := 53) dX7_flies_49 rfl (fun c_49 => ?_) (fun c_49 => ?_)
        · refine v_aload_n (pc := 53) 0 dX7_flies_53 rfl rfl ?_
          refine v_bipush (pc := 54) (nI 27) dX7_flies_54 kB_27 ?_
          refine v_ialdN (pc := 56) (cM_aside) (by decide) (by omega) (by decide) dX7_flies_56 ?_
          refine v_bipush (pc := 57) (nI 20) dX7_flies_57 kB_20 ?_
          refine v_icmp_ne (pc := 59) (tgt := 102) dX7_flies_59 rfl (fun c_59 => ?_) (fun c_59 => ?_)
          · have h116 := m_tr_vp htm (to := to)
            rw [show m_tr0 s2 = s2 from if_neg c_59] at h116
            refine v_aload_n (pc := 102) 0 dX7_flies_102 rfl rfl ?_
            refine v_bipush (pc := 103) (nI 26) dX7_flies_103 kB_26 ?_
            refine v_iload_n (pc := 105) 2 dX7_flies_105 rfl rfl ?_
            refine v_iastN (pc := 106) (cM_aside) (by decide) (by omega) (by decide) dX7_flies_106 (wM_aside) ?_
            refine v_aload_n (pc := 107) 0 dX7_flies_107 rfl rfl ?_
            refine v_bipush (pc := 108) (nI 28) dX7_flies_108 kB_28 ?_
            refine v_aload_n (pc := 110) 0 dX7_flies_110 rfl rfl ?_
            refine v_bipush (pc := 111) (nI 27) dX7_flies_111 kB_27 ?_
            refine v_ialdN (pc := 113) (cM_aside) (by decide) (by omega) (by decide) dX7_flies_113 ?_
            refine v_iadd (pc := 114) dX7_flies_114 ?_
            refine v_iload_n (pc := 115) 2 dX7_flies_115 rfl rfl ?_
            refine v_iast (pc := 116) (cM_aside) (by decide) (h116) dX7_flies_116 (wM_aside) ?_
            refine v_aload_n (pc := 117) 0 dX7_flies_117 rfl rfl ?_
            refine v_bipush (pc := 118) (nI 27) dX7_flies_118 kB_27 ?_
            refine v_dup2 (pc := 120) dX7_flies_120 rfl rfl ?_
            refine v_ialdN (pc := 121) (cM_aside) (by decide) (by omega) (by decide) dX7_flies_121 ?_
            refine v_iconst (pc := 122) (nI 1) dX7_flies_122 kI_1 ?_
            refine v_iadd (pc := 123) dX7_flies_123 ?_
            refine v_iastN (pc := 124) (cM_aside) (by decide) (by omega) (by decide) dX7_flies_124 (wM_aside) ?_
            exact v_vret (pc := 125) dX7_flies_125 (⟨rfl, by rw [show m_fly xS fr to n = _ from if_neg (by rintro (q | q); exact c_41 q; rw [hm] at q; exact q c_49), hm]; unfold m_tr m_tr1; rw [show m_tr0 s2 = s2 from if_neg c_59]⟩)
          · refine v_iconst (pc := 62) (nI 0) dX7_flies_62 kI_0 ?_
            refine v_istore (pc := 63) [1, 2, 3, 4, 0] [(0, _), (1, _), (2, _), (3, _), (4, _)] dX7_flies_63 (by decide) rfl ?_
            refine dn (P := fun e => V E X ({ frames := 0, cells := 0, slots := 0, locals := 0 } : Room) RX7 cX7_flies 5 none 0 0 (QX E X false 146 (Ff none (cellOf E (c, (mkA xP xR xW (m_fly xS fr to n) xZ xG xK xT xQ xF xB xL xC, (nI un, nI sz, ft, nI wm, nI fm, nI bm, nI at_, nI bg, sg, nI fg, vl, wr), sd)))) 0 0) false 146 65 [(0, .ref (Ez E + 136)), (1, .int fr), (2, .int to), (3, .int n), (4, .int (nI e))] [] (cellOf E (c, (mkA xP xR xW (itn (fun k f => upd f (28 + k) (f (28 + k + 1))) e s2) xZ xG xK xT xQ xF xB xL xC, (nI un, nI sz, ft, nI wm, nI fm, nI bm, nI at_, nI bg, sg, nI fg, vl, wr), sd)))) (N := 19) ?_ ?_
            · generalize hsh : itn (fun k f => upd f (28 + k) (f (28 + k + 1))) 19 s2 = f9 
              show V E X _ RX7 _ _ _ _ _ _ false 146 _ [(0, .ref (Ez E + 136)), (1, .int fr), (2, .int to), (3, .int n), (4, .int (nI 19))] [] (cellOf E (c, (mkA xP xR xW f9 xZ xG xK xT xQ xF xB xL xC, (nI un, nI sz, ft, nI wm, nI fm, nI bm, nI at_, nI bg, sg, nI fg, vl, wr), sd)))
              refine v_iload (pc := 65) 4 dX7_flies_65 rfl ?_
              refine v_bipush (pc := 67) (nI 19) dX7_flies_67 kB_19 ?_
              refine v_icmp_geN (pc := 69) (by omega) (by omega) (tgt := 94) dX7_flies_69 rfl (fun c_69 => ?_) (fun c_69 => False.elim ((fun c => by omega) c_69))
              refine v_aload_n (pc := 94) 0 dX7_flies_94 rfl rfl ?_
              refine v_bipush (pc := 95) (nI 27) dX7_flies_95 kB_27 ?_
              refine v_dup2 (pc := 97) dX7_flies_97 rfl rfl ?_
              refine v_ialdN (pc := 98) (cM_aside) (by decide) (by omega) (by decide) dX7_flies_98 ?_
              refine v_iconst (pc := 99) (nI 1) dX7_flies_99 kI_1 ?_
              refine v_isub (pc := 100) dX7_flies_100 ?_
              refine v_iastN (pc := 101) (cM_aside) (by decide) (by omega) (by decide) dX7_flies_101 (wM_aside) ?_
              have h116 := m_tr_vp htm (to := to)
              rw [show m_tr0 s2 = upd f9 27 (f9 27 - nI 1) from by unfold m_tr0; rw [if_pos c_59, show m_shift s2 = f9 from hsh]] at h116
              refine v_aload_n (pc := 102) 0 dX7_flies_102 rfl rfl ?_
              refine v_bipush (pc := 103) (nI 26) dX7_flies_103 kB_26 ?_
              refine v_iload_n (pc := 105) 2 dX7_flies_105 rfl rfl ?_
              refine v_iastN (pc := 106) (cM_aside) (by decide) (by omega) (by decide) dX7_flies_106 (wM_aside) ?_
              refine v_aload_n (pc := 107) 0 dX7_flies_107 rfl rfl ?_
              refine v_bipush (pc := 108) (nI 28) dX7_flies_108 kB_28 ?_
              refine v_aload_n (pc := 110) 0 dX7_flies_110 rfl rfl ?_
              refine v_bipush (pc := 111) (nI 27) dX7_flies_111 kB_27 ?_
              refine v_ialdN (pc := 113) (cM_aside) (by decide) (by omega) (by decide) dX7_flies_113 ?_
              refine v_iadd (pc := 114) dX7_flies_114 ?_
              refine v_iload_n (pc := 115) 2 dX7_flies_115 rfl rfl ?_
              refine v_iast (pc := 116) (cM_aside) (by decide) (h116) dX7_flies_116 (wM_aside) ?_
              refine v_aload_n (pc := 117) 0 dX7_flies_117 rfl rfl ?_
              refine v_bipush (pc := 118) (nI 27) dX7_flies_118 kB_27 ?_
              refine v_dup2 (pc := 120) dX7_flies_120 rfl rfl ?_
              refine v_ialdN (pc := 121) (cM_aside) (by decide) (by omega) (by decide) dX7_flies_121 ?_
              refine v_iconst (pc := 122) (nI 1) dX7_flies_122 kI_1 ?_
              refine v_iadd (pc := 123) dX7_flies_123 ?_
              refine v_iastN (pc := 124) (cM_aside) (by decide) (by omega) (by decide) dX7_flies_124 (wM_aside) ?_
              exact v_vret (pc := 125) dX7_flies_125 (⟨rfl, by rw [show m_fly xS fr to n = _ from if_neg (by rintro (q | q); exact c_41 q; rw [hm] at q; exact q c_49), hm]; unfold m_tr m_tr1; rw [show m_tr0 s2 = upd f9 27 (f9 27 - nI 1) from by unfold m_tr0; rw [if_pos c_59, show m_shift s2 = f9 from hsh]]⟩)
            · intro e he ih
              have ih : V E X ({ frames := 0, cells := 0, slots := 0, locals := 0 } : Room) RX7 cX7_flies 5 none 0 0 (QX E X false 146 (Ff none (cellOf E (c, (mkA xP xR xW (m_fly xS fr to n) xZ xG xK xT xQ xF xB xL xC, (nI un, nI sz, ft, nI wm, nI fm, nI bm, nI at_, nI bg, sg, nI fg, vl, wr), sd)))) 0 0) false 146 65 [(0, .ref (Ez E + 136)), (1, .int fr), (2, .int to), (3, .int n), (4, .int (nI (e + 1)))] [] (cellOf E (c, (mkA xP xR xW (upd (itn (fun k f => upd f (28 + k) (f (28 + k + 1))) e s2) (28 + e) ((itn (fun k f => upd f (28 + k) (f (28 + k + 1))) e s2) (28 + e + 1))) xZ xG xK xT xQ xF xB xL xC, (nI un, nI sz, ft, nI wm, nI fm, nI bm, nI at_, nI bg, sg, nI fg, vl, wr), sd))) := by rw [itn_s] at ih; exact ih
              generalize itn (fun k f => upd f (28 + k) (f (28 + k + 1))) e s2 = f1 at ih ⊢
              show V E X _ RX7 _ _ _ _ _ _ false 146 _ [(0, .ref (Ez E + 136)), (1, .int fr), (2, .int to), (3, .int n), (4, .int (nI e))] [] (cellOf E (c, (mkA xP xR xW f1 xZ xG xK xT xQ xF xB xL xC, (nI un, nI sz, ft, nI wm, nI fm, nI bm, nI at_, nI bg, sg, nI fg, vl, wr), sd)))
              refine v_iload (pc := 65) 4 dX7_flies_65 rfl ?_
              refine v_bipush (pc := 67) (nI 19) dX7_flies_67 kB_19 ?_
              refine v_icmp_geN (pc := 69) (by omega) (by omega) (tgt := 94) dX7_flies_69 rfl (fun c_69 => False.elim ((fun c => by omega) c_69)) (fun c_69 => ?_)
              refine v_aload_n (pc := 72) 0 dX7_flies_72 rfl rfl ?_
              refine v_bipush (pc := 73) (nI 28) dX7_flies_73 kB_28 ?_
              refine v_iload (pc := 75) 4 dX7_flies_75 rfl ?_
              refine v_iaddN (pc := 77) dX7_flies_77 ?_
              refine v_aload_n (pc := 78) 0 dX7_flies_78 rfl rfl ?_
              refine v_bipush (pc := 79) (nI 28) dX7_flies_79 kB_28 ?_
              refine v_iload (pc := 81) 4 dX7_flies_81 rfl ?_
              refine v_iaddN (pc := 83) dX7_flies_83 ?_
              refine v_iconst (pc := 84) (nI 1) dX7_flies_84 kI_1 ?_
              refine v_iaddN (pc := 85) dX7_flies_85 ?_
              refine v_ialdN (pc := 86) (cM_aside) (by decide) (by omega) (by decide) dX7_flies_86 ?_
              refine v_iastN (pc := 87) (cM_aside) (by decide) (by omega) (by decide) dX7_flies_87 (wM_aside) ?_
              refine v_iincN (pc := 88) 4 [1, 2, 3, 4, 0] [(0, _), (1, _), (2, _), (3, _), (4, _)] kI_1 dX7_flies_88 rfl (by decide) rfl ?_
              refine v_goto (pc := 91) (tgt := 65) dX7_flies_91 rfl ?_
              exact ih
        · exact v_vret (pc := 52) dX7_flies_52 (⟨rfl, by rw [show m_fly xS fr to n = _ from if_pos (Or.inr (by rw [hm]; exact c_49)), hm]⟩)
    · refine v_bipush (pc := 27) (nI 15) dX7_flies_27 kB_15 ?_
      refine v_goto (pc := 29) (tgt := 35) dX7_flies_29 rfl ?_
      rw [show nI 15 = plN to from (if_pos c_24).symm]
      refine v_dup2 (pc := 35) dX7_flies_35 rfl rfl ?_
      refine v_iald (pc := 36) (cM_aside) (by decide) (plc_vp h2) dX7_flies_36 ?_
      refine v_iload_n (pc := 37) 3 dX7_flies_37 rfl rfl ?_
      refine v_iadd (pc := 38) dX7_flies_38 ?_
      refine v_iast (pc := 39) (cM_aside) (by decide) (plc_vp h2) dX7_flies_39 (wM_aside) ?_
      show V E X _ RX7 _ _ _ _ _ _ false 146 40 _ [] (cellOf E (c, (mkA xP xR xW (m_mv xS fr to n) xZ xG xK xT xQ xF xB xL xC, (nI un, nI sz, ft, nI wm, nI fm, nI bm, nI at_, nI bg, sg, nI fg, vl, wr), sd)))
      have htm := m_mv_trc ht (n := n) h1 h2
      generalize hm : m_mv xS fr to n = s2 at htm ⊢
      refine v_iload_n (pc := 40) 3 dX7_flies_40 rfl rfl ?_
      refine v_if_eq (pc := 41) (tgt := 52) dX7_flies_41 rfl (fun c_41 => ?_) (fun c_41 => ?_)
      · exact v_vret (pc := 52) dX7_flies_52 (⟨rfl, by rw [show m_fly xS fr to n = _ from if_pos (Or.inl c_41), hm]⟩)
      · refine v_aload_n (pc := 44) 0 dX7_flies_44 rfl rfl ?_
        refine v_bipush (pc := 45) (nI 26) dX7_flies_45 kB_26 ?_
        refine v_ialdN (pc := 47) (cM_aside) (by decide) (by omega) (by decide) dX7_flies_47 ?_
        refine v_iload_n (pc := 48) 1 dX7_flies_48 rfl rfl ?_
        refine v_icmp_eq (pc := 49) (tgt := 53) dX7_flies_49 rfl (fun c_49 => ?_) (fun c_49 => ?_)
        · refine v_aload_n (pc := 53) 0 dX7_flies_53 rfl rfl ?_
          refine v_bipush (pc := 54) (nI 27) dX7_flies_54 kB_27 ?_
          refine v_ialdN (pc := 56) (cM_aside) (by decide) (by omega) (by decide) dX7_flies_56 ?_
          refine v_bipush (pc := 57) (nI 20) dX7_flies_57 kB_20 ?_
          refine v_icmp_ne (pc := 59) (tgt := 102) dX7_flies_59 rfl (fun c_59 => ?_) (fun c_59 => ?_)
          · have h116 := m_tr_vp htm (to := to)
            rw [show m_tr0 s2 = s2 from if_neg c_59] at h116
            refine v_aload_n (pc := 102) 0 dX7_flies_102 rfl rfl ?_
            refine v_bipush (pc := 103) (nI 26) dX7_flies_103 kB_26 ?_
            refine v_iload_n (pc := 105) 2 dX7_flies_105 rfl rfl ?_
            refine v_iastN (pc := 106) (cM_aside) (by decide) (by omega) (by decide) dX7_flies_106 (wM_aside) ?_
            refine v_aload_n (pc := 107) 0 dX7_flies_107 rfl rfl ?_
            refine v_bipush (pc := 108) (nI 28) dX7_flies_108 kB_28 ?_
            refine v_aload_n (pc := 110) 0 dX7_flies_110 rfl rfl ?_
            refine v_bipush (pc := 111) (nI 27) dX7_flies_111 kB_27 ?_
            refine v_ialdN (pc := 113) (cM_aside) (by decide) (by omega) (by decide) dX7_flies_113 ?_
            refine v_iadd (pc := 114) dX7_flies_114 ?_
            refine v_iload_n (pc := 115) 2 dX7_flies_115 rfl rfl ?_
            refine v_iast (pc := 116) (cM_aside) (by decide) (h116) dX7_flies_116 (wM_aside) ?_
            refine v_aload_n (pc := 117) 0 dX7_flies_117 rfl rfl ?_
            refine v_bipush (pc := 118) (nI 27) dX7_flies_118 kB_27 ?_
            refine v_dup2 (pc := 120) dX7_flies_120 rfl rfl ?_
            refine v_ialdN (pc := 121) (cM_aside) (by decide) (by omega) (by decide) dX7_flies_121 ?_
            refine v_iconst (pc := 122) (nI 1) dX7_flies_122 kI_1 ?_
            refine v_iadd (pc := 123) dX7_flies_123 ?_
            refine v_iastN (pc := 124) (cM_aside) (by decide) (by omega) (by decide) dX7_flies_124 (wM_aside) ?_
            exact v_vret (pc := 125) dX7_flies_125 (⟨rfl, by rw [show m_fly xS fr to n = _ from if_neg (by rintro (q | q); exact c_41 q; rw [hm] at q; exact q c_49), hm]; unfold m_tr m_tr1; rw [show m_tr0 s2 = s2 from if_neg c_59]⟩)
          · refine v_iconst (pc := 62) (nI 0) dX7_flies_62 kI_0 ?_
            refine v_istore (pc := 63) [1, 2, 3, 4, 0] [(0, _), (1, _), (2, _), (3, _), (4, _)] dX7_flies_63 (by decide) rfl ?_
            refine dn (P := fun e => V E X ({ frames := 0, cells := 0, slots := 0, locals := 0 } : Room) RX7 cX7_flies 5 none 0 0 (QX E X false 146 (Ff none (cellOf E (c, (mkA xP xR xW (m_fly xS fr to n) xZ xG xK xT xQ xF xB xL xC, (nI un, nI sz, ft, nI wm, nI fm, nI bm, nI at_, nI bg, sg, nI fg, vl, wr), sd)))) 0 0) false 146 65 [(0, .ref (Ez E + 136)), (1, .int fr), (2, .int to), (3, .int n), (4, .int (nI e))] [] (cellOf E (c, (mkA xP xR xW (itn (fun k f => upd f (28 + k) (f (28 + k + 1))) e s2) xZ xG xK xT xQ xF xB xL xC, (nI un, nI sz, ft, nI wm, nI fm, nI bm, nI at_, nI bg, sg, nI fg, vl, wr), sd)))) (N := 19) ?_ ?_
            · generalize hsh : itn (fun k f => upd f (28 + k) (f (28 + k + 1))) 19 s2 = f9 
              show V E X _ RX7 _ _ _ _ _ _ false 146 _ [(0, .ref (Ez E + 136)), (1, .int fr), (2, .int to), (3, .int n), (4, .int (nI 19))] [] (cellOf E (c, (mkA xP xR xW f9 xZ xG xK xT xQ xF xB xL xC, (nI un, nI sz, ft, nI wm, nI fm, nI bm, nI at_, nI bg, sg, nI fg, vl, wr), sd)))
              refine v_iload (pc := 65) 4 dX7_flies_65 rfl ?_
              refine v_bipush (pc := 67) (nI 19) dX7_flies_67 kB_19 ?_
              refine v_icmp_geN (pc := 69) (by omega) (by omega) (tgt := 94) dX7_flies_69 rfl (fun c_69 => ?_) (fun c_69 => False.elim ((fun c => by omega) c_69))
              refine v_aload_n (pc := 94) 0 dX7_flies_94 rfl rfl ?_
              refine v_bipush (pc := 95) (nI 27) dX7_flies_95 kB_27 ?_
              refine v_dup2 (pc := 97) dX7_flies_97 rfl rfl ?_
              refine v_ialdN (pc := 98) (cM_aside) (by decide) (by omega) (by decide) dX7_flies_98 ?_
              refine v_iconst (pc := 99) (nI 1) dX7_flies_99 kI_1 ?_
              refine v_isub (pc := 100) dX7_flies_100 ?_
              refine v_iastN (pc := 101) (cM_aside) (by decide) (by omega) (by decide) dX7_flies_101 (wM_aside) ?_
              have h116 := m_tr_vp htm (to := to)
              rw [show m_tr0 s2 = upd f9 27 (f9 27 - nI 1) from by unfold m_tr0; rw [if_pos c_59, show m_shift s2 = f9 from hsh]] at h116
              refine v_aload_n (pc := 102) 0 dX7_flies_102 rfl rfl ?_
              refine v_bipush (pc := 103) (nI 26) dX7_flies_103 kB_26 ?_
              refine v_iload_n (pc := 105) 2 dX7_flies_105 rfl rfl ?_
              refine v_iastN (pc := 106) (cM_aside) (by decide) (by omega) (by decide) dX7_flies_106 (wM_aside) ?_
              refine v_aload_n (pc := 107) 0 dX7_flies_107 rfl rfl ?_
              refine v_bipush (pc := 108) (nI 28) dX7_flies_108 kB_28 ?_
              refine v_aload_n (pc := 110) 0 dX7_flies_110 rfl rfl ?_
              refine v_bipush (pc := 111) (nI 27) dX7_flies_111 kB_27 ?_
              refine v_ialdN (pc := 113) (cM_aside) (by decide) (by omega) (by decide) dX7_flies_113 ?_
              refine v_iadd (pc := 114) dX7_flies_114 ?_
              refine v_iload_n (pc := 115) 2 dX7_flies_115 rfl rfl ?_
              refine v_iast (pc := 116) (cM_aside) (by decide) (h116) dX7_flies_116 (wM_aside) ?_
              refine v_aload_n (pc := 117) 0 dX7_flies_117 rfl rfl ?_
              refine v_bipush (pc := 118) (nI 27) dX7_flies_118 kB_27 ?_
              refine v_dup2 (pc := 120) dX7_flies_120 rfl rfl ?_
              refine v_ialdN (pc := 121) (cM_aside) (by decide) (by omega) (by decide) dX7_flies_121 ?_
              refine v_iconst (pc := 122) (nI 1) dX7_flies_122 kI_1 ?_
              refine v_iadd (pc := 123) dX7_flies_123 ?_
              refine v_iastN (pc := 124) (cM_aside) (by decide) (by omega) (by decide) dX7_flies_124 (wM_aside) ?_
              exact v_vret (pc := 125) dX7_flies_125 (⟨rfl, by rw [show m_fly xS fr to n = _ from if_neg (by rintro (q | q); exact c_41 q; rw [hm] at q; exact q c_49), hm]; unfold m_tr m_tr1; rw [show m_tr0 s2 = upd f9 27 (f9 27 - nI 1) from by unfold m_tr0; rw [if_pos c_59, show m_shift s2 = f9 from hsh]]⟩)
            · intro e he ih
              have ih : V E X ({ frames := 0, cells := 0, slots := 0, locals := 0 } : Room) RX7 cX7_flies 5 none 0 0 (QX E X false 146 (Ff none (cellOf E (c, (mkA xP xR xW (m_fly xS fr to n) xZ xG xK xT xQ xF xB xL xC, (nI un, nI sz, ft, nI wm, nI fm, nI bm, nI at_, nI bg, sg, nI fg, vl, wr), sd)))) 0 0) false 146 65 [(0, .ref (Ez E + 136)), (1, .int fr), (2, .int to), (3, .int n), (4, .int (nI (e + 1)))] [] (cellOf E (c, (mkA xP xR xW (upd (itn (fun k f => upd f (28 + k) (f (28 + k + 1))) e s2) (28 + e) ((itn (fun k f => upd f (28 + k) (f (28 + k + 1))) e s2) (28 + e + 1))) xZ xG xK xT xQ xF xB xL xC, (nI un, nI sz, ft, nI wm, nI fm, nI bm, nI at_, nI bg, sg, nI fg, vl, wr), sd))) := by rw [itn_s] at ih; exact ih
              generalize itn (fun k f => upd f (28 + k) (f (28 + k + 1))) e s2 = f1 at ih ⊢
              show V E X _ RX7 _ _ _ _ _ _ false 146 _ [(0, .ref (Ez E + 136)), (1, .int fr), (2, .int to), (3, .int n), (4, .int (nI e))] [] (cellOf E (c, (mkA xP xR xW f1 xZ xG xK xT xQ xF xB xL xC, (nI un, nI sz, ft, nI wm, nI fm, nI bm, nI at_, nI bg, sg, nI fg, vl, wr), sd)))
              refine v_iload (pc := 65) 4 dX7_flies_65 rfl ?_
              refine v_bipush (pc := 67) (nI 19) dX7_flies_67 kB_19 ?_
              refine v_icmp_geN (pc := 69) (by omega) (by omega) (tgt := 94) dX7_flies_69 rfl (fun c_69 => False.elim ((fun c => by omega) c_69)) (fun c_69 => ?_)
              refine v_aload_n (pc := 72) 0 dX7_flies_72 rfl rfl ?_
              refine v_bipush (pc := 73) (nI 28) dX7_flies_73 kB_28 ?_
              refine v_iload (pc := 75) 4 dX7_flies_75 rfl ?_
              refine v_iaddN (pc := 77) dX7_flies_77 ?_
              refine v_aload_n (pc := 78) 0 dX7_flies_78 rfl rfl ?_
              refine v_bipush (pc := 79) (nI 28) dX7_flies_79 kB_28 ?_
              refine v_iload (pc := 81) 4 dX7_flies_81 rfl ?_
              refine v_iaddN (pc := 83) dX7_flies_83 ?_
              refine v_iconst (pc := 84) (nI 1) dX7_flies_84 kI_1 ?_
              refine v_iaddN (pc := 85) dX7_flies_85 ?_
              refine v_ialdN (pc := 86) (cM_aside) (by decide) (by omega) (by decide) dX7_flies_86 ?_
              refine v_iastN (pc := 87) (cM_aside) (by decide) (by omega) (by decide) dX7_flies_87 (wM_aside) ?_
              refine v_iincN (pc := 88) 4 [1, 2, 3, 4, 0] [(0, _), (1, _), (2, _), (3, _), (4, _)] kI_1 dX7_flies_88 rfl (by decide) rfl ?_
              refine v_goto (pc := 91) (tgt := 65) dX7_flies_91 rfl ?_
              exact ih
        · exact v_vret (pc := 52) dX7_flies_52 (⟨rfl, by rw [show m_fly xS fr to n = _ from if_pos (Or.inr (by rw [hm]; exact c_49)), hm]⟩)
  · refine v_bipush (pc := 7) (nI 15) dX7_flies_7 kB_15 ?_
    refine v_goto (pc := 9) (tgt := 15) dX7_flies_9 rfl ?_
    rw [show nI 15 = plN fr from (if_pos c_4).symm]
    refine v_dup2 (pc := 15) dX7_flies_15 rfl rfl ?_
    refine v_iald (pc := 16) (cM_aside) (by decide) (plc_vp h1) dX7_flies_16 ?_
    refine v_iload_n (pc := 17) 3 dX7_flies_17 rfl rfl ?_
    refine v_isub (pc := 18) dX7_flies_18 ?_
    refine v_iast (pc := 19) (cM_aside) (by decide) (plc_vp h1) dX7_flies_19 (wM_aside) ?_
    refine v_aload_n (pc := 20) 0 dX7_flies_20 rfl rfl ?_
    refine v_iload_n (pc := 21) 2 dX7_flies_21 rfl rfl ?_
    refine v_bipush (pc := 22) (-2) dX7_flies_22 kB_m2 ?_
    refine v_icmp_ne (pc := 24) (tgt := 32) dX7_flies_24 rfl (fun c_24 => ?_) (fun c_24 => ?_)
    · refine v_iconst (pc := 32) (nI 0) dX7_flies_32 kI_0 ?_
      refine v_iload_n (pc := 33) 2 dX7_flies_33 rfl rfl ?_
      refine v_iadd (pc := 34) dX7_flies_34 ?_
      rw [show nI 0 + to = plN to from (if_neg c_24).symm]
      refine v_dup2 (pc := 35) dX7_flies_35 rfl rfl ?_
      refine v_iald (pc := 36) (cM_aside) (by decide) (plc_vp h2) dX7_flies_36 ?_
      refine v_iload_n (pc := 37) 3 dX7_flies_37 rfl rfl ?_
      refine v_iadd (pc := 38) dX7_flies_38 ?_
      refine v_iast (pc := 39) (cM_aside) (by decide) (plc_vp h2) dX7_flies_39 (wM_aside) ?_
      show V E X _ RX7 _ _ _ _ _ _ false 146 40 _ [] (cellOf E (c, (mkA xP xR xW (m_mv xS fr to n) xZ xG xK xT xQ xF xB xL xC, (nI un, nI sz, ft, nI wm, nI fm, nI bm, nI at_, nI bg, sg, nI fg, vl, wr), sd)))
      have htm := m_mv_trc ht (n := n) h1 h2
      generalize hm : m_mv xS fr to n = s2 at htm ⊢
      refine v_iload_n (pc := 40) 3 dX7_flies_40 rfl rfl ?_
      refine v_if_eq (pc := 41) (tgt := 52) dX7_flies_41 rfl (fun c_41 => ?_) (fun c_41 => ?_)
      · exact v_vret (pc := 52) dX7_flies_52 (⟨rfl, by rw [show m_fly xS fr to n = _ from if_pos (Or.inl c_41), hm]⟩)
      · refine v_aload_n (pc := 44) 0 dX7_flies_44 rfl rfl ?_
        refine v_bipush (pc := 45) (nI 26) dX7_flies_45 kB_26 ?_
        refine v_ialdN (pc := 47) (cM_aside) (by decide) (by omega) (by decide) dX7_flies_47 ?_
        refine v_iload_n (pc := 48) 1 dX7_flies_48 rfl rfl ?_
        refine v_icmp_eq (pc := 49) (tgt := 53) dX7_flies_49 rfl (fun c_49 => ?_) (fun c_49 => ?_)
        · refine v_aload_n (pc := 53) 0 dX7_flies_53 rfl rfl ?_
          refine v_bipush (pc := 54) (nI 27) dX7_flies_54 kB_27 ?_
          refine v_ialdN (pc := 56) (cM_aside) (by decide) (by omega) (by decide) dX7_flies_56 ?_
          refine v_bipush (pc := 57) (nI 20) dX7_flies_57 kB_20 ?_
          refine v_icmp_ne (pc := 59) (tgt := 102) dX7_flies_59 rfl (fun c_59 => ?_) (fun c_59 => ?_)
          · have h116 := m_tr_vp htm (to := to)
            rw [show m_tr0 s2 = s2 from if_neg c_59] at h116
            refine v_aload_n (pc := 102) 0 dX7_flies_102 rfl rfl ?_
            refine v_bipush (pc := 103) (nI 26) dX7_flies_103 kB_26 ?_
            refine v_iload_n (pc := 105) 2 dX7_flies_105 rfl rfl ?_
            refine v_iastN (pc := 106) (cM_aside) (by decide) (by omega) (by decide) dX7_flies_106 (wM_aside) ?_
            refine v_aload_n (pc := 107) 0 dX7_flies_107 rfl rfl ?_
            refine v_bipush (pc := 108) (nI 28) dX7_flies_108 kB_28 ?_
            refine v_aload_n (pc := 110) 0 dX7_flies_110 rfl rfl ?_
            refine v_bipush (pc := 111) (nI 27) dX7_flies_111 kB_27 ?_
            refine v_ialdN (pc := 113) (cM_aside) (by decide) (by omega) (by decide) dX7_flies_113 ?_
            refine v_iadd (pc := 114) dX7_flies_114 ?_
            refine v_iload_n (pc := 115) 2 dX7_flies_115 rfl rfl ?_
            refine v_iast (pc := 116) (cM_aside) (by decide) (h116) dX7_flies_116 (wM_aside) ?_
            refine v_aload_n (pc := 117) 0 dX7_flies_117 rfl rfl ?_
            refine v_bipush (pc := 118) (nI 27) dX7_flies_118 kB_27 ?_
            refine v_dup2 (pc := 120) dX7_flies_120 rfl rfl ?_
            refine v_ialdN (pc := 121) (cM_aside) (by decide) (by omega) (by decide) dX7_flies_121 ?_
            refine v_iconst (pc := 122) (nI 1) dX7_flies_122 kI_1 ?_
            refine v_iadd (pc := 123) dX7_flies_123 ?_
            refine v_iastN (pc := 124) (cM_aside) (by decide) (by omega) (by decide) dX7_flies_124 (wM_aside) ?_
            exact v_vret (pc := 125) dX7_flies_125 (⟨rfl, by rw [show m_fly xS fr to n = _ from if_neg (by rintro (q | q); exact c_41 q; rw [hm] at q; exact q c_49), hm]; unfold m_tr m_tr1; rw [show m_tr0 s2 = s2 from if_neg c_59]⟩)
          · refine v_iconst (pc := 62) (nI 0) dX7_flies_62 kI_0 ?_
            refine v_istore (pc := 63) [1, 2, 3, 4, 0] [(0, _), (1, _), (2, _), (3, _), (4, _)] dX7_flies_63 (by decide) rfl ?_
            refine dn (P := fun e => V E X ({ frames := 0, cells := 0, slots := 0, locals := 0 } : Room) RX7 cX7_flies 5 none 0 0 (QX E X false 146 (Ff none (cellOf E (c, (mkA xP xR xW (m_fly xS fr to n) xZ xG xK xT xQ xF xB xL xC, (nI un, nI sz, ft, nI wm, nI fm, nI bm, nI at_, nI bg, sg, nI fg, vl, wr), sd)))) 0 0) false 146 65 [(0, .ref (Ez E + 136)), (1, .int fr), (2, .int to), (3, .int n), (4, .int (nI e))] [] (cellOf E (c, (mkA xP xR xW (itn (fun k f => upd f (28 + k) (f (28 + k + 1))) e s2) xZ xG xK xT xQ xF xB xL xC, (nI un, nI sz, ft, nI wm, nI fm, nI bm, nI at_, nI bg, sg, nI fg, vl, wr), sd)))) (N := 19) ?_ ?_
            · generalize hsh : itn (fun k f => upd f (28 + k) (f (28 + k + 1))) 19 s2 = f9 
              show V E X _ RX7 _ _ _ _ _ _ false 146 _ [(0, .ref (Ez E + 136)), (1, .int fr), (2, .int to), (3, .int n), (4, .int (nI 19))] [] (cellOf E (c, (mkA xP xR xW f9 xZ xG xK xT xQ xF xB xL xC, (nI un, nI sz, ft, nI wm, nI fm, nI bm, nI at_, nI bg, sg, nI fg, vl, wr), sd)))
              refine v_iload (pc := 65) 4 dX7_flies_65 rfl ?_
              refine v_bipush (pc := 67) (nI 19) dX7_flies_67 kB_19 ?_
              refine v_icmp_geN (pc := 69) (by omega) (by omega) (tgt := 94) dX7_flies_69 rfl (fun c_69 => ?_) (fun c_69 => False.elim ((fun c => by omega) c_69))
              refine v_aload_n (pc := 94) 0 dX7_flies_94 rfl rfl ?_
              refine v_bipush (pc := 95) (nI 27) dX7_flies_95 kB_27 ?_
              refine v_dup2 (pc := 97) dX7_flies_97 rfl rfl ?_
              refine v_ialdN (pc := 98) (cM_aside) (by decide) (by omega) (by decide) dX7_flies_98 ?_
              refine v_iconst (pc := 99) (nI 1) dX7_flies_99 kI_1 ?_
              refine v_isub (pc := 100) dX7_flies_100 ?_
              refine v_iastN (pc := 101) (cM_aside) (by decide) (by omega) (by decide) dX7_flies_101 (wM_aside) ?_
              have h116 := m_tr_vp htm (to := to)
              rw [show m_tr0 s2 = upd f9 27 (f9 27 - nI 1) from by unfold m_tr0; rw [if_pos c_59, show m_shift s2 = f9 from hsh]] at h116
              refine v_aload_n (pc := 102) 0 dX7_flies_102 rfl rfl ?_
              refine v_bipush (pc := 103) (nI 26) dX7_flies_103 kB_26 ?_
              refine v_iload_n (pc := 105) 2 dX7_flies_105 rfl rfl ?_
              refine v_iastN (pc := 106) (cM_aside) (by decide) (by omega) (by decide) dX7_flies_106 (wM_aside) ?_
              refine v_aload_n (pc := 107) 0 dX7_flies_107 rfl rfl ?_
              refine v_bipush (pc := 108) (nI 28) dX7_flies_108 kB_28 ?_
              refine v_aload_n (pc := 110) 0 dX7_flies_110 rfl rfl ?_
              refine v_bipush (pc := 111) (nI 27) dX7_flies_111 kB_27 ?_
              refine v_ialdN (pc := 113) (cM_aside) (by decide) (by omega) (by decide) dX7_flies_113 ?_
              refine v_iadd (pc := 114) dX7_flies_114 ?_
              refine v_iload_n (pc := 115) 2 dX7_flies_115 rfl rfl ?_
              refine v_iast (pc := 116) (cM_aside) (by decide) (h116) dX7_flies_116 (wM_aside) ?_
              refine v_aload_n (pc := 117) 0 dX7_flies_117 rfl rfl ?_
              refine v_bipush (pc := 118) (nI 27) dX7_flies_118 kB_27 ?_
              refine v_dup2 (pc := 120) dX7_flies_120 rfl rfl ?_
              refine v_ialdN (pc := 121) (cM_aside) (by decide) (by omega) (by decide) dX7_flies_121 ?_
              refine v_iconst (pc := 122) (nI 1) dX7_flies_122 kI_1 ?_
              refine v_iadd (pc := 123) dX7_flies_123 ?_
              refine v_iastN (pc := 124) (cM_aside) (by decide) (by omega) (by decide) dX7_flies_124 (wM_aside) ?_
              exact v_vret (pc := 125) dX7_flies_125 (⟨rfl, by rw [show m_fly xS fr to n = _ from if_neg (by rintro (q | q); exact c_41 q; rw [hm] at q; exact q c_49), hm]; unfold m_tr m_tr1; rw [show m_tr0 s2 = upd f9 27 (f9 27 - nI 1) from by unfold m_tr0; rw [if_pos c_59, show m_shift s2 = f9 from hsh]]⟩)
            · intro e he ih
              have ih : V E X ({ frames := 0, cells := 0, slots := 0, locals := 0 } : Room) RX7 cX7_flies 5 none 0 0 (QX E X false 146 (Ff none (cellOf E (c, (mkA xP xR xW (m_fly xS fr to n) xZ xG xK xT xQ xF xB xL xC, (nI un, nI sz, ft, nI wm, nI fm, nI bm, nI at_, nI bg, sg, nI fg, vl, wr), sd)))) 0 0) false 146 65 [(0, .ref (Ez E + 136)), (1, .int fr), (2, .int to), (3, .int n), (4, .int (nI (e + 1)))] [] (cellOf E (c, (mkA xP xR xW (upd (itn (fun k f => upd f (28 + k) (f (28 + k + 1))) e s2) (28 + e) ((itn (fun k f => upd f (28 + k) (f (28 + k + 1))) e s2) (28 + e + 1))) xZ xG xK xT xQ xF xB xL xC, (nI un, nI sz, ft, nI wm, nI fm, nI bm, nI at_, nI bg, sg, nI fg, vl, wr), sd))) := by rw [itn_s] at ih; exact ih
              generalize itn (fun k f => upd f (28 + k) (f (28 + k + 1))) e s2 = f1 at ih ⊢
              show V E X _ RX7 _ _ _ _ _ _ false 146 _ [(0, .ref (Ez E + 136)), (1, .int fr), (2, .int to), (3, .int n), (4, .int (nI e))] [] (cellOf E (c, (mkA xP xR xW f1 xZ xG xK xT xQ xF xB xL xC, (nI un, nI sz, ft, nI wm, nI fm, nI bm, nI at_, nI bg, sg, nI fg, vl, wr), sd)))
              refine v_iload (pc := 65) 4 dX7_flies_65 rfl ?_
              refine v_bipush (pc := 67) (nI 19) dX7_flies_67 kB_19 ?_
              refine v_icmp_geN (pc := 69) (by omega) (by omega) (tgt := 94) dX7_flies_69 rfl (fun c_69 => False.elim ((fun c => by omega) c_69)) (fun c_69 => ?_)
              refine v_aload_n (pc := 72) 0 dX7_flies_72 rfl rfl ?_
              refine v_bipush (pc := 73) (nI 28) dX7_flies_73 kB_28 ?_
              refine v_iload (pc := 75) 4 dX7_flies_75 rfl ?_
              refine v_iaddN (pc := 77) dX7_flies_77 ?_
              refine v_aload_n (pc := 78) 0 dX7_flies_78 rfl rfl ?_
              refine v_bipush (pc := 79) (nI 28) dX7_flies_79 kB_28 ?_
              refine v_iload (pc := 81) 4 dX7_flies_81 rfl ?_
              refine v_iaddN (pc := 83) dX7_flies_83 ?_
              refine v_iconst (pc := 84) (nI 1) dX7_flies_84 kI_1 ?_
              refine v_iaddN (pc := 85) dX7_flies_85 ?_
              refine v_ialdN (pc := 86) (cM_aside) (by decide) (by omega) (by decide) dX7_flies_86 ?_
              refine v_iastN (pc := 87) (cM_aside) (by decide) (by omega) (by decide) dX7_flies_87 (wM_aside) ?_
              refine v_iincN (pc := 88) 4 [1, 2, 3, 4, 0] [(0, _), (1, _), (2, _), (3, _), (4, _)] kI_1 dX7_flies_88 rfl (by decide) rfl ?_
              refine v_goto (pc := 91) (tgt := 65) dX7_flies_91 rfl ?_
              exact ih
        · exact v_vret (pc := 52) dX7_flies_52 (⟨rfl, by rw [show m_fly xS fr to n = _ from if_pos (Or.inr (by rw [hm]; exact c_49)), hm]⟩)
    · refine v_bipush (pc := 27) (nI 15) dX7_flies_27 kB_15 ?_
      refine v_goto (pc := 29) (tgt := 35) dX7_flies_29 rfl ?_
      rw [show nI 15 = plN to from (if_pos c_24).symm]
      refine v_dup2 (pc := 35) dX7_flies_35 rfl rfl ?_
      refine v_iald (pc := 36) (cM_aside) (by decide) (plc_vp h2) dX7_flies_36 ?_
      refine v_iload_n (pc := 37) 3 dX7_flies_37 rfl rfl ?_
      refine v_iadd (pc := 38) dX7_flies_38 ?_
      refine v_iast (pc := 39) (cM_aside) (by decide) (plc_vp h2) dX7_flies_39 (wM_aside) ?_
      show V E X _ RX7 _ _ _ _ _ _ false 146 40 _ [] (cellOf E (c, (mkA xP xR xW (m_mv xS fr to n) xZ xG xK xT xQ xF xB xL xC, (nI un, nI sz, ft, nI wm, nI fm, nI bm, nI at_, nI bg, sg, nI fg, vl, wr), sd)))
      have htm := m_mv_trc ht (n := n) h1 h2
      generalize hm : m_mv xS fr to n = s2 at htm ⊢
      refine v_iload_n (pc := 40) 3 dX7_flies_40 rfl rfl ?_
      refine v_if_eq (pc := 41) (tgt := 52) dX7_flies_41 rfl (fun c_41 => ?_) (fun c_41 => ?_)
      · exact v_vret (pc := 52) dX7_flies_52 (⟨rfl, by rw [show m_fly xS fr to n = _ from if_pos (Or.inl c_41), hm]⟩)
      · refine v_aload_n (pc := 44) 0 dX7_flies_44 rfl rfl ?_
        refine v_bipush (pc := 45) (nI 26) dX7_flies_45 kB_26 ?_
        refine v_ialdN (pc := 47) (cM_aside) (by decide) (by omega) (by decide) dX7_flies_47 ?_
        refine v_iload_n (pc := 48) 1 dX7_flies_48 rfl rfl ?_
        refine v_icmp_eq (pc := 49) (tgt := 53) dX7_flies_49 rfl (fun c_49 => ?_) (fun c_49 => ?_)
        · refine v_aload_n (pc := 53) 0 dX7_flies_53 rfl rfl ?_
          refine v_bipush (pc := 54) (nI 27) dX7_flies_54 kB_27 ?_
          refine v_ialdN (pc := 56) (cM_aside) (by decide) (by omega) (by decide) dX7_flies_56 ?_
          refine v_bipush (pc := 57) (nI 20) dX7_flies_57 kB_20 ?_
          refine v_icmp_ne (pc := 59) (tgt := 102) dX7_flies_59 rfl (fun c_59 => ?_) (fun c_59 => ?_)
          · have h116 := m_tr_vp htm (to := to)
            rw [show m_tr0 s2 = s2 from if_neg c_59] at h116
            refine v_aload_n (pc := 102) 0 dX7_flies_102 rfl rfl ?_
            refine v_bipush (pc := 103) (nI 26) dX7_flies_103 kB_26 ?_
            refine v_iload_n (pc := 105) 2 dX7_flies_105 rfl rfl ?_
            refine v_iastN (pc := 106) (cM_aside) (by decide) (by omega) (by decide) dX7_flies_106 (wM_aside) ?_
            refine v_aload_n (pc := 107) 0 dX7_flies_107 rfl rfl ?_
            refine v_bipush (pc := 108) (nI 28) dX7_flies_108 kB_28 ?_
            refine v_aload_n (pc := 110) 0 dX7_flies_110 rfl rfl ?_
            refine v_bipush (pc := 111) (nI 27) dX7_flies_111 kB_27 ?_
            refine v_ialdN (pc := 113) (cM_aside) (by decide) (by omega) (by decide) dX7_flies_113 ?_
            refine v_iadd (pc := 114) dX7_flies_114 ?_
            refine v_iload_n (pc := 115) 2 dX7_flies_115 rfl rfl ?_
            refine v_iast (pc := 116) (cM_aside) (by decide) (h116) dX7_flies_116 (wM_aside) ?_
            refine v_aload_n (pc := 117) 0 dX7_flies_117 rfl rfl ?_
            refine v_bipush (pc := 118) (nI 27) dX7_flies_118 kB_27 ?_
            refine v_dup2 (pc := 120) dX7_flies_120 rfl rfl ?_
            refine v_ialdN (pc := 121) (cM_aside) (by decide) (by omega) (by decide) dX7_flies_121 ?_
            refine v_iconst (pc := 122) (nI 1) dX7_flies_122 kI_1 ?_
            refine v_iadd (pc := 123) dX7_flies_123 ?_
            refine v_iastN (pc := 124) (cM_aside) (by decide) (by omega) (by decide) dX7_flies_124 (wM_aside) ?_
            exact v_vret (pc := 125) dX7_flies_125 (⟨rfl, by rw [show m_fly xS fr to n = _ from if_neg (by rintro (q | q); exact c_41 q; rw [hm] at q; exact q c_49), hm]; unfold m_tr m_tr1; rw [show m_tr0 s2 = s2 from if_neg c_59]⟩)
          · refine v_iconst (pc := 62) (nI 0) dX7_flies_62 kI_0 ?_
            refine v_istore (pc := 63) [1, 2, 3, 4, 0] [(0, _), (1, _), (2, _), (3, _), (4, _)] dX7_flies_63 (by decide) rfl ?_
            refine dn (P := fun e => V E X ({ frames := 0, cells := 0, slots := 0, locals := 0 } : Room) RX7 cX7_flies 5 none 0 0 (QX E X false 146 (Ff none (cellOf E (c, (mkA xP xR xW (m_fly xS fr to n) xZ xG xK xT xQ xF xB xL xC, (nI un, nI sz, ft, nI wm, nI fm, nI bm, nI at_, nI bg, sg, nI fg, vl, wr), sd)))) 0 0) false 146 65 [(0, .ref (Ez E + 136)), (1, .int fr), (2, .int to), (3, .int n), (4, .int (nI e))] [] (cellOf E (c, (mkA xP xR xW (itn (fun k f => upd f (28 + k) (f (28 + k + 1))) e s2) xZ xG xK xT xQ xF xB xL xC, (nI un, nI sz, ft, nI wm, nI fm, nI bm, nI at_, nI bg, sg, nI fg, vl, wr), sd)))) (N := 19) ?_ ?_
            · generalize hsh : itn (fun k f => upd f (28 + k) (f (28 + k + 1))) 19 s2 = f9 
              show V E X _ RX7 _ _ _ _ _ _ false 146 _ [(0, .ref (Ez E + 136)), (1, .int fr), (2, .int to), (3, .int n), (4, .int (nI 19))] [] (cellOf E (c, (mkA xP xR xW f9 xZ xG xK xT xQ xF xB xL xC, (nI un, nI sz, ft, nI wm, nI fm, nI bm, nI at_, nI bg, sg, nI fg, vl, wr), sd)))
              refine v_iload (pc := 65) 4 dX7_flies_65 rfl ?_
              refine v_bipush (pc := 67) (nI 19) dX7_flies_67 kB_19 ?_
              refine v_icmp_geN (pc := 69) (by omega) (by omega) (tgt := 94) dX7_flies_69 rfl (fun c_69 => ?_) (fun c_69 => False.elim ((fun c => by omega) c_69))
              refine v_aload_n (pc := 94) 0 dX7_flies_94 rfl rfl ?_
              refine v_bipush (pc := 95) (nI 27) dX7_flies_95 kB_27 ?_
              refine v_dup2 (pc := 97) dX7_flies_97 rfl rfl ?_
              refine v_ialdN (pc := 98) (cM_aside) (by decide) (by omega) (by decide) dX7_flies_98 ?_
              refine v_iconst (pc := 99) (nI 1) dX7_flies_99 kI_1 ?_
              refine v_isub (pc := 100) dX7_flies_100 ?_
              refine v_iastN (pc := 101) (cM_aside) (by decide) (by omega) (by decide) dX7_flies_101 (wM_aside) ?_
              have h116 := m_tr_vp htm (to := to)
              rw [show m_tr0 s2 = upd f9 27 (f9 27 - nI 1) from by unfold m_tr0; rw [if_pos c_59, show m_shift s2 = f9 from hsh]] at h116
              refine v_aload_n (pc := 102) 0 dX7_flies_102 rfl rfl ?_
              refine v_bipush (pc := 103) (nI 26) dX7_flies_103 kB_26 ?_
              refine v_iload_n (pc := 105) 2 dX7_flies_105 rfl rfl ?_
              refine v_iastN (pc := 106) (cM_aside) (by decide) (by omega) (by decide) dX7_flies_106 (wM_aside) ?_
              refine v_aload_n (pc := 107) 0 dX7_flies_107 rfl rfl ?_
              refine v_bipush (pc := 108) (nI 28) dX7_flies_108 kB_28 ?_
              refine v_aload_n (pc := 110) 0 dX7_flies_110 rfl rfl ?_
              refine v_bipush (pc := 111) (nI 27) dX7_flies_111 kB_27 ?_
              refine v_ialdN (pc := 113) (cM_aside) (by decide) (by omega) (by decide) dX7_flies_113 ?_
              refine v_iadd (pc := 114) dX7_flies_114 ?_
              refine v_iload_n (pc := 115) 2 dX7_flies_115 rfl rfl ?_
              refine v_iast (pc := 116) (cM_aside) (by decide) (h116) dX7_flies_116 (wM_aside) ?_
              refine v_aload_n (pc := 117) 0 dX7_flies_117 rfl rfl ?_
              refine v_bipush (pc := 118) (nI 27) dX7_flies_118 kB_27 ?_
              refine v_dup2 (pc := 120) dX7_flies_120 rfl rfl ?_
              refine v_ialdN (pc := 121) (cM_aside) (by decide) (by omega) (by decide) dX7_flies_121 ?_
              refine v_iconst (pc := 122) (nI 1) dX7_flies_122 kI_1 ?_
              refine v_iadd (pc := 123) dX7_flies_123 ?_
              refine v_iastN (pc := 124) (cM_aside) (by decide) (by omega) (by decide) dX7_flies_124 (wM_aside) ?_
              exact v_vret (pc := 125) dX7_flies_125 (⟨rfl, by rw [show m_fly xS fr to n = _ from if_neg (by rintro (q | q); exact c_41 q; rw [hm] at q; exact q c_49), hm]; unfold m_tr m_tr1; rw [show m_tr0 s2 = upd f9 27 (f9 27 - nI 1) from by unfold m_tr0; rw [if_pos c_59, show m_shift s2 = f9 from hsh]]⟩)
            · intro e he ih
              have ih : V E X ({ frames := 0, cells := 0, slots := 0, locals := 0 } : Room) RX7 cX7_flies 5 none 0 0 (QX E X false 146 (Ff none (cellOf E (c, (mkA xP xR xW (m_fly xS fr to n) xZ xG xK xT xQ xF xB xL xC, (nI un, nI sz, ft, nI wm, nI fm, nI bm, nI at_, nI bg, sg, nI fg, vl, wr), sd)))) 0 0) false 146 65 [(0, .ref (Ez E + 136)), (1, .int fr), (2, .int to), (3, .int n), (4, .int (nI (e + 1)))] [] (cellOf E (c, (mkA xP xR xW (upd (itn (fun k f => upd f (28 + k) (f (28 + k + 1))) e s2) (28 + e) ((itn (fun k f => upd f (28 + k) (f (28 + k + 1))) e s2) (28 + e + 1))) xZ xG xK xT xQ xF xB xL xC, (nI un, nI sz, ft, nI wm, nI fm, nI bm, nI at_, nI bg, sg, nI fg, vl, wr), sd))) := by rw [itn_s] at ih; exact ih
              generalize itn (fun k f => upd f (28 + k) (f (28 + k + 1))) e s2 = f1 at ih ⊢
              show V E X _ RX7 _ _ _ _ _ _ false 146 _ [(0, .ref (Ez E + 136)), (1, .int fr), (2, .int to), (3, .int n), (4, .int (nI e))] [] (cellOf E (c, (mkA xP xR xW f1 xZ xG xK xT xQ xF xB xL xC, (nI un, nI sz, ft, nI wm, nI fm, nI bm, nI at_, nI bg, sg, nI fg, vl, wr), sd)))
              refine v_iload (pc := 65) 4 dX7_flies_65 rfl ?_
              refine v_bipush (pc := 67) (nI 19) dX7_flies_67 kB_19 ?_
              refine v_icmp_geN (pc := 69) (by omega) (by omega) (tgt := 94) dX7_flies_69 rfl (fun c_69 => False.elim ((fun c => by omega) c_69)) (fun c_69 => ?_)
              refine v_aload_n (pc := 72) 0 dX7_flies_72 rfl rfl ?_
              refine v_bipush (pc := 73) (nI 28) dX7_flies_73 kB_28 ?_
              refine v_iload (pc := 75) 4 dX7_flies_75 rfl ?_
              refine v_iaddN (pc := 77) dX7_flies_77 ?_
              refine v_aload_n (pc := 78) 0 dX7_flies_78 rfl rfl ?_
              refine v_bipush (pc := 79) (nI 28) dX7_flies_79 kB_28 ?_
              refine v_iload (pc := 81) 4 dX7_flies_81 rfl ?_
              refine v_iaddN (pc := 83) dX7_flies_83 ?_
              refine v_iconst (pc := 84) (nI 1) dX7_flies_84 kI_1 ?_
              refine v_iaddN (pc := 85) dX7_flies_85 ?_
              refine v_ialdN (pc := 86) (cM_aside) (by decide) (by omega) (by decide) dX7_flies_86 ?_
              refine v_iastN (pc := 87) (cM_aside) (by decide) (by omega) (by decide) dX7_flies_87 (wM_aside) ?_
              refine v_iincN (pc := 88) 4 [1, 2, 3, 4, 0] [(0, _), (1, _), (2, _), (3, _), (4, _)] kI_1 dX7_flies_88 rfl (by decide) rfl ?_
              refine v_goto (pc := 91) (tgt := 65) dX7_flies_91 rfl ?_
              exact ih
        · exact v_vret (pc := 52) dX7_flies_52 (⟨rfl, by rw [show m_fly xS fr to n = _ from if_pos (Or.inr (by rw [hm]; exact c_49)), hm]⟩)
