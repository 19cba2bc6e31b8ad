/-! how the reference reads: at, begin, sign, figures, value, wrong, read -/
abbrev MZ : Type := Nat × Nat × Int32 × Nat × Int32 × Int32 × Fn
def mzOk (L : Nat) (z : MZ) : Prop := z.1 ≤ L ∧ z.2.1 ≤ L ∧ z.2.2.2.1 ≤ L
def mStep (T : Fn) (L : Nat) (z : MZ) : MZ :=
  if inB (hrI T L (sk T L z.1)) (nI 48) (nI 57) = false then (if hrI T L (sk T L z.1) < 0 then sk T L z.1 else sk T L z.1 + 1, sk T L z.1, hrI T L (sk T L z.1), 0, nI 0, z.2.2.2.2.2)
  else (dg T L (sk T L z.1), sk T L z.1, nI 48, dg T L (sk T L z.1) - sk T L z.1, dv T L (sk T L z.1) (sk T L z.1) (nI 0), z.2.2.2.2.2)
theorem hr_t {T : Fn} {L a : Nat} (h : a < L) : hrI T L a = T a := if_pos h
theorem hr_f {T : Fn} {L a : Nat} (h : ¬ a < L) : hrI T L a = -1 := if_neg h
theorem hr32 {T : Fn} {L a : Nat} (h : hrI T L a = nI 32) : a < L ∧ T a = nI 32 := by
  by_cases q : a < L
  · rw [hr_t q] at h; exact ⟨q, h⟩
  · rw [hr_f q] at h; exact absurd h (by decide)
theorem hr32n {T : Fn} {L a : Nat} (h : ¬ hrI T L a = nI 32) : ¬ (a < L ∧ T a = nI 32) := by
  rintro ⟨q1, q2⟩; rw [hr_t q1] at h; exact h q2
theorem inB_iff {v lo hi : Int32} : inB v lo hi = true ↔ ¬ v < lo ∧ ¬ hi < v := by
  constructor
  · intro h
    refine ⟨fun q => ?_, fun q => ?_⟩
    · rw [inB_f (Or.inl q)] at h; exact Bool.noConfusion h
    · rw [inB_f (Or.inr q)] at h; exact Bool.noConfusion h
  · rintro ⟨h1, h2⟩; exact inB_t h1 h2
theorem hrdg {T : Fn} {L a : Nat} (h : inB (hrI T L a) (nI 48) (nI 57) = true) : a < L ∧ ¬ T a < nI 48 ∧ ¬ nI 57 < T a := by
  by_cases q : a < L
  · rw [hr_t q] at h; exact ⟨q, inB_iff.mp h⟩
  · rw [hr_f q] at h; exact absurd h (by decide)
theorem hrdgn {T : Fn} {L a : Nat} (h : inB (hrI T L a) (nI 48) (nI 57) = false) : ¬ (a < L ∧ ¬ T a < nI 48 ∧ ¬ nI 57 < T a) := by
  rintro ⟨q1, q2⟩; rw [hr_t q1, inB_iff.mpr q2] at h; exact Bool.noConfusion h
theorem mStep_ok {T : Fn} {L : Nat} {z : MZ} (h : z.1 ≤ L) : mzOk L (mStep T L z) ∧ z.1 ≤ (mStep T L z).1 ∧ (¬ (mStep T L z).2.2.1 < 0 → z.1 < (mStep T L z).1) ∧ (mStep T L z).2.2.2.2.2 = z.2.2.2.2.2 := by
  have h1 := sk_L (lt := T) h
  have h2 := sk_le T L z.1
  have h3 := dg_L (lt := T) h1
  have h4 := dg_le T L (sk T L z.1)
  unfold mStep
  by_cases q : inB (hrI T L (sk T L z.1)) (nI 48) (nI 57) = false
  · rw [if_pos q]
    by_cases q2 : hrI T L (sk T L z.1) < 0
    · rw [if_pos q2]; exact ⟨⟨h1, h1, Nat.zero_le _⟩, h2, fun z => absurd q2 z, rfl⟩
    · rw [if_neg q2]
      have q3 : sk T L z.1 < L := by
        rcases Nat.lt_or_ge (sk T L z.1) L with q3 | q3
        · exact q3
        · exact absurd (by rw [hr_f (by omega)]; decide) q2
      exact ⟨⟨q3, h1, Nat.zero_le _⟩, Nat.le_succ_of_le h2, fun _ => Nat.lt_succ_of_le h2, rfl⟩
  · rw [if_neg q]
    have q4 := hrdg (Bool.not_eq_false _ ▸ q : inB (hrI T L (sk T L z.1)) (nI 48) (nI 57) = true)
    have h5 : sk T L z.1 < dg T L (sk T L z.1) := by rw [← dg_t q4]; exact dg_le T L _
    exact ⟨⟨h3, h1, by show dg T L (sk T L z.1) - sk T L z.1 ≤ L; omega⟩, Nat.le_trans h2 h4, fun _ => Nat.lt_of_le_of_lt h2 h5, rfl⟩
def mFail (z : MZ) (w : Int32) : MZ := (z.1, z.2.1, z.2.2.1, z.2.2.2.1, z.2.2.2.2.1, w, z.2.2.2.2.2.2)
def mPut (z : MZ) (k : Nat) (v : Int32) : MZ := (z.1, z.2.1, z.2.2.1, z.2.2.2.1, z.2.2.2.2.1, z.2.2.2.2.2.1, upd z.2.2.2.2.2.2 k v)
theorem mPut_s {z : MZ} {k : Nat} {v : Int32} : (mPut z k v).2.2.2.2.2.2 k = v := upd_self
theorem mPut_n {z : MZ} {k j : Nat} {v : Int32} (h : j ≠ k) : (mPut z k v).2.2.2.2.2.2 j = z.2.2.2.2.2.2 j := upd_ne h
def mNumE (z : MZ) (k : Nat) (lo hi : Int32) : Bool × MZ := if z.2.2.1 = nI 48 then (if 3 < z.2.2.2.1 ∨ inB z.2.2.2.2.1 lo hi = false then (false, mFail z (nI 2)) else (true, mPut z k z.2.2.2.2.1)) else (false, mFail z (nI 1))
def mNum (T : Fn) (L : Nat) (z : MZ) (k : Nat) (lo hi : Int32) : Bool × MZ := mNumE (mStep T L z) k lo hi
def mEndE (z : MZ) : Bool × MZ := if z.2.2.1 = nI 59 then (true, z) else (false, mFail z (nI 1))
def mEnd (T : Fn) (L : Nat) (z : MZ) : Bool × MZ := mEndE (mStep T L z)
def andR (r : Bool × MZ) (f : MZ → Bool × MZ) : Bool × MZ := if r.1 = true then f r.2 else r
theorem andR_t {r : Bool × MZ} {f : MZ → Bool × MZ} {z : MZ} (h : r = (true, z)) : andR r f = f z := by rw [h]; rfl
theorem andR_f {r : Bool × MZ} {f : MZ → Bool × MZ} {z : MZ} (h : r = (false, z)) : andR r f = (false, z) := by rw [h]; rfl
def mPersE (T : Fn) (L : Nat) (z : MZ) (q : Nat) : Bool × MZ := andR (mNum T L z (4 + q) (nI 0) (nI 4)) (fun z => andR (mNum T L z (11 + q) (nI 0) (nI 99)) (fun z => andR (mNum T L z (18 + q) (nI 0) (nI 50)) (fun z => mEnd T L z)))
def mPers (T : Fn) (L : Nat) (z : MZ) (q : Nat) : Bool × MZ := if q = 7 then (false, mFail z (nI 3)) else mPersE T L (mPut z 2 (nI (q + 1))) q
def mDebtE (T : Fn) (L : Nat) (z : MZ) (q : Nat) (m : Int32) : Bool × MZ := andR (mNum T L z (25 + q) (nI 0) m) (fun z => andR (mNum T L z (34 + q) (nI 0) m) (fun z => if z.2.2.2.2.2.2 (25 + q) = z.2.2.2.2.2.2 (34 + q) then (false, mFail z (nI 4)) else andR (mNum T L z (43 + q) (nI 1) (nI 99)) (fun z => mEnd T L z)))
def mDebt (T : Fn) (L : Nat) (z : MZ) (q : Nat) : Bool × MZ := if q = 9 then (false, mFail z (nI 3)) else mDebtE T L (mPut z 3 (nI (q + 1))) q (upd z.2.2.2.2.2.2 3 (nI (q + 1)) 2 - nI 1)
def mTree (T : Fn) (L : Nat) (z : MZ) : Bool × MZ := if z.2.2.2.2.2.2 1 ≤ 0 then andR (mNum T L z 0 (nI 0) (nI 999)) (fun z => andR (mNum T L z 1 (nI 1) (nI 24)) (fun z => mEnd T L z)) else (false, mFail z (nI 3))
def mClause (T : Fn) (L : Nat) (z : MZ) (q d : Nat) : Bool × MZ := if z.2.2.1 = nI 116 then mTree T L z else if z.2.2.2.2.2.2 1 = 0 then (false, mFail z (nI 1)) else if z.2.2.1 = nI 112 then mPers T L z q else if z.2.2.1 = nI 100 then mDebt T L z d else (false, mFail z (nI 1))
theorem unM {E : Ev} {c : CSt} {xP xW xS xZ xG xK xT xQ xF xB xL xC : Fn} {un sz wm fm bm : Nat} {ft : Int32} {sd : Int64} {r0 : Option Value} {Z : MZ} {P : Option Value → Hp → Prop} (H : ∀ a1 g1 x1 f1 v1 w1 R1, Z = (a1, g1, x1, f1, v1, w1, R1) → P r0 (cellOf E (c, (mkA xP R1 xW xS xZ xG xK xT xQ xF xB xL xC, (nI un, nI sz, ft, nI wm, nI fm, nI bm, nI a1, nI g1, x1, nI f1, v1, w1), sd)))) : ∀ r h', Ff r0 (cellOf E (c, (mkA xP Z.2.2.2.2.2.2 xW xS xZ xG xK xT xQ xF xB xL xC, (nI un, nI sz, ft, nI wm, nI fm, nI bm, nI Z.1, nI Z.2.1, Z.2.2.1, nI Z.2.2.2.1, Z.2.2.2.2.1, Z.2.2.2.2.2.1), sd))) r h' → P r h' := by
  rintro _ _ ⟨rfl, rfl⟩
  obtain ⟨a1, g1, x1, f1, v1, w1, R1⟩ := Z
  exact H a1 g1 x1 f1 v1 w1 R1 rfl
theorem unB {E : Ev} {c : CSt} {xP xW xS xZ xG xK xT xQ xF xB xL xC : Fn} {un sz wm fm bm : Nat} {ft : Int32} {sd : Int64} {Z : Bool × MZ} {P : Option Value → Hp → Prop} (H : ∀ b1 a1 g1 x1 f1 v1 w1 R1, Z = (b1, a1, g1, x1, f1, v1, w1, R1) → P (some (.int (bI b1))) (cellOf E (c, (mkA xP R1 xW xS xZ xG xK xT xQ xF xB xL xC, (nI un, nI sz, ft, nI wm, nI fm, nI bm, nI a1, nI g1, x1, nI f1, v1, w1), sd)))) : ∀ r h', Ff (some (.int (bI Z.1))) (cellOf E (c, (mkA xP Z.2.2.2.2.2.2.2 xW xS xZ xG xK xT xQ xF xB xL xC, (nI un, nI sz, ft, nI wm, nI fm, nI bm, nI Z.2.1, nI Z.2.2.1, Z.2.2.2.1, nI Z.2.2.2.2.1, Z.2.2.2.2.2.1, Z.2.2.2.2.2.2.1), sd))) r h' → P r h' := by
  rintro _ _ ⟨rfl, rfl⟩
  obtain ⟨b1, a1, g1, x1, f1, v1, w1, R1⟩ := Z
  exact H b1 a1 g1 x1 f1 v1 w1 R1 rfl
set_option maxHeartbeats 4000000 in
set_option maxRecDepth 100000 in
theorem m_step {E : Ev} {c : CSt} {xP xR xW xS xZ xG xK xT xQ xF xB xL xC : Fn} {un sz wm fm bm at_ bg fg : Nat} {ft sg vl wr : Int32} {sd : Int64} (hsz : sz ≤ 240) (hat : at_ ≤ sz) : Ct E yX7_step cX7_step 1 none ({ frames := 1, cells := 0, slots := 0, locals := 25 } : Room) false 146 [.ref (Ez E + 132)] (cellOf E (c, (mkA xP xR xW xS xZ xG xK xT xQ xF xB xL xC, (nI un, nI sz, ft, nI wm, nI fm, nI bm, nI at_, nI bg, sg, nI fg, vl, wr), sd))) 146 0 0 (Ff none (cellOf E (c, (mkA xP ((mStep xT sz (at_, bg, sg, fg, vl, wr, xR)).2.2.2.2.2.2) xW xS xZ xG xK xT xQ xF xB xL xC, (nI un, nI sz, ft, nI wm, nI fm, nI bm, nI (mStep xT sz (at_, bg, sg, fg, vl, wr, xR)).1, nI (mStep xT sz (at_, bg, sg, fg, vl, wr, xR)).2.1, (mStep xT sz (at_, bg, sg, fg, vl, wr, xR)).2.2.1, nI (mStep xT sz (at_, bg, sg, fg, vl, wr, xR)).2.2.2.1, (mStep xT sz (at_, bg, sg, fg, vl, wr, xR)).2.2.2.2.1, (mStep xT sz (at_, bg, sg, fg, vl, wr, xR)).2.2.2.2.2.1), sd)))) := by
  refine Ct.ofV (by decide) (Nat.le_of_ble_eq_true rfl) (fun X hnm => ?_)
  show V E X _ RX7 _ _ _ _ _ _ false 146 0 [(0, .ref (Ez E + 132))] [] _
  have hl_0 : ∀ (m_ : Nat) (x : Nat), sz - x < m_ → (x ≤ sz) → (sk xT sz x = sk xT sz at_) → V E X ({ frames := 1, cells := 0, slots := 0, locals := 25 } : Room) RX7 cX7_step 1 none 0 0 (QX E X false 146 (Ff none (cellOf E (c, (mkA xP ((mStep xT sz (at_, bg, sg, fg, vl, wr, xR)).2.2.2.2.2.2) xW xS xZ xG xK xT xQ xF xB xL xC, (nI un, nI sz, ft, nI wm, nI fm, nI bm, nI (mStep xT sz (at_, bg, sg, fg, vl, wr, xR)).1, nI (mStep xT sz (at_, bg, sg, fg, vl, wr, xR)).2.1, (mStep xT sz (at_, bg, sg, fg, vl, wr, xR)).2.2.1, nI (mStep xT sz (at_, bg, sg, fg, vl, wr, xR)).2.2.2.1, (mStep xT sz (at_, bg, sg, fg, vl, wr, xR)).2.2.2.2.1, (mStep xT sz (at_, bg, sg, fg, vl, wr, xR)).2.2.2.2.2.1), sd)))) 0 0) false 146 0 [(0, .ref (Ez E + 132))] [] (cellOf E (c, (mkA xP xR xW xS xZ xG xK xT xQ xF xB xL xC, (nI un, nI sz, ft, nI wm, nI fm, nI bm, nI x, nI bg, sg, nI fg, vl, wr), sd))) := by
    intro m_
    induction m_ with
    | zero => intro x hm; exact absurd hm (Nat.not_lt_zero _)
    | succ m_ ihm =>
      intro x hm hx hs1
      refine v_aload_n (pc := 0) 0 dX7_step_0 rfl rfl ?_
      refine v_callV (pc := 1) _ _ k_X7_84 (cMr_obj) rfl (by decide) (m_here hsz (by omega)) ⟨rfl, rfl, by decide⟩ rfl rfl (Nat.le_of_ble_eq_true rfl) ⟨Nat.le_of_ble_eq_true rfl, Nat.le_of_ble_eq_true rfl⟩ dX7_step_1 (unS ?_)
      show V E X _ RX7 _ _ _ 0 0 _ false 146 4 _ [_] _
      refine v_bipush (pc := 4) (nI 32) dX7_step_4 kB_32 ?_
      refine v_icmp_ne (pc := 6) (tgt := 22) dX7_step_6 rfl (fun c_6 => ?_) (fun c_6 => ?_)
      · have ex : x = sk xT sz at_ := (sk_f (hr32n c_6)).symm.trans hs1
        refine v_aload_n (pc := 22) 0 dX7_step_22 rfl rfl ?_
        refine v_aload_n (pc := 23) 0 dX7_step_23 rfl rfl ?_
        refine g_X7_81 (pc := 24) (cMr_obj) (by decide) rfl dX7_step_24 ?_
        refine p_X7_88 (pc := 27) (cMr_obj) (by decide) rfl rfl (Nat.le_of_ble_eq_true rfl) dX7_step_27 (wM_bg) ?_
        refine v_aload_n (pc := 30) 0 dX7_step_30 rfl rfl ?_
        refine v_aload_n (pc := 31) 0 dX7_step_31 rfl rfl ?_
        refine v_callV (pc := 32) _ _ k_X7_84 (cMr_obj) rfl (by decide) (m_here hsz (by omega)) ⟨rfl, rfl, by decide⟩ rfl rfl (Nat.le_of_ble_eq_true rfl) ⟨Nat.le_of_ble_eq_true rfl, Nat.le_of_ble_eq_true rfl⟩ dX7_step_32 (unS ?_)
        show V E X _ RX7 _ _ _ 0 0 _ false 146 35 _ [_, _] _
        refine p_X7_91 (pc := 35) (cMr_obj) (by decide) rfl rfl (Nat.le_of_ble_eq_true rfl) dX7_step_35 (wM_sg) ?_
        refine v_aload_n (pc := 38) 0 dX7_step_38 rfl rfl ?_
        refine v_iconst (pc := 39) (nI 0) dX7_step_39 kI_0 ?_
        refine p_X7_94 (pc := 40) (cMr_obj) (by decide) rfl rfl (Nat.le_of_ble_eq_true rfl) dX7_step_40 (wM_fg) ?_
        refine v_aload_n (pc := 43) 0 dX7_step_43 rfl rfl ?_
        refine v_iconst (pc := 44) (nI 0) dX7_step_44 kI_0 ?_
        refine p_X7_97 (pc := 45) (cMr_obj) (by decide) rfl rfl (Nat.le_of_ble_eq_true rfl) dX7_step_45 (wM_vl) ?_
        refine v_aload_n (pc := 48) 0 dX7_step_48 rfl rfl ?_
        refine g_X7_91 (pc := 49) (cMr_obj) (by decide) rfl dX7_step_49 ?_
        refine v_i2l (pc := 52) dX7_step_52 ?_
        refine v_ldc2 (pc := 53) ((nI 48).toInt64) kl_X7_100 dX7_step_53 (by decide) ?_
        refine v_ldc2 (pc := 56) ((nI 57).toInt64) kl_X7_102 dX7_step_56 (by decide) ?_
        refine v_callS (pc := 59) _ _ k_X7_72 (m_in _ _ _) ⟨rfl, rfl, by decide⟩ rfl rfl (Nat.le_of_ble_eq_true rfl) ⟨Nat.le_of_ble_eq_true rfl, Nat.le_of_ble_eq_true rfl⟩ dX7_step_59 (unS ?_)
        show V E X _ RX7 _ _ _ 0 0 _ false 146 62 _ [_] _
        refine v_if_neB (pc := 62) (tgt := 87) dX7_step_62 rfl (fun c_62 => ?_) (fun c_62 => ?_)
        · refine v_aload_n (pc := 87) 0 dX7_step_87 rfl rfl ?_
          refine v_bipush (pc := 88) (nI 48) dX7_step_88 kB_48 ?_
          refine p_X7_91 (pc := 90) (cMr_obj) (by decide) rfl rfl (Nat.le_of_ble_eq_true rfl) dX7_step_90 (wM_sg) ?_
          have hl_93 : ∀ (m_ : Nat) (y : Nat) (n : Nat) (v : Int32), sz - y < m_ → (y ≤ sz) → (x ≤ y) → (n = y - x) → (dg xT sz y = dg xT sz x) → (dv xT sz x y v = dv xT sz x x (nI 0)) → V E X ({ frames := 1, cells := 0, slots := 0, locals := 25 } : Room) RX7 cX7_step 1 none 0 0 (QX E X false 146 (Ff none (cellOf E (c, (mkA xP ((mStep xT sz (at_, bg, sg, fg, vl, wr, xR)).2.2.2.2.2.2) xW xS xZ xG xK xT xQ xF xB xL xC, (nI un, nI sz, ft, nI wm, nI fm, nI bm, nI (mStep xT sz (at_, bg, sg, fg, vl, wr, xR)).1, nI (mStep xT sz (at_, bg, sg, fg, vl, wr, xR)).2.1, (mStep xT sz (at_, bg, sg, fg, vl, wr, xR)).2.2.1, nI (mStep xT sz (at_, bg, sg, fg, vl, wr, xR)).2.2.2.1, (mStep xT sz (at_, bg, sg, fg, vl, wr, xR)).2.2.2.2.1, (mStep xT sz (at_, bg, sg, fg, vl, wr, xR)).2.2.2.2.2.1), sd)))) 0 0) false 146 93 [(0, .ref (Ez E + 132))] [] (cellOf E (c, (mkA xP xR xW xS xZ xG xK xT xQ xF xB xL xC, (nI un, nI sz, ft, nI wm, nI fm, nI bm, nI y, nI x, nI 48, nI n, v, wr), sd))) := by
            intro m_
            induction m_ with
            | zero => intro y n v hm; exact absurd hm (Nat.not_lt_zero _)
            | succ m_ ihm =>
              intro y n v hm hy hxy hn hg hv
              refine v_aload_n (pc := 93) 0 dX7_step_93 rfl rfl ?_
              refine v_callV (pc := 94) _ _ k_X7_84 (cMr_obj) rfl (by decide) (m_here hsz (by omega)) ⟨rfl, rfl, by decide⟩ rfl rfl (Nat.le_of_ble_eq_true rfl) ⟨Nat.le_of_ble_eq_true rfl, Nat.le_of_ble_eq_true rfl⟩ dX7_step_94 (unS ?_)
              show V E X _ RX7 _ _ _ 0 0 _ false 146 97 _ [_] _
              refine v_i2l (pc := 97) dX7_step_97 ?_
              refine v_ldc2 (pc := 98) ((nI 48).toInt64) kl_X7_100 dX7_step_98 (by decide) ?_
              refine v_ldc2 (pc := 101) ((nI 57).toInt64) kl_X7_102 dX7_step_101 (by decide) ?_
              refine v_callS (pc := 104) _ _ k_X7_72 (m_in _ _ _) ⟨rfl, rfl, by decide⟩ rfl rfl (Nat.le_of_ble_eq_true rfl) ⟨Nat.le_of_ble_eq_true rfl, Nat.le_of_ble_eq_true rfl⟩ dX7_step_104 (unS ?_)
              show V E X _ RX7 _ _ _ 0 0 _ false 146 107 _ [_] _
              refine v_if_eqB (pc := 107) (tgt := 167) dX7_step_107 rfl (fun c_107 => ?_) (fun c_107 => ?_)
              · exact v_vret (pc := 167) dX7_step_167 (⟨rfl, by rw [show mStep xT sz (at_, bg, sg, fg, vl, wr, xR) = _ from if_neg (by show ¬ inB (hrI xT sz (sk xT sz at_)) (nI 48) (nI 57) = false; rw [← ex, c_62]; decide), ← ex, ← hg, ← hv, dg_f (hrdgn c_107), dv_f (hrdgn c_107), hn]⟩)
              · refine v_aload_n (pc := 110) 0 dX7_step_110 rfl rfl ?_
                refine v_aload_n (pc := 111) 0 dX7_step_111 rfl rfl ?_
                refine g_X7_94 (pc := 112) (cMr_obj) (by decide) rfl dX7_step_112 ?_
                refine v_iconst (pc := 115) (nI 3) dX7_step_115 kI_3 ?_
                refine v_icmp_geN (pc := 116) (by omega) (by omega) (tgt := 137) dX7_step_116 rfl (fun c_116 => ?_) (fun c_116 => ?_)
                · refine v_aload_n (pc := 137) 0 dX7_step_137 rfl rfl ?_
                  refine g_X7_97 (pc := 138) (cMr_obj) (by decide) rfl dX7_step_138 ?_
                  refine p_X7_97 (pc := 141) (cMr_obj) (by decide) rfl rfl (Nat.le_of_ble_eq_true rfl) dX7_step_141 (wM_vl) ?_
                  refine v_aload_n (pc := 144) 0 dX7_step_144 rfl rfl ?_
                  refine v_dup (pc := 145) dX7_step_145 rfl ?_
                  refine g_X7_94 (pc := 146) (cMr_obj) (by decide) rfl dX7_step_146 ?_
                  refine v_iconst (pc := 149) (nI 1) dX7_step_149 kI_1 ?_
                  refine v_iaddN (pc := 150) dX7_step_150 ?_
                  refine p_X7_94 (pc := 151) (cMr_obj) (by decide) rfl rfl (Nat.le_of_ble_eq_true rfl) dX7_step_151 (wM_fg) ?_
                  refine v_aload_n (pc := 154) 0 dX7_step_154 rfl rfl ?_
                  refine v_dup (pc := 155) dX7_step_155 rfl ?_
                  refine g_X7_81 (pc := 156) (cMr_obj) (by decide) rfl dX7_step_156 ?_
                  refine v_iconst (pc := 159) (nI 1) dX7_step_159 kI_1 ?_
                  refine v_iaddN (pc := 160) dX7_step_160 ?_
                  refine p_X7_81 (pc := 161) (cMr_obj) (by decide) rfl rfl (Nat.le_of_ble_eq_true rfl) dX7_step_161 (wM_at_) ?_
                  refine v_goto (pc := 164) (tgt := 93) dX7_step_164 rfl ?_
                  have hq := hrdg c_107
                  exact ihm (y + 1) (n + 1) _ (by omega) (by omega) (by omega) (by omega) ((dg_t hq).trans hg) (by rw [← hv, ← dv_t (v := v) hq, if_neg (show ¬ y - x < 3 by omega)])
                · refine v_bipush (pc := 119) (nI 10) dX7_step_119 kB_10 ?_
                  refine v_aload_n (pc := 121) 0 dX7_step_121 rfl rfl ?_
                  refine g_X7_97 (pc := 122) (cMr_obj) (by decide) rfl dX7_step_122 ?_
                  refine v_imul (pc := 125) dX7_step_125 ?_
                  refine v_aload_n (pc := 126) 0 dX7_step_126 rfl rfl ?_
                  refine v_callV (pc := 127) _ _ k_X7_84 (cMr_obj) rfl (by decide) (m_here hsz (by omega)) ⟨rfl, rfl, by decide⟩ rfl rfl (Nat.le_of_ble_eq_true rfl) ⟨Nat.le_of_ble_eq_true rfl, Nat.le_of_ble_eq_true rfl⟩ dX7_step_127 (unS ?_)
                  show V E X _ RX7 _ _ _ 0 0 _ false 146 130 _ [_, _, _] _
                  refine v_iadd (pc := 130) dX7_step_130 ?_
                  refine v_bipush (pc := 131) (nI 48) dX7_step_131 kB_48 ?_
                  refine v_isub (pc := 133) dX7_step_133 ?_
                  refine v_goto (pc := 134) (tgt := 141) dX7_step_134 rfl ?_
                  refine p_X7_97 (pc := 141) (cMr_obj) (by decide) rfl rfl (Nat.le_of_ble_eq_true rfl) dX7_step_141 (wM_vl) ?_
                  refine v_aload_n (pc := 144) 0 dX7_step_144 rfl rfl ?_
                  refine v_dup (pc := 145) dX7_step_145 rfl ?_
                  refine g_X7_94 (pc := 146) (cMr_obj) (by decide) rfl dX7_step_146 ?_
                  refine v_iconst (pc := 149) (nI 1) dX7_step_149 kI_1 ?_
                  refine v_iaddN (pc := 150) dX7_step_150 ?_
                  refine p_X7_94 (pc := 151) (cMr_obj) (by decide) rfl rfl (Nat.le_of_ble_eq_true rfl) dX7_step_151 (wM_fg) ?_
                  refine v_aload_n (pc := 154) 0 dX7_step_154 rfl rfl ?_
                  refine v_dup (pc := 155) dX7_step_155 rfl ?_
                  refine g_X7_81 (pc := 156) (cMr_obj) (by decide) rfl dX7_step_156 ?_
                  refine v_iconst (pc := 159) (nI 1) dX7_step_159 kI_1 ?_
                  refine v_iaddN (pc := 160) dX7_step_160 ?_
                  refine p_X7_81 (pc := 161) (cMr_obj) (by decide) rfl rfl (Nat.le_of_ble_eq_true rfl) dX7_step_161 (wM_at_) ?_
                  refine v_goto (pc := 164) (tgt := 93) dX7_step_164 rfl ?_
                  have hq := hrdg c_107
                  exact ihm (y + 1) (n + 1) _ (by omega) (by omega) (by omega) (by omega) ((dg_t hq).trans hg) (by rw [← hv, ← dv_t (v := v) hq, if_pos (show y - x < 3 by omega), hr_t hq.1, Int32.mul_comm (nI 10) v])
          exact hl_93 (sz - x + 1) x 0 (nI 0) (by omega) hx (by omega) (by omega) rfl rfl
        · refine v_aload_n (pc := 65) 0 dX7_step_65 rfl rfl ?_
          refine v_dup (pc := 66) dX7_step_66 rfl ?_
          refine g_X7_81 (pc := 67) (cMr_obj) (by decide) rfl dX7_step_67 ?_
          refine v_aload_n (pc := 70) 0 dX7_step_70 rfl rfl ?_
          refine g_X7_91 (pc := 71) (cMr_obj) (by decide) rfl dX7_step_71 ?_
          refine v_if_ge (pc := 74) (tgt := 81) dX7_step_74 rfl (fun c_74 => ?_) (fun c_74 => ?_)
          · refine v_iconst (pc := 81) (nI 1) dX7_step_81 kI_1 ?_
            refine v_iaddN (pc := 82) dX7_step_82 ?_
            refine p_X7_81 (pc := 83) (cMr_obj) (by decide) rfl rfl (Nat.le_of_ble_eq_true rfl) dX7_step_83 (wM_at_) ?_
            exact v_vret (pc := 86) dX7_step_86 (⟨rfl, by rw [show mStep xT sz (at_, bg, sg, fg, vl, wr, xR) = _ from if_pos (by show inB (hrI xT sz (sk xT sz at_)) (nI 48) (nI 57) = false; rw [← ex]; exact c_62), ← ex, if_neg (Int32.not_lt.mpr c_74)] <;> rfl⟩)
          · refine v_iconst (pc := 77) (nI 0) dX7_step_77 kI_0 ?_
            refine v_goto (pc := 78) (tgt := 82) dX7_step_78 rfl ?_
            refine v_iaddN (pc := 82) dX7_step_82 ?_
            refine p_X7_81 (pc := 83) (cMr_obj) (by decide) rfl rfl (Nat.le_of_ble_eq_true rfl) dX7_step_83 (wM_at_) ?_
            exact v_vret (pc := 86) dX7_step_86 (⟨rfl, by rw [show mStep xT sz (at_, bg, sg, fg, vl, wr, xR) = _ from if_pos (by show inB (hrI xT sz (sk xT sz at_)) (nI 48) (nI 57) = false; rw [← ex]; exact c_62), ← ex, if_pos (Int32.not_le.mp c_74)] <;> rfl⟩)
      · refine v_aload_n (pc := 9) 0 dX7_step_9 rfl rfl ?_
        refine v_dup (pc := 10) dX7_step_10 rfl ?_
        refine g_X7_81 (pc := 11) (cMr_obj) (by decide) rfl dX7_step_11 ?_
        refine v_iconst (pc := 14) (nI 1) dX7_step_14 kI_1 ?_
        refine v_iaddN (pc := 15) dX7_step_15 ?_
        refine p_X7_81 (pc := 16) (cMr_obj) (by decide) rfl rfl (Nat.le_of_ble_eq_true rfl) dX7_step_16 (wM_at_) ?_
        refine v_goto (pc := 19) (tgt := 0) dX7_step_19 rfl ?_
        exact ihm (x + 1) (by have := (hr32 c_6).1; omega) (by have := (hr32 c_6).1; omega) ((sk_t (hr32 c_6).1 (hr32 c_6).2).trans hs1)
  exact hl_0 (sz - at_ + 1) at_ (by omega) hat rfl
set_option maxHeartbeats 4000000 in
set_option maxRecDepth 100000 in
theorem m_number {E : Ev} {c : CSt} {xP xR xW xS xZ xG xK xT xQ xF xB xL xC : Fn} {un sz wm fm bm at_ bg fg : Nat} {ft sg vl wr : Int32} {sd : Int64} (hsz : sz ≤ 240) (hat : at_ ≤ sz) {k : Nat} (hk : k < 52) (lo hi : Int32) : Ct E yX7_number cX7_number 4 (some .boolean) ({ frames := 2, cells := 0, slots := 0, locals := 45 } : Room) false 146 [.ref (Ez E + 132), .int (nI k), .int lo, .int hi] (cellOf E (c, (mkA xP xR xW xS xZ xG xK xT xQ xF xB xL xC, (nI un, nI sz, ft, nI wm, nI fm, nI bm, nI at_, nI bg, sg, nI fg, vl, wr), sd))) 146 0 0 (Ff (some (.int (bI (mNum xT sz (at_, bg, sg, fg, vl, wr, xR) k lo hi).1))) (cellOf E (c, (mkA xP ((mNum xT sz (at_, bg, sg, fg, vl, wr, xR) k lo hi).2.2.2.2.2.2.2) xW xS xZ xG xK xT xQ xF xB xL xC, (nI un, nI sz, ft, nI wm, nI fm, nI bm, nI (mNum xT sz (at_, bg, sg, fg, vl, wr, xR) k lo hi).2.1, nI (mNum xT sz (at_, bg, sg, fg, vl, wr, xR) k lo hi).2.2.1, (mNum xT sz (at_, bg, sg, fg, vl, wr, xR) k lo hi).2.2.2.1, nI (mNum xT sz (at_, bg, sg, fg, vl, wr, xR) k lo hi).2.2.2.2.1, (mNum xT sz (at_, bg, sg, fg, vl, wr, xR) k lo hi).2.2.2.2.2.1, (mNum xT sz (at_, bg, sg, fg, vl, wr, xR) k lo hi).2.2.2.2.2.2.1), sd)))) := by
  refine Ct.ofV (by decide) (Nat.le_of_ble_eq_true rfl) (fun X hnm => ?_)
  show V E X _ RX7 _ _ _ _ _ _ false 146 0 [(0, .ref (Ez E + 132)), (1, .int (nI k)), (2, .int lo), (3, .int hi)] [] _
  refine v_aload_n (pc := 0) 0 dX7_number_0 rfl rfl ?_
  refine v_callV (pc := 1) _ _ k_X7_107 (cMr_obj) rfl (by decide) (m_step hsz hat) ⟨rfl, rfl, by decide⟩ rfl rfl (Nat.le_of_ble_eq_true rfl) ⟨Nat.le_of_ble_eq_true rfl, Nat.le_of_ble_eq_true rfl⟩ dX7_number_1 (unM (fun a1 g1 x1 f1 v1 w1 R1 hz1 => ?_))
  have ok1 := mStep_ok (T := xT) (L := sz) (z := (at_, bg, sg, fg, vl, wr, xR)) hat
  rw [hz1] at ok1
  have okf : f1 ≤ sz := ok1.1.2.2
  show V E X _ RX7 _ _ _ 0 0 _ false 146 4 _ [] _
  refine v_aload_n (pc := 4) 0 dX7_number_4 rfl rfl ?_
  refine g_X7_91 (pc := 5) (cMr_obj) (by decide) rfl dX7_number_5 ?_
  refine v_bipush (pc := 8) (nI 48) dX7_number_8 kB_48 ?_
  refine v_icmp_eq (pc := 10) (tgt := 19) dX7_number_10 rfl (fun c_10 => ?_) (fun c_10 => ?_)
  · refine v_aload_n (pc := 19) 0 dX7_number_19 rfl rfl ?_
    refine g_X7_94 (pc := 20) (cMr_obj) (by decide) rfl dX7_number_20 ?_
    refine v_iconst (pc := 23) (nI 3) dX7_number_23 kI_3 ?_
    refine v_icmp_gtN (pc := 24) (by omega) (by omega) (tgt := 42) dX7_number_24 rfl (fun c_24 => ?_) (fun c_24 => ?_)
    · refine v_aload_n (pc := 42) 0 dX7_number_42 rfl rfl ?_
      refine v_iconst (pc := 43) (nI 2) dX7_number_43 kI_2 ?_
      refine v_callV (pc := 44) _ _ k_X7_110 (cMr_obj) rfl (by decide) (m_fails _) ⟨rfl, rfl, by decide⟩ rfl rfl (Nat.le_of_ble_eq_true rfl) ⟨Nat.le_of_ble_eq_true rfl, Nat.le_of_ble_eq_true rfl⟩ dX7_number_44 (unS ?_)
      show V E X _ RX7 _ _ _ 0 0 _ false 146 47 _ [_] _
      exact v_zret (pc := 47) dX7_number_47 ((by rfl)) (by rw [show mNum xT sz (at_, bg, sg, fg, vl, wr, xR) k lo hi = _ from (congrArg (fun z => mNumE z k lo hi) hz1).trans <| (if_pos c_10).trans (if_pos (Or.inl (by omega)))]; exact ⟨rfl, rfl⟩)
    · refine v_aload_n (pc := 27) 0 dX7_number_27 rfl rfl ?_
      refine g_X7_97 (pc := 28) (cMr_obj) (by decide) rfl dX7_number_28 ?_
      refine v_i2l (pc := 31) dX7_number_31 ?_
      refine v_iload_n (pc := 32) 2 dX7_number_32 rfl rfl ?_
      refine v_i2l (pc := 33) dX7_number_33 ?_
      refine v_iload_n (pc := 34) 3 dX7_number_34 rfl rfl ?_
      refine v_i2l (pc := 35) dX7_number_35 ?_
      refine v_callS (pc := 36) _ _ k_X7_72 (m_in _ _ _) ⟨rfl, rfl, by decide⟩ rfl rfl (Nat.le_of_ble_eq_true rfl) ⟨Nat.le_of_ble_eq_true rfl, Nat.le_of_ble_eq_true rfl⟩ dX7_number_36 (unS ?_)
      show V E X _ RX7 _ _ _ 0 0 _ false 146 39 _ [_] _
      refine v_if_neB (pc := 39) (tgt := 48) dX7_number_39 rfl (fun c_39 => ?_) (fun c_39 => ?_)
      · refine v_aload_n (pc := 48) 0 dX7_number_48 rfl rfl ?_
        refine g_X7_13 (pc := 49) (cMr_obj) (by decide) rfl dX7_number_49 ?_
        refine v_iload_n (pc := 52) 1 dX7_number_52 rfl rfl ?_
        refine v_aload_n (pc := 53) 0 dX7_number_53 rfl rfl ?_
        refine g_X7_97 (pc := 54) (cMr_obj) (by decide) rfl dX7_number_54 ?_
        refine v_iastN (pc := 57) (cM_read) (by decide) (by omega) (by decide) dX7_number_57 (wM_read) ?_
        refine v_iconst (pc := 58) (nI 1) dX7_number_58 kI_1 ?_
        exact v_zret (pc := 59) dX7_number_59 ((by rfl)) (by rw [show mNum xT sz (at_, bg, sg, fg, vl, wr, xR) k lo hi = _ from (congrArg (fun z => mNumE z k lo hi) hz1).trans <| (if_pos c_10).trans (if_neg (by rintro (q | q); exact absurd (show 3 < f1 from q) (by omega); rw [c_39] at q; exact Bool.noConfusion q))]; exact ⟨rfl, rfl⟩)
      · refine v_aload_n (pc := 42) 0 dX7_number_42 rfl rfl ?_
        refine v_iconst (pc := 43) (nI 2) dX7_number_43 kI_2 ?_
        refine v_callV (pc := 44) _ _ k_X7_110 (cMr_obj) rfl (by decide) (m_fails _) ⟨rfl, rfl, by decide⟩ rfl rfl (Nat.le_of_ble_eq_true rfl) ⟨Nat.le_of_ble_eq_true rfl, Nat.le_of_ble_eq_true rfl⟩ dX7_number_44 (unS ?_)
        show V E X _ RX7 _ _ _ 0 0 _ false 146 47 _ [_] _
        exact v_zret (pc := 47) dX7_number_47 ((by rfl)) (by rw [show mNum xT sz (at_, bg, sg, fg, vl, wr, xR) k lo hi = _ from (congrArg (fun z => mNumE z k lo hi) hz1).trans <| (if_pos c_10).trans (if_pos (Or.inr c_39))]; exact ⟨rfl, rfl⟩)
  · refine v_aload_n (pc := 13) 0 dX7_number_13 rfl rfl ?_
    refine v_iconst (pc := 14) (nI 1) dX7_number_14 kI_1 ?_
    refine v_callV (pc := 15) _ _ k_X7_110 (cMr_obj) rfl (by decide) (m_fails _) ⟨rfl, rfl, by decide⟩ rfl rfl (Nat.le_of_ble_eq_true rfl) ⟨Nat.le_of_ble_eq_true rfl, Nat.le_of_ble_eq_true rfl⟩ dX7_number_15 (unS ?_)
    show V E X _ RX7 _ _ _ 0 0 _ false 146 18 _ [_] _
    exact v_zret (pc := 18) dX7_number_18 ((by rfl)) (by rw [show mNum xT sz (at_, bg, sg, fg, vl, wr, xR) k lo hi = _ from (congrArg (fun z => mNumE z k lo hi) hz1).trans <| if_neg c_10]; exact ⟨rfl, rfl⟩)
set_option maxHeartbeats 4000000 in
set_option maxRecDepth 100000 in
theorem m_ends {E : Ev} {c : CSt} {xP xR xW xS xZ xG xK xT xQ xF xB xL xC : Fn} {un sz wm fm bm at_ bg fg : Nat} {ft sg vl wr : Int32} {sd : Int64} (hsz : sz ≤ 240) (hat : at_ ≤ sz) : Ct E yX7_ends cX7_ends 1 (some .boolean) ({ frames := 2, cells := 0, slots := 0, locals := 45 } : Room) false 146 [.ref (Ez E + 132)] (cellOf E (c, (mkA xP xR xW xS xZ xG xK xT xQ xF xB xL xC, (nI un, nI sz, ft, nI wm, nI fm, nI bm, nI at_, nI bg, sg, nI fg, vl, wr), sd))) 146 0 0 (Ff (some (.int (bI (mEnd xT sz (at_, bg, sg, fg, vl, wr, xR)).1))) (cellOf E (c, (mkA xP ((mEnd xT sz (at_, bg, sg, fg, vl, wr, xR)).2.2.2.2.2.2.2) xW xS xZ xG xK xT xQ xF xB xL xC, (nI un, nI sz, ft, nI wm, nI fm, nI bm, nI (mEnd xT sz (at_, bg, sg, fg, vl, wr, xR)).2.1, nI (mEnd xT sz (at_, bg, sg, fg, vl, wr, xR)).2.2.1, (mEnd xT sz (at_, bg, sg, fg, vl, wr, xR)).2.2.2.1, nI (mEnd xT sz (at_, bg, sg, fg, vl, wr, xR)).2.2.2.2.1, (mEnd xT sz (at_, bg, sg, fg, vl, wr, xR)).2.2.2.2.2.1, (mEnd xT sz (at_, bg, sg, fg, vl, wr, xR)).2.2.2.2.2.2.1), sd)))) := by
  refine Ct.ofV (by decide) (Nat.le_of_ble_eq_true rfl) (fun X hnm => ?_)
  show V E X _ RX7 _ _ _ _ _ _ false 146 0 [(0, .ref (Ez E + 132))] [] _
  refine v_aload_n (pc := 0) 0 dX7_ends_0 rfl rfl ?_
  refine v_callV (pc := 1) _ _ k_X7_107 (cMr_obj) rfl (by decide) (m_step hsz hat) ⟨rfl, rfl, by decide⟩ rfl rfl (Nat.le_of_ble_eq_true rfl) ⟨Nat.le_of_ble_eq_true rfl, Nat.le_of_ble_eq_true rfl⟩ dX7_ends_1 (unM (fun a1 g1 x1 f1 v1 w1 R1 hz1 => ?_))
  have ok1 := mStep_ok (T := xT) (L := sz) (z := (at_, bg, sg, fg, vl, wr, xR)) hat
  rw [hz1] at ok1
  have okf : f1 ≤ sz := ok1.1.2.2
  show V E X _ RX7 _ _ _ 0 0 _ false 146 4 _ [] _
  refine v_aload_n (pc := 4) 0 dX7_ends_4 rfl rfl ?_
  refine g_X7_91 (pc := 5) (cMr_obj) (by decide) rfl dX7_ends_5 ?_
  refine v_bipush (pc := 8) (nI 59) dX7_ends_8 kB_59 ?_
  refine v_icmp_eq (pc := 10) (tgt := 21) dX7_ends_10 rfl (fun c_10 => ?_) (fun c_10 => ?_)
  · refine v_iconst (pc := 21) (nI 1) dX7_ends_21 kI_1 ?_
    refine v_goto (pc := 22) (tgt := 26) dX7_ends_22 rfl ?_
    exact v_zret (pc := 26) dX7_ends_26 ((by rfl)) (by rw [show mEnd xT sz (at_, bg, sg, fg, vl, wr, xR) = _ from (congrArg mEndE hz1).trans <| if_pos c_10]; exact ⟨rfl, rfl⟩)
  · refine v_aload_n (pc := 13) 0 dX7_ends_13 rfl rfl ?_
    refine v_iconst (pc := 14) (nI 1) dX7_ends_14 kI_1 ?_
    refine v_callV (pc := 15) _ _ k_X7_110 (cMr_obj) rfl (by decide) (m_fails _) ⟨rfl, rfl, by decide⟩ rfl rfl (Nat.le_of_ble_eq_true rfl) ⟨Nat.le_of_ble_eq_true rfl, Nat.le_of_ble_eq_true rfl⟩ dX7_ends_15 (unS ?_)
    show V E X _ RX7 _ _ _ 0 0 _ false 146 18 _ [_] _
    refine v_if_eqN (pc := 18) (by omega) (tgt := 25) dX7_ends_18 rfl (fun c_18 => ?_) (fun c_18 => False.elim ((fun z => z (by rfl)) c_18))
    refine v_iconst (pc := 25) (nI 0) dX7_ends_25 kI_0 ?_
    exact v_zret (pc := 26) dX7_ends_26 ((by rfl)) (by rw [show mEnd xT sz (at_, bg, sg, fg, vl, wr, xR) = _ from (congrArg mEndE hz1).trans <| if_neg c_10]; exact ⟨rfl, rfl⟩)
theorem mNumE_2 {L : Nat} {z : MZ} {k : Nat} {lo hi : Int32} (h : mzOk L z) : mzOk L (mNumE z k lo hi).2 ∧ (mNumE z k lo hi).2.1 = z.1 ∧ (∀ i, i ≠ k → (mNumE z k lo hi).2.2.2.2.2.2.2 i = z.2.2.2.2.2.2 i) := by
  unfold mNumE
  split
  · split
    · exact ⟨h, rfl, fun _ _ => rfl⟩
    · exact ⟨h, rfl, fun i hi => upd_ne hi⟩
  · exact ⟨h, rfl, fun _ _ => rfl⟩
theorem mNum_ok {T : Fn} {L : Nat} {z : MZ} {k : Nat} {lo hi : Int32} (h : z.1 ≤ L) : mzOk L (mNum T L z k lo hi).2 ∧ z.1 ≤ (mNum T L z k lo hi).2.1 ∧ (∀ i, i ≠ k → (mNum T L z k lo hi).2.2.2.2.2.2.2 i = z.2.2.2.2.2.2 i) := by
  have h1 := mStep_ok (T := T) h
  have h2 := mNumE_2 (k := k) (lo := lo) (hi := hi) h1.1
  exact ⟨h2.1, by unfold mNum; rw [h2.2.1]; exact h1.2.1, fun i hi => by unfold mNum; rw [h2.2.2 i hi, h1.2.2.2]⟩
theorem mEnd_ok {T : Fn} {L : Nat} {z : MZ} (h : z.1 ≤ L) : mzOk L (mEnd T L z).2 ∧ z.1 ≤ (mEnd T L z).2.1 ∧ (mEnd T L z).2.2.2.2.2.2.2 = z.2.2.2.2.2.2 := by
  have h1 := mStep_ok (T := T) h
  unfold mEnd mEndE
  split
  · exact ⟨h1.1, h1.2.1, by rw [h1.2.2.2]⟩
  · exact ⟨h1.1, h1.2.1, by show (mStep T L z).2.2.2.2.2.2 = _; rw [h1.2.2.2]⟩
set_option maxHeartbeats 4000000 in
set_option maxRecDepth 100000 in
theorem m_person_ {E : Ev} {c : CSt} {xP xR xW xS xZ xG xK xT xQ xF xB xL xC : Fn} {un sz wm fm bm at_ bg fg : Nat} {ft sg vl wr : Int32} {sd : Int64} (hsz : sz ≤ 240) (hat : at_ ≤ sz) {q : Nat} (hq : xR 2 = nI q) (hq7 : q ≤ 7) : Ct E yX7_readsPerson cX7_readsPerson 2 (some .boolean) ({ frames := 3, cells := 0, slots := 0, locals := 68 } : Room) false 146 [.ref (Ez E + 132)] (cellOf E (c, (mkA xP xR xW xS xZ xG xK xT xQ xF xB xL xC, (nI un, nI sz, ft, nI wm, nI fm, nI bm, nI at_, nI bg, sg, nI fg, vl, wr), sd))) 146 0 0 (Ff (some (.int (bI (mPers xT sz (at_, bg, sg, fg, vl, wr, xR) q).1))) (cellOf E (c, (mkA xP ((mPers xT sz (at_, bg, sg, fg, vl, wr, xR) q).2.2.2.2.2.2.2) xW xS xZ xG xK xT xQ xF xB xL xC, (nI un, nI sz, ft, nI wm, nI fm, nI bm, nI (mPers xT sz (at_, bg, sg, fg, vl, wr, xR) q).2.1, nI (mPers xT sz (at_, bg, sg, fg, vl, wr, xR) q).2.2.1, (mPers xT sz (at_, bg, sg, fg, vl, wr, xR) q).2.2.2.1, nI (mPers xT sz (at_, bg, sg, fg, vl, wr, xR) q).2.2.2.2.1, (mPers xT sz (at_, bg, sg, fg, vl, wr, xR) q).2.2.2.2.2.1, (mPers xT sz (at_, bg, sg, fg, vl, wr, xR) q).2.2.2.2.2.2.1), sd)))) := by
  refine Ct.ofV (by decide) (Nat.le_of_ble_eq_true rfl) (fun X hnm => ?_)
  show V E X _ RX7 _ _ _ _ _ _ false 146 0 [(0, .ref (Ez E + 132))] [] _
  refine v_aload_n (pc := 0) 0 dX7_readsPerson_0 rfl rfl ?_
  refine g_X7_13 (pc := 1) (cMr_obj) (by decide) rfl dX7_readsPerson_1 ?_
  refine v_iconst (pc := 4) (nI 2) dX7_readsPerson_4 kI_2 ?_
  refine v_ialdN (pc := 5) (cM_read) (by decide) (by omega) (by decide) dX7_readsPerson_5 ?_
  rw [hq]
  refine v_istore_n (pc := 6) [1, 0] [(0, _), (1, _)] dX7_readsPerson_6 rfl (by decide) rfl ?_
  refine v_iload_n (pc := 7) 1 dX7_readsPerson_7 rfl rfl ?_
  refine v_bipush (pc := 8) (nI 7) dX7_readsPerson_8 kB_7 ?_
  refine v_icmp_neN (pc := 10) (by omega) (by omega) (tgt := 19) dX7_readsPerson_10 rfl (fun c_10 => ?_) (fun c_10 => ?_)
  · refine v_aload_n (pc := 19) 0 dX7_readsPerson_19 rfl rfl ?_
    refine g_X7_13 (pc := 20) (cMr_obj) (by decide) rfl dX7_readsPerson_20 ?_
    refine v_iconst (pc := 23) (nI 2) dX7_readsPerson_23 kI_2 ?_
    refine v_dup2 (pc := 24) dX7_readsPerson_24 rfl rfl ?_
    refine v_ialdN (pc := 25) (cM_read) (by decide) (by omega) (by decide) dX7_readsPerson_25 ?_
    rw [hq]
    refine v_iconst (pc := 26) (nI 1) dX7_readsPerson_26 kI_1 ?_
    refine v_iaddN (pc := 27) dX7_readsPerson_27 ?_
    refine v_iastN (pc := 28) (cM_read) (by decide) (by omega) (by decide) dX7_readsPerson_28 (wM_read) ?_
    refine v_aload_n (pc := 29) 0 dX7_readsPerson_29 rfl rfl ?_
    refine v_iconst (pc := 30) (nI 4) dX7_readsPerson_30 kI_4 ?_
    refine v_iload_n (pc := 31) 1 dX7_readsPerson_31 rfl rfl ?_
    refine v_iaddN (pc := 32) dX7_readsPerson_32 ?_
    refine v_iconst (pc := 33) (nI 0) dX7_readsPerson_33 kI_0 ?_
    refine v_iconst (pc := 34) (nI 4) dX7_readsPerson_34 kI_4 ?_
    refine v_callV (pc := 35) _ _ k_X7_114 (cMr_obj) rfl (by decide) (m_number hsz hat (by omega) _ _) ⟨rfl, rfl, by decide⟩ rfl rfl (Nat.le_of_ble_eq_true rfl) ⟨Nat.le_of_ble_eq_true rfl, Nat.le_of_ble_eq_true rfl⟩ dX7_readsPerson_35 (unB (fun b1 a1 g1 x1 f1 v1 w1 R1 hz1 => ?_))
    have ok1 := mNum_ok (T := xT) (L := sz) (z := (at_, bg, sg, fg, vl, wr, upd xR 2 (nI (q + 1)))) (k := 4 + q) (lo := nI 0) (hi := nI 4) hat
    rw [hz1] at ok1
    show V E X _ RX7 _ _ _ 0 0 _ false 146 38 _ [_] _
    refine v_if_eqB (pc := 38) (tgt := 80) dX7_readsPerson_38 rfl (fun c_38 => ?_) (fun c_38 => ?_)
    · refine v_iconst (pc := 80) (nI 0) dX7_readsPerson_80 kI_0 ?_
      exact v_zret (pc := 81) dX7_readsPerson_81 ((by rfl)) (by rw [show mPers xT sz (at_, bg, sg, fg, vl, wr, xR) q = _ from (if_neg (by omega)).trans (andR_f (hz1.trans (congrArg (fun b => (b, a1, g1, x1, f1, v1, w1, R1)) (show b1 = false from c_38))))]; exact ⟨rfl, rfl⟩)
    · refine v_aload_n (pc := 41) 0 dX7_readsPerson_41 rfl rfl ?_
      refine v_bipush (pc := 42) (nI 11) dX7_readsPerson_42 kB_11 ?_
      refine v_iload_n (pc := 44) 1 dX7_readsPerson_44 rfl rfl ?_
      refine v_iaddN (pc := 45) dX7_readsPerson_45 ?_
      refine v_iconst (pc := 46) (nI 0) dX7_readsPerson_46 kI_0 ?_
      refine v_bipush (pc := 47) (nI 99) dX7_readsPerson_47 kB_99 ?_
      refine v_callV (pc := 49) _ _ k_X7_114 (cMr_obj) rfl (by decide) (m_number hsz ok1.1.1 (by omega) _ _) ⟨rfl, rfl, by decide⟩ rfl rfl (Nat.le_of_ble_eq_true rfl) ⟨Nat.le_of_ble_eq_true rfl, Nat.le_of_ble_eq_true rfl⟩ dX7_readsPerson_49 (unB (fun b2 a2 g2 x2 f2 v2 w2 R2 hz2 => ?_))
      have ok2 := mNum_ok (T := xT) (L := sz) (z := (a1, g1, x1, f1, v1, w1, R1)) (k := 11 + q) (lo := nI 0) (hi := nI 99) ok1.1.1
      rw [hz2] at ok2
      show V E X _ RX7 _ _ _ 0 0 _ false 146 52 _ [_] _
      refine v_if_eqB (pc := 52) (tgt := 80) dX7_readsPerson_52 rfl (fun c_52 => ?_) (fun c_52 => ?_)
      · refine v_iconst (pc := 80) (nI 0) dX7_readsPerson_80 kI_0 ?_
        exact v_zret (pc := 81) dX7_readsPerson_81 ((by rfl)) (by rw [show mPers xT sz (at_, bg, sg, fg, vl, wr, xR) q = _ from (if_neg (by omega)).trans ((andR_t (hz1.trans (congrArg (fun b => (b, a1, g1, x1, f1, v1, w1, R1)) (show b1 = true from c_38)))).trans (andR_f (hz2.trans (congrArg (fun b => (b, a2, g2, x2, f2, v2, w2, R2)) (show b2 = false from c_52)))))]; exact ⟨rfl, rfl⟩)
      · refine v_aload_n (pc := 55) 0 dX7_readsPerson_55 rfl rfl ?_
        refine v_bipush (pc := 56) (nI 18) dX7_readsPerson_56 kB_18 ?_
        refine v_iload_n (pc := 58) 1 dX7_readsPerson_58 rfl rfl ?_
        refine v_iaddN (pc := 59) dX7_readsPerson_59 ?_
        refine v_iconst (pc := 60) (nI 0) dX7_readsPerson_60 kI_0 ?_
        refine v_bipush (pc := 61) (nI 50) dX7_readsPerson_61 kB_50 ?_
        refine v_callV (pc := 63) _ _ k_X7_114 (cMr_obj) rfl (by decide) (m_number hsz ok2.1.1 (by omega) _ _) ⟨rfl, rfl, by decide⟩ rfl rfl (Nat.le_of_ble_eq_true rfl) ⟨Nat.le_of_ble_eq_true rfl, Nat.le_of_ble_eq_true rfl⟩ dX7_readsPerson_63 (unB (fun b3 a3 g3 x3 f3 v3 w3 R3 hz3 => ?_))
        have ok3 := mNum_ok (T := xT) (L := sz) (z := (a2, g2, x2, f2, v2, w2, R2)) (k := 18 + q) (lo := nI 0) (hi := nI 50) ok2.1.1
        rw [hz3] at ok3
        show V E X _ RX7 _ _ _ 0 0 _ false 146 66 _ [_] _
        refine v_if_eqB (pc := 66) (tgt := 80) dX7_readsPerson_66 rfl (fun c_66 => ?_) (fun c_66 => ?_)
        · refine v_iconst (pc := 80) (nI 0) dX7_readsPerson_80 kI_0 ?_
          exact v_zret (pc := 81) dX7_readsPerson_81 ((by rfl)) (by rw [show mPers xT sz (at_, bg, sg, fg, vl, wr, xR) q = _ from (if_neg (by omega)).trans ((andR_t (hz1.trans (congrArg (fun b => (b, a1, g1, x1, f1, v1, w1, R1)) (show b1 = true from c_38)))).trans ((andR_t (hz2.trans (congrArg (fun b => (b, a2, g2, x2, f2, v2, w2, R2)) (show b2 = true from c_52)))).trans (andR_f (hz3.trans (congrArg (fun b => (b, a3, g3, x3, f3, v3, w3, R3)) (show b3 = false from c_66))))))]; exact ⟨rfl, rfl⟩)
        · refine v_aload_n (pc := 69) 0 dX7_readsPerson_69 rfl rfl ?_
          refine v_callV (pc := 70) _ _ k_X7_118 (cMr_obj) rfl (by decide) (m_ends hsz ok3.1.1) ⟨rfl, rfl, by decide⟩ rfl rfl (Nat.le_of_ble_eq_true rfl) ⟨Nat.le_of_ble_eq_true rfl, Nat.le_of_ble_eq_true rfl⟩ dX7_readsPerson_70 (unB (fun b4 a4 g4 x4 f4 v4 w4 R4 hz4 => ?_))
          show V E X _ RX7 _ _ _ 0 0 _ false 146 73 _ [_] _
          refine v_if_eqB (pc := 73) (tgt := 80) dX7_readsPerson_73 rfl (fun c_73 => ?_) (fun c_73 => ?_)
          · refine v_iconst (pc := 80) (nI 0) dX7_readsPerson_80 kI_0 ?_
            exact v_zret (pc := 81) dX7_readsPerson_81 ((by rfl)) (by rw [show mPers xT sz (at_, bg, sg, fg, vl, wr, xR) q = _ from (if_neg (by omega)).trans ((andR_t (hz1.trans (congrArg (fun b => (b, a1, g1, x1, f1, v1, w1, R1)) (show b1 = true from c_38)))).trans ((andR_t (hz2.trans (congrArg (fun b => (b, a2, g2, x2, f2, v2, w2, R2)) (show b2 = true from c_52)))).trans ((andR_t (hz3.trans (congrArg (fun b => (b, a3, g3, x3, f3, v3, w3, R3)) (show b3 = true from c_66)))).trans (hz4))))]; rw [show b4 = false from c_73]; exact ⟨rfl, rfl⟩)
          · refine v_iconst (pc := 76) (nI 1) dX7_readsPerson_76 kI_1 ?_
            refine v_goto (pc := 77) (tgt := 81) dX7_readsPerson_77 rfl ?_
            exact v_zret (pc := 81) dX7_readsPerson_81 ((by rfl)) (by rw [show mPers xT sz (at_, bg, sg, fg, vl, wr, xR) q = _ from (if_neg (by omega)).trans ((andR_t (hz1.trans (congrArg (fun b => (b, a1, g1, x1, f1, v1, w1, R1)) (show b1 = true from c_38)))).trans ((andR_t (hz2.trans (congrArg (fun b => (b, a2, g2, x2, f2, v2, w2, R2)) (show b2 = true from c_52)))).trans ((andR_t (hz3.trans (congrArg (fun b => (b, a3, g3, x3, f3, v3, w3, R3)) (show b3 = true from c_66)))).trans (hz4))))]; rw [show b4 = true from c_73]; exact ⟨rfl, rfl⟩)
  · refine v_aload_n (pc := 13) 0 dX7_readsPerson_13 rfl rfl ?_
    refine v_iconst (pc := 14) (nI 3) dX7_readsPerson_14 kI_3 ?_
    refine v_callV (pc := 15) _ _ k_X7_110 (cMr_obj) rfl (by decide) (m_fails _) ⟨rfl, rfl, by decide⟩ rfl rfl (Nat.le_of_ble_eq_true rfl) ⟨Nat.le_of_ble_eq_true rfl, Nat.le_of_ble_eq_true rfl⟩ dX7_readsPerson_15 (unS ?_)
    show V E X _ RX7 _ _ _ 0 0 _ false 146 18 _ [_] _
    exact v_zret (pc := 18) dX7_readsPerson_18 ((by rfl)) (by rw [show mPers xT sz (at_, bg, sg, fg, vl, wr, xR) q = _ from if_pos (by omega)]; exact ⟨rfl, rfl⟩)
set_option maxHeartbeats 4000000 in
set_option maxRecDepth 100000 in
theorem m_debt_ {E : Ev} {c : CSt} {xP xR xW xS xZ xG xK xT xQ xF xB xL xC : Fn} {un sz wm fm bm at_ bg fg : Nat} {ft sg vl wr : Int32} {sd : Int64} (hsz : sz ≤ 240) (hat : at_ ≤ sz) {d : Nat} (hd : xR 3 = nI d) (hd9 : d ≤ 9) : Ct E yX7_readsDebt cX7_readsDebt 3 (some .boolean) ({ frames := 3, cells := 0, slots := 0, locals := 68 } : Room) false 146 [.ref (Ez E + 132)] (cellOf E (c, (mkA xP xR xW xS xZ xG xK xT xQ xF xB xL xC, (nI un, nI sz, ft, nI wm, nI fm, nI bm, nI at_, nI bg, sg, nI fg, vl, wr), sd))) 146 0 0 (Ff (some (.int (bI (mDebt xT sz (at_, bg, sg, fg, vl, wr, xR) d).1))) (cellOf E (c, (mkA xP ((mDebt xT sz (at_, bg, sg, fg, vl, wr, xR) d).2.2.2.2.2.2.2) xW xS xZ xG xK xT xQ xF xB xL xC, (nI un, nI sz, ft, nI wm, nI fm, nI bm, nI (mDebt xT sz (at_, bg, sg, fg, vl, wr, xR) d).2.1, nI (mDebt xT sz (at_, bg, sg, fg, vl, wr, xR) d).2.2.1, (mDebt xT sz (at_, bg, sg, fg, vl, wr, xR) d).2.2.2.1, nI (mDebt xT sz (at_, bg, sg, fg, vl, wr, xR) d).2.2.2.2.1, (mDebt xT sz (at_, bg, sg, fg, vl, wr, xR) d).2.2.2.2.2.1, (mDebt xT sz (at_, bg, sg, fg, vl, wr, xR) d).2.2.2.2.2.2.1), sd)))) := by
  refine Ct.ofV (by decide) (Nat.le_of_ble_eq_true rfl) (fun X hnm => ?_)
  show V E X _ RX7 _ _ _ _ _ _ false 146 0 [(0, .ref (Ez E + 132))] [] _
  refine v_aload_n (pc := 0) 0 dX7_readsDebt_0 rfl rfl ?_
  refine g_X7_13 (pc := 1) (cMr_obj) (by decide) rfl dX7_readsDebt_1 ?_
  refine v_iconst (pc := 4) (nI 3) dX7_readsDebt_4 kI_3 ?_
  refine v_ialdN (pc := 5) (cM_read) (by decide) (by omega) (by decide) dX7_readsDebt_5 ?_
  rw [hd]
  refine v_istore_n (pc := 6) [1, 0] [(0, _), (1, _)] dX7_readsDebt_6 rfl (by decide) rfl ?_
  refine v_iload_n (pc := 7) 1 dX7_readsDebt_7 rfl rfl ?_
  refine v_bipush (pc := 8) (nI 9) dX7_readsDebt_8 kB_9 ?_
  refine v_icmp_neN (pc := 10) (by omega) (by omega) (tgt := 19) dX7_readsDebt_10 rfl (fun c_10 => ?_) (fun c_10 => ?_)
  · refine v_aload_n (pc := 19) 0 dX7_readsDebt_19 rfl rfl ?_
    refine g_X7_13 (pc := 20) (cMr_obj) (by decide) rfl dX7_readsDebt_20 ?_
    refine v_iconst (pc := 23) (nI 3) dX7_readsDebt_23 kI_3 ?_
    refine v_dup2 (pc := 24) dX7_readsDebt_24 rfl rfl ?_
    refine v_ialdN (pc := 25) (cM_read) (by decide) (by omega) (by decide) dX7_readsDebt_25 ?_
    rw [hd]
    refine v_iconst (pc := 26) (nI 1) dX7_readsDebt_26 kI_1 ?_
    refine v_iaddN (pc := 27) dX7_readsDebt_27 ?_
    refine v_iastN (pc := 28) (cM_read) (by decide) (by omega) (by decide) dX7_readsDebt_28 (wM_read) ?_
    refine v_aload_n (pc := 29) 0 dX7_readsDebt_29 rfl rfl ?_
    refine g_X7_13 (pc := 30) (cMr_obj) (by decide) rfl dX7_readsDebt_30 ?_
    refine v_iconst (pc := 33) (nI 2) dX7_readsDebt_33 kI_2 ?_
    refine v_ialdN (pc := 34) (cM_read) (by decide) (by omega) (by decide) dX7_readsDebt_34 ?_
    refine v_iconst (pc := 35) (nI 1) dX7_readsDebt_35 kI_1 ?_
    refine v_isub (pc := 36) dX7_readsDebt_36 ?_
    refine v_istore_n (pc := 37) [1, 2, 0] [(0, _), (1, _), (2, _)] dX7_readsDebt_37 rfl (by decide) rfl ?_
    refine v_aload_n (pc := 38) 0 dX7_readsDebt_38 rfl rfl ?_
    refine v_bipush (pc := 39) (nI 25) dX7_readsDebt_39 kB_25 ?_
    refine v_iload_n (pc := 41) 1 dX7_readsDebt_41 rfl rfl ?_
    refine v_iaddN (pc := 42) dX7_readsDebt_42 ?_
    refine v_iconst (pc := 43) (nI 0) dX7_readsDebt_43 kI_0 ?_
    refine v_iload_n (pc := 44) 2 dX7_readsDebt_44 rfl rfl ?_
    refine v_callV (pc := 45) _ _ k_X7_114 (cMr_obj) rfl (by decide) (m_number hsz hat (by omega) _ _) ⟨rfl, rfl, by decide⟩ rfl rfl (Nat.le_of_ble_eq_true rfl) ⟨Nat.le_of_ble_eq_true rfl, Nat.le_of_ble_eq_true rfl⟩ dX7_readsDebt_45 (unB (fun b1 a1 g1 x1 f1 v1 w1 R1 hz1 => ?_))
    have ok1 := mNum_ok (T := xT) (L := sz) (z := (at_, bg, sg, fg, vl, wr, upd xR 3 (nI (d + 1)))) (k := 25 + d) (lo := nI 0) (hi := (upd xR 3 (nI (d + 1)) 2 - nI 1)) hat
    rw [hz1] at ok1
    show V E X _ RX7 _ _ _ 0 0 _ false 146 48 _ [_] _
    refine v_if_eqB (pc := 48) (tgt := 64) dX7_readsDebt_48 rfl (fun c_48 => ?_) (fun c_48 => ?_)
    · refine v_iconst (pc := 64) (nI 0) dX7_readsDebt_64 kI_0 ?_
      exact v_zret (pc := 65) dX7_readsDebt_65 ((by rfl)) (by rw [show mDebt xT sz (at_, bg, sg, fg, vl, wr, xR) d = _ from (if_neg (by omega)).trans (andR_f (hz1.trans (congrArg (fun b => (b, a1, g1, x1, f1, v1, w1, R1)) (show b1 = false from c_48))))]; exact ⟨rfl, rfl⟩)
    · refine v_aload_n (pc := 51) 0 dX7_readsDebt_51 rfl rfl ?_
      refine v_bipush (pc := 52) (nI 34) dX7_readsDebt_52 kB_34 ?_
      refine v_iload_n (pc := 54) 1 dX7_readsDebt_54 rfl rfl ?_
      refine v_iaddN (pc := 55) dX7_readsDebt_55 ?_
      refine v_iconst (pc := 56) (nI 0) dX7_readsDebt_56 kI_0 ?_
      refine v_iload_n (pc := 57) 2 dX7_readsDebt_57 rfl rfl ?_
      refine v_callV (pc := 58) _ _ k_X7_114 (cMr_obj) rfl (by decide) (m_number hsz ok1.1.1 (by omega) _ _) ⟨rfl, rfl, by decide⟩ rfl rfl (Nat.le_of_ble_eq_true rfl) ⟨Nat.le_of_ble_eq_true rfl, Nat.le_of_ble_eq_true rfl⟩ dX7_readsDebt_58 (unB (fun b2 a2 g2 x2 f2 v2 w2 R2 hz2 => ?_))
      have ok2 := mNum_ok (T := xT) (L := sz) (z := (a1, g1, x1, f1, v1, w1, R1)) (k := 34 + d) (lo := nI 0) (hi := (upd xR 3 (nI (d + 1)) 2 - nI 1)) ok1.1.1
      rw [hz2] at ok2
      show V E X _ RX7 _ _ _ 0 0 _ false 146 61 _ [_] _
      refine v_if_neB (pc := 61) (tgt := 66) dX7_readsDebt_61 rfl (fun c_61 => ?_) (fun c_61 => ?_)
      · refine v_aload_n (pc := 66) 0 dX7_readsDebt_66 rfl rfl ?_
        refine g_X7_13 (pc := 67) (cMr_obj) (by decide) rfl dX7_readsDebt_67 ?_
        refine v_bipush (pc := 70) (nI 25) dX7_readsDebt_70 kB_25 ?_
        refine v_iload_n (pc := 72) 1 dX7_readsDebt_72 rfl rfl ?_
        refine v_iaddN (pc := 73) dX7_readsDebt_73 ?_
        refine v_ialdN (pc := 74) (cM_read) (by decide) (by omega) (by decide) dX7_readsDebt_74 ?_
        refine v_aload_n (pc := 75) 0 dX7_readsDebt_75 rfl rfl ?_
        refine g_X7_13 (pc := 76) (cMr_obj) (by decide) rfl dX7_readsDebt_76 ?_
        refine v_bipush (pc := 79) (nI 34) dX7_readsDebt_79 kB_34 ?_
        refine v_iload_n (pc := 81) 1 dX7_readsDebt_81 rfl rfl ?_
        refine v_iaddN (pc := 82) dX7_readsDebt_82 ?_
        refine v_ialdN (pc := 83) (cM_read) (by decide) (by omega) (by decide) dX7_readsDebt_83 ?_
        refine v_icmp_ne (pc := 84) (tgt := 93) dX7_readsDebt_84 rfl (fun c_84 => ?_) (fun c_84 => ?_)
        · refine v_aload_n (pc := 93) 0 dX7_readsDebt_93 rfl rfl ?_
          refine v_bipush (pc := 94) (nI 43) dX7_readsDebt_94 kB_43 ?_
          refine v_iload_n (pc := 96) 1 dX7_readsDebt_96 rfl rfl ?_
          refine v_iaddN (pc := 97) dX7_readsDebt_97 ?_
          refine v_iconst (pc := 98) (nI 1) dX7_readsDebt_98 kI_1 ?_
          refine v_bipush (pc := 99) (nI 99) dX7_readsDebt_99 kB_99 ?_
          refine v_callV (pc := 101) _ _ k_X7_114 (cMr_obj) rfl (by decide) (m_number hsz ok2.1.1 (by omega) _ _) ⟨rfl, rfl, by decide⟩ rfl rfl (Nat.le_of_ble_eq_true rfl) ⟨Nat.le_of_ble_eq_true rfl, Nat.le_of_ble_eq_true rfl⟩ dX7_readsDebt_101 (unB (fun b3 a3 g3 x3 f3 v3 w3 R3 hz3 => ?_))
          have ok3 := mNum_ok (T := xT) (L := sz) (z := (a2, g2, x2, f2, v2, w2, R2)) (k := 43 + d) (lo := nI 1) (hi := nI 99) ok2.1.1
          rw [hz3] at ok3
          show V E X _ RX7 _ _ _ 0 0 _ false 146 104 _ [_] _
          refine v_if_eqB (pc := 104) (tgt := 118) dX7_readsDebt_104 rfl (fun c_104 => ?_) (fun c_104 => ?_)
          · refine v_iconst (pc := 118) (nI 0) dX7_readsDebt_118 kI_0 ?_
            exact v_zret (pc := 119) dX7_readsDebt_119 ((by rfl)) (by rw [show mDebt xT sz (at_, bg, sg, fg, vl, wr, xR) d = _ from (if_neg (by omega)).trans ((andR_t (hz1.trans (congrArg (fun b => (b, a1, g1, x1, f1, v1, w1, R1)) (show b1 = true from c_48)))).trans ((andR_t (hz2.trans (congrArg (fun b => (b, a2, g2, x2, f2, v2, w2, R2)) (show b2 = true from c_61)))).trans ((if_neg c_84).trans (andR_f (hz3.trans (congrArg (fun b => (b, a3, g3, x3, f3, v3, w3, R3)) (show b3 = false from c_104)))))))]; exact ⟨rfl, rfl⟩)
          · refine v_aload_n (pc := 107) 0 dX7_readsDebt_107 rfl rfl ?_
            refine v_callV (pc := 108) _ _ k_X7_118 (cMr_obj) rfl (by decide) (m_ends hsz ok3.1.1) ⟨rfl, rfl, by decide⟩ rfl rfl (Nat.le_of_ble_eq_true rfl) ⟨Nat.le_of_ble_eq_true rfl, Nat.le_of_ble_eq_true rfl⟩ dX7_readsDebt_108 (unB (fun b4 a4 g4 x4 f4 v4 w4 R4 hz4 => ?_))
            show V E X _ RX7 _ _ _ 0 0 _ false 146 111 _ [_] _
            refine v_if_eqB (pc := 111) (tgt := 118) dX7_readsDebt_111 rfl (fun c_111 => ?_) (fun c_111 => ?_)
            · refine v_iconst (pc := 118) (nI 0) dX7_readsDebt_118 kI_0 ?_
              exact v_zret (pc := 119) dX7_readsDebt_119 ((by rfl)) (by rw [show mDebt xT sz (at_, bg, sg, fg, vl, wr, xR) d = _ from (if_neg (by omega)).trans ((andR_t (hz1.trans (congrArg (fun b => (b, a1, g1, x1, f1, v1, w1, R1)) (show b1 = true from c_48)))).trans ((andR_t (hz2.trans (congrArg (fun b => (b, a2, g2, x2, f2, v2, w2, R2)) (show b2 = true from c_61)))).trans ((if_neg c_84).trans ((andR_t (hz3.trans (congrArg (fun b => (b, a3, g3, x3, f3, v3, w3, R3)) (show b3 = true from c_104)))).trans (hz4)))))]; rw [show b4 = false from c_111]; exact ⟨rfl, rfl⟩)
            · refine v_iconst (pc := 114) (nI 1) dX7_readsDebt_114 kI_1 ?_
              refine v_goto (pc := 115) (tgt := 119) dX7_readsDebt_115 rfl ?_
              exact v_zret (pc := 119) dX7_readsDebt_119 ((by rfl)) (by rw [show mDebt xT sz (at_, bg, sg, fg, vl, wr, xR) d = _ from (if_neg (by omega)).trans ((andR_t (hz1.trans (congrArg (fun b => (b, a1, g1, x1, f1, v1, w1, R1)) (show b1 = true from c_48)))).trans ((andR_t (hz2.trans (congrArg (fun b => (b, a2, g2, x2, f2, v2, w2, R2)) (show b2 = true from c_61)))).trans ((if_neg c_84).trans ((andR_t (hz3.trans (congrArg (fun b => (b, a3, g3, x3, f3, v3, w3, R3)) (show b3 = true from c_104)))).trans (hz4)))))]; rw [show b4 = true from c_111]; exact ⟨rfl, rfl⟩)
        · refine v_aload_n (pc := 87) 0 dX7_readsDebt_87 rfl rfl ?_
          refine v_iconst (pc := 88) (nI 4) dX7_readsDebt_88 kI_4 ?_
          refine v_callV (pc := 89) _ _ k_X7_110 (cMr_obj) rfl (by decide) (m_fails _) ⟨rfl, rfl, by decide⟩ rfl rfl (Nat.le_of_ble_eq_true rfl) ⟨Nat.le_of_ble_eq_true rfl, Nat.le_of_ble_eq_true rfl⟩ dX7_readsDebt_89 (unS ?_)
          show V E X _ RX7 _ _ _ 0 0 _ false 146 92 _ [_] _
          exact v_zret (pc := 92) dX7_readsDebt_92 ((by rfl)) (by rw [show mDebt xT sz (at_, bg, sg, fg, vl, wr, xR) d = _ from (if_neg (by omega)).trans ((andR_t (hz1.trans (congrArg (fun b => (b, a1, g1, x1, f1, v1, w1, R1)) (show b1 = true from c_48)))).trans ((andR_t (hz2.trans (congrArg (fun b => (b, a2, g2, x2, f2, v2, w2, R2)) (show b2 = true from c_61)))).trans (if_pos c_84)))]; exact ⟨rfl, rfl⟩)
      · refine v_iconst (pc := 64) (nI 0) dX7_readsDebt_64 kI_0 ?_
        exact v_zret (pc := 65) dX7_readsDebt_65 ((by rfl)) (by rw [show mDebt xT sz (at_, bg, sg, fg, vl, wr, xR) d = _ from (if_neg (by omega)).trans ((andR_t (hz1.trans (congrArg (fun b => (b, a1, g1, x1, f1, v1, w1, R1)) (show b1 = true from c_48)))).trans (andR_f (hz2.trans (congrArg (fun b => (b, a2, g2, x2, f2, v2, w2, R2)) (show b2 = false from c_61)))))]; exact ⟨rfl, rfl⟩)
  · refine v_aload_n (pc := 13) 0 dX7_readsDebt_13 rfl rfl ?_
    refine v_iconst (pc := 14) (nI 3) dX7_readsDebt_14 kI_3 ?_
    refine v_callV (pc := 15) _ _ k_X7_110 (cMr_obj) rfl (by decide) (m_fails _) ⟨rfl, rfl, by decide⟩ rfl rfl (Nat.le_of_ble_eq_true rfl) ⟨Nat.le_of_ble_eq_true rfl, Nat.le_of_ble_eq_true rfl⟩ dX7_readsDebt_15 (unS ?_)
    show V E X _ RX7 _ _ _ 0 0 _ false 146 18 _ [_] _
    exact v_zret (pc := 18) dX7_readsDebt_18 ((by rfl)) (by rw [show mDebt xT sz (at_, bg, sg, fg, vl, wr, xR) d = _ from if_pos (by omega)]; exact ⟨rfl, rfl⟩)
theorem andR_ok {L : Nat} {z0 : MZ} {r : Bool × MZ} {f : MZ → Bool × MZ} (I : MZ → MZ → Prop) (ht : ∀ x y z, I x y → I y z → I x z) (hr : I z0 r.2) (hf : ∀ z, I z0 z → I z (f z).2) : I z0 (andR r f).2 := by
  unfold andR
  split
  · exact ht _ _ _ hr (hf _ hr)
  · exact hr
/-- a reader's step forward that leaves how many there are -/
def mFw (L : Nat) (x y : MZ) : Prop := mzOk L x → (mzOk L y ∧ x.1 ≤ y.1 ∧ y.2.2.2.2.2.2 2 = x.2.2.2.2.2.2 2 ∧ y.2.2.2.2.2.2 3 = x.2.2.2.2.2.2 3)
theorem mFw_t (L : Nat) (x y z : MZ) (h1 : mFw L x y) (h2 : mFw L y z) : mFw L x z := fun h => by
  have a := h1 h
  have b := h2 a.1
  exact ⟨b.1, Nat.le_trans a.2.1 b.2.1, b.2.2.1.trans a.2.2.1, b.2.2.2.trans a.2.2.2⟩
theorem mNum_fw {T : Fn} {L : Nat} {z : MZ} {k : Nat} {lo hi : Int32} (h2 : 2 ≠ k) (h3 : 3 ≠ k) : mFw L z (mNum T L z k lo hi).2 := fun h => by
  have a := mNum_ok (T := T) (k := k) (lo := lo) (hi := hi) h.1
  exact ⟨a.1, a.2.1, a.2.2 2 h2, a.2.2 3 h3⟩
theorem mEnd_fw {T : Fn} {L : Nat} {z : MZ} : mFw L z (mEnd T L z).2 := fun h => by
  have a := mEnd_ok (T := T) h.1
  exact ⟨a.1, a.2.1, by rw [a.2.2], by rw [a.2.2]⟩
/-- what a clause leaves -/
def mCk (L : Nat) (z : MZ) (q d : Nat) (y : MZ) : Prop := mzOk L y ∧ z.1 ≤ y.1 ∧ ∃ q' d' : Nat, y.2.2.2.2.2.2 2 = nI q' ∧ y.2.2.2.2.2.2 3 = nI d' ∧ q' ≤ 7 ∧ d' ≤ 9
theorem mFw_ck {L : Nat} {x y : MZ} {q d : Nat} (h : mFw L x y) (hx : mzOk L x) (h2 : x.2.2.2.2.2.2 2 = nI q) (h3 : x.2.2.2.2.2.2 3 = nI d) (hq : q ≤ 7) (hd : d ≤ 9) : mCk L x q d y := by
  have a := h hx
  exact ⟨a.1, a.2.1, q, d, a.2.2.1.trans h2, a.2.2.2.trans h3, hq, hd⟩
theorem mPers_ck {T : Fn} {L : Nat} {z : MZ} {q d : Nat} (h : mzOk L z) (h2 : z.2.2.2.2.2.2 2 = nI q) (h3 : z.2.2.2.2.2.2 3 = nI d) (hq : q ≤ 7) (hd : d ≤ 9) : mCk L z q d (mPers T L z q).2 := by
  unfold mPers
  by_cases e : q = 7
  · rw [if_pos e]; exact ⟨h, Nat.le_refl _, q, d, h2, h3, hq, hd⟩
  · rw [if_neg e]
    have f : mFw L (mPut z 2 (nI (q + 1))) (mPersE T L (mPut z 2 (nI (q + 1))) q).2 := by
      unfold mPersE
      refine andR_ok (L := L) (mFw L) (mFw_t L) (mNum_fw (by omega) (by omega)) (fun y _ => ?_)
      refine andR_ok (L := L) (mFw L) (mFw_t L) (mNum_fw (by omega) (by omega)) (fun y _ => ?_)
      exact andR_ok (L := L) (mFw L) (mFw_t L) (mNum_fw (by omega) (by omega)) (fun y _ => mEnd_fw)
    have a := f h
    exact ⟨a.1, a.2.1, q + 1, d, a.2.2.1.trans mPut_s, a.2.2.2.trans ((mPut_n (by decide)).trans h3), by omega, hd⟩
theorem mDebt_ck {T : Fn} {L : Nat} {z : MZ} {q d : Nat} (h : mzOk L z) (h2 : z.2.2.2.2.2.2 2 = nI q) (h3 : z.2.2.2.2.2.2 3 = nI d) (hq : q ≤ 7) (hd : d ≤ 9) : mCk L z q d (mDebt T L z d).2 := by
  unfold mDebt
  by_cases e : d = 9
  · rw [if_pos e]; exact ⟨h, Nat.le_refl _, q, d, h2, h3, hq, hd⟩
  · rw [if_neg e]
    generalize upd z.2.2.2.2.2.2 3 (nI (d + 1)) 2 - nI 1 = m
    have f : mFw L (mPut z 3 (nI (d + 1))) (mDebtE T L (mPut z 3 (nI (d + 1))) d m).2 := by
      unfold mDebtE
      refine andR_ok (L := L) (mFw L) (mFw_t L) (mNum_fw (by omega) (by omega)) (fun y _ => ?_)
      refine andR_ok (L := L) (mFw L) (mFw_t L) (mNum_fw (by omega) (by omega)) (fun y hy => ?_)
      split
      · exact fun hL => ⟨hL, Nat.le_refl _, rfl, rfl⟩
      · exact andR_ok (L := L) (mFw L) (mFw_t L) (mNum_fw (by omega) (by omega)) (fun y _ => mEnd_fw)
    have a := f h
    exact ⟨a.1, a.2.1, q, d + 1, a.2.2.1.trans ((mPut_n (by decide)).trans h2), a.2.2.2.trans mPut_s, hq, by omega⟩
theorem mTree_ck {T : Fn} {L : Nat} {z : MZ} {q d : Nat} (h : mzOk L z) (h2 : z.2.2.2.2.2.2 2 = nI q) (h3 : z.2.2.2.2.2.2 3 = nI d) (hq : q ≤ 7) (hd : d ≤ 9) : mCk L z q d (mTree T L z).2 := by
  unfold mTree
  split
  · refine mFw_ck ?_ h h2 h3 hq hd
    refine andR_ok (L := L) (mFw L) (mFw_t L) (mNum_fw (by omega) (by omega)) (fun y _ => ?_)
    exact andR_ok (L := L) (mFw L) (mFw_t L) (mNum_fw (by omega) (by omega)) (fun y _ => mEnd_fw)
  · exact ⟨h, Nat.le_refl _, q, d, h2, h3, hq, hd⟩
theorem mClause_ck {T : Fn} {L : Nat} {z : MZ} {q d : Nat} (h : mzOk L z) (h2 : z.2.2.2.2.2.2 2 = nI q) (h3 : z.2.2.2.2.2.2 3 = nI d) (hq : q ≤ 7) (hd : d ≤ 9) : mCk L z q d (mClause T L z q d).2 := by
  unfold mClause
  split
  · exact mTree_ck h h2 h3 hq hd
  · split
    · exact ⟨h, Nat.le_refl _, q, d, h2, h3, hq, hd⟩
    · split
      · exact mPers_ck h h2 h3 hq hd
      · split
        · exact mDebt_ck h h2 h3 hq hd
        · exact ⟨h, Nat.le_refl _, q, d, h2, h3, hq, hd⟩
set_option maxHeartbeats 4000000 in
set_option maxRecDepth 100000 in
theorem m_clause {E : Ev} {c : CSt} {xP xR xW xS xZ xG xK xT xQ xF xB xL xC : Fn} {un sz wm fm bm at_ bg fg : Nat} {ft sg vl wr : Int32} {sd : Int64} (hsz : sz ≤ 240) (hat : at_ ≤ sz) {q d : Nat} (hq : xR 2 = nI q) (hd : xR 3 = nI d) (hq7 : q ≤ 7) (hd9 : d ≤ 9) : Ct E yX7_readsClause cX7_readsClause 1 (some .boolean) ({ frames := 4, cells := 0, slots := 0, locals := 90 } : Room) false 146 [.ref (Ez E + 132)] (cellOf E (c, (mkA xP xR xW xS xZ xG xK xT xQ xF xB xL xC, (nI un, nI sz, ft, nI wm, nI fm, nI bm, nI at_, nI bg, sg, nI fg, vl, wr), sd))) 146 0 0 (Ff (some (.int (bI (mClause xT sz (at_, bg, sg, fg, vl, wr, xR) q d).1))) (cellOf E (c, (mkA xP ((mClause xT sz (at_, bg, sg, fg, vl, wr, xR) q d).2.2.2.2.2.2.2) xW xS xZ xG xK xT xQ xF xB xL xC, (nI un, nI sz, ft, nI wm, nI fm, nI bm, nI (mClause xT sz (at_, bg, sg, fg, vl, wr, xR) q d).2.1, nI (mClause xT sz (at_, bg, sg, fg, vl, wr, xR) q d).2.2.1, (mClause xT sz (at_, bg, sg, fg, vl, wr, xR) q d).2.2.2.1, nI (mClause xT sz (at_, bg, sg, fg, vl, wr, xR) q d).2.2.2.2.1, (mClause xT sz (at_, bg, sg, fg, vl, wr, xR) q d).2.2.2.2.2.1, (mClause xT sz (at_, bg, sg, fg, vl, wr, xR) q d).2.2.2.2.2.2.1), sd)))) := by
  refine Ct.ofV (by decide) (Nat.le_of_ble_eq_true rfl) (fun X hnm => ?_)
  show V E X _ RX7 _ _ _ _ _ _ false 146 0 [(0, .ref (Ez E + 132))] [] _
  refine v_aload_n (pc := 0) 0 dX7_readsClause_0 rfl rfl ?_
  refine g_X7_91 (pc := 1) (cMr_obj) (by decide) rfl dX7_readsClause_1 ?_
  refine v_bipush (pc := 4) (nI 116) dX7_readsClause_4 kB_116 ?_
  refine v_icmp_ne (pc := 6) (tgt := 62) dX7_readsClause_6 rfl (fun c_6 => ?_) (fun c_6 => ?_)
  · refine v_aload_n (pc := 62) 0 dX7_readsClause_62 rfl rfl ?_
    refine g_X7_13 (pc := 63) (cMr_obj) (by decide) rfl dX7_readsClause_63 ?_
    refine v_iconst (pc := 66) (nI 1) dX7_readsClause_66 kI_1 ?_
    refine v_ialdN (pc := 67) (cM_read) (by decide) (by omega) (by decide) dX7_readsClause_67 ?_
    refine v_if_ne (pc := 68) (tgt := 77) dX7_readsClause_68 rfl (fun c_68 => ?_) (fun c_68 => ?_)
    · refine v_aload_n (pc := 77) 0 dX7_readsClause_77 rfl rfl ?_
      refine g_X7_91 (pc := 78) (cMr_obj) (by decide) rfl dX7_readsClause_78 ?_
      by_cases w100 : sg = nI 100
      · refine v_lookup (pc := 81) (off := 32) (tgt := 113) dX7_readsClause_81 (by decide) (by rw [w100]; decide) rfl ?_
        refine v_aload_n (pc := 113) 0 dX7_readsClause_113 rfl rfl ?_
        refine v_callV (pc := 114) _ _ k_X7_125 (cMr_obj) rfl (by decide) (m_debt_ hsz hat hd hd9) ⟨rfl, rfl, by decide⟩ rfl rfl (Nat.le_of_ble_eq_true rfl) ⟨Nat.le_of_ble_eq_true rfl, Nat.le_of_ble_eq_true rfl⟩ dX7_readsClause_114 (unS ?_)
        show V E X _ RX7 _ _ _ 0 0 _ false 146 117 _ [_] _
        exact v_zret (pc := 117) dX7_readsClause_117 (bI_nar _) (by rw [show mClause xT sz (at_, bg, sg, fg, vl, wr, xR) q d = _ from (if_neg c_6).trans ((if_neg c_68).trans ((if_neg (fun e => absurd ((show sg = nI 112 from e).symm.trans w100) (by decide))).trans (if_pos w100)))]; exact ⟨rfl, rfl⟩)
      by_cases w112 : sg = nI 112
      · refine v_lookup (pc := 81) (off := 27) (tgt := 108) dX7_readsClause_81 (by decide) (by rw [w112]; decide) rfl ?_
        refine v_aload_n (pc := 108) 0 dX7_readsClause_108 rfl rfl ?_
        refine v_callV (pc := 109) _ _ k_X7_122 (cMr_obj) rfl (by decide) (m_person_ hsz hat hq hq7) ⟨rfl, rfl, by decide⟩ rfl rfl (Nat.le_of_ble_eq_true rfl) ⟨Nat.le_of_ble_eq_true rfl, Nat.le_of_ble_eq_true rfl⟩ dX7_readsClause_109 (unS ?_)
        show V E X _ RX7 _ _ _ 0 0 _ false 146 112 _ [_] _
        exact v_zret (pc := 112) dX7_readsClause_112 (bI_nar _) (by rw [show mClause xT sz (at_, bg, sg, fg, vl, wr, xR) q d = _ from (if_neg c_6).trans ((if_neg c_68).trans (if_pos w112))]; exact ⟨rfl, rfl⟩)
      refine v_lookup (pc := 81) (off := 37) (tgt := 118) dX7_readsClause_81 (by decide) (by show Op.lookupswitch.offset [(100, 32), (112, 27)] 37 sg.toInt = _; rw [lv_osw w100 (by decide), lv_osw w112 (by decide)]; rfl) rfl ?_
      refine v_aload_n (pc := 118) 0 dX7_readsClause_118 rfl rfl ?_
      refine v_iconst (pc := 119) (nI 1) dX7_readsClause_119 kI_1 ?_
      refine v_callV (pc := 120) _ _ k_X7_110 (cMr_obj) rfl (by decide) (m_fails _) ⟨rfl, rfl, by decide⟩ rfl rfl (Nat.le_of_ble_eq_true rfl) ⟨Nat.le_of_ble_eq_true rfl, Nat.le_of_ble_eq_true rfl⟩ dX7_readsClause_120 (unS ?_)
      show V E X _ RX7 _ _ _ 0 0 _ false 146 123 _ [_] _
      exact v_zret (pc := 123) dX7_readsClause_123 ((by rfl)) (by rw [show mClause xT sz (at_, bg, sg, fg, vl, wr, xR) q d = _ from (if_neg c_6).trans ((if_neg c_68).trans ((if_neg w112).trans (if_neg w100)))]; exact ⟨rfl, rfl⟩)
    · refine v_aload_n (pc := 71) 0 dX7_readsClause_71 rfl rfl ?_
      refine v_iconst (pc := 72) (nI 1) dX7_readsClause_72 kI_1 ?_
      refine v_callV (pc := 73) _ _ k_X7_110 (cMr_obj) rfl (by decide) (m_fails _) ⟨rfl, rfl, by decide⟩ rfl rfl (Nat.le_of_ble_eq_true rfl) ⟨Nat.le_of_ble_eq_true rfl, Nat.le_of_ble_eq_true rfl⟩ dX7_readsClause_73 (unS ?_)
      show V E X _ RX7 _ _ _ 0 0 _ false 146 76 _ [_] _
      exact v_zret (pc := 76) dX7_readsClause_76 ((by rfl)) (by rw [show mClause xT sz (at_, bg, sg, fg, vl, wr, xR) q d = _ from (if_neg c_6).trans (if_pos c_68)]; exact ⟨rfl, rfl⟩)
  · refine v_aload_n (pc := 9) 0 dX7_readsClause_9 rfl rfl ?_
    refine g_X7_13 (pc := 10) (cMr_obj) (by decide) rfl dX7_readsClause_10 ?_
    refine v_iconst (pc := 13) (nI 1) dX7_readsClause_13 kI_1 ?_
    refine v_ialdN (pc := 14) (cM_read) (by decide) (by omega) (by decide) dX7_readsClause_14 ?_
    refine v_if_le (pc := 15) (tgt := 26) dX7_readsClause_15 rfl (fun c_15 => ?_) (fun c_15 => ?_)
    · refine v_aload_n (pc := 26) 0 dX7_readsClause_26 rfl rfl ?_
      refine v_iconst (pc := 27) (nI 0) dX7_readsClause_27 kI_0 ?_
      refine v_iconst (pc := 28) (nI 0) dX7_readsClause_28 kI_0 ?_
      refine v_sipush (pc := 29) (nI 999) dX7_readsClause_29 kS_999 ?_
      refine v_callV (pc := 32) _ _ k_X7_114 (cMr_obj) rfl (by decide) (m_number hsz hat (by omega) _ _) ⟨rfl, rfl, by decide⟩ rfl rfl (Nat.le_of_ble_eq_true rfl) ⟨Nat.le_of_ble_eq_true rfl, Nat.le_of_ble_eq_true rfl⟩ dX7_readsClause_32 (unB (fun b1 a1 g1 x1 f1 v1 w1 R1 hz1 => ?_))
      have ok1 := mNum_ok (T := xT) (L := sz) (z := (at_, bg, sg, fg, vl, wr, xR)) (k := 0) (lo := nI 0) (hi := nI 999) hat
      rw [hz1] at ok1
      show V E X _ RX7 _ _ _ 0 0 _ false 146 35 _ [_] _
      refine v_if_eqB (pc := 35) (tgt := 60) dX7_readsClause_35 rfl (fun c_35 => ?_) (fun c_35 => ?_)
      · refine v_iconst (pc := 60) (nI 0) dX7_readsClause_60 kI_0 ?_
        exact v_zret (pc := 61) dX7_readsClause_61 ((by rfl)) (by rw [show mClause xT sz (at_, bg, sg, fg, vl, wr, xR) q d = _ from (if_pos c_6).trans ((if_pos c_15).trans (andR_f (hz1.trans (congrArg (fun b => (b, a1, g1, x1, f1, v1, w1, R1)) (show b1 = false from c_35)))))]; exact ⟨rfl, rfl⟩)
      · refine v_aload_n (pc := 38) 0 dX7_readsClause_38 rfl rfl ?_
        refine v_iconst (pc := 39) (nI 1) dX7_readsClause_39 kI_1 ?_
        refine v_iconst (pc := 40) (nI 1) dX7_readsClause_40 kI_1 ?_
        refine v_bipush (pc := 41) (nI 24) dX7_readsClause_41 kB_24 ?_
        refine v_callV (pc := 43) _ _ k_X7_114 (cMr_obj) rfl (by decide) (m_number hsz ok1.1.1 (by omega) _ _) ⟨rfl, rfl, by decide⟩ rfl rfl (Nat.le_of_ble_eq_true rfl) ⟨Nat.le_of_ble_eq_true rfl, Nat.le_of_ble_eq_true rfl⟩ dX7_readsClause_43 (unB (fun b2 a2 g2 x2 f2 v2 w2 R2 hz2 => ?_))
        have ok2 := mNum_ok (T := xT) (L := sz) (z := (a1, g1, x1, f1, v1, w1, R1)) (k := 1) (lo := nI 1) (hi := nI 24) ok1.1.1
        rw [hz2] at ok2
        show V E X _ RX7 _ _ _ 0 0 _ false 146 46 _ [_] _
        refine v_if_eqB (pc := 46) (tgt := 60) dX7_readsClause_46 rfl (fun c_46 => ?_) (fun c_46 => ?_)
        · refine v_iconst (pc := 60) (nI 0) dX7_readsClause_60 kI_0 ?_
          exact v_zret (pc := 61) dX7_readsClause_61 ((by rfl)) (by rw [show mClause xT sz (at_, bg, sg, fg, vl, wr, xR) q d = _ from (if_pos c_6).trans ((if_pos c_15).trans ((andR_t (hz1.trans (congrArg (fun b => (b, a1, g1, x1, f1, v1, w1, R1)) (show b1 = true from c_35)))).trans (andR_f (hz2.trans (congrArg (fun b => (b, a2, g2, x2, f2, v2, w2, R2)) (show b2 = false from c_46))))))]; exact ⟨rfl, rfl⟩)
        · refine v_aload_n (pc := 49) 0 dX7_readsClause_49 rfl rfl ?_
          refine v_callV (pc := 50) _ _ k_X7_118 (cMr_obj) rfl (by decide) (m_ends hsz ok2.1.1) ⟨rfl, rfl, by decide⟩ rfl rfl (Nat.le_of_ble_eq_true rfl) ⟨Nat.le_of_ble_eq_true rfl, Nat.le_of_ble_eq_true rfl⟩ dX7_readsClause_50 (unB (fun b3 a3 g3 x3 f3 v3 w3 R3 hz3 => ?_))
          show V E X _ RX7 _ _ _ 0 0 _ false 146 53 _ [_] _
          refine v_if_eqB (pc := 53) (tgt := 60) dX7_readsClause_53 rfl (fun c_53 => ?_) (fun c_53 => ?_)
          · refine v_iconst (pc := 60) (nI 0) dX7_readsClause_60 kI_0 ?_
            exact v_zret (pc := 61) dX7_readsClause_61 ((by rfl)) (by rw [show mClause xT sz (at_, bg, sg, fg, vl, wr, xR) q d = _ from (if_pos c_6).trans ((if_pos c_15).trans ((andR_t (hz1.trans (congrArg (fun b => (b, a1, g1, x1, f1, v1, w1, R1)) (show b1 = true from c_35)))).trans ((andR_t (hz2.trans (congrArg (fun b => (b, a2, g2, x2, f2, v2, w2, R2)) (show b2 = true from c_46)))).trans (hz3))))]; rw [show b3 = false from c_53]; exact ⟨rfl, rfl⟩)
          · refine v_iconst (pc := 56) (nI 1) dX7_readsClause_56 kI_1 ?_
            refine v_goto (pc := 57) (tgt := 61) dX7_readsClause_57 rfl ?_
            exact v_zret (pc := 61) dX7_readsClause_61 ((by rfl)) (by rw [show mClause xT sz (at_, bg, sg, fg, vl, wr, xR) q d = _ from (if_pos c_6).trans ((if_pos c_15).trans ((andR_t (hz1.trans (congrArg (fun b => (b, a1, g1, x1, f1, v1, w1, R1)) (show b1 = true from c_35)))).trans ((andR_t (hz2.trans (congrArg (fun b => (b, a2, g2, x2, f2, v2, w2, R2)) (show b2 = true from c_46)))).trans (hz3))))]; rw [show b3 = true from c_53]; exact ⟨rfl, rfl⟩)
    · refine v_aload_n (pc := 18) 0 dX7_readsClause_18 rfl rfl ?_
      refine v_iconst (pc := 19) (nI 3) dX7_readsClause_19 kI_3 ?_
      refine v_callV (pc := 20) _ _ k_X7_110 (cMr_obj) rfl (by decide) (m_fails _) ⟨rfl, rfl, by decide⟩ rfl rfl (Nat.le_of_ble_eq_true rfl) ⟨Nat.le_of_ble_eq_true rfl, Nat.le_of_ble_eq_true rfl⟩ dX7_readsClause_20 (unS ?_)
      show V E X _ RX7 _ _ _ 0 0 _ false 146 23 _ [_] _
      refine v_goto (pc := 23) (tgt := 61) dX7_readsClause_23 rfl ?_
      exact v_zret (pc := 61) dX7_readsClause_61 ((by rfl)) (by rw [show mClause xT sz (at_, bg, sg, fg, vl, wr, xR) q d = _ from (if_pos c_6).trans (if_neg c_15)]; exact ⟨rfl, rfl⟩)
def bgW0 (P W : Fn) : Fn := upd (cpA P 43 (cpA P 11 (itn (fun k f => upd f k (nI 0)) 48 W) 0 7) 17 9) 15 (P 0)
def bgW1 (P W : Fn) : Fn := upd (bgW0 P W) 26 (if P 1 = 0 then -1 else -2)
def st_bg (P : Fn) (np i : Nat) (f : Fn) : Fn := upd f 26 (if P (11 + (np - 1 - i)) ≤ 0 then f 26 else nI (np - 1 - i))
def bgW2 (P : Fn) (np : Nat) (W : Fn) : Fn := itn (st_bg P np) np (bgW1 P W)
def bgW3 (P : Fn) (np : Nat) (W : Fn) : Fn := upd (bgW2 P np W) 27 (if P 1 = 0 then nI 0 else nI 1)
def bgW (P : Fn) (np : Nat) (W : Fn) : Fn := upd (bgW3 P np W) 28 (bgW3 P np W 26)
theorem np_sub {n i : Nat} (h : i < n) : nI n - nI (i + 1) = nI (n - 1 - i) := by rw [pk_sub (by omega)]; exact congrArg nI (by omega)
theorem np_neg {n : Nat} (h : n ≤ 7) : nI n - nI (n + 1) < 0 := by
  have : n = 0 ∨ n = 1 ∨ n = 2 ∨ n = 3 ∨ n = 4 ∨ n = 5 ∨ n = 6 ∨ n = 7 := by omega
  rcases this with rfl | rfl | rfl | rfl | rfl | rfl | rfl | rfl <;> decide
theorem np_dec {n i : Nat} : nI n - nI (i + 1) + (-1) = nI n - nI (i + 1 + 1) := by
  rw [← nI_add (i + 1) 1, show nI 1 = (1 : Int32) from rfl]
  generalize nI n = x
  generalize nI (i + 1) = y
  rw [Int32.sub_eq_add_neg x y, Int32.sub_eq_add_neg x (y + 1), Int32.neg_add, Int32.sub_eq_add_neg, Int32.add_assoc]
set_option maxHeartbeats 4000000 in
set_option maxRecDepth 100000 in
theorem m_begins {E : Ev} {c : CSt} {xP xR xW xS xZ xG xK xT xQ xF xB xL xC : Fn} {un sz wm fm bm at_ bg fg : Nat} {ft sg vl wr : Int32} {sd : Int64} {np : Nat} (hp : xP 2 = nI np) (hnp : np ≤ 7) : Ct E yX7_begins cX7_begins 2 none ({ frames := 1, cells := 0, slots := 0, locals := 25 } : Room) false 146 [.ref (Ez E + 132)] (cellOf E (c, (mkA xP xR xW xS xZ xG xK xT xQ xF xB xL xC, (nI un, nI sz, ft, nI wm, nI fm, nI bm, nI at_, nI bg, sg, nI fg, vl, wr), sd))) 146 0 0 (Ff none (cellOf E (c, (mkA xP xR (bgW xP np xW) xS xZ xG (upd (upd xK 0 (nI 0)) 1 (nI 0)) xT xQ xF xB xL xC, (nI 0, nI sz, ft, nI 0, nI 0, nI 0, nI at_, nI bg, sg, nI fg, vl, wr), sd)))) := by
  refine Ct.ofV (by decide) (Nat.le_of_ble_eq_true rfl) (fun X hnm => ?_)
  show V E X _ RX7 _ _ _ _ _ _ false 146 0 [(0, .ref (Ez E + 132))] [] _
  refine v_iconst (pc := 0) (nI 0) dX7_begins_0 kI_0 ?_
  refine v_istore_n (pc := 1) [1, 0] [(0, _), (1, _)] dX7_begins_1 rfl (by decide) rfl ?_
  refine dn (P := fun i => V E X ({ frames := 1, cells := 0, slots := 0, locals := 25 } : Room) RX7 cX7_begins 2 none 0 0 (QX E X false 146 (Ff none (cellOf E (c, (mkA xP xR (bgW xP np xW) xS xZ xG (upd (upd xK 0 (nI 0)) 1 (nI 0)) xT xQ xF xB xL xC, (nI 0, nI sz, ft, nI 0, nI 0, nI 0, nI at_, nI bg, sg, nI fg, vl, wr), sd)))) 0 0) false 146 2 [(0, .ref (Ez E + 132)), (1, .int (nI i))] [] (cellOf E (c, (mkA xP xR (itn (fun k f => upd f k (nI 0)) i xW) xS xZ xG xK xT xQ xF xB xL xC, (nI un, nI sz, ft, nI wm, nI fm, nI bm, nI at_, nI bg, sg, nI fg, vl, wr), sd)))) (N := 48) ?_ ?_
  · refine v_iload_n (pc := 2) 1 dX7_begins_2 rfl rfl ?_
    refine v_bipush (pc := 3) (nI 48) dX7_begins_3 kB_48 ?_
    refine v_icmp_geN (pc := 5) (by omega) (by omega) (tgt := 21) dX7_begins_5 rfl (fun c_5 => ?_) (fun c_5 => False.elim ((fun c => by omega) c_5))
    refine v_aload_n (pc := 21) 0 dX7_begins_21 rfl rfl ?_
    refine g_X7_7 (pc := 22) (cMr_obj) (by decide) rfl dX7_begins_22 ?_
    refine v_bipush (pc := 25) (nI 11) dX7_begins_25 kB_11 ?_
    refine v_aload_n (pc := 27) 0 dX7_begins_27 rfl rfl ?_
    refine g_X7_16 (pc := 28) (cMr_obj) (by decide) rfl dX7_begins_28 ?_
    refine v_iconst (pc := 31) (nI 0) dX7_begins_31 kI_0 ?_
    refine v_bipush (pc := 32) (nI 7) dX7_begins_32 kB_7 ?_
    refine v_callS (pc := 34) _ _ k_X7_54 (m_cp_parish_now (by omega) (by omega)) ⟨rfl, rfl, by decide⟩ rfl rfl (Nat.le_of_ble_eq_true rfl) ⟨Nat.le_of_ble_eq_true rfl, Nat.le_of_ble_eq_true rfl⟩ dX7_begins_34 (unS ?_)
    show V E X _ RX7 _ _ _ 0 0 _ false 146 37 _ [] _
    refine v_aload_n (pc := 37) 0 dX7_begins_37 rfl rfl ?_
    refine g_X7_7 (pc := 38) (cMr_obj) (by decide) rfl dX7_begins_38 ?_
    refine v_bipush (pc := 41) (nI 43) dX7_begins_41 kB_43 ?_
    refine v_aload_n (pc := 43) 0 dX7_begins_43 rfl rfl ?_
    refine g_X7_16 (pc := 44) (cMr_obj) (by decide) rfl dX7_begins_44 ?_
    refine v_bipush (pc := 47) (nI 17) dX7_begins_47 kB_17 ?_
    refine v_bipush (pc := 49) (nI 9) dX7_begins_49 kB_9 ?_
    refine v_callS (pc := 51) _ _ k_X7_54 (m_cp_parish_now (by omega) (by omega)) ⟨rfl, rfl, by decide⟩ rfl rfl (Nat.le_of_ble_eq_true rfl) ⟨Nat.le_of_ble_eq_true rfl, Nat.le_of_ble_eq_true rfl⟩ dX7_begins_51 (unS ?_)
    show V E X _ RX7 _ _ _ 0 0 _ false 146 54 _ [] _
    refine v_aload_n (pc := 54) 0 dX7_begins_54 rfl rfl ?_
    refine g_X7_16 (pc := 55) (cMr_obj) (by decide) rfl dX7_begins_55 ?_
    refine v_bipush (pc := 58) (nI 15) dX7_begins_58 kB_15 ?_
    refine v_aload_n (pc := 60) 0 dX7_begins_60 rfl rfl ?_
    refine g_X7_7 (pc := 61) (cMr_obj) (by decide) rfl dX7_begins_61 ?_
    refine v_iconst (pc := 64) (nI 0) dX7_begins_64 kI_0 ?_
    refine v_ialdN (pc := 65) (cM_parish) (by decide) (by omega) (by decide) dX7_begins_65 ?_
    refine v_iastN (pc := 66) (cM_now) (by decide) (by omega) (by decide) dX7_begins_66 (wM_now) ?_
    refine v_aload_n (pc := 67) 0 dX7_begins_67 rfl rfl ?_
    refine g_X7_16 (pc := 68) (cMr_obj) (by decide) rfl dX7_begins_68 ?_
    refine v_bipush (pc := 71) (nI 26) dX7_begins_71 kB_26 ?_
    refine v_aload_n (pc := 73) 0 dX7_begins_73 rfl rfl ?_
    refine g_X7_7 (pc := 74) (cMr_obj) (by decide) rfl dX7_begins_74 ?_
    refine v_iconst (pc := 77) (nI 1) dX7_begins_77 kI_1 ?_
    refine v_ialdN (pc := 78) (cM_parish) (by decide) (by omega) (by decide) dX7_begins_78 ?_
    refine v_if_ne (pc := 79) (tgt := 86) dX7_begins_79 rfl (fun c_79 => ?_) (fun c_79 => ?_)
    · refine v_bipush (pc := 86) (-2) dX7_begins_86 kB_m2 ?_
      refine v_iastN (pc := 88) (cM_now) (by decide) (by omega) (by decide) dX7_begins_88 (wM_now) ?_
      show V E X _ RX7 _ _ _ _ _ _ false 146 89 _ [] (cellOf E (c, (mkA xP xR (upd (bgW0 xP xW) 26 (-2)) xS xZ xG xK xT xQ xF xB xL xC, (nI un, nI sz, ft, nI wm, nI fm, nI bm, nI at_, nI bg, sg, nI fg, vl, wr), sd)))
      rw [show upd (bgW0 xP xW) 26 (-2) = bgW1 xP xW from by unfold bgW1; rw [if_neg c_79]]
      refine v_aload_n (pc := 89) 0 dX7_begins_89 rfl rfl ?_
      refine g_X7_7 (pc := 90) (cMr_obj) (by decide) rfl dX7_begins_90 ?_
      refine v_iconst (pc := 93) (nI 2) dX7_begins_93 kI_2 ?_
      refine v_ialdN (pc := 94) (cM_parish) (by decide) (by omega) (by decide) dX7_begins_94 ?_
      rw [hp]
      refine v_iconst (pc := 95) (nI 1) dX7_begins_95 kI_1 ?_
      refine v_isub (pc := 96) dX7_begins_96 ?_
      refine v_istore_n (pc := 97) [1, 0] [(0, _), (1, _)] dX7_begins_97 rfl (by decide) rfl ?_
      have hl_98 : ∀ (m_ : Nat) (i : Nat) (f1 : Fn), np - i < m_ → (i ≤ np) → (f1 = itn (st_bg xP np) i (bgW1 xP xW)) → V E X ({ frames := 1, cells := 0, slots := 0, locals := 25 } : Room) RX7 cX7_begins 2 none 0 0 (QX E X false 146 (Ff none (cellOf E (c, (mkA xP xR (bgW xP np xW) xS xZ xG (upd (upd xK 0 (nI 0)) 1 (nI 0)) xT xQ xF xB xL xC, (nI 0, nI sz, ft, nI 0, nI 0, nI 0, nI at_, nI bg, sg, nI fg, vl, wr), sd)))) 0 0) false 146 98 [(0, .ref (Ez E + 132)), (1, .int (nI np - nI (i + 1)))] [] (cellOf E (c, (mkA xP xR f1 xS xZ xG xK xT xQ xF xB xL xC, (nI un, nI sz, ft, nI wm, nI fm, nI bm, nI at_, nI bg, sg, nI fg, vl, wr), sd))) := by
        intro m_
        induction m_ with
        | zero => intro i f1 hm; exact absurd hm (Nat.not_lt_zero _)
        | succ m_ ihm =>
          intro i f1 hm hi hs1
          refine v_iload_n (pc := 98) 1 dX7_begins_98 rfl rfl ?_
          refine v_if_lt (pc := 99) (tgt := 138) dX7_begins_99 rfl (fun c_99 => ?_) (fun c_99 => ?_)
          · have hie : i = np := by rcases Nat.lt_or_ge i np with q | q; exact absurd c_99 (by rw [np_sub q]; exact nI_pos (by omega)); omega
            have hfe : f1 = bgW2 xP np xW := by rw [hs1, hie]; rfl
            rw [hfe]
            refine v_aload_n (pc := 138) 0 dX7_begins_138 rfl rfl ?_
            refine g_X7_16 (pc := 139) (cMr_obj) (by decide) rfl dX7_begins_139 ?_
            refine v_bipush (pc := 142) (nI 27) dX7_begins_142 kB_27 ?_
            refine v_aload_n (pc := 144) 0 dX7_begins_144 rfl rfl ?_
            refine g_X7_7 (pc := 145) (cMr_obj) (by decide) rfl dX7_begins_145 ?_
            refine v_iconst (pc := 148) (nI 1) dX7_begins_148 kI_1 ?_
            refine v_ialdN (pc := 149) (cM_parish) (by decide) (by omega) (by decide) dX7_begins_149 ?_
            refine v_if_ne (pc := 150) (tgt := 157) dX7_begins_150 rfl (fun c_150 => ?_) (fun c_150 => ?_)
            · refine v_iconst (pc := 157) (nI 1) dX7_begins_157 kI_1 ?_
              refine v_iastN (pc := 158) (cM_now) (by decide) (by omega) (by decide) dX7_begins_158 (wM_now) ?_
              refine v_aload_n (pc := 159) 0 dX7_begins_159 rfl rfl ?_
              refine g_X7_16 (pc := 160) (cMr_obj) (by decide) rfl dX7_begins_160 ?_
              refine v_bipush (pc := 163) (nI 28) dX7_begins_163 kB_28 ?_
              refine v_aload_n (pc := 165) 0 dX7_begins_165 rfl rfl ?_
              refine g_X7_16 (pc := 166) (cMr_obj) (by decide) rfl dX7_begins_166 ?_
              refine v_bipush (pc := 169) (nI 26) dX7_begins_169 kB_26 ?_
              refine v_ialdN (pc := 171) (cM_now) (by decide) (by omega) (by decide) dX7_begins_171 ?_
              refine v_iastN (pc := 172) (cM_now) (by decide) (by omega) (by decide) dX7_begins_172 (wM_now) ?_
              refine v_aload_n (pc := 173) 0 dX7_begins_173 rfl rfl ?_
              refine v_iconst (pc := 174) (nI 0) dX7_begins_174 kI_0 ?_
              refine p_X7_58 (pc := 175) (cMr_obj) (by decide) rfl rfl (Nat.le_of_ble_eq_true rfl) dX7_begins_175 (wM_un) ?_
              refine v_aload_n (pc := 178) 0 dX7_begins_178 rfl rfl ?_
              refine v_iconst (pc := 179) (nI 0) dX7_begins_179 kI_0 ?_
              refine p_X7_61 (pc := 180) (cMr_obj) (by decide) rfl rfl (Nat.le_of_ble_eq_true rfl) dX7_begins_180 (wM_wm) ?_
              refine v_aload_n (pc := 183) 0 dX7_begins_183 rfl rfl ?_
              refine v_iconst (pc := 184) (nI 0) dX7_begins_184 kI_0 ?_
              refine p_X7_64 (pc := 185) (cMr_obj) (by decide) rfl rfl (Nat.le_of_ble_eq_true rfl) dX7_begins_185 (wM_fm) ?_
              refine v_aload_n (pc := 188) 0 dX7_begins_188 rfl rfl ?_
              refine v_iconst (pc := 189) (nI 0) dX7_begins_189 kI_0 ?_
              refine p_X7_67 (pc := 190) (cMr_obj) (by decide) rfl rfl (Nat.le_of_ble_eq_true rfl) dX7_begins_190 (wM_bm) ?_
              refine v_aload_n (pc := 193) 0 dX7_begins_193 rfl rfl ?_
              refine g_X7_28 (pc := 194) (cMr_obj) (by decide) rfl dX7_begins_194 ?_
              refine v_iconst (pc := 197) (nI 0) dX7_begins_197 kI_0 ?_
              refine v_iconst (pc := 198) (nI 0) dX7_begins_198 kI_0 ?_
              refine v_zastN (pc := 199) (cM_kept) (by decide) (by omega) (by decide) dX7_begins_199 (wM_kept) ?_
              refine v_aload_n (pc := 200) 0 dX7_begins_200 rfl rfl ?_
              refine g_X7_28 (pc := 201) (cMr_obj) (by decide) rfl dX7_begins_201 ?_
              refine v_iconst (pc := 204) (nI 1) dX7_begins_204 kI_1 ?_
              refine v_iconst (pc := 205) (nI 0) dX7_begins_205 kI_0 ?_
              refine v_zastN (pc := 206) (cM_kept) (by decide) (by omega) (by decide) dX7_begins_206 (wM_kept) ?_
              exact v_vret (pc := 207) dX7_begins_207 (⟨rfl, by unfold bgW bgW3; rw [if_neg c_150, show vp_nar FieldType.boolean (nI 0) = nI 0 from rfl]⟩)
            · refine v_iconst (pc := 153) (nI 0) dX7_begins_153 kI_0 ?_
              refine v_goto (pc := 154) (tgt := 158) dX7_begins_154 rfl ?_
              refine v_iastN (pc := 158) (cM_now) (by decide) (by omega) (by decide) dX7_begins_158 (wM_now) ?_
              refine v_aload_n (pc := 159) 0 dX7_begins_159 rfl rfl ?_
              refine g_X7_16 (pc := 160) (cMr_obj) (by decide) rfl dX7_begins_160 ?_
              refine v_bipush (pc := 163) (nI 28) dX7_begins_163 kB_28 ?_
              refine v_aload_n (pc := 165) 0 dX7_begins_165 rfl rfl ?_
              refine g_X7_16 (pc := 166) (cMr_obj) (by decide) rfl dX7_begins_166 ?_
              refine v_bipush (pc := 169) (nI 26) dX7_begins_169 kB_26 ?_
              refine v_ialdN (pc := 171) (cM_now) (by decide) (by omega) (by decide) dX7_begins_171 ?_
              refine v_iastN (pc := 172) (cM_now) (by decide) (by omega) (by decide) dX7_begins_172 (wM_now) ?_
              refine v_aload_n (pc := 173) 0 dX7_begins_173 rfl rfl ?_
              refine v_iconst (pc := 174) (nI 0) dX7_begins_174 kI_0 ?_
              refine p_X7_58 (pc := 175) (cMr_obj) (by decide) rfl rfl (Nat.le_of_ble_eq_true rfl) dX7_begins_175 (wM_un) ?_
              refine v_aload_n (pc := 178) 0 dX7_begins_178 rfl rfl ?_
              refine v_iconst (pc := 179) (nI 0) dX7_begins_179 kI_0 ?_
              refine p_X7_61 (pc := 180) (cMr_obj) (by decide) rfl rfl (Nat.le_of_ble_eq_true rfl) dX7_begins_180 (wM_wm) ?_
              refine v_aload_n (pc := 183) 0 dX7_begins_183 rfl rfl ?_
              refine v_iconst (pc := 184) (nI 0) dX7_begins_184 kI_0 ?_
              refine p_X7_64 (pc := 185) (cMr_obj) (by decide) rfl rfl (Nat.le_of_ble_eq_true rfl) dX7_begins_185 (wM_fm) ?_
              refine v_aload_n (pc := 188) 0 dX7_begins_188 rfl rfl ?_
              refine v_iconst (pc := 189) (nI 0) dX7_begins_189 kI_0 ?_
              refine p_X7_67 (pc := 190) (cMr_obj) (by decide) rfl rfl (Nat.le_of_ble_eq_true rfl) dX7_begins_190 (wM_bm) ?_
              refine v_aload_n (pc := 193) 0 dX7_begins_193 rfl rfl ?_
              refine g_X7_28 (pc := 194) (cMr_obj) (by decide) rfl dX7_begins_194 ?_
              refine v_iconst (pc := 197) (nI 0) dX7_begins_197 kI_0 ?_
              refine v_iconst (pc := 198) (nI 0) dX7_begins_198 kI_0 ?_
              refine v_zastN (pc := 199) (cM_kept) (by decide) (by omega) (by decide) dX7_begins_199 (wM_kept) ?_
              refine v_aload_n (pc := 200) 0 dX7_begins_200 rfl rfl ?_
              refine g_X7_28 (pc := 201) (cMr_obj) (by decide) rfl dX7_begins_201 ?_
              refine v_iconst (pc := 204) (nI 1) dX7_begins_204 kI_1 ?_
              refine v_iconst (pc := 205) (nI 0) dX7_begins_205 kI_0 ?_
              refine v_zastN (pc := 206) (cM_kept) (by decide) (by omega) (by decide) dX7_begins_206 (wM_kept) ?_
              exact v_vret (pc := 207) dX7_begins_207 (⟨rfl, by unfold bgW bgW3; rw [if_pos c_150, show vp_nar FieldType.boolean (nI 0) = nI 0 from rfl]⟩)
          · have hlt : i < np := by rcases Nat.lt_or_ge i np with q | q; exact q; exact absurd (by rw [show i = np by omega]; exact np_neg hnp) c_99
            rw [np_sub hlt]
            have hsl : np - 1 - i < np := by omega
            generalize hse : np - 1 - i = s at hsl ⊢
            refine v_aload_n (pc := 102) 0 dX7_begins_102 rfl rfl ?_
            refine g_X7_16 (pc := 103) (cMr_obj) (by decide) rfl dX7_begins_103 ?_
            refine v_bipush (pc := 106) (nI 26) dX7_begins_106 kB_26 ?_
            refine v_aload_n (pc := 108) 0 dX7_begins_108 rfl rfl ?_
            refine g_X7_7 (pc := 109) (cMr_obj) (by decide) rfl dX7_begins_109 ?_
            refine v_bipush (pc := 112) (nI 11) dX7_begins_112 kB_11 ?_
            refine v_iload_n (pc := 114) 1 dX7_begins_114 rfl rfl ?_
            refine v_iaddN (pc := 115) dX7_begins_115 ?_
            refine v_ialdN (pc := 116) (cM_parish) (by decide) (by omega) (by decide) dX7_begins_116 ?_
            refine v_if_le (pc := 117) (tgt := 124) dX7_begins_117 rfl (fun c_117 => ?_) (fun c_117 => ?_)
            · refine v_aload_n (pc := 124) 0 dX7_begins_124 rfl rfl ?_
              refine g_X7_16 (pc := 125) (cMr_obj) (by decide) rfl dX7_begins_125 ?_
              refine v_bipush (pc := 128) (nI 26) dX7_begins_128 kB_26 ?_
              refine v_ialdN (pc := 130) (cM_now) (by decide) (by omega) (by decide) dX7_begins_130 ?_
              refine v_iastN (pc := 131) (cM_now) (by decide) (by omega) (by decide) dX7_begins_131 (wM_now) ?_
              refine v_iincC (pc := 132) 1 [1, 0] [(0, _), (1, _)] kI_m1 dX7_begins_132 rfl (by decide) rfl ?_
              refine v_goto (pc := 135) (tgt := 98) dX7_begins_135 rfl ?_
              rw [← hse, ← np_sub hlt, np_dec]
              exact ihm (i + 1) _ (by omega) (by omega) (by rw [itn_s, ← hs1]; unfold st_bg; rw [hse, if_pos c_117])
            · refine v_iload_n (pc := 120) 1 dX7_begins_120 rfl rfl ?_
              refine v_goto (pc := 121) (tgt := 131) dX7_begins_121 rfl ?_
              refine v_iastN (pc := 131) (cM_now) (by decide) (by omega) (by decide) dX7_begins_131 (wM_now) ?_
              refine v_iincC (pc := 132) 1 [1, 0] [(0, _), (1, _)] kI_m1 dX7_begins_132 rfl (by decide) rfl ?_
              refine v_goto (pc := 135) (tgt := 98) dX7_begins_135 rfl ?_
              rw [← hse, ← np_sub hlt, np_dec]
              exact ihm (i + 1) _ (by omega) (by omega) (by rw [itn_s, ← hs1]; unfold st_bg; rw [hse, if_neg c_117, np_sub hlt, hse])
      exact hl_98 (np + 1) 0 (bgW1 xP xW) (by omega) (by omega) rfl
    · refine v_iconst (pc := 82) (-1) dX7_begins_82 kI_m1 ?_
      refine v_goto (pc := 83) (tgt := 88) dX7_begins_83 rfl ?_
      refine v_iastN (pc := 88) (cM_now) (by decide) (by omega) (by decide) dX7_begins_88 (wM_now) ?_
      show V E X _ RX7 _ _ _ _ _ _ false 146 89 _ [] (cellOf E (c, (mkA xP xR (upd (bgW0 xP xW) 26 (-1)) xS xZ xG xK xT xQ xF xB xL xC, (nI un, nI sz, ft, nI wm, nI fm, nI bm, nI at_, nI bg, sg, nI fg, vl, wr), sd)))
      rw [show upd (bgW0 xP xW) 26 (-1) = bgW1 xP xW from by unfold bgW1; rw [if_pos c_79]]
      refine v_aload_n (pc := 89) 0 dX7_begins_89 rfl rfl ?_
      refine g_X7_7 (pc := 90) (cMr_obj) (by decide) rfl dX7_begins_90 ?_
      refine v_iconst (pc := 93) (nI 2) dX7_begins_93 kI_2 ?_
      refine v_ialdN (pc := 94) (cM_parish) (by decide) (by omega) (by decide) dX7_begins_94 ?_
      rw [hp]
      refine v_iconst (pc := 95) (nI 1) dX7_begins_95 kI_1 ?_
      refine v_isub (pc := 96) dX7_begins_96 ?_
      refine v_istore_n (pc := 97) [1, 0] [(0, _), (1, _)] dX7_begins_97 rfl (by decide) rfl ?_
      have hl_98 : ∀ (m_ : Nat) (i : Nat) (f1 : Fn), np - i < m_ → (i ≤ np) → (f1 = itn (st_bg xP np) i (bgW1 xP xW)) → V E X ({ frames := 1, cells := 0, slots := 0, locals := 25 } : Room) RX7 cX7_begins 2 none 0 0 (QX E X false 146 (Ff none (cellOf E (c, (mkA xP xR (bgW xP np xW) xS xZ xG (upd (upd xK 0 (nI 0)) 1 (nI 0)) xT xQ xF xB xL xC, (nI 0, nI sz, ft, nI 0, nI 0, nI 0, nI at_, nI bg, sg, nI fg, vl, wr), sd)))) 0 0) false 146 98 [(0, .ref (Ez E + 132)), (1, .int (nI np - nI (i + 1)))] [] (cellOf E (c, (mkA xP xR f1 xS xZ xG xK xT xQ xF xB xL xC, (nI un, nI sz, ft, nI wm, nI fm, nI bm, nI at_, nI bg, sg, nI fg, vl, wr), sd))) := by
        intro m_
        induction m_ with
        | zero => intro i f1 hm; exact absurd hm (Nat.not_lt_zero _)
        | succ m_ ihm =>
          intro i f1 hm hi hs1
          refine v_iload_n (pc := 98) 1 dX7_begins_98 rfl rfl ?_
          refine v_if_lt (pc := 99) (tgt := 138) dX7_begins_99 rfl (fun c_99 => ?_) (fun c_99 => ?_)
          · have hie : i = np := by rcases Nat.lt_or_ge i np with q | q; exact absurd c_99 (by rw [np_sub q]; exact nI_pos (by omega)); omega
            have hfe : f1 = bgW2 xP np xW := by rw [hs1, hie]; rfl
            rw [hfe]
            refine v_aload_n (pc := 138) 0 dX7_begins_138 rfl rfl ?_
            refine g_X7_16 (pc := 139) (cMr_obj) (by decide) rfl dX7_begins_139 ?_
            refine v_bipush (pc := 142) (nI 27) dX7_begins_142 kB_27 ?_
            refine v_aload_n (pc := 144) 0 dX7_begins_144 rfl rfl ?_
            refine g_X7_7 (pc := 145) (cMr_obj) (by decide) rfl dX7_begins_145 ?_
            refine v_iconst (pc := 148) (nI 1) dX7_begins_148 kI_1 ?_
            refine v_ialdN (pc := 149) (cM_parish) (by decide) (by omega) (by decide) dX7_begins_149 ?_
            refine v_if_ne (pc := 150) (tgt := 157) dX7_begins_150 rfl (fun c_150 => ?_) (fun c_150 => ?_)
            · refine v_iconst (pc := 157) (nI 1) dX7_begins_157 kI_1 ?_
              refine v_iastN (pc := 158) (cM_now) (by decide) (by omega) (by decide) dX7_begins_158 (wM_now) ?_
              refine v_aload_n (pc := 159) 0 dX7_begins_159 rfl rfl ?_
              refine g_X7_16 (pc := 160) (cMr_obj) (by decide) rfl dX7_begins_160 ?_
              refine v_bipush (pc := 163) (nI 28) dX7_begins_163 kB_28 ?_
              refine v_aload_n (pc := 165) 0 dX7_begins_165 rfl rfl ?_
              refine g_X7_16 (pc := 166) (cMr_obj) (by decide) rfl dX7_begins_166 ?_
              refine v_bipush (pc := 169) (nI 26) dX7_begins_169 kB_26 ?_
              refine v_ialdN (pc := 171) (cM_now) (by decide) (by omega) (by decide) dX7_begins_171 ?_
              refine v_iastN (pc := 172) (cM_now) (by decide) (by omega) (by decide) dX7_begins_172 (wM_now) ?_
              refine v_aload_n (pc := 173) 0 dX7_begins_173 rfl rfl ?_
              refine v_iconst (pc := 174) (nI 0) dX7_begins_174 kI_0 ?_
              refine p_X7_58 (pc := 175) (cMr_obj) (by decide) rfl rfl (Nat.le_of_ble_eq_true rfl) dX7_begins_175 (wM_un) ?_
              refine v_aload_n (pc := 178) 0 dX7_begins_178 rfl rfl ?_
              refine v_iconst (pc := 179) (nI 0) dX7_begins_179 kI_0 ?_
              refine p_X7_61 (pc := 180) (cMr_obj) (by decide) rfl rfl (Nat.le_of_ble_eq_true rfl) dX7_begins_180 (wM_wm) ?_
              refine v_aload_n (pc := 183) 0 dX7_begins_183 rfl rfl ?_
              refine v_iconst (pc := 184) (nI 0) dX7_begins_184 kI_0 ?_
              refine p_X7_64 (pc := 185) (cMr_obj) (by decide) rfl rfl (Nat.le_of_ble_eq_true rfl) dX7_begins_185 (wM_fm) ?_
              refine v_aload_n (pc := 188) 0 dX7_begins_188 rfl rfl ?_
              refine v_iconst (pc := 189) (nI 0) dX7_begins_189 kI_0 ?_
              refine p_X7_67 (pc := 190) (cMr_obj) (by decide) rfl rfl (Nat.le_of_ble_eq_true rfl) dX7_begins_190 (wM_bm) ?_
              refine v_aload_n (pc := 193) 0 dX7_begins_193 rfl rfl ?_
              refine g_X7_28 (pc := 194) (cMr_obj) (by decide) rfl dX7_begins_194 ?_
              refine v_iconst (pc := 197) (nI 0) dX7_begins_197 kI_0 ?_
              refine v_iconst (pc := 198) (nI 0) dX7_begins_198 kI_0 ?_
              refine v_zastN (pc := 199) (cM_kept) (by decide) (by omega) (by decide) dX7_begins_199 (wM_kept) ?_
              refine v_aload_n (pc := 200) 0 dX7_begins_200 rfl rfl ?_
              refine g_X7_28 (pc := 201) (cMr_obj) (by decide) rfl dX7_begins_201 ?_
              refine v_iconst (pc := 204) (nI 1) dX7_begins_204 kI_1 ?_
              refine v_iconst (pc := 205) (nI 0) dX7_begins_205 kI_0 ?_
              refine v_zastN (pc := 206) (cM_kept) (by decide) (by omega) (by decide) dX7_begins_206 (wM_kept) ?_
              exact v_vret (pc := 207) dX7_begins_207 (⟨rfl, by unfold bgW bgW3; rw [if_neg c_150, show vp_nar FieldType.boolean (nI 0) = nI 0 from rfl]⟩)
            · refine v_iconst (pc := 153) (nI 0) dX7_begins_153 kI_0 ?_
              refine v_goto (pc := 154) (tgt := 158) dX7_begins_154 rfl ?_
              refine v_iastN (pc := 158) (cM_now) (by decide) (by omega) (by decide) dX7_begins_158 (wM_now) ?_
              refine v_aload_n (pc := 159) 0 dX7_begins_159 rfl rfl ?_
              refine g_X7_16 (pc := 160) (cMr_obj) (by decide) rfl dX7_begins_160 ?_
              refine v_bipush (pc := 163) (nI 28) dX7_begins_163 kB_28 ?_
              refine v_aload_n (pc := 165) 0 dX7_begins_165 rfl rfl ?_
              refine g_X7_16 (pc := 166) (cMr_obj) (by decide) rfl dX7_begins_166 ?_
              refine v_bipush (pc := 169) (nI 26) dX7_begins_169 kB_26 ?_
              refine v_ialdN (pc := 171) (cM_now) (by decide) (by omega) (by decide) dX7_begins_171 ?_
              refine v_iastN (pc := 172) (cM_now) (by decide) (by omega) (by decide) dX7_begins_172 (wM_now) ?_
              refine v_aload_n (pc := 173) 0 dX7_begins_173 rfl rfl ?_
              refine v_iconst (pc := 174) (nI 0) dX7_begins_174 kI_0 ?_
              refine p_X7_58 (pc := 175) (cMr_obj) (by decide) rfl rfl (Nat.le_of_ble_eq_true rfl) dX7_begins_175 (wM_un) ?_
              refine v_aload_n (pc := 178) 0 dX7_begins_178 rfl rfl ?_
              refine v_iconst (pc := 179) (nI 0) dX7_begins_179 kI_0 ?_
              refine p_X7_61 (pc := 180) (cMr_obj) (by decide) rfl rfl (Nat.le_of_ble_eq_true rfl) dX7_begins_180 (wM_wm) ?_
              refine v_aload_n (pc := 183) 0 dX7_begins_183 rfl rfl ?_
              refine v_iconst (pc := 184) (nI 0) dX7_begins_184 kI_0 ?_
              refine p_X7_64 (pc := 185) (cMr_obj) (by decide) rfl rfl (Nat.le_of_ble_eq_true rfl) dX7_begins_185 (wM_fm) ?_
              refine v_aload_n (pc := 188) 0 dX7_begins_188 rfl rfl ?_
              refine v_iconst (pc := 189) (nI 0) dX7_begins_189 kI_0 ?_
              refine p_X7_67 (pc := 190) (cMr_obj) (by decide) rfl rfl (Nat.le_of_ble_eq_true rfl) dX7_begins_190 (wM_bm) ?_
              refine v_aload_n (pc := 193) 0 dX7_begins_193 rfl rfl ?_
              refine g_X7_28 (pc := 194) (cMr_obj) (by decide) rfl dX7_begins_194 ?_
              refine v_iconst (pc := 197) (nI 0) dX7_begins_197 kI_0 ?_
              refine v_iconst (pc := 198) (nI 0) dX7_begins_198 kI_0 ?_
              refine v_zastN (pc := 199) (cM_kept) (by decide) (by omega) (by decide) dX7_begins_199 (wM_kept) ?_
              refine v_aload_n (pc := 200) 0 dX7_begins_200 rfl rfl ?_
              refine g_X7_28 (pc := 201) (cMr_obj) (by decide) rfl dX7_begins_201 ?_
              refine v_iconst (pc := 204) (nI 1) dX7_begins_204 kI_1 ?_
              refine v_iconst (pc := 205) (nI 0) dX7_begins_205 kI_0 ?_
              refine v_zastN (pc := 206) (cM_kept) (by decide) (by omega) (by decide) dX7_begins_206 (wM_kept) ?_
              exact v_vret (pc := 207) dX7_begins_207 (⟨rfl, by unfold bgW bgW3; rw [if_pos c_150, show vp_nar FieldType.boolean (nI 0) = nI 0 from rfl]⟩)
          · have hlt : i < np := by rcases Nat.lt_or_ge i np with q | q; exact q; exact absurd (by rw [show i = np by omega]; exact np_neg hnp) c_99
            rw [np_sub hlt]
            have hsl : np - 1 - i < np := by omega
            generalize hse : np - 1 - i = s at hsl ⊢
            refine v_aload_n (pc := 102) 0 dX7_begins_102 rfl rfl ?_
            refine g_X7_16 (pc := 103) (cMr_obj) (by decide) rfl dX7_begins_103 ?_
            refine v_bipush (pc := 106) (nI 26) dX7_begins_106 kB_26 ?_
            refine v_aload_n (pc := 108) 0 dX7_begins_108 rfl rfl ?_
            refine g_X7_7 (pc := 109) (cMr_obj) (by decide) rfl dX7_begins_109 ?_
            refine v_bipush (pc := 112) (nI 11) dX7_begins_112 kB_11 ?_
            refine v_iload_n (pc := 114) 1 dX7_begins_114 rfl rfl ?_
            refine v_iaddN (pc := 115) dX7_begins_115 ?_
            refine v_ialdN (pc := 116) (cM_parish) (by decide) (by omega) (by decide) dX7_begins_116 ?_
            refine v_if_le (pc := 117) (tgt := 124) dX7_begins_117 rfl (fun c_117 => ?_) (fun c_117 => ?_)
            · refine v_aload_n (pc := 124) 0 dX7_begins_124 rfl rfl ?_
              refine g_X7_16 (pc := 125) (cMr_obj) (by decide) rfl dX7_begins_125 ?_
              refine v_bipush (pc := 128) (nI 26) dX7_begins_128 kB_26 ?_
              refine v_ialdN (pc := 130) (cM_now) (by decide) (by omega) (by decide) dX7_begins_130 ?_
              refine v_iastN (pc := 131) (cM_now) (by decide) (by omega) (by decide) dX7_begins_131 (wM_now) ?_
              refine v_iincC (pc := 132) 1 [1, 0] [(0, _), (1, _)] kI_m1 dX7_begins_132 rfl (by decide) rfl ?_
              refine v_goto (pc := 135) (tgt := 98) dX7_begins_135 rfl ?_
              rw [← hse, ← np_sub hlt, np_dec]
              exact ihm (i + 1) _ (by omega) (by omega) (by rw [itn_s, ← hs1]; unfold st_bg; rw [hse, if_pos c_117])
            · refine v_iload_n (pc := 120) 1 dX7_begins_120 rfl rfl ?_
              refine v_goto (pc := 121) (tgt := 131) dX7_begins_121 rfl ?_
              refine v_iastN (pc := 131) (cM_now) (by decide) (by omega) (by decide) dX7_begins_131 (wM_now) ?_
              refine v_iincC (pc := 132) 1 [1, 0] [(0, _), (1, _)] kI_m1 dX7_begins_132 rfl (by decide) rfl ?_
              refine v_goto (pc := 135) (tgt := 98) dX7_begins_135 rfl ?_
              rw [← hse, ← np_sub hlt, np_dec]
              exact ihm (i + 1) _ (by omega) (by omega) (by rw [itn_s, ← hs1]; unfold st_bg; rw [hse, if_neg c_117, np_sub hlt, hse])
      exact hl_98 (np + 1) 0 (bgW1 xP xW) (by omega) (by omega) rfl
  · intro i hi ih
    have ih : V E X ({ frames := 1, cells := 0, slots := 0, locals := 25 } : Room) RX7 cX7_begins 2 none 0 0 (QX E X false 146 (Ff none (cellOf E (c, (mkA xP xR (bgW xP np xW) xS xZ xG (upd (upd xK 0 (nI 0)) 1 (nI 0)) xT xQ xF xB xL xC, (nI 0, nI sz, ft, nI 0, nI 0, nI 0, nI at_, nI bg, sg, nI fg, vl, wr), sd)))) 0 0) false 146 2 [(0, .ref (Ez E + 132)), (1, .int (nI (i + 1)))] [] (cellOf E (c, (mkA xP xR (upd (itn (fun k f => upd f k (nI 0)) i xW) i (nI 0)) xS xZ xG xK xT xQ xF xB xL xC, (nI un, nI sz, ft, nI wm, nI fm, nI bm, nI at_, nI bg, sg, nI fg, vl, wr), sd))) := by rw [itn_s] at ih; exact ih
    generalize itn (fun k f => upd f k (nI 0)) i xW = f1 at ih ⊢
    show V E X _ RX7 _ _ _ _ _ _ false 146 _ [(0, .ref (Ez E + 132)), (1, .int (nI i))] [] (cellOf E (c, (mkA xP xR f1 xS xZ xG xK xT xQ xF xB xL xC, (nI un, nI sz, ft, nI wm, nI fm, nI bm, nI at_, nI bg, sg, nI fg, vl, wr), sd)))
    refine v_iload_n (pc := 2) 1 dX7_begins_2 rfl rfl ?_
    refine v_bipush (pc := 3) (nI 48) dX7_begins_3 kB_48 ?_
    refine v_icmp_geN (pc := 5) (by omega) (by omega) (tgt := 21) dX7_begins_5 rfl (fun c_5 => False.elim ((fun c => by omega) c_5)) (fun c_5 => ?_)
    refine v_aload_n (pc := 8) 0 dX7_begins_8 rfl rfl ?_
    refine g_X7_16 (pc := 9) (cMr_obj) (by decide) rfl dX7_begins_9 ?_
    refine v_iload_n (pc := 12) 1 dX7_begins_12 rfl rfl ?_
    refine v_iconst (pc := 13) (nI 0) dX7_begins_13 kI_0 ?_
    refine v_iastN (pc := 14) (cM_now) (by decide) (by omega) (by decide) dX7_begins_14 (wM_now) ?_
    refine v_iincN (pc := 15) 1 [1, 0] [(0, _), (1, _)] kI_1 dX7_begins_15 rfl (by decide) rfl ?_
    refine v_goto (pc := 18) (tgt := 2) dX7_begins_18 rfl ?_
    exact ih
