theorem kI_m1 : Int32.ofInt (-1) = (-1) := by decide
theorem kI_0 : Int32.ofInt 0 = nI 0 := by decide
theorem kI_1 : Int32.ofInt 1 = nI 1 := by decide
theorem kI_2 : Int32.ofInt 2 = nI 2 := by decide
theorem kI_3 : Int32.ofInt 3 = nI 3 := by decide
theorem kI_4 : Int32.ofInt 4 = nI 4 := by decide
theorem kI_5 : Int32.ofInt 5 = nI 5 := by decide
theorem kB_m10 : (Int8.ofInt (-10)).toInt32 = (-10) := by decide
theorem kB_m2 : (Int8.ofInt (-2)).toInt32 = (-2) := by decide
theorem kB_6 : (Int8.ofInt 6).toInt32 = nI 6 := by decide
theorem kB_7 : (Int8.ofInt 7).toInt32 = nI 7 := by decide
theorem kB_8 : (Int8.ofInt 8).toInt32 = nI 8 := by decide
theorem kB_9 : (Int8.ofInt 9).toInt32 = nI 9 := by decide
theorem kB_10 : (Int8.ofInt 10).toInt32 = nI 10 := by decide
theorem kB_11 : (Int8.ofInt 11).toInt32 = nI 11 := by decide
theorem kB_14 : (Int8.ofInt 14).toInt32 = nI 14 := by decide
theorem kB_15 : (Int8.ofInt 15).toInt32 = nI 15 := by decide
theorem kB_16 : (Int8.ofInt 16).toInt32 = nI 16 := by decide
theorem kB_17 : (Int8.ofInt 17).toInt32 = nI 17 := by decide
theorem kB_18 : (Int8.ofInt 18).toInt32 = nI 18 := by decide
theorem kB_19 : (Int8.ofInt 19).toInt32 = nI 19 := by decide
theorem kB_20 : (Int8.ofInt 20).toInt32 = nI 20 := by decide
theorem kB_24 : (Int8.ofInt 24).toInt32 = nI 24 := by decide
theorem kB_25 : (Int8.ofInt 25).toInt32 = nI 25 := by decide
theorem kB_26 : (Int8.ofInt 26).toInt32 = nI 26 := by decide
theorem kB_27 : (Int8.ofInt 27).toInt32 = nI 27 := by decide
theorem kB_28 : (Int8.ofInt 28).toInt32 = nI 28 := by decide
theorem kB_30 : (Int8.ofInt 30).toInt32 = nI 30 := by decide
theorem kB_31 : (Int8.ofInt 31).toInt32 = nI 31 := by decide
theorem kB_32 : (Int8.ofInt 32).toInt32 = nI 32 := by decide
theorem kB_34 : (Int8.ofInt 34).toInt32 = nI 34 := by decide
theorem kB_43 : (Int8.ofInt 43).toInt32 = nI 43 := by decide
theorem kB_48 : (Int8.ofInt 48).toInt32 = nI 48 := by decide
theorem kB_49 : (Int8.ofInt 49).toInt32 = nI 49 := by decide
theorem kB_50 : (Int8.ofInt 50).toInt32 = nI 50 := by decide
theorem kB_51 : (Int8.ofInt 51).toInt32 = nI 51 := by decide
theorem kB_52 : (Int8.ofInt 52).toInt32 = nI 52 := by decide
theorem kB_57 : (Int8.ofInt 57).toInt32 = nI 57 := by decide
theorem kB_59 : (Int8.ofInt 59).toInt32 = nI 59 := by decide
theorem kB_60 : (Int8.ofInt 60).toInt32 = nI 60 := by decide
theorem kB_63 : (Int8.ofInt 63).toInt32 = nI 63 := by decide
theorem kB_98 : (Int8.ofInt 98).toInt32 = nI 98 := by decide
theorem kB_99 : (Int8.ofInt 99).toInt32 = nI 99 := by decide
theorem kB_100 : (Int8.ofInt 100).toInt32 = nI 100 := by decide
theorem kB_112 : (Int8.ofInt 112).toInt32 = nI 112 := by decide
theorem kB_116 : (Int8.ofInt 116).toInt32 = nI 116 := by decide
theorem kS_240 : (Int16.ofInt 240).toInt32 = nI 240 := by decide
theorem kS_255 : (Int16.ofInt 255).toInt32 = nI 255 := by decide
theorem kS_512 : (Int16.ofInt 512).toInt32 = nI 512 := by decide
theorem kS_720 : (Int16.ofInt 720).toInt32 = nI 720 := by decide
theorem kS_768 : (Int16.ofInt 768).toInt32 = nI 768 := by decide
theorem kS_999 : (Int16.ofInt 999).toInt32 = nI 999 := by decide
theorem kS_9000 : (Int16.ofInt 9000).toInt32 = nI 9000 := by decide
theorem kS_9999 : (Int16.ofInt 9999).toInt32 = nI 9999 := by decide
theorem kS_12345 : (Int16.ofInt 12345).toInt32 = nI 12345 := by decide
def bI (b : Bool) : Int32 := if b then nI 1 else nI 0
theorem bI_t : bI true = nI 1 := rfl
theorem bI_f : bI false = nI 0 := rfl
theorem bI_0 {b : Bool} : bI b = 0 ↔ b = false := by cases b <;> decide
theorem bI_nar (b : Bool) : narrow .boolean (.int (bI b)) = .int (bI b) := by cases b <;> rfl
theorem n0_nar : narrow .boolean (.int (nI 0)) = .int (nI 0) := by rfl
theorem n1_nar : narrow .boolean (.int (nI 1)) = .int (nI 1) := by rfl
/-- i steps of a loop -/
def itn {α : Type} (f : Nat → α → α) : Nat → α → α
  | 0, a => a
  | i + 1, a => f i (itn f i a)
theorem itn_s {α : Type} (f : Nat → α → α) (i : Nat) (a : α) : itn f (i + 1) a = f i (itn f i a) := rfl
theorem itn_0 {α : Type} (f : Nat → α → α) (a : α) : itn f 0 a = a := rfl
theorem itn_c {α : Type} {f g : Nat → α → α} {a : α} : ∀ (n : Nat), (∀ i, i < n → ∀ x, f i x = g i x) → itn f n a = itn g n a
  | 0, _ => rfl
  | n + 1, h => by rw [itn_s, itn_s, itn_c n (fun i hi x => h i (by omega) x), h n (by omega)]
/-- a loop that counts up: what holds at its end holds at its begin, if a step keeps it -/
theorem dn {P : Nat → Prop} {N : Nat} (hN : P N) (hs : ∀ i, i < N → P (i + 1) → P i) : P 0 := by
  have h : ∀ d, d ≤ N → P (N - d) := by
    intro d
    induction d with
    | zero => intro _; exact hN
    | succ d ih =>
      intro hd
      refine hs (N - (d + 1)) (by omega) ?_
      rw [show N - (d + 1) + 1 = N - d by omega]
      exact ih (by omega)
  have := h N (Nat.le_refl N)
  rwa [Nat.sub_self] at this
theorem vp_c {x : Int32} {n : Nat} (h1 : ¬ x < 0) (h2 : ¬ nI n ≤ x) (hn : n < 2147483648) : vp_in x n := by
  rcases pk_ix x hn with h | h | ⟨j, hj, rfl⟩
  · exact absurd h h1
  · exact absurd h h2
  · exact vp_in_nI hj hn
section NV
variable {E : Ev} {X : Cx} {R : Room} {own : String} {cc : ByteArray} {nL : Nat} {ret : Option FieldType} {k n : Nat} {Q : State → Prop} {B : Bool} {N pc : Nat} {lv lv' : List (Nat × Value)} {st : List Value} {h h' : Hp}
theorem v_iaddN {a b : Nat} (hd : decode cc pc = .ok (.iadd, 1)) (kk : V E X R own cc nL ret k n Q B N (pc + 1) lv (.int (nI (a + b)) :: st) h) : V E X R own cc nL ret k n Q B N pc lv (.int (nI b) :: .int (nI a) :: st) h := v_iadd hd (by rw [nI_add]; exact kk)
theorem v_imulN {a b : Nat} (hd : decode cc pc = .ok (.imul, 1)) (kk : V E X R own cc nL ret k n Q B N (pc + 1) lv (.int (nI (a * b)) :: st) h) : V E X R own cc nL ret k n Q B N pc lv (.int (nI b) :: .int (nI a) :: st) h := v_imul hd (by rw [pk_mul]; exact kk)
theorem v_isubN {a b : Nat} (hab : b ≤ a) (hd : decode cc pc = .ok (.isub, 1)) (kk : V E X R own cc nL ret k n Q B N (pc + 1) lv (.int (nI (a - b)) :: st) h) : V E X R own cc nL ret k n Q B N pc lv (.int (nI b) :: .int (nI a) :: st) h := v_isub hd (by rw [pk_sub hab]; exact kk)
theorem v_iincC {i : Nat} {a : Int} {x b : Int32} (j : Nat) (ks : List Nat) (lv' : List (Nat × Value)) (hb : Int32.ofInt a = b) (hd : decode cc pc = .ok (.iinc i a, 3)) (hj : lv[j]? = some (i, .int x)) (hn : i < nL) (hp : lv_pick ((i, Value.int (x + b)) :: lv.filter (fun q => !(q.1 == i) && !(q.1 + 1 == i && q.2.category == 2))) ks = lv') (kk : V E X R own cc nL ret k n Q B N (pc + 3) lv' st h) : V E X R own cc nL ret k n Q B N pc lv st h := v_iinc (x + b) j ks lv' hd hj (by rw [hb]) hn hp kk
theorem v_iincN {i m : Nat} {a : Int} {b : Nat} (j : Nat) (ks : List Nat) (lv' : List (Nat × Value)) (hb : Int32.ofInt a = nI b) (hd : decode cc pc = .ok (.iinc i a, 3)) (hj : lv[j]? = some (i, .int (nI m))) (hn : i < nL) (hp : lv_pick ((i, Value.int (nI (m + b))) :: lv.filter (fun q => !(q.1 == i) && !(q.1 + 1 == i && q.2.category == 2))) ks = lv') (kk : V E X R own cc nL ret k n Q B N (pc + 3) lv' st h) : V E X R own cc nL ret k n Q B N pc lv st h := v_iinc (nI (m + b)) j ks lv' hd hj (by rw [hb, nI_add]) hn hp kk
theorem v_iincD {i m : Nat} (j : Nat) (ks : List Nat) (lv' : List (Nat × Value)) (hd : decode cc pc = .ok (.iinc i (-1), 3)) (hj : lv[j]? = some (i, .int (nI (m + 1)))) (hn : i < nL) (hp : lv_pick ((i, Value.int (nI m)) :: lv.filter (fun q => !(q.1 == i) && !(q.1 + 1 == i && q.2.category == 2))) ks = lv') (kk : V E X R own cc nL ret k n Q B N (pc + 3) lv' st h) : V E X R own cc nL ret k n Q B N pc lv st h := v_iinc (nI m) j ks lv' hd hj (by rw [kI_m1]; exact pk_m1 m) hn hp kk
theorem v_ialdN {o len m : Nat} {f : Nat → Int32} (hc : h o = .inl (EI E, len, .inl f)) (ho : o < N) (hm : m < len) (hlen : len < 2147483648) (hd : decode cc pc = .ok (.iaload, 1)) (kk : V E X R own cc nL ret k n Q B N (pc + 1) lv (.int (f m) :: st) h) : V E X R own cc nL ret k n Q B N pc lv (.int (nI m) :: .ref (Ez E + o) :: st) h := v_iald hc ho (vp_in_nI hm hlen) hd (by rw [nI_clamp (by omega)]; exact kk)
theorem v_zaldN {o len m : Nat} {f : Nat → Int32} (hc : h o = .inl (EZ E, len, .inl f)) (ho : o < N) (hm : m < len) (hlen : len < 2147483648) (hd : decode cc pc = .ok (.baload, 1)) (kk : V E X R own cc nL ret k n Q B N (pc + 1) lv (.int (f m) :: st) h) : V E X R own cc nL ret k n Q B N pc lv (.int (nI m) :: .ref (Ez E + o) :: st) h := v_zald hc ho (vp_in_nI hm hlen) hd (by rw [nI_clamp (by omega)]; exact kk)
theorem v_iastN {o len m : Nat} {f : Nat → Int32} {x : Int32} (hc : h o = .inl (EI E, len, .inl f)) (ho : o < N) (hm : m < len) (hlen : len < 2147483648) (hd : decode cc pc = .ok (.iastore, 1)) (hu : ∀ o', o' < N → h' o' = va_up h o (.inl (EI E, len, .inl (upd f m x))) o') (kk : V E X R own cc nL ret k n Q B N (pc + 1) lv st h') : V E X R own cc nL ret k n Q B N pc lv (.int x :: .int (nI m) :: .ref (Ez E + o) :: st) h := v_iast hc ho (vp_in_nI hm hlen) hd (by rw [nI_clamp (by omega)]; exact hu) kk
theorem v_zastN {o len m : Nat} {f : Nat → Int32} {x : Int32} (hc : h o = .inl (EZ E, len, .inl f)) (ho : o < N) (hm : m < len) (hlen : len < 2147483648) (hd : decode cc pc = .ok (.bastore, 1)) (hu : ∀ o', o' < N → h' o' = va_up h o (.inl (EZ E, len, .inl (upd f m (vp_nar .boolean x)))) o') (kk : V E X R own cc nL ret k n Q B N (pc + 1) lv st h') : V E X R own cc nL ret k n Q B N pc lv (.int x :: .int (nI m) :: .ref (Ez E + o) :: st) h := v_zast hc ho (vp_in_nI hm hlen) hd (by rw [nI_clamp (by omega)]; exact hu) kk
theorem v_aaldN {o len m w : Nat} {f : Nat → Option Nat} (hc : h o = .inl (EF E, len, .inr (.inr (.inr (.inr f))))) (ho : o < N) (hm : m < len) (hlen : len < 2147483648) (hv : f m = some w) (hd : decode cc pc = .ok (.aaload, 1)) (kk : V E X R own cc nL ret k n Q B N (pc + 1) lv (.ref w :: st) h) : V E X R own cc nL ret k n Q B N pc lv (.int (nI m) :: .ref (Ez E + o) :: st) h := v_aald (v := .ref w) hc ho (vp_in_nI hm hlen) (by rw [nI_clamp (by omega), hv]; rfl) hd kk
theorem v_icmp_eqN {a b : Nat} {off : Int} {tgt : Nat} (ha : a < 2147483648) (hb : b < 2147483648) (hd : decode cc pc = .ok (.if_icmp .eq off, 3)) (ht : (pc : Int) + off = (tgt : Int)) (kt : a = b → V E X R own cc nL ret k n Q B N tgt lv st h) (kf : a ≠ b → V E X R own cc nL ret k n Q B N (pc + 3) lv st h) : V E X R own cc nL ret k n Q B N pc lv (.int (nI b) :: .int (nI a) :: st) h := by
  have e1 := nI_eq ha hb; have e2 := nI_ltI ha hb; have e3 := nI_leI hb ha; have e4 := nI_ltI hb ha; have e5 := nI_leI ha hb
  refine v_icmp_eq hd ht (fun c => kt ?_) (fun c => kf ?_)
  · first | (simp only [e1, e2, e3, e4, e5] at c; omega) | (rcases Nat.lt_trichotomy a b with q | q | q <;> first | omega | exact absurd (by simp only [e1, e2, e3, e4, e5]; omega) c)
  · first | (simp only [e1, e2, e3, e4, e5] at c; omega) | (rcases Nat.lt_trichotomy a b with q | q | q <;> first | omega | exact absurd (by simp only [e1, e2, e3, e4, e5]; omega) c)
theorem v_icmp_neN {a b : Nat} {off : Int} {tgt : Nat} (ha : a < 2147483648) (hb : b < 2147483648) (hd : decode cc pc = .ok (.if_icmp .ne off, 3)) (ht : (pc : Int) + off = (tgt : Int)) (kt : a ≠ b → V E X R own cc nL ret k n Q B N tgt lv st h) (kf : a = b → V E X R own cc nL ret k n Q B N (pc + 3) lv st h) : V E X R own cc nL ret k n Q B N pc lv (.int (nI b) :: .int (nI a) :: st) h := by
  have e1 := nI_eq ha hb; have e2 := nI_ltI ha hb; have e3 := nI_leI hb ha; have e4 := nI_ltI hb ha; have e5 := nI_leI ha hb
  refine v_icmp_ne hd ht (fun c => kt ?_) (fun c => kf ?_)
  · first | (simp only [e1, e2, e3, e4, e5] at c; omega) | (rcases Nat.lt_trichotomy a b with q | q | q <;> first | omega | exact absurd (by simp only [e1, e2, e3, e4, e5]; omega) c)
  · first | (simp only [e1, e2, e3, e4, e5] at c; omega) | (rcases Nat.lt_trichotomy a b with q | q | q <;> first | omega | exact absurd (by simp only [e1, e2, e3, e4, e5]; omega) c)
theorem v_icmp_ltN {a b : Nat} {off : Int} {tgt : Nat} (ha : a < 2147483648) (hb : b < 2147483648) (hd : decode cc pc = .ok (.if_icmp .lt off, 3)) (ht : (pc : Int) + off = (tgt : Int)) (kt : a < b → V E X R own cc nL ret k n Q B N tgt lv st h) (kf : b ≤ a → V E X R own cc nL ret k n Q B N (pc + 3) lv st h) : V E X R own cc nL ret k n Q B N pc lv (.int (nI b) :: .int (nI a) :: st) h := by
  have e1 := nI_eq ha hb; have e2 := nI_ltI ha hb; have e3 := nI_leI hb ha; have e4 := nI_ltI hb ha; have e5 := nI_leI ha hb
  refine v_icmp_lt hd ht (fun c => kt ?_) (fun c => kf ?_)
  · first | (simp only [e1, e2, e3, e4, e5] at c; omega) | (rcases Nat.lt_trichotomy a b with q | q | q <;> first | omega | exact absurd (by simp only [e1, e2, e3, e4, e5]; omega) c)
  · first | (simp only [e1, e2, e3, e4, e5] at c; omega) | (rcases Nat.lt_trichotomy a b with q | q | q <;> first | omega | exact absurd (by simp only [e1, e2, e3, e4, e5]; omega) c)
theorem v_icmp_geN {a b : Nat} {off : Int} {tgt : Nat} (ha : a < 2147483648) (hb : b < 2147483648) (hd : decode cc pc = .ok (.if_icmp .ge off, 3)) (ht : (pc : Int) + off = (tgt : Int)) (kt : b ≤ a → V E X R own cc nL ret k n Q B N tgt lv st h) (kf : a < b → V E X R own cc nL ret k n Q B N (pc + 3) lv st h) : V E X R own cc nL ret k n Q B N pc lv (.int (nI b) :: .int (nI a) :: st) h := by
  have e1 := nI_eq ha hb; have e2 := nI_ltI ha hb; have e3 := nI_leI hb ha; have e4 := nI_ltI hb ha; have e5 := nI_leI ha hb
  refine v_icmp_ge hd ht (fun c => kt ?_) (fun c => kf ?_)
  · first | (simp only [e1, e2, e3, e4, e5] at c; omega) | (rcases Nat.lt_trichotomy a b with q | q | q <;> first | omega | exact absurd (by simp only [e1, e2, e3, e4, e5]; omega) c)
  · first | (simp only [e1, e2, e3, e4, e5] at c; omega) | (rcases Nat.lt_trichotomy a b with q | q | q <;> first | omega | exact absurd (by simp only [e1, e2, e3, e4, e5]; omega) c)
theorem v_icmp_gtN {a b : Nat} {off : Int} {tgt : Nat} (ha : a < 2147483648) (hb : b < 2147483648) (hd : decode cc pc = .ok (.if_icmp .gt off, 3)) (ht : (pc : Int) + off = (tgt : Int)) (kt : b < a → V E X R own cc nL ret k n Q B N tgt lv st h) (kf : a ≤ b → V E X R own cc nL ret k n Q B N (pc + 3) lv st h) : V E X R own cc nL ret k n Q B N pc lv (.int (nI b) :: .int (nI a) :: st) h := by
  have e1 := nI_eq ha hb; have e2 := nI_ltI ha hb; have e3 := nI_leI hb ha; have e4 := nI_ltI hb ha; have e5 := nI_leI ha hb
  refine v_icmp_gt hd ht (fun c => kt ?_) (fun c => kf ?_)
  · first | (simp only [e1, e2, e3, e4, e5] at c; omega) | (rcases Nat.lt_trichotomy a b with q | q | q <;> first | omega | exact absurd (by simp only [e1, e2, e3, e4, e5]; omega) c)
  · first | (simp only [e1, e2, e3, e4, e5] at c; omega) | (rcases Nat.lt_trichotomy a b with q | q | q <;> first | omega | exact absurd (by simp only [e1, e2, e3, e4, e5]; omega) c)
theorem v_icmp_leN {a b : Nat} {off : Int} {tgt : Nat} (ha : a < 2147483648) (hb : b < 2147483648) (hd : decode cc pc = .ok (.if_icmp .le off, 3)) (ht : (pc : Int) + off = (tgt : Int)) (kt : a ≤ b → V E X R own cc nL ret k n Q B N tgt lv st h) (kf : b < a → V E X R own cc nL ret k n Q B N (pc + 3) lv st h) : V E X R own cc nL ret k n Q B N pc lv (.int (nI b) :: .int (nI a) :: st) h := by
  have e1 := nI_eq ha hb; have e2 := nI_ltI ha hb; have e3 := nI_leI hb ha; have e4 := nI_ltI hb ha; have e5 := nI_leI ha hb
  refine v_icmp_le hd ht (fun c => kt ?_) (fun c => kf ?_)
  · first | (simp only [e1, e2, e3, e4, e5] at c; omega) | (rcases Nat.lt_trichotomy a b with q | q | q <;> first | omega | exact absurd (by simp only [e1, e2, e3, e4, e5]; omega) c)
  · first | (simp only [e1, e2, e3, e4, e5] at c; omega) | (rcases Nat.lt_trichotomy a b with q | q | q <;> first | omega | exact absurd (by simp only [e1, e2, e3, e4, e5]; omega) c)
theorem v_if_eqN {a : Nat} {off : Int} {tgt : Nat} (ha : a < 2147483648) (hd : decode cc pc = .ok (.ifCond .eq off, 3)) (ht : (pc : Int) + off = (tgt : Int)) (kt : a = 0 → V E X R own cc nL ret k n Q B N tgt lv st h) (kf : a ≠ 0 → V E X R own cc nL ret k n Q B N (pc + 3) lv st h) : V E X R own cc nL ret k n Q B N pc lv (.int (nI a) :: st) h := by
  have hb : (0 : Nat) < 2147483648 := by decide
  have e1 := nI_eq ha hb; have e2 := nI_ltI ha hb; have e3 := nI_leI hb ha; have e4 := nI_ltI hb ha; have e5 := nI_leI ha hb
  rw [nI_0] at e1 e2 e3 e4 e5
  refine v_if_eq hd ht (fun c => kt ?_) (fun c => kf ?_)
  · first | trivial | (simp only [e1, e2, e3, e4, e5] at c; omega)
  · first | trivial | (simp only [e1, e2, e3, e4, e5] at c; omega)
theorem v_if_neN {a : Nat} {off : Int} {tgt : Nat} (ha : a < 2147483648) (hd : decode cc pc = .ok (.ifCond .ne off, 3)) (ht : (pc : Int) + off = (tgt : Int)) (kt : a ≠ 0 → V E X R own cc nL ret k n Q B N tgt lv st h) (kf : a = 0 → V E X R own cc nL ret k n Q B N (pc + 3) lv st h) : V E X R own cc nL ret k n Q B N pc lv (.int (nI a) :: st) h := by
  have hb : (0 : Nat) < 2147483648 := by decide
  have e1 := nI_eq ha hb; have e2 := nI_ltI ha hb; have e3 := nI_leI hb ha; have e4 := nI_ltI hb ha; have e5 := nI_leI ha hb
  rw [nI_0] at e1 e2 e3 e4 e5
  refine v_if_ne hd ht (fun c => kt ?_) (fun c => kf ?_)
  · first | trivial | (simp only [e1, e2, e3, e4, e5] at c; omega)
  · first | trivial | (simp only [e1, e2, e3, e4, e5] at c; omega)
theorem v_if_ltN {a : Nat} {off : Int} {tgt : Nat} (ha : a < 2147483648) (hd : decode cc pc = .ok (.ifCond .lt off, 3)) (ht : (pc : Int) + off = (tgt : Int)) (kt : False → V E X R own cc nL ret k n Q B N tgt lv st h) (kf : True → V E X R own cc nL ret k n Q B N (pc + 3) lv st h) : V E X R own cc nL ret k n Q B N pc lv (.int (nI a) :: st) h := by
  have hb : (0 : Nat) < 2147483648 := by decide
  have e1 := nI_eq ha hb; have e2 := nI_ltI ha hb; have e3 := nI_leI hb ha; have e4 := nI_ltI hb ha; have e5 := nI_leI ha hb
  rw [nI_0] at e1 e2 e3 e4 e5
  refine v_if_lt hd ht (fun c => kt ?_) (fun c => kf ?_)
  · first | trivial | (simp only [e1, e2, e3, e4, e5] at c; omega)
  · first | trivial | (simp only [e1, e2, e3, e4, e5] at c; omega)
theorem v_if_geN {a : Nat} {off : Int} {tgt : Nat} (ha : a < 2147483648) (hd : decode cc pc = .ok (.ifCond .ge off, 3)) (ht : (pc : Int) + off = (tgt : Int)) (kt : True → V E X R own cc nL ret k n Q B N tgt lv st h) (kf : False → V E X R own cc nL ret k n Q B N (pc + 3) lv st h) : V E X R own cc nL ret k n Q B N pc lv (.int (nI a) :: st) h := by
  have hb : (0 : Nat) < 2147483648 := by decide
  have e1 := nI_eq ha hb; have e2 := nI_ltI ha hb; have e3 := nI_leI hb ha; have e4 := nI_ltI hb ha; have e5 := nI_leI ha hb
  rw [nI_0] at e1 e2 e3 e4 e5
  refine v_if_ge hd ht (fun c => kt ?_) (fun c => kf ?_)
  · first | trivial | (simp only [e1, e2, e3, e4, e5] at c; omega)
  · first | trivial | (simp only [e1, e2, e3, e4, e5] at c; omega)
theorem v_if_gtN {a : Nat} {off : Int} {tgt : Nat} (ha : a < 2147483648) (hd : decode cc pc = .ok (.ifCond .gt off, 3)) (ht : (pc : Int) + off = (tgt : Int)) (kt : 0 < a → V E X R own cc nL ret k n Q B N tgt lv st h) (kf : a = 0 → V E X R own cc nL ret k n Q B N (pc + 3) lv st h) : V E X R own cc nL ret k n Q B N pc lv (.int (nI a) :: st) h := by
  have hb : (0 : Nat) < 2147483648 := by decide
  have e1 := nI_eq ha hb; have e2 := nI_ltI ha hb; have e3 := nI_leI hb ha; have e4 := nI_ltI hb ha; have e5 := nI_leI ha hb
  rw [nI_0] at e1 e2 e3 e4 e5
  refine v_if_gt hd ht (fun c => kt ?_) (fun c => kf ?_)
  · first | trivial | (simp only [e1, e2, e3, e4, e5] at c; omega)
  · first | trivial | (simp only [e1, e2, e3, e4, e5] at c; omega)
theorem v_if_leN {a : Nat} {off : Int} {tgt : Nat} (ha : a < 2147483648) (hd : decode cc pc = .ok (.ifCond .le off, 3)) (ht : (pc : Int) + off = (tgt : Int)) (kt : a = 0 → V E X R own cc nL ret k n Q B N tgt lv st h) (kf : 0 < a → V E X R own cc nL ret k n Q B N (pc + 3) lv st h) : V E X R own cc nL ret k n Q B N pc lv (.int (nI a) :: st) h := by
  have hb : (0 : Nat) < 2147483648 := by decide
  have e1 := nI_eq ha hb; have e2 := nI_ltI ha hb; have e3 := nI_leI hb ha; have e4 := nI_ltI hb ha; have e5 := nI_leI ha hb
  rw [nI_0] at e1 e2 e3 e4 e5
  refine v_if_le hd ht (fun c => kt ?_) (fun c => kf ?_)
  · first | trivial | (simp only [e1, e2, e3, e4, e5] at c; omega)
  · first | trivial | (simp only [e1, e2, e3, e4, e5] at c; omega)
theorem v_if_eqB {b : Bool} {off : Int} {tgt : Nat} (hd : decode cc pc = .ok (.ifCond .eq off, 3)) (ht : (pc : Int) + off = (tgt : Int)) (kt : b = false → V E X R own cc nL ret k n Q B N tgt lv st h) (kf : b = true → V E X R own cc nL ret k n Q B N (pc + 3) lv st h) : V E X R own cc nL ret k n Q B N pc lv (.int (bI b) :: st) h := v_if_eq hd ht (fun c => kt (bI_0.mp c)) (fun c => kf (by cases b <;> first | rfl | exact absurd (bI_0.mpr rfl) c))
theorem v_if_neB {b : Bool} {off : Int} {tgt : Nat} (hd : decode cc pc = .ok (.ifCond .ne off, 3)) (ht : (pc : Int) + off = (tgt : Int)) (kt : b = true → V E X R own cc nL ret k n Q B N tgt lv st h) (kf : b = false → V E X R own cc nL ret k n Q B N (pc + 3) lv st h) : V E X R own cc nL ret k n Q B N pc lv (.int (bI b) :: st) h := v_if_ne hd ht (fun c => kt (by cases b <;> first | rfl | exact absurd (bI_0.mpr rfl) c)) (fun c => kf (bI_0.mp (by first | exact c | exact Classical.byContradiction c | simpa using c)))
end NV
theorem unF {E : Ev} {σ : Sg} {k : Nat} {r0 : Option Value} {F : FlockV} {P : Option Value → Hp → Prop} (H : ∀ t hr nt rg pe b c o p, F = (t, hr, nt, rg, pe, b, c, o, p) → P r0 (cellOf E (sFl σ k (t, hr, nt, rg, pe, b, c, o, p)))) : ∀ r h', Ff r0 (cellOf E (sFl σ k F)) r h' → P r h' := by
  rintro _ _ ⟨rfl, rfl⟩
  obtain ⟨t, hr, nt, rg, pe, b, c, o, p⟩ := F
  exact H t hr nt rg pe b c o p rfl
theorem unS {r0 : Option Value} {h : Hp} {P : Option Value → Hp → Prop} (H : P r0 h) : ∀ r h', Ff r0 h r h' → P r h' := by
  rintro _ _ ⟨rfl, rfl⟩; exact H
/-- a contract of a flock's method, told of any state -/
theorem liftF {E : Ev} {y : MethodName} {cc : ByteArray} {nL : Nat} {ret : Option FieldType} {rm : Room} {B : Bool} {N : Nat} {av : List Value} {σ : Sg} {k N' mc ms : Nat} {r : FlockV → Option Value} {f : FlockV → FlockV} (H : ∀ F, Ct E y cc nL ret rm B N av (cellOf E (sFl σ k F)) N' mc ms (Ff (r F) (cellOf E (sFl σ k (f F))))) : Ct E y cc nL ret rm B N av (cellOf E σ) N' mc ms (Ff (r (gF σ k)) (cellOf E (sFl σ k (f (gF σ k))))) := by
  have h := H (gF σ k)
  rw [sFl_id] at h
  exact h
theorem sw_1_4 (x : Int32) : x = nI 1 ∨ x = nI 2 ∨ x = nI 3 ∨ x = nI 4 ∨ (x.toInt < 1 ∨ 4 < x.toInt) := by
  have e : ∀ v : Nat, v < 2147483648 → x.toInt = (v : Int) → x = nI v := fun v hv h => Int32.toInt_inj.mp (by rw [h, nI_toInt hv])
  by_cases h : x.toInt < 1 ∨ 4 < x.toInt
  · right; right; right; right; exact h
  · have h2 : x.toInt = 1 ∨ x.toInt = 2 ∨ x.toInt = 3 ∨ x.toInt = 4 := by omega
    rcases h2 with h2 | h2 | h2 | h2
    · left; exact e 1 (by decide) h2
    · right; left; exact e 2 (by decide) h2
    · right; right; left; exact e 3 (by decide) h2
    · right; right; right; left; exact e 4 (by decide) h2
theorem sw_0_17 (x : Int32) : x = nI 0 ∨ x = nI 1 ∨ x = nI 2 ∨ x = nI 3 ∨ x = nI 4 ∨ x = nI 5 ∨ x = nI 6 ∨ x = nI 7 ∨ x = nI 8 ∨ x = nI 9 ∨ x = nI 10 ∨ x = nI 11 ∨ x = nI 12 ∨ x = nI 13 ∨ x = nI 14 ∨ x = nI 15 ∨ x = nI 16 ∨ x = nI 17 ∨ (x.toInt < 0 ∨ 17 < x.toInt) := by
  have e : ∀ v : Nat, v < 2147483648 → x.toInt = (v : Int) → x = nI v := fun v hv h => Int32.toInt_inj.mp (by rw [h, nI_toInt hv])
  by_cases h : x.toInt < 0 ∨ 17 < x.toInt
  · right; right; right; right; right; right; right; right; right; right; right; right; right; right; right; right; right; right; exact h
  · have h2 : x.toInt = 0 ∨ x.toInt = 1 ∨ x.toInt = 2 ∨ x.toInt = 3 ∨ x.toInt = 4 ∨ x.toInt = 5 ∨ x.toInt = 6 ∨ x.toInt = 7 ∨ x.toInt = 8 ∨ x.toInt = 9 ∨ x.toInt = 10 ∨ x.toInt = 11 ∨ x.toInt = 12 ∨ x.toInt = 13 ∨ x.toInt = 14 ∨ x.toInt = 15 ∨ x.toInt = 16 ∨ x.toInt = 17 := by omega
    rcases h2 with h2 | h2 | h2 | h2 | h2 | h2 | h2 | h2 | h2 | h2 | h2 | h2 | h2 | h2 | h2 | h2 | h2 | h2
    · left; exact e 0 (by decide) h2
    · right; left; exact e 1 (by decide) h2
    · right; right; left; exact e 2 (by decide) h2
    · right; right; right; left; exact e 3 (by decide) h2
    · right; right; right; right; left; exact e 4 (by decide) h2
    · right; right; right; right; right; left; exact e 5 (by decide) h2
    · right; right; right; right; right; right; left; exact e 6 (by decide) h2
    · right; right; right; right; right; right; right; left; exact e 7 (by decide) h2
    · right; right; right; right; right; right; right; right; left; exact e 8 (by decide) h2
    · right; right; right; right; right; right; right; right; right; left; exact e 9 (by decide) h2
    · right; right; right; right; right; right; right; right; right; right; left; exact e 10 (by decide) h2
    · right; right; right; right; right; right; right; right; right; right; right; left; exact e 11 (by decide) h2
    · right; right; right; right; right; right; right; right; right; right; right; right; left; exact e 12 (by decide) h2
    · right; right; right; right; right; right; right; right; right; right; right; right; right; left; exact e 13 (by decide) h2
    · right; right; right; right; right; right; right; right; right; right; right; right; right; right; left; exact e 14 (by decide) h2
    · right; right; right; right; right; right; right; right; right; right; right; right; right; right; right; left; exact e 15 (by decide) h2
    · right; right; right; right; right; right; right; right; right; right; right; right; right; right; right; right; left; exact e 16 (by decide) h2
    · right; right; right; right; right; right; right; right; right; right; right; right; right; right; right; right; right; left; exact e 17 (by decide) h2
theorem sw_0_9 (x : Int32) : x = nI 0 ∨ x = nI 1 ∨ x = nI 2 ∨ x = nI 3 ∨ x = nI 4 ∨ x = nI 5 ∨ x = nI 6 ∨ x = nI 7 ∨ x = nI 8 ∨ x = nI 9 ∨ (x.toInt < 0 ∨ 9 < x.toInt) := by
  have e : ∀ v : Nat, v < 2147483648 → x.toInt = (v : Int) → x = nI v := fun v hv h => Int32.toInt_inj.mp (by rw [h, nI_toInt hv])
  by_cases h : x.toInt < 0 ∨ 9 < x.toInt
  · right; right; right; right; right; right; right; right; right; right; exact h
  · have h2 : x.toInt = 0 ∨ x.toInt = 1 ∨ x.toInt = 2 ∨ x.toInt = 3 ∨ x.toInt = 4 ∨ x.toInt = 5 ∨ x.toInt = 6 ∨ x.toInt = 7 ∨ x.toInt = 8 ∨ x.toInt = 9 := by omega
    rcases h2 with h2 | h2 | h2 | h2 | h2 | h2 | h2 | h2 | h2 | h2
    · left; exact e 0 (by decide) h2
    · right; left; exact e 1 (by decide) h2
    · right; right; left; exact e 2 (by decide) h2
    · right; right; right; left; exact e 3 (by decide) h2
    · right; right; right; right; left; exact e 4 (by decide) h2
    · right; right; right; right; right; left; exact e 5 (by decide) h2
    · right; right; right; right; right; right; left; exact e 6 (by decide) h2
    · right; right; right; right; right; right; right; left; exact e 7 (by decide) h2
    · right; right; right; right; right; right; right; right; left; exact e 8 (by decide) h2
    · right; right; right; right; right; right; right; right; right; left; exact e 9 (by decide) h2
theorem sw_0_2 (x : Int32) : x = nI 0 ∨ x = nI 1 ∨ x = nI 2 ∨ (x.toInt < 0 ∨ 2 < x.toInt) := by
  have e : ∀ v : Nat, v < 2147483648 → x.toInt = (v : Int) → x = nI v := fun v hv h => Int32.toInt_inj.mp (by rw [h, nI_toInt hv])
  by_cases h : x.toInt < 0 ∨ 2 < x.toInt
  · right; right; right; exact h
  · have h2 : x.toInt = 0 ∨ x.toInt = 1 ∨ x.toInt = 2 := by omega
    rcases h2 with h2 | h2 | h2
    · left; exact e 0 (by decide) h2
    · right; left; exact e 1 (by decide) h2
    · right; right; left; exact e 2 (by decide) h2
theorem sw_0_30 (x : Int32) : x = nI 0 ∨ x = nI 1 ∨ x = nI 2 ∨ x = nI 3 ∨ x = nI 4 ∨ x = nI 5 ∨ x = nI 6 ∨ x = nI 7 ∨ x = nI 8 ∨ x = nI 9 ∨ x = nI 10 ∨ x = nI 11 ∨ x = nI 12 ∨ x = nI 13 ∨ x = nI 14 ∨ x = nI 15 ∨ x = nI 16 ∨ x = nI 17 ∨ x = nI 18 ∨ x = nI 19 ∨ x = nI 20 ∨ x = nI 21 ∨ x = nI 22 ∨ x = nI 23 ∨ x = nI 24 ∨ x = nI 25 ∨ x = nI 26 ∨ x = nI 27 ∨ x = nI 28 ∨ x = nI 29 ∨ x = nI 30 ∨ (x.toInt < 0 ∨ 30 < x.toInt) := by
  have e : ∀ v : Nat, v < 2147483648 → x.toInt = (v : Int) → x = nI v := fun v hv h => Int32.toInt_inj.mp (by rw [h, nI_toInt hv])
  by_cases h : x.toInt < 0 ∨ 30 < x.toInt
  · right; right; right; right; right; right; right; right; right; right; right; right; right; right; right; right; right; right; right; right; right; right; right; right; right; right; right; right; right; right; right; exact h
  · have h2 : x.toInt = 0 ∨ x.toInt = 1 ∨ x.toInt = 2 ∨ x.toInt = 3 ∨ x.toInt = 4 ∨ x.toInt = 5 ∨ x.toInt = 6 ∨ x.toInt = 7 ∨ x.toInt = 8 ∨ x.toInt = 9 ∨ x.toInt = 10 ∨ x.toInt = 11 ∨ x.toInt = 12 ∨ x.toInt = 13 ∨ x.toInt = 14 ∨ x.toInt = 15 ∨ x.toInt = 16 ∨ x.toInt = 17 ∨ x.toInt = 18 ∨ x.toInt = 19 ∨ x.toInt = 20 ∨ x.toInt = 21 ∨ x.toInt = 22 ∨ x.toInt = 23 ∨ x.toInt = 24 ∨ x.toInt = 25 ∨ x.toInt = 26 ∨ x.toInt = 27 ∨ x.toInt = 28 ∨ x.toInt = 29 ∨ x.toInt = 30 := by omega
    rcases h2 with h2 | h2 | h2 | h2 | h2 | h2 | h2 | h2 | h2 | h2 | h2 | h2 | h2 | h2 | h2 | h2 | h2 | h2 | h2 | h2 | h2 | h2 | h2 | h2 | h2 | h2 | h2 | h2 | h2 | h2 | h2
    · left; exact e 0 (by decide) h2
    · right; left; exact e 1 (by decide) h2
    · right; right; left; exact e 2 (by decide) h2
    · right; right; right; left; exact e 3 (by decide) h2
    · right; right; right; right; left; exact e 4 (by decide) h2
    · right; right; right; right; right; left; exact e 5 (by decide) h2
    · right; right; right; right; right; right; left; exact e 6 (by decide) h2
    · right; right; right; right; right; right; right; left; exact e 7 (by decide) h2
    · right; right; right; right; right; right; right; right; left; exact e 8 (by decide) h2
    · right; right; right; right; right; right; right; right; right; left; exact e 9 (by decide) h2
    · right; right; right; right; right; right; right; right; right; right; left; exact e 10 (by decide) h2
    · right; right; right; right; right; right; right; right; right; right; right; left; exact e 11 (by decide) h2
    · right; right; right; right; right; right; right; right; right; right; right; right; left; exact e 12 (by decide) h2
    · right; right; right; right; right; right; right; right; right; right; right; right; right; left; exact e 13 (by decide) h2
    · right; right; right; right; right; right; right; right; right; right; right; right; right; right; left; exact e 14 (by decide) h2
    · right; right; right; right; right; right; right; right; right; right; right; right; right; right; right; left; exact e 15 (by decide) h2
    · right; right; right; right; right; right; right; right; right; right; right; right; right; right; right; right; left; exact e 16 (by decide) h2
    · right; right; right; right; right; right; right; right; right; right; right; right; right; right; right; right; right; left; exact e 17 (by decide) h2
    · right; right; right; right; right; right; right; right; right; right; right; right; right; right; right; right; right; right; left; exact e 18 (by decide) h2
    · right; right; right; right; right; right; right; right; right; right; right; right; right; right; right; right; right; right; right; left; exact e 19 (by decide) h2
    · right; right; right; right; right; right; right; right; right; right; right; right; right; right; right; right; right; right; right; right; left; exact e 20 (by decide) h2
    · right; right; right; right; right; right; right; right; right; right; right; right; right; right; right; right; right; right; right; right; right; left; exact e 21 (by decide) h2
    · right; right; right; right; right; right; right; right; right; right; right; right; right; right; right; right; right; right; right; right; right; right; left; exact e 22 (by decide) h2
    · right; right; right; right; right; right; right; right; right; right; right; right; right; right; right; right; right; right; right; right; right; right; right; left; exact e 23 (by decide) h2
    · right; right; right; right; right; right; right; right; right; right; right; right; right; right; right; right; right; right; right; right; right; right; right; right; left; exact e 24 (by decide) h2
    · right; right; right; right; right; right; right; right; right; right; right; right; right; right; right; right; right; right; right; right; right; right; right; right; right; left; exact e 25 (by decide) h2
    · right; right; right; right; right; right; right; right; right; right; right; right; right; right; right; right; right; right; right; right; right; right; right; right; right; right; left; exact e 26 (by decide) h2
    · right; right; right; right; right; right; right; right; right; right; right; right; right; right; right; right; right; right; right; right; right; right; right; right; right; right; right; left; exact e 27 (by decide) h2
    · right; right; right; right; right; right; right; right; right; right; right; right; right; right; right; right; right; right; right; right; right; right; right; right; right; right; right; right; left; exact e 28 (by decide) h2
    · right; right; right; right; right; right; right; right; right; right; right; right; right; right; right; right; right; right; right; right; right; right; right; right; right; right; right; right; right; left; exact e 29 (by decide) h2
    · right; right; right; right; right; right; right; right; right; right; right; right; right; right; right; right; right; right; right; right; right; right; right; right; right; right; right; right; right; right; left; exact e 30 (by decide) h2
theorem sw_0_3 (x : Int32) : x = nI 0 ∨ x = nI 1 ∨ x = nI 2 ∨ x = nI 3 ∨ (x.toInt < 0 ∨ 3 < x.toInt) := by
  have e : ∀ v : Nat, v < 2147483648 → x.toInt = (v : Int) → x = nI v := fun v hv h => Int32.toInt_inj.mp (by rw [h, nI_toInt hv])
  by_cases h : x.toInt < 0 ∨ 3 < x.toInt
  · right; right; right; right; exact h
  · have h2 : x.toInt = 0 ∨ x.toInt = 1 ∨ x.toInt = 2 ∨ x.toInt = 3 := by omega
    rcases h2 with h2 | h2 | h2 | h2
    · left; exact e 0 (by decide) h2
    · right; left; exact e 1 (by decide) h2
    · right; right; left; exact e 2 (by decide) h2
    · right; right; right; left; exact e 3 (by decide) h2
