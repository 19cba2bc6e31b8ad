theorem Met.ofWF {l : Launch} {y : MethodName} {ws ws' : List Cond} {rm : Room} {Pc : Array Value → State → Prop} {Qc : Array Value → State → Outcome → State → Prop} {mc ms : Nat} {free : Addr → Prop} {cc : ByteArray} {maxL : Nat} {ret : Option FieldType}
    (hy : plainFor y = true) (hw : ws = Cond.code y cc maxL ret :: ws')
    (body : ∀ p e s m args below meth c s₁, BodyLoose p l y (headSpec ws rm) cc maxL ret e s m args below meth c s₁ → c.maxLocals = maxL → Pc args s →
      W p l e (headSpec ws rm).room s m args below meth c s.heap [] 0 0 (MQ below Qc args s mc ms free) (entryFrame m args maxL)) : Met l y ws rm Pc Qc mc ms free := by
  refine MetFree.of_bodySF (code := cc) (maxLocals := maxL) (ret := ret) hy ?_ ?_
  · intro args s m h hn
    obtain ⟨meth, c, h1, h2, h3, h4, h5, h6, -, -⟩ := Cond.code_spec hn (atoms_spec (ws := ws) h _ (by rw [hw]; exact List.mem_cons_self))
    exact ⟨meth, c, h1, h2, h3, h4, h5, h6⟩
  · intro p e s m args below meth c s₁ B hml hP _
    have hh0 : s₁.heap = s.heap := by rw [B.state]; rfl
    obtain ⟨t, a1, o, b1, b2, b3⟩ := body p e s m args below meth c s₁ B hml hP s₁ hh0 (Stand.of_body B)
    exact ⟨t, o, a1, b1, b2, ⟨b3.1, b3.2⟩⟩
theorem Ct.ofVF {E : Ev} {y : MethodName} {cc : ByteArray} {nL : Nat} {ret : Option FieldType} {rm : Room} {B : Bool} {N : Nat} {av : List Value} {h : Hp} {N' mc ms : Nat} {post : Option Value → Hp → Prop} (hy : plainFor y = true) (hlen : (lg_sl av).length ≤ nL)
    (body : ∀ X : Cx, X.2.2.2.2.2.2.1.name = y.name → V E X rm y.cls cc nL ret 0 0 (QX E X B N' post mc ms) B N 0 (lv_args 0 av) [] h) : Ct E y cc nL ret rm B N av h N' mc ms post := by
  refine Met.ofWF (cc := cc) (maxL := nL) (ret := ret) hy rfl ?_
  intro p e s m args below meth c s₁ Bd hml hv
  obtain ⟨rfl, hr, hK, hz⟩ := hv
  have hts := atoms_spec (ws := .code y cc nL ret :: TB) Bd.pre
  have hl := lv_entry av (n := nL) hlen
  rw [lg_entry_eq]
  have hb := body (p, e, s, m, av.toArray, below, meth, c) (name_of_methodNamed Bd.named Bd.method).1
  exact hb ⟨Bd.exec, Bd.bytes, hml, findClass_of_methodNamed Bd.named, fun w hw => hts w (List.mem_cons_of_mem _ hw), hK, Bd.returns, Bd.notSynchronized, hz⟩ s.heap [] _ hr va_S.rf hl
def hasB (s k : Int32) : Bool := decide ((s >>> (k &&& 31)) &&& nI 1 = nI 1)
set_option maxHeartbeats 4000000 in
set_option maxRecDepth 100000 in
theorem c_has {E : Ev} {B : Bool} {N : Nat} {h : Hp} (s k : Int32) : Ct E yX6_has cX6_has 2 (some .boolean) ({ frames := 0, cells := 0, slots := 0, locals := 0 } : Room) B N [.int s, .int k] h N 0 0 (Ff (some (.int (bI (hasB s k)))) h) := by
  refine Ct.ofV (by decide) (Nat.le_of_ble_eq_true rfl) (fun X hnm => ?_)
  show V E X _ RX6 _ _ _ _ _ _ B N 0 [(0, .int s), (1, .int k)] [] _
  refine v_iload_n 0 dX6_has_0 rfl rfl ?_
  refine v_iload_n 1 dX6_has_1 rfl rfl ?_
  refine v_ishr dX6_has_2 ?_
  refine v_iconst (nI 1) dX6_has_3 kI_1 ?_
  refine v_iand dX6_has_4 ?_
  refine v_iconst (nI 1) dX6_has_5 kI_1 ?_
  refine v_icmp_ne (tgt := 13) dX6_has_6 rfl (fun c_6 => ?_) (fun c_6 => ?_)
  · refine v_iconst (nI 0) dX6_has_13 kI_0 ?_
    exact v_zret dX6_has_14 ((by rfl)) (⟨by first | (rw [show hasB s k = true from decide_eq_true c_6]; rfl) | (rw [show hasB s k = false from decide_eq_false c_6]; rfl), rfl⟩)
  · refine v_iconst (nI 1) dX6_has_9 kI_1 ?_
    refine v_goto (tgt := 14) dX6_has_10 rfl ?_
    exact v_zret dX6_has_14 ((by rfl)) (⟨by first | (rw [show hasB s k = true from decide_eq_true c_6]; rfl) | (rw [show hasB s k = false from decide_eq_false c_6]; rfl), rfl⟩)
set_option maxHeartbeats 4000000 in
set_option maxRecDepth 100000 in
theorem c_hasM {E : Ev} {B : Bool} {N : Nat} {h : Hp} (s k : Int32) : Ct E yX7_has cX7_has 2 (some .boolean) ({ frames := 0, cells := 0, slots := 0, locals := 0 } : Room) B N [.int s, .int k] h N 0 0 (Ff (some (.int (bI (hasB s k)))) h) := by
  refine Ct.ofV (by decide) (Nat.le_of_ble_eq_true rfl) (fun X hnm => ?_)
  show V E X _ RX7 _ _ _ _ _ _ B N 0 [(0, .int s), (1, .int k)] [] _
  refine v_iload_n 0 dX7_has_0 rfl rfl ?_
  refine v_iload_n 1 dX7_has_1 rfl rfl ?_
  refine v_ishr dX7_has_2 ?_
  refine v_iconst (nI 1) dX7_has_3 kI_1 ?_
  refine v_iand dX7_has_4 ?_
  refine v_iconst (nI 1) dX7_has_5 kI_1 ?_
  refine v_icmp_ne (tgt := 13) dX7_has_6 rfl (fun c_6 => ?_) (fun c_6 => ?_)
  · refine v_iconst (nI 0) dX7_has_13 kI_0 ?_
    exact v_zret dX7_has_14 ((by rfl)) (⟨by first | (rw [show hasB s k = true from decide_eq_true c_6]; rfl) | (rw [show hasB s k = false from decide_eq_false c_6]; rfl), rfl⟩)
  · refine v_iconst (nI 1) dX7_has_9 kI_1 ?_
    refine v_goto (tgt := 14) dX7_has_10 rfl ?_
    exact v_zret dX7_has_14 ((by rfl)) (⟨by first | (rw [show hasB s k = true from decide_eq_true c_6]; rfl) | (rw [show hasB s k = false from decide_eq_false c_6]; rfl), rfl⟩)
def outB (x a b : Int32) : Bool := decide (x < a ∨ b < x)
set_option maxHeartbeats 4000000 in
set_option maxRecDepth 100000 in
theorem c_isOutside {E : Ev} {B : Bool} {N : Nat} {h : Hp} (x a b : Int32) : Ct E yX6_isOutside cX6_isOutside 3 (some .boolean) ({ frames := 0, cells := 0, slots := 0, locals := 0 } : Room) B N [.int x, .int a, .int b] h N 0 0 (Ff (some (.int (bI (outB x a b)))) h) := by
  refine Ct.ofV (by decide) (Nat.le_of_ble_eq_true rfl) (fun X hnm => ?_)
  show V E X _ RX6 _ _ _ _ _ _ B N 0 [(0, .int x), (1, .int a), (2, .int b)] [] _
  refine v_iload_n 0 dX6_isOutside_0 rfl rfl ?_
  refine v_iload_n 1 dX6_isOutside_1 rfl rfl ?_
  refine v_icmp_lt (tgt := 10) dX6_isOutside_2 rfl (fun c_2 => ?_) (fun c_2 => ?_)
  · refine v_iconst (nI 1) dX6_isOutside_10 kI_1 ?_
    refine v_goto (tgt := 15) dX6_isOutside_11 rfl ?_
    exact v_zret dX6_isOutside_15 ((by rfl)) (⟨by first | (rw [show outB x a b = true from decide_eq_true (by first | exact Or.inl (by assumption) | exact Or.inr (by first | assumption | exact Int32.not_le.mp (by assumption)))]; rfl) | (rw [show outB x a b = false from decide_eq_false (by rintro (q | q) <;> first | exact absurd q (by assumption) | exact absurd q (Int32.not_lt.mpr (by assumption)))]; rfl), rfl⟩)
  · refine v_iload_n 0 dX6_isOutside_5 rfl rfl ?_
    refine v_iload_n 2 dX6_isOutside_6 rfl rfl ?_
    refine v_icmp_le (tgt := 14) dX6_isOutside_7 rfl (fun c_7 => ?_) (fun c_7 => ?_)
    · refine v_iconst (nI 0) dX6_isOutside_14 kI_0 ?_
      exact v_zret dX6_isOutside_15 ((by rfl)) (⟨by first | (rw [show outB x a b = true from decide_eq_true (by first | exact Or.inl (by assumption) | exact Or.inr (by first | assumption | exact Int32.not_le.mp (by assumption)))]; rfl) | (rw [show outB x a b = false from decide_eq_false (by rintro (q | q) <;> first | exact absurd q (by assumption) | exact absurd q (Int32.not_lt.mpr (by assumption)))]; rfl), rfl⟩)
    · refine v_iconst (nI 1) dX6_isOutside_10 kI_1 ?_
      refine v_goto (tgt := 15) dX6_isOutside_11 rfl ?_
      exact v_zret dX6_isOutside_15 ((by rfl)) (⟨by first | (rw [show outB x a b = true from decide_eq_true (by first | exact Or.inl (by assumption) | exact Or.inr (by first | assumption | exact Int32.not_le.mp (by assumption)))]; rfl) | (rw [show outB x a b = false from decide_eq_false (by rintro (q | q) <;> first | exact absurd q (by assumption) | exact absurd q (Int32.not_lt.mpr (by assumption)))]; rfl), rfl⟩)
def mnI (x y : Int32) : Int32 := if y < x then y else x
def mxI (x y : Int32) : Int32 := if x < y then y else x
set_option maxHeartbeats 4000000 in
set_option maxRecDepth 100000 in
theorem c_min {E : Ev} {B : Bool} {N : Nat} {h : Hp} (x y : Int32) : Ct E yJ9_min_7cf53 cJ9_min_7cf53 2 (some .int) ({ frames := 0, cells := 0, slots := 0, locals := 0 } : Room) B N [.int x, .int y] h N 0 0 (Ff (some (.int (mnI x y))) h) := by
  refine Ct.ofVF (by decide +kernel) (Nat.le_of_ble_eq_true rfl) (fun X hnm => ?_)
  show V E X _ RJ9 _ _ _ _ _ _ B N 0 [(0, .int x), (1, .int y)] [] _
  refine v_iload_n 0 dJ9_min_7cf53_0 rfl rfl ?_
  refine v_iload_n 1 dJ9_min_7cf53_1 rfl rfl ?_
  refine v_icmp_gt (tgt := 9) dJ9_min_7cf53_2 rfl (fun c_2 => ?_) (fun c_2 => ?_)
  · refine v_iload_n 1 dJ9_min_7cf53_9 rfl rfl ?_
    exact v_iret dJ9_min_7cf53_10 (⟨by unfold mnI; first | (rw [if_pos (by first | assumption | exact Int32.not_le.mp (by assumption))]) | (rw [if_neg (by first | assumption | exact Int32.not_lt.mpr (by assumption))]), rfl⟩)
  · refine v_iload_n 0 dJ9_min_7cf53_5 rfl rfl ?_
    refine v_goto (tgt := 10) dJ9_min_7cf53_6 rfl ?_
    exact v_iret dJ9_min_7cf53_10 (⟨by unfold mnI; first | (rw [if_pos (by first | assumption | exact Int32.not_le.mp (by assumption))]) | (rw [if_neg (by first | assumption | exact Int32.not_lt.mpr (by assumption))]), rfl⟩)
set_option maxHeartbeats 4000000 in
set_option maxRecDepth 100000 in
theorem c_max {E : Ev} {B : Bool} {N : Nat} {h : Hp} (x y : Int32) : Ct E yJ9_max_7cf53 cJ9_max_7cf53 2 (some .int) ({ frames := 0, cells := 0, slots := 0, locals := 0 } : Room) B N [.int x, .int y] h N 0 0 (Ff (some (.int (mxI x y))) h) := by
  refine Ct.ofVF (by decide +kernel) (Nat.le_of_ble_eq_true rfl) (fun X hnm => ?_)
  show V E X _ RJ9 _ _ _ _ _ _ B N 0 [(0, .int x), (1, .int y)] [] _
  refine v_iload_n 0 dJ9_max_7cf53_0 rfl rfl ?_
  refine v_iload_n 1 dJ9_max_7cf53_1 rfl rfl ?_
  refine v_icmp_lt (tgt := 9) dJ9_max_7cf53_2 rfl (fun c_2 => ?_) (fun c_2 => ?_)
  · refine v_iload_n 1 dJ9_max_7cf53_9 rfl rfl ?_
    exact v_iret dJ9_max_7cf53_10 (⟨by unfold mxI; first | (rw [if_pos (by first | assumption | exact Int32.not_le.mp (by assumption))]) | (rw [if_neg (by first | assumption | exact Int32.not_lt.mpr (by assumption))]), rfl⟩)
  · refine v_iload_n 0 dJ9_max_7cf53_5 rfl rfl ?_
    refine v_goto (tgt := 10) dJ9_max_7cf53_6 rfl ?_
    exact v_iret dJ9_max_7cf53_10 (⟨by unfold mxI; first | (rw [if_pos (by first | assumption | exact Int32.not_le.mp (by assumption))]) | (rw [if_neg (by first | assumption | exact Int32.not_lt.mpr (by assumption))]), rfl⟩)
def abI (x : Int32) : Int32 := if 0 ≤ x then x else -x
set_option maxHeartbeats 4000000 in
set_option maxRecDepth 100000 in
theorem c_abs {E : Ev} {B : Bool} {N : Nat} {h : Hp} (x : Int32) : Ct E yJ9_abs_0f7a4 cJ9_abs_0f7a4 1 (some .int) ({ frames := 0, cells := 0, slots := 0, locals := 0 } : Room) B N [.int x] h N 0 0 (Ff (some (.int (abI x))) h) := by
  refine Ct.ofVF (by decide +kernel) (Nat.le_of_ble_eq_true rfl) (fun X hnm => ?_)
  show V E X _ RJ9 _ _ _ _ _ _ B N 0 [(0, .int x)] [] _
  refine v_iload_n 0 dJ9_abs_0f7a4_0 rfl rfl ?_
  refine v_if_ge (tgt := 9) dJ9_abs_0f7a4_1 rfl (fun c_1 => ?_) (fun c_1 => ?_)
  · refine v_iload_n 0 dJ9_abs_0f7a4_9 rfl rfl ?_
    exact v_iret dJ9_abs_0f7a4_10 (⟨by unfold abI; first | (rw [if_pos (by assumption)]) | (rw [if_neg (by assumption)]), rfl⟩)
  · refine v_iload_n 0 dJ9_abs_0f7a4_4 rfl rfl ?_
    refine v_ineg dJ9_abs_0f7a4_5 ?_
    refine v_goto (tgt := 10) dJ9_abs_0f7a4_6 rfl ?_
    exact v_iret dJ9_abs_0f7a4_10 (⟨by unfold abI; first | (rw [if_pos (by assumption)]) | (rw [if_neg (by assumption)]), rfl⟩)
def fmI (x y : Int32) : Int32 := if (x ^^^ y) < 0 ∧ ¬ (x - x / y * y = 0) then x - x / y * y + y else x - x / y * y
set_option maxHeartbeats 4000000 in
set_option maxRecDepth 100000 in
theorem c_floorMod {E : Ev} {B : Bool} {N : Nat} {h : Hp} (x y : Int32) (hy : ¬ y = 0) : Ct E yJ9_floorMod_7cf53 cJ9_floorMod_7cf53 3 (some .int) ({ frames := 0, cells := 0, slots := 0, locals := 0 } : Room) B N [.int x, .int y] h N 0 0 (Ff (some (.int (fmI x y))) h) := by
  refine Ct.ofVF (by decide +kernel) (Nat.le_of_ble_eq_true rfl) (fun X hnm => ?_)
  show V E X _ RJ9 _ _ _ _ _ _ B N 0 [(0, .int x), (1, .int y)] [] _
  refine v_iload_n 0 dJ9_floorMod_7cf53_0 rfl rfl ?_
  refine v_iload_n 1 dJ9_floorMod_7cf53_1 rfl rfl ?_
  refine v_irem dJ9_floorMod_7cf53_2 (hy) ?_
  refine v_istore_n [1, 2, 0] [(0, _), (1, _), (2, _)] dJ9_floorMod_7cf53_3 rfl (by decide) rfl ?_
  refine v_iload_n 0 dJ9_floorMod_7cf53_4 rfl rfl ?_
  refine v_iload_n 1 dJ9_floorMod_7cf53_5 rfl rfl ?_
  refine v_ixor dJ9_floorMod_7cf53_6 ?_
  refine v_if_ge (tgt := 18) dJ9_floorMod_7cf53_7 rfl (fun c_7 => ?_) (fun c_7 => ?_)
  · refine v_iload_n 2 dJ9_floorMod_7cf53_18 rfl rfl ?_
    exact v_iret dJ9_floorMod_7cf53_19 (⟨by unfold fmI; first | (rw [if_pos ⟨by first | assumption | exact Int32.not_le.mp (by assumption), by assumption⟩]) | (rw [if_neg (by rintro ⟨q1, q2⟩; first | exact q2 (by assumption) | exact absurd q1 (by first | assumption | exact Int32.not_lt.mpr (by assumption)))]), rfl⟩)
  · refine v_iload_n 2 dJ9_floorMod_7cf53_10 rfl rfl ?_
    refine v_if_eq (tgt := 18) dJ9_floorMod_7cf53_11 rfl (fun c_11 => ?_) (fun c_11 => ?_)
    · refine v_iload_n 2 dJ9_floorMod_7cf53_18 rfl rfl ?_
      exact v_iret dJ9_floorMod_7cf53_19 (⟨by unfold fmI; first | (rw [if_pos ⟨by first | assumption | exact Int32.not_le.mp (by assumption), by assumption⟩]) | (rw [if_neg (by rintro ⟨q1, q2⟩; first | exact q2 (by assumption) | exact absurd q1 (by first | assumption | exact Int32.not_lt.mpr (by assumption)))]), rfl⟩)
    · refine v_iload_n 2 dJ9_floorMod_7cf53_14 rfl rfl ?_
      refine v_iload_n 1 dJ9_floorMod_7cf53_15 rfl rfl ?_
      refine v_iadd dJ9_floorMod_7cf53_16 ?_
      exact v_iret dJ9_floorMod_7cf53_17 (⟨by unfold fmI; first | (rw [if_pos ⟨by first | assumption | exact Int32.not_le.mp (by assumption), by assumption⟩]) | (rw [if_neg (by rintro ⟨q1, q2⟩; first | exact q2 (by assumption) | exact absurd q1 (by first | assumption | exact Int32.not_lt.mpr (by assumption)))]), rfl⟩)
