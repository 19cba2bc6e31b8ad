/-! the environment; the heap as a map of offsets; the judgement V over it -/
theorem TB_good {c c' : Cond} (hc : c' ∈ TB) : GoodIn (c :: TB) (c' :: TB) := fun w hw => by
  rcases List.mem_cons.mp hw with rfl | hw
  · exact ⟨List.mem_cons_of_mem _ hc, good_of_word (List.mem_filter.mp hc).2⟩
  · exact ⟨List.mem_cons_of_mem _ hw, good_of_word (List.mem_filter.mp hw).2⟩
theorem TB_goodB {c' : Cond} (hc : c' ∈ TB) : GoodIn TB (c' :: TB) := fun w hw => by
  rcases List.mem_cons.mp hw with rfl | hw
  · exact ⟨hc, good_of_word (List.mem_filter.mp hc).2⟩
  · exact ⟨hw, good_of_word (List.mem_filter.mp hw).2⟩
abbrev Hp : Type := Nat → va_E
/-- launch, numbers and slots of the made ones, the heap's size at the law's start, int[], boolean[], Flock[] -/
abbrev Ev : Type := Launch × va_G × Nat × ClassId × ClassId × ClassId
abbrev Ez (E : Ev) : Nat := E.2.2.1
abbrev EI (E : Ev) : ClassId := E.2.2.2.1
abbrev EZ (E : Ev) : ClassId := E.2.2.2.2.1
abbrev EF (E : Ev) : ClassId := E.2.2.2.2.2
def tyE (E : Ev) : List (ClassId × FieldType) := [(EI E, .int), (EZ E, .boolean), (EF E, .object "SparrowChange$Flock")]
def zA (E : Ev) : Nat → Prop := fun q => Ez E ≤ q
def Rr (E : Ev) (B : Bool) (N : Nat) (h : Hp) (H : Heap) : Prop := (Ez E + N ≤ H.size ∧ (B = true → H.size = Ez E + N)) ∧ ∀ o, o < N → va_at E.2.1 vwCl (Ez E + o, h o) H
def NW (U : State) : Prop := ∀ q ∈ nestW, va_Nw (.methodLinkNest q.1 q.2.1 q.2.2.1 q.2.2.2) U
def KK (E : Ev) (U : State) : Prop := va_K E.2.1 vwCl (tyE E) U ∧ NW U ∧ va_AO "SparrowChange$Flock" U
theorem KK.warm {E : Ev} {s U : State} (hW : s.WarmedH U.vm) (h : KK E s) : KK E U := ⟨va_K.moved hW.alike h.1, fun q hq => (h.2.1 q hq).warmM hW, h.2.2.moved hW.alike⟩
theorem KK.same {E : Ev} {s U : State} (hv : s.vm = U.vm) (h : KK E s) : KK E U := ⟨va_K.moved (by rw [hv]; exact Vm.Alike.refl _) h.1, fun q hq => (h.2.1 q hq).same rfl hv, h.2.2.moved (by rw [hv]; exact Vm.Alike.refl _)⟩
/-- program, environment, state at entry, method, arguments, frames below, the method and its code -/
abbrev Cx : Type := Program × Env × State × MethodId × Array Value × List Frame × Method × Code
def okX (E : Ev) (X : Cx) (own : String) (cc : ByteArray) (nL : Nat) (ret : Option FieldType) : Prop :=
  X.1.tables.exec = Jvm.exec ∧ X.2.2.2.2.2.2.2.code = cc ∧ X.2.2.2.2.2.2.2.maxLocals = nL ∧ X.2.2.1.vm.findClass own = some X.2.2.2.1.cls ∧ (∀ w ∈ TB, w.before X.2.2.2.2.1 X.2.2.1 = true) ∧ KK E X.2.2.1 ∧ X.2.2.2.2.2.2.1.sig.returnType = ret ∧ X.2.2.2.2.2.2.1.locks = false ∧ Ez E ≤ X.2.2.1.heap.size
def V (E : Ev) (X : Cx) (R : Room) (own : String) (cc : ByteArray) (nL : Nat) (ret : Option FieldType) (k n : Nat) (Q : State → Prop) (B : Bool) (N : Nat) (pc : Nat) (lv : List (Nat × Value)) (st : List Value) (h : Hp) : Prop :=
  okX E X own cc nL ret → ∀ (H : Heap) (locs : List Loc) (ls : Array Slot), Rr E B N h H → va_S (zA E) X.2.2.1.heap H locs → lv_has ls nL lv →
    W X.1 E.1 X.2.1 R X.2.2.1 X.2.2.2.1 X.2.2.2.2.1 X.2.2.2.2.2.1 X.2.2.2.2.2.2.1 X.2.2.2.2.2.2.2 H locs k n Q (F0 X.2.2.2.1 pc ls st)
def Qx (E : Ev) (B : Bool) (N' : Nat) (post : Option Value → Hp → Prop) : Array Value → State → Outcome → State → Prop := fun _ st oc t => (∃ (r : Option Value) (h' : Hp), oc = .returned r ∧ post r h' ∧ Rr E B N' h' t.heap) ∧ va_F (zA E) st t
/-- a method's contract over the map of the heap -/
def Ct (E : Ev) (y : MethodName) (cc : ByteArray) (nL : Nat) (ret : Option FieldType) (rm : Room) (B : Bool) (N : Nat) (av : List Value) (h : Hp) (N' mc ms : Nat) (post : Option Value → Hp → Prop) : Prop :=
  Met E.1 y (.code y cc nL ret :: TB) rm (va_Pc av (fun U => Rr E B N h U.heap ∧ KK E U ∧ Ez E ≤ U.heap.size)) (Qx E B N' post) mc ms (zA E)
def QX (E : Ev) (X : Cx) (B : Bool) (N' : Nat) (post : Option Value → Hp → Prop) (k n : Nat) : State → Prop := MQ X.2.2.2.2.2.1 (Qx E B N' post) X.2.2.2.2.1 X.2.2.1 k n (zA E)
/-- an answer and a heap that are told by functions -/
def Ff (r : Option Value) (h : Hp) : Option Value → Hp → Prop := fun r2 h2 => r2 = r ∧ h2 = h
theorem Ct.ofV {E : Ev} {y : MethodName} {cc : ByteArray} {nL : Nat} {ret : Option FieldType} {rm : Room} {B : Bool} {N : Nat} {av : List Value} {h : Hp} {N' mc ms : Nat} {post : Option Value → Hp → Prop} (hy : plainName y.cls = true) (hlen : (lg_sl av).length ≤ nL)
    (body : ∀ X : Cx, X.2.2.2.2.2.2.1.name = y.name → V E X rm y.cls cc nL ret 0 0 (QX E X B N' post mc ms) B N 0 (lv_args 0 av) [] h) : Ct E y cc nL ret rm B N av h N' mc ms post := by
  refine Met.ofW (cc := cc) (maxL := nL) (ret := ret) hy rfl ?_
  intro p e s m args below meth c s₁ Bd hml hv
  obtain ⟨rfl, hr, hK, hz⟩ := hv
  have hts := atoms_spec (ws := .code y cc nL ret :: TB) Bd.pre
  have hl := lv_entry av (n := nL) hlen
  rw [lg_entry_eq]
  have hb := body (p, e, s, m, av.toArray, below, meth, c) (name_of_methodNamed Bd.named Bd.method).1
  exact hb ⟨Bd.exec, Bd.bytes, hml, findClass_of_methodNamed Bd.named, fun w hw => hts w (List.mem_cons_of_mem _ hw), hK, Bd.returns, Bd.notSynchronized, hz⟩ s.heap [] _ hr va_S.rf hl
section VV
variable {E : Ev} {X : Cx} {R : Room} {own : String} {cc : ByteArray} {nL : Nat} {ret : Option FieldType} {k n : Nat} {Q : State → Prop} {B : Bool} {N pc : Nat} {lv lv' : List (Nat × Value)} {st : List Value} {h h' : Hp}
theorem v_cast {lv2 : List (Nat × Value)} {st2 : List Value} (e1 : lv = lv2) (e2 : st = st2) (e3 : h = h') (kk : V E X R own cc nL ret k n Q B N pc lv2 st2 h') : V E X R own cc nL ret k n Q B N pc lv st h := by subst e1; subst e2; subst e3; exact kk
theorem v_heap (e3 : ∀ o, o < N → h o = h' o) (kk : V E X R own cc nL ret k n Q B N pc lv st h') : V E X R own cc nL ret k n Q B N pc lv st h := fun ok H locs ls hr hS hl => kk ok H locs ls ⟨hr.1, fun o ho => by rw [← e3 o ho]; exact hr.2 o ho⟩ hS hl
theorem v_sub (ks : List Nat) (hp : lv_pick lv ks = lv') (kk : V E X R own cc nL ret k n Q B N pc lv' st h) : V E X R own cc nL ret k n Q B N pc lv st h := fun ok H locs ls hr hS hl => kk ok H locs ls hr hS (lv_sub hl ks hp)
theorem v_ok (kk : okX E X own cc nL ret → V E X R own cc nL ret k n Q B N pc lv st h) : V E X R own cc nL ret k n Q B N pc lv st h := fun ok => kk ok ok
theorem v_iconst {a : Int} (v : Int32) (hd : decode cc pc = .ok (.iconst a, 1)) (hv : Int32.ofInt a = v) (kk : V E X R own cc nL ret k n Q B N (pc + 1) lv (.int v :: st) h) : V E X R own cc nL ret k n Q B N pc lv st h := fun ok H locs ls hr hS hl => lv_iconst ok.1 ok.2.1 hd hv (kk ok H locs ls hr hS hl)
theorem v_bipush {a : Int} (v : Int32) (hd : decode cc pc = .ok (.bipush a, 2)) (hv : (Int8.ofInt a).toInt32 = v) (kk : V E X R own cc nL ret k n Q B N (pc + 2) lv (.int v :: st) h) : V E X R own cc nL ret k n Q B N pc lv st h := fun ok H locs ls hr hS hl => lv_bipush ok.1 ok.2.1 hd hv (kk ok H locs ls hr hS hl)
theorem v_sipush {a : Int} (v : Int32) (hd : decode cc pc = .ok (.sipush a, 3)) (hv : (Int16.ofInt a).toInt32 = v) (kk : V E X R own cc nL ret k n Q B N (pc + 3) lv (.int v :: st) h) : V E X R own cc nL ret k n Q B N pc lv st h := fun ok H locs ls hr hS hl => lv_sipush ok.1 ok.2.1 hd hv (kk ok H locs ls hr hS hl)
theorem v_lconst {a : Fin 2} (v : Int64) (hd : decode cc pc = .ok (.lconst a, 1)) (hv : Int64.ofNat (a : Nat) = v) (kk : V E X R own cc nL ret k n Q B N (pc + 1) lv (.long v :: st) h) : V E X R own cc nL ret k n Q B N pc lv st h := fun ok H locs ls hr hS hl => lv_lconst ok.1 ok.2.1 hd hv (kk ok H locs ls hr hS hl)
theorem v_ldc {index : Nat} {v : Int32} (v' : Int32) (hw : Cond.constant own index v ∈ TB) (hd : decode cc pc = .ok (.ldc index, 2)) (hv : v = v') (kk : V E X R own cc nL ret k n Q B N (pc + 2) lv (.int v' :: st) h) : V E X R own cc nL ret k n Q B N pc lv st h := fun ok H locs ls hr hS hl => lv_ldc ok.1 ok.2.1 ok.2.2.2.1 (ok.2.2.2.2.1 _ hw) hd (by rw [hv]; exact kk ok H locs ls hr hS hl)
theorem v_ldcw {index : Nat} {v : Int32} (v' : Int32) (hw : Cond.constant own index v ∈ TB) (hd : decode cc pc = .ok (.ldc_w index, 3)) (hv : v = v') (kk : V E X R own cc nL ret k n Q B N (pc + 3) lv (.int v' :: st) h) : V E X R own cc nL ret k n Q B N pc lv st h := fun ok H locs ls hr hS hl => lv_ldcw ok.1 ok.2.1 ok.2.2.2.1 (ok.2.2.2.2.1 _ hw) hd (by rw [hv]; exact kk ok H locs ls hr hS hl)
theorem v_ldc2 {index : Nat} {v : Int64} (v' : Int64) (hw : Cond.constantLong own index v ∈ TB) (hd : decode cc pc = .ok (.ldc2_w index, 3)) (hv : v = v') (kk : V E X R own cc nL ret k n Q B N (pc + 3) lv (.long v' :: st) h) : V E X R own cc nL ret k n Q B N pc lv st h := fun ok H locs ls hr hS hl => lv_ldc2 ok.1 ok.2.1 ok.2.2.2.1 (ok.2.2.2.2.1 _ hw) hd (by rw [hv]; exact kk ok H locs ls hr hS hl)
theorem v_iload_n {a : Fin 4} {i : Nat} {x : Int32} (j : Nat) (hd : decode cc pc = .ok (.iload_n a, 1)) (hj : lv[j]? = some (i, .int x)) (hi : (a : Nat) = i) (kk : V E X R own cc nL ret k n Q B N (pc + 1) lv (.int x :: st) h) : V E X R own cc nL ret k n Q B N pc lv st h := fun ok H locs ls hr hS hl => lv_iload_n ok.1 ok.2.1 hd hi (lv_at hl j hj) (kk ok H locs ls hr hS hl)
theorem v_iload {i : Nat} {x : Int32} (j : Nat) (hd : decode cc pc = .ok (.iload i, 2)) (hj : lv[j]? = some (i, .int x)) (kk : V E X R own cc nL ret k n Q B N (pc + 2) lv (.int x :: st) h) : V E X R own cc nL ret k n Q B N pc lv st h := fun ok H locs ls hr hS hl => lv_iload ok.1 ok.2.1 hd (lv_at hl j hj) (kk ok H locs ls hr hS hl)
theorem v_lload_n {a : Fin 4} {i : Nat} {x : Int64} (j : Nat) (hd : decode cc pc = .ok (.lload_n a, 1)) (hj : lv[j]? = some (i, .long x)) (hi : (a : Nat) = i) (kk : V E X R own cc nL ret k n Q B N (pc + 1) lv (.long x :: st) h) : V E X R own cc nL ret k n Q B N pc lv st h := fun ok H locs ls hr hS hl => lv_lload_n ok.1 ok.2.1 hd hi (lv_at hl j hj) (kk ok H locs ls hr hS hl)
theorem v_lload {i : Nat} {x : Int64} (j : Nat) (hd : decode cc pc = .ok (.lload i, 2)) (hj : lv[j]? = some (i, .long x)) (kk : V E X R own cc nL ret k n Q B N (pc + 2) lv (.long x :: st) h) : V E X R own cc nL ret k n Q B N pc lv st h := fun ok H locs ls hr hS hl => lv_lload ok.1 ok.2.1 hd (lv_at hl j hj) (kk ok H locs ls hr hS hl)
theorem v_aload_n {a : Fin 4} {i : Nat} {x : Nat} (j : Nat) (hd : decode cc pc = .ok (.aload_n a, 1)) (hj : lv[j]? = some (i, .ref x)) (hi : (a : Nat) = i) (kk : V E X R own cc nL ret k n Q B N (pc + 1) lv (.ref x :: st) h) : V E X R own cc nL ret k n Q B N pc lv st h := fun ok H locs ls hr hS hl => lv_aload_n ok.1 ok.2.1 hd hi (lv_at hl j hj) (kk ok H locs ls hr hS hl)
theorem v_aload {i : Nat} {x : Nat} (j : Nat) (hd : decode cc pc = .ok (.aload i, 2)) (hj : lv[j]? = some (i, .ref x)) (kk : V E X R own cc nL ret k n Q B N (pc + 2) lv (.ref x :: st) h) : V E X R own cc nL ret k n Q B N pc lv st h := fun ok H locs ls hr hS hl => lv_aload ok.1 ok.2.1 hd (lv_at hl j hj) (kk ok H locs ls hr hS hl)
theorem v_istore_n {a : Fin 4} {i : Nat} {x : Int32} (ks : List Nat) (lv' : List (Nat × Value)) (hd : decode cc pc = .ok (.istore_n a, 1)) (hi : (a : Nat) = i) (hn : i < nL) (hp : lv_pick ((i, Value.int x) :: lv.filter (fun q => !(q.1 == i) && !(q.1 + 1 == i && q.2.category == 2))) ks = lv') (kk : V E X R own cc nL ret k n Q B N (pc + 1) lv' st h) : V E X R own cc nL ret k n Q B N pc lv (.int x :: st) h := fun ok H locs ls hr hS hl => lv_istore_n ok.1 ok.2.1 hd hi hl hn rfl (fun ls' hl' => kk ok H locs ls' hr hS (lv_sub hl' ks hp))
theorem v_istore {i : Nat} {x : Int32} (ks : List Nat) (lv' : List (Nat × Value)) (hd : decode cc pc = .ok (.istore i, 2)) (hn : i < nL) (hp : lv_pick ((i, Value.int x) :: lv.filter (fun q => !(q.1 == i) && !(q.1 + 1 == i && q.2.category == 2))) ks = lv') (kk : V E X R own cc nL ret k n Q B N (pc + 2) lv' st h) : V E X R own cc nL ret k n Q B N pc lv (.int x :: st) h := fun ok H locs ls hr hS hl => lv_istore ok.1 ok.2.1 hd hl hn rfl (fun ls' hl' => kk ok H locs ls' hr hS (lv_sub hl' ks hp))
theorem v_astore_n {a : Fin 4} {i : Nat} {x : Nat} (ks : List Nat) (lv' : List (Nat × Value)) (hd : decode cc pc = .ok (.astore_n a, 1)) (hi : (a : Nat) = i) (hn : i < nL) (hp : lv_pick ((i, Value.ref x) :: lv.filter (fun q => !(q.1 == i) && !(q.1 + 1 == i && q.2.category == 2))) ks = lv') (kk : V E X R own cc nL ret k n Q B N (pc + 1) lv' st h) : V E X R own cc nL ret k n Q B N pc lv (.ref x :: st) h := fun ok H locs ls hr hS hl => lv_astore_n ok.1 ok.2.1 hd hi hl hn rfl (fun ls' hl' => kk ok H locs ls' hr hS (lv_sub hl' ks hp))
theorem v_astore {i : Nat} {x : Nat} (ks : List Nat) (lv' : List (Nat × Value)) (hd : decode cc pc = .ok (.astore i, 2)) (hn : i < nL) (hp : lv_pick ((i, Value.ref x) :: lv.filter (fun q => !(q.1 == i) && !(q.1 + 1 == i && q.2.category == 2))) ks = lv') (kk : V E X R own cc nL ret k n Q B N (pc + 2) lv' st h) : V E X R own cc nL ret k n Q B N pc lv (.ref x :: st) h := fun ok H locs ls hr hS hl => lv_astore ok.1 ok.2.1 hd hl hn rfl (fun ls' hl' => kk ok H locs ls' hr hS (lv_sub hl' ks hp))
theorem v_lstore_n {a : Fin 4} {i : Nat} {x : Int64} (ks : List Nat) (lv' : List (Nat × Value)) (hd : decode cc pc = .ok (.lstore_n a, 1)) (hi : (a : Nat) = i) (hn : i + 1 < nL) (hp : lv_pick ((i, Value.long x) :: lv.filter (fun q => !(q.1 == i) && (!(q.1 == i + 1) && !(q.1 + 1 == i && q.2.category == 2)))) ks = lv') (kk : V E X R own cc nL ret k n Q B N (pc + 1) lv' st h) : V E X R own cc nL ret k n Q B N pc lv (.long x :: st) h := fun ok H locs ls hr hS hl => lv_lstore_n ok.1 ok.2.1 hd hi hl hn rfl (fun ls' hl' => kk ok H locs ls' hr hS (lv_sub hl' ks hp))
theorem v_lstore {i : Nat} {x : Int64} (ks : List Nat) (lv' : List (Nat × Value)) (hd : decode cc pc = .ok (.lstore i, 2)) (hn : i + 1 < nL) (hp : lv_pick ((i, Value.long x) :: lv.filter (fun q => !(q.1 == i) && (!(q.1 == i + 1) && !(q.1 + 1 == i && q.2.category == 2)))) ks = lv') (kk : V E X R own cc nL ret k n Q B N (pc + 2) lv' st h) : V E X R own cc nL ret k n Q B N pc lv (.long x :: st) h := fun ok H locs ls hr hS hl => lv_lstore ok.1 ok.2.1 hd hl hn rfl (fun ls' hl' => kk ok H locs ls' hr hS (lv_sub hl' ks hp))
theorem v_iinc {i : Nat} {a : Int} {x : Int32} (v : Int32) (j : Nat) (ks : List Nat) (lv' : List (Nat × Value)) (hd : decode cc pc = .ok (.iinc i a, 3)) (hj : lv[j]? = some (i, .int x)) (hv : x + Int32.ofInt a = v) (hn : i < nL) (hp : lv_pick ((i, Value.int v) :: lv.filter (fun q => !(q.1 == i) && !(q.1 + 1 == i && q.2.category == 2))) ks = lv') (kk : V E X R own cc nL ret k n Q B N (pc + 3) lv' st h) : V E X R own cc nL ret k n Q B N pc lv st h := fun ok H locs ls hr hS hl => lv_iinc ok.1 ok.2.1 hd hl hj hv hn rfl (fun ls' hl' => kk ok H locs ls' hr hS (lv_sub hl' ks hp))
theorem v_iadd {x y : Int32} (hd : decode cc pc = .ok (.iadd, 1)) (kk : V E X R own cc nL ret k n Q B N (pc + 1) lv (.int (x + y) :: st) h) : V E X R own cc nL ret k n Q B N pc lv (.int y :: .int x :: st) h := fun ok H locs ls hr hS hl => lv_iadd ok.1 ok.2.1 hd (kk ok H locs ls hr hS hl)
theorem v_isub {x y : Int32} (hd : decode cc pc = .ok (.isub, 1)) (kk : V E X R own cc nL ret k n Q B N (pc + 1) lv (.int (x - y) :: st) h) : V E X R own cc nL ret k n Q B N pc lv (.int y :: .int x :: st) h := fun ok H locs ls hr hS hl => lv_isub ok.1 ok.2.1 hd (kk ok H locs ls hr hS hl)
theorem v_imul {x y : Int32} (hd : decode cc pc = .ok (.imul, 1)) (kk : V E X R own cc nL ret k n Q B N (pc + 1) lv (.int (x * y) :: st) h) : V E X R own cc nL ret k n Q B N pc lv (.int y :: .int x :: st) h := fun ok H locs ls hr hS hl => lv_imul ok.1 ok.2.1 hd (kk ok H locs ls hr hS hl)
theorem v_iand {x y : Int32} (hd : decode cc pc = .ok (.iand, 1)) (kk : V E X R own cc nL ret k n Q B N (pc + 1) lv (.int (x &&& y) :: st) h) : V E X R own cc nL ret k n Q B N pc lv (.int y :: .int x :: st) h := fun ok H locs ls hr hS hl => lv_iand ok.1 ok.2.1 hd (kk ok H locs ls hr hS hl)
theorem v_ior {x y : Int32} (hd : decode cc pc = .ok (.ior, 1)) (kk : V E X R own cc nL ret k n Q B N (pc + 1) lv (.int (x ||| y) :: st) h) : V E X R own cc nL ret k n Q B N pc lv (.int y :: .int x :: st) h := fun ok H locs ls hr hS hl => lv_ior ok.1 ok.2.1 hd (kk ok H locs ls hr hS hl)
theorem v_ixor {x y : Int32} (hd : decode cc pc = .ok (.ixor, 1)) (kk : V E X R own cc nL ret k n Q B N (pc + 1) lv (.int (x ^^^ y) :: st) h) : V E X R own cc nL ret k n Q B N pc lv (.int y :: .int x :: st) h := fun ok H locs ls hr hS hl => lv_ixor ok.1 ok.2.1 hd (kk ok H locs ls hr hS hl)
theorem v_ishl {x y : Int32} (hd : decode cc pc = .ok (.ishl, 1)) (kk : V E X R own cc nL ret k n Q B N (pc + 1) lv (.int (x <<< (y &&& 31)) :: st) h) : V E X R own cc nL ret k n Q B N pc lv (.int y :: .int x :: st) h := fun ok H locs ls hr hS hl => lv_ishl ok.1 ok.2.1 hd (kk ok H locs ls hr hS hl)
theorem v_ishr {x y : Int32} (hd : decode cc pc = .ok (.ishr, 1)) (kk : V E X R own cc nL ret k n Q B N (pc + 1) lv (.int (x >>> (y &&& 31)) :: st) h) : V E X R own cc nL ret k n Q B N pc lv (.int y :: .int x :: st) h := fun ok H locs ls hr hS hl => lv_ishr ok.1 ok.2.1 hd (kk ok H locs ls hr hS hl)
theorem v_iushr {x y : Int32} (hd : decode cc pc = .ok (.iushr, 1)) (kk : V E X R own cc nL ret k n Q B N (pc + 1) lv (.int ((x.toUInt32 >>> (y.toUInt32 &&& Int32.toUInt32 31)).toInt32) :: st) h) : V E X R own cc nL ret k n Q B N pc lv (.int y :: .int x :: st) h := fun ok H locs ls hr hS hl => lv_iushr ok.1 ok.2.1 hd rfl (kk ok H locs ls hr hS hl)
theorem v_idiv {x y : Int32} (hd : decode cc pc = .ok (.idiv, 1)) (hne : ¬ y = 0) (kk : V E X R own cc nL ret k n Q B N (pc + 1) lv (.int (x / y) :: st) h) : V E X R own cc nL ret k n Q B N pc lv (.int y :: .int x :: st) h := fun ok H locs ls hr hS hl => lv_idiv ok.1 ok.2.1 hd hne (kk ok H locs ls hr hS hl)
theorem v_irem {x y : Int32} (hd : decode cc pc = .ok (.irem, 1)) (hne : ¬ y = 0) (kk : V E X R own cc nL ret k n Q B N (pc + 1) lv (.int (x - x / y * y) :: st) h) : V E X R own cc nL ret k n Q B N pc lv (.int y :: .int x :: st) h := fun ok H locs ls hr hS hl => lv_irem ok.1 ok.2.1 hd hne (kk ok H locs ls hr hS hl)
theorem v_ladd {x y : Int64} (hd : decode cc pc = .ok (.ladd, 1)) (kk : V E X R own cc nL ret k n Q B N (pc + 1) lv (.long (x + y) :: st) h) : V E X R own cc nL ret k n Q B N pc lv (.long y :: .long x :: st) h := fun ok H locs ls hr hS hl => lv_ladd ok.1 ok.2.1 hd (kk ok H locs ls hr hS hl)
theorem v_lmul {x y : Int64} (hd : decode cc pc = .ok (.lmul, 1)) (kk : V E X R own cc nL ret k n Q B N (pc + 1) lv (.long (x * y) :: st) h) : V E X R own cc nL ret k n Q B N pc lv (.long y :: .long x :: st) h := fun ok H locs ls hr hS hl => lv_lmul ok.1 ok.2.1 hd (kk ok H locs ls hr hS hl)
theorem v_ldiv {x y : Int64} (hd : decode cc pc = .ok (.ldiv, 1)) (hne : ¬ y = 0) (kk : V E X R own cc nL ret k n Q B N (pc + 1) lv (.long (x / y) :: st) h) : V E X R own cc nL ret k n Q B N pc lv (.long y :: .long x :: st) h := fun ok H locs ls hr hS hl => lv_ldiv ok.1 ok.2.1 hd hne (kk ok H locs ls hr hS hl)
theorem v_lrem {x y : Int64} (hd : decode cc pc = .ok (.lrem, 1)) (hne : ¬ y = 0) (kk : V E X R own cc nL ret k n Q B N (pc + 1) lv (.long (x - x / y * y) :: st) h) : V E X R own cc nL ret k n Q B N pc lv (.long y :: .long x :: st) h := fun ok H locs ls hr hS hl => lv_lrem ok.1 ok.2.1 hd hne (kk ok H locs ls hr hS hl)
theorem v_ineg {x : Int32} (hd : decode cc pc = .ok (.ineg, 1)) (kk : V E X R own cc nL ret k n Q B N (pc + 1) lv (.int (-x) :: st) h) : V E X R own cc nL ret k n Q B N pc lv (.int x :: st) h := fun ok H locs ls hr hS hl => lv_ineg ok.1 ok.2.1 hd (kk ok H locs ls hr hS hl)
theorem v_i2l {x : Int32} (hd : decode cc pc = .ok (.i2l, 1)) (kk : V E X R own cc nL ret k n Q B N (pc + 1) lv (.long x.toInt64 :: st) h) : V E X R own cc nL ret k n Q B N pc lv (.int x :: st) h := fun ok H locs ls hr hS hl => lv_i2l ok.1 ok.2.1 hd rfl (kk ok H locs ls hr hS hl)
theorem v_l2i {x : Int64} (hd : decode cc pc = .ok (.l2i, 1)) (kk : V E X R own cc nL ret k n Q B N (pc + 1) lv (.int x.toInt32 :: st) h) : V E X R own cc nL ret k n Q B N pc lv (.long x :: st) h := fun ok H locs ls hr hS hl => lv_l2i ok.1 ok.2.1 hd rfl (kk ok H locs ls hr hS hl)
theorem v_lcmp {x y : Int64} (hd : decode cc pc = .ok (.lcmp, 1)) (kk : V E X R own cc nL ret k n Q B N (pc + 1) lv (.int (lg_cmp x y) :: st) h) : V E X R own cc nL ret k n Q B N pc lv (.long y :: .long x :: st) h := fun ok H locs ls hr hS hl => W.lcmp ok.1 ok.2.1 hd (kk ok H locs ls hr hS hl)
theorem v_dup {va : Value} (hd : decode cc pc = .ok (.dup, 1)) (hva : va.category = 1) (kk : V E X R own cc nL ret k n Q B N (pc + 1) lv (va :: va :: st) h) : V E X R own cc nL ret k n Q B N pc lv (va :: st) h := fun ok H locs ls hr hS hl => lv_dup ok.1 ok.2.1 hd hva (kk ok H locs ls hr hS hl)
theorem v_pop {va : Value} (hd : decode cc pc = .ok (.pop, 1)) (hva : va.category = 1) (kk : V E X R own cc nL ret k n Q B N (pc + 1) lv st h) : V E X R own cc nL ret k n Q B N pc lv (va :: st) h := fun ok H locs ls hr hS hl => lv_pop ok.1 ok.2.1 hd hva (kk ok H locs ls hr hS hl)
theorem v_dup2 {va vb : Value} (hd : decode cc pc = .ok (.dup2, 1)) (hva : va.category = 1) (hvb : vb.category = 1) (kk : V E X R own cc nL ret k n Q B N (pc + 1) lv (va :: vb :: va :: vb :: st) h) : V E X R own cc nL ret k n Q B N pc lv (va :: vb :: st) h := fun ok H locs ls hr hS hl => lv_dup2_11 ok.1 ok.2.1 hd hva hvb (kk ok H locs ls hr hS hl)
theorem v_if_eq {x : Int32} {off : Int} {tgt : Nat} (hd : decode cc pc = .ok (.ifCond .eq off, 3)) (ht : (pc : Int) + off = (tgt : Int)) (kt : x = 0 → V E X R own cc nL ret k n Q B N tgt lv st h) (kf : ¬ x = 0 → V E X R own cc nL ret k n Q B N (pc + 3) lv st h) : V E X R own cc nL ret k n Q B N pc lv (.int x :: st) h := fun ok H locs ls hr hS hl => lv_if_eq ok.1 ok.2.1 hd ht (fun c => kt c ok H locs ls hr hS hl) (fun c => kf c ok H locs ls hr hS hl)
theorem v_icmp_eq {x y : Int32} {off : Int} {tgt : Nat} (hd : decode cc pc = .ok (.if_icmp .eq off, 3)) (ht : (pc : Int) + off = (tgt : Int)) (kt : x = y → V E X R own cc nL ret k n Q B N tgt lv st h) (kf : ¬ x = y → V E X R own cc nL ret k n Q B N (pc + 3) lv st h) : V E X R own cc nL ret k n Q B N pc lv (.int y :: .int x :: st) h := fun ok H locs ls hr hS hl => lv_icmp_eq ok.1 ok.2.1 hd ht (fun c => kt c ok H locs ls hr hS hl) (fun c => kf c ok H locs ls hr hS hl)
theorem v_if_ne {x : Int32} {off : Int} {tgt : Nat} (hd : decode cc pc = .ok (.ifCond .ne off, 3)) (ht : (pc : Int) + off = (tgt : Int)) (kt : ¬ x = 0 → V E X R own cc nL ret k n Q B N tgt lv st h) (kf : x = 0 → V E X R own cc nL ret k n Q B N (pc + 3) lv st h) : V E X R own cc nL ret k n Q B N pc lv (.int x :: st) h := fun ok H locs ls hr hS hl => lv_if_ne ok.1 ok.2.1 hd ht (fun c => kt c ok H locs ls hr hS hl) (fun c => kf c ok H locs ls hr hS hl)
theorem v_icmp_ne {x y : Int32} {off : Int} {tgt : Nat} (hd : decode cc pc = .ok (.if_icmp .ne off, 3)) (ht : (pc : Int) + off = (tgt : Int)) (kt : ¬ x = y → V E X R own cc nL ret k n Q B N tgt lv st h) (kf : x = y → V E X R own cc nL ret k n Q B N (pc + 3) lv st h) : V E X R own cc nL ret k n Q B N pc lv (.int y :: .int x :: st) h := fun ok H locs ls hr hS hl => lv_icmp_ne ok.1 ok.2.1 hd ht (fun c => kt c ok H locs ls hr hS hl) (fun c => kf c ok H locs ls hr hS hl)
theorem v_if_lt {x : Int32} {off : Int} {tgt : Nat} (hd : decode cc pc = .ok (.ifCond .lt off, 3)) (ht : (pc : Int) + off = (tgt : Int)) (kt : x < 0 → V E X R own cc nL ret k n Q B N tgt lv st h) (kf : ¬ x < 0 → V E X R own cc nL ret k n Q B N (pc + 3) lv st h) : V E X R own cc nL ret k n Q B N pc lv (.int x :: st) h := fun ok H locs ls hr hS hl => lv_if_lt ok.1 ok.2.1 hd ht (fun c => kt c ok H locs ls hr hS hl) (fun c => kf c ok H locs ls hr hS hl)
theorem v_icmp_lt {x y : Int32} {off : Int} {tgt : Nat} (hd : decode cc pc = .ok (.if_icmp .lt off, 3)) (ht : (pc : Int) + off = (tgt : Int)) (kt : x < y → V E X R own cc nL ret k n Q B N tgt lv st h) (kf : ¬ x < y → V E X R own cc nL ret k n Q B N (pc + 3) lv st h) : V E X R own cc nL ret k n Q B N pc lv (.int y :: .int x :: st) h := fun ok H locs ls hr hS hl => lv_icmp_lt ok.1 ok.2.1 hd ht (fun c => kt c ok H locs ls hr hS hl) (fun c => kf c ok H locs ls hr hS hl)
theorem v_if_ge {x : Int32} {off : Int} {tgt : Nat} (hd : decode cc pc = .ok (.ifCond .ge off, 3)) (ht : (pc : Int) + off = (tgt : Int)) (kt : 0 ≤ x → V E X R own cc nL ret k n Q B N tgt lv st h) (kf : ¬ 0 ≤ x → V E X R own cc nL ret k n Q B N (pc + 3) lv st h) : V E X R own cc nL ret k n Q B N pc lv (.int x :: st) h := fun ok H locs ls hr hS hl => lv_if_ge ok.1 ok.2.1 hd ht (fun c => kt c ok H locs ls hr hS hl) (fun c => kf c ok H locs ls hr hS hl)
theorem v_icmp_ge {x y : Int32} {off : Int} {tgt : Nat} (hd : decode cc pc = .ok (.if_icmp .ge off, 3)) (ht : (pc : Int) + off = (tgt : Int)) (kt : y ≤ x → V E X R own cc nL ret k n Q B N tgt lv st h) (kf : ¬ y ≤ x → V E X R own cc nL ret k n Q B N (pc + 3) lv st h) : V E X R own cc nL ret k n Q B N pc lv (.int y :: .int x :: st) h := fun ok H locs ls hr hS hl => lv_icmp_ge ok.1 ok.2.1 hd ht (fun c => kt c ok H locs ls hr hS hl) (fun c => kf c ok H locs ls hr hS hl)
theorem v_if_gt {x : Int32} {off : Int} {tgt : Nat} (hd : decode cc pc = .ok (.ifCond .gt off, 3)) (ht : (pc : Int) + off = (tgt : Int)) (kt : 0 < x → V E X R own cc nL ret k n Q B N tgt lv st h) (kf : ¬ 0 < x → V E X R own cc nL ret k n Q B N (pc + 3) lv st h) : V E X R own cc nL ret k n Q B N pc lv (.int x :: st) h := fun ok H locs ls hr hS hl => lv_if_gt ok.1 ok.2.1 hd ht (fun c => kt c ok H locs ls hr hS hl) (fun c => kf c ok H locs ls hr hS hl)
theorem v_icmp_gt {x y : Int32} {off : Int} {tgt : Nat} (hd : decode cc pc = .ok (.if_icmp .gt off, 3)) (ht : (pc : Int) + off = (tgt : Int)) (kt : y < x → V E X R own cc nL ret k n Q B N tgt lv st h) (kf : ¬ y < x → V E X R own cc nL ret k n Q B N (pc + 3) lv st h) : V E X R own cc nL ret k n Q B N pc lv (.int y :: .int x :: st) h := fun ok H locs ls hr hS hl => lv_icmp_gt ok.1 ok.2.1 hd ht (fun c => kt c ok H locs ls hr hS hl) (fun c => kf c ok H locs ls hr hS hl)
theorem v_if_le {x : Int32} {off : Int} {tgt : Nat} (hd : decode cc pc = .ok (.ifCond .le off, 3)) (ht : (pc : Int) + off = (tgt : Int)) (kt : x ≤ 0 → V E X R own cc nL ret k n Q B N tgt lv st h) (kf : ¬ x ≤ 0 → V E X R own cc nL ret k n Q B N (pc + 3) lv st h) : V E X R own cc nL ret k n Q B N pc lv (.int x :: st) h := fun ok H locs ls hr hS hl => lv_if_le ok.1 ok.2.1 hd ht (fun c => kt c ok H locs ls hr hS hl) (fun c => kf c ok H locs ls hr hS hl)
theorem v_icmp_le {x y : Int32} {off : Int} {tgt : Nat} (hd : decode cc pc = .ok (.if_icmp .le off, 3)) (ht : (pc : Int) + off = (tgt : Int)) (kt : x ≤ y → V E X R own cc nL ret k n Q B N tgt lv st h) (kf : ¬ x ≤ y → V E X R own cc nL ret k n Q B N (pc + 3) lv st h) : V E X R own cc nL ret k n Q B N pc lv (.int y :: .int x :: st) h := fun ok H locs ls hr hS hl => lv_icmp_le ok.1 ok.2.1 hd ht (fun c => kt c ok H locs ls hr hS hl) (fun c => kf c ok H locs ls hr hS hl)
theorem v_goto {off : Int} {tgt : Nat} (hd : decode cc pc = .ok (.goto off, 3)) (ht : (pc : Int) + off = (tgt : Int)) (kk : V E X R own cc nL ret k n Q B N tgt lv st h) : V E X R own cc nL ret k n Q B N pc lv st h := fun ok H locs ls hr hS hl => lv_goto ok.1 ok.2.1 hd ht (kk ok H locs ls hr hS hl)
theorem v_tabOut {dflt lo hi : Int} {offs : Array Int} {len : Nat} {x : Int32} {tgt : Nat} (hd : decode cc pc = .ok (.tableswitch dflt lo hi offs, len)) (hx : x.toInt < lo ∨ hi < x.toInt) (ht : (pc : Int) + dflt = (tgt : Int)) (kk : V E X R own cc nL ret k n Q B N tgt lv st h) : V E X R own cc nL ret k n Q B N pc lv (.int x :: st) h := fun ok H locs ls hr hS hl => lv_tableOut ok.1 ok.2.1 hd hx ht (kk ok H locs ls hr hS hl)
theorem v_tabIn {dflt lo hi : Int} {offs : Array Int} {len : Nat} {x : Int32} {off : Int} {tgt : Nat} (hd : decode cc pc = .ok (.tableswitch dflt lo hi offs, len)) (h1 : ¬ x.toInt < lo) (h2 : ¬ hi < x.toInt) (ho : offs[(x.toInt - lo).toNat]? = some off) (ht : (pc : Int) + off = (tgt : Int)) (kk : V E X R own cc nL ret k n Q B N tgt lv st h) : V E X R own cc nL ret k n Q B N pc lv (.int x :: st) h := fun ok H locs ls hr hS hl => lv_tableIn ok.1 ok.2.1 hd h1 h2 ho ht (kk ok H locs ls hr hS hl)
theorem v_lookup {dflt : Int} {ps : Array (Int × Int)} {len : Nat} {x : Int32} {off : Int} {tgt : Nat} (hd : decode cc pc = .ok (.lookupswitch dflt ps, len)) (hp : (ps.toList.zip (ps.toList.drop 1)).all (fun (a, next) => a.1 < next.1) = true) (ho : Op.lookupswitch.offset ps.toList dflt x.toInt = off) (ht : (pc : Int) + off = (tgt : Int)) (kk : V E X R own cc nL ret k n Q B N tgt lv st h) : V E X R own cc nL ret k n Q B N pc lv (.int x :: st) h := fun ok H locs ls hr hS hl => lv_lookup ok.1 ok.2.1 hd hp ho ht (kk ok H locs ls hr hS hl)
theorem rr1 {o : Nat} {H : Heap} (hr : Rr E B N h H) (ho : o < N) {e : va_E} (he : h o = e) : va_P E.2.1 vwCl [(Ez E + o, e)] H := fun i q hq => by
  have hz : i < 1 := (List.getElem?_eq_some_iff.mp hq).1
  rw [show i = 0 by omega] at hq
  cases hq
  rw [← he]
  exact hr.2 o ho
theorem rr2 {o o2 : Nat} {H : Heap} (hr : Rr E B N h H) (ho : o < N) (ho2 : o2 < N) {e e2 : va_E} (he : h o = e) (he2 : h o2 = e2) : va_P E.2.1 vwCl [(Ez E + o, e), (Ez E + o2, e2)] H := fun i q hq => by
  match i, hq with
  | 0, hq => cases hq; rw [← he]; exact hr.2 o ho
  | 1, hq => cases hq; rw [← he2]; exact hr.2 o2 ho2
  | i + 2, hq => cases hq
theorem dd1 {o : Nat} {e : va_E} : va_D (zA E) [(Ez E + o, e)] := ⟨fun i j p q h1 h2 _ => by
  have hi : i < 1 := (List.getElem?_eq_some_iff.mp h1).1
  have hj : j < 1 := (List.getElem?_eq_some_iff.mp h2).1
  omega, fun i q hq => by
  have hz : i < 1 := (List.getElem?_eq_some_iff.mp hq).1
  rw [show i = 0 by omega] at hq
  cases hq
  exact Nat.le_add_right _ _⟩
theorem ddN : va_D (zA E) ((List.range N).map (fun o => (Ez E + o, h o))) := by
  refine ⟨fun i j p q h1 h2 hpq => ?_, fun i q hq => ?_⟩
  · rw [List.getElem?_map] at h1 h2
    by_cases hi : i < N
    · by_cases hj : j < N
      · rw [List.getElem?_range hi] at h1
        rw [List.getElem?_range hj] at h2
        cases h1; cases h2
        have e : Ez E + i = Ez E + j := hpq
        omega
      · rw [List.getElem?_eq_none (by simpa using hj)] at h2; cases h2
    · rw [List.getElem?_eq_none (by simpa using hi)] at h1; cases h1
  · rw [List.getElem?_map] at hq
    by_cases hi : i < N
    · rw [List.getElem?_range hi] at hq
      cases hq
      exact Nat.le_add_right _ _
    · rw [List.getElem?_eq_none (by simpa using hi)] at hq; cases hq
theorem rrN {H : Heap} (hr : Rr E B N h H) : va_P E.2.1 vwCl ((List.range N).map (fun o => (Ez E + o, h o))) H := fun i q hq => by
  rw [List.getElem?_map] at hq
  by_cases hi : i < N
  · rw [List.getElem?_range hi] at hq
    cases hq
    exact hr.2 i hi
  · rw [List.getElem?_eq_none (by simpa using hi)] at hq; cases hq
theorem atN {o : Nat} {e : va_E} (ho : o < N) (he : h o = e) : ((List.range N).map (fun o => (Ez E + o, h o)))[o]? = some (Ez E + o, e) := by
  rw [List.getElem?_map, List.getElem?_range ho]
  show some (Ez E + o, h o) = _
  rw [he]
/-- one cell is written -/
theorem rr_up {o : Nat} {H H1 : Heap} (hr : Rr E B N h H) (ho : o < N) {e : va_E} (hz : H1.size = H.size) (hk : ∀ q : Nat, q ≠ Ez E + o → H1[q]? = H[q]?) (hP : va_at E.2.1 vwCl (Ez E + o, e) H1) (hu : ∀ o', o' < N → h' o' = va_up h o e o') : Rr E B N h' H1 := by
  refine ⟨by rw [hz]; exact hr.1, fun o' ho' => ?_⟩
  rw [hu o' ho']
  by_cases he : o' = o
  · subst he; rw [va_up_self]; exact hP
  · rw [va_up_ne _ _ he]
    exact (hr.2 o' ho').kept (hk _ (by show ¬ Ez E + o' = Ez E + o; omega))
theorem v_get {o ci index M : Nat} {fs : List Value} {C : String} {T : u_T} {v : Value} (hin : ∀ w ∈ u_ws C T M, w ∈ TB) (hcl : vwCl[ci]? = some (C, T, M)) (j : Nat) (hj : j < M) (hw : Cond.fieldLink own index (T j).1 (T j).2.1 (T j).2.2.1 ∈ TB) (hc : h o = .inr (ci, fs)) (ho : o < N) (hv : fs[j]? = some v) (hd : decode cc pc = .ok (.getfield index, 3))
    (kk : V E X R own cc nL ret k n Q B N (pc + 3) lv (v :: st) h) : V E X R own cc nL ret k n Q B N pc lv (.ref (Ez E + o) :: st) h := fun ok H locs ls hr hS hl =>
  va_get ok.1 ok.2.1 ok.2.2.2.2.1 hin ok.2.2.2.1 ok.2.2.2.2.2.1.1 (rr1 hr ho hc) 0 rfl hcl j hj (ok.2.2.2.2.1 _ hw) (fun _ h9 => h9) hv hd (kk ok H locs ls hr hS hl)
theorem v_put {o ci index M : Nat} {fs : List Value} {C : String} {T : u_T} {v : Value} {ty : FieldType} (hin : ∀ w ∈ u_ws C T M, w ∈ TB) (ty0 : Nat → FieldType) (hty : ∀ k, k < M → parseFieldDescriptor (T k).2.2.1 = some (ty0 k)) (hnm : ∀ a, a < M → ∀ b, b < M → a ≠ b → (T a).2.1 ≠ (T b).2.1) (hcl : vwCl[ci]? = some (C, T, M)) (j : Nat) (hj : j < M) (hw : Cond.fieldLink own index (T j).1 (T j).2.1 (T j).2.2.1 ∈ TB) (hfin : (T j).2.2.2 = false) (htd : parseFieldDescriptor (T j).2.2.1 = some ty) (hc : h o = .inr (ci, fs)) (ho : o < N) (hn2 : narrow ty v = v) (hfit : fits ty v = true) (hl2 : j < fs.length) (hd : decode cc pc = .ok (.putfield index, 3))
    (hu : ∀ o', o' < N → h' o' = va_up h o (.inr (ci, fs.set j v)) o') (kk : V E X R own cc nL ret k n Q B N (pc + 3) lv st h') : V E X R own cc nL ret k n Q B N pc lv (v :: .ref (Ez E + o) :: st) h := by
  intro ok H locs ls hr hS hl
  have hK := ok.2.2.2.2.2.1.1
  have hts := ok.2.2.2.2.1
  have hap := va_apart (own := own) (cl := vwCl) hts hin ty0 hty hnm hK hcl
  have hat := hr.2 o ho
  rw [hc] at hat
  obtain ⟨r, h1, cell, q1, q2, q3, q4⟩ := hat
  have hrr : r = (C, T, M) := Option.some.inj (h1.symm.trans hcl)
  subst hrr
  obtain ⟨hSl, hfc, kC, hkC, hkind⟩ := hK.1 ci _ hcl
  obtain ⟨cf, kf, fi, f, hi, hsl⟩ := hSl j hj
  have hlay := hts _ (hin _ (u_in_lay hj))
  unfold u_lay at hlay
  rw [if_neg (by rw [hfin]; decide)] at hlay
  have hst := (u_facts hfc hkC (u_lays hts hin hj) hi).1
  have h6 := u_store hfc hkC hkind hlay hi htd hn2 hfit
  refine W.putK ok.1 ok.2.1 (f := f) ⟨ok.2.2.2.1, hts _ hw, ⟨_, _, _, hi⟩, hst⟩ (by rw [q2]; exact h6) q1 q3 (by rw [hsl]; exact k2_hasslot (q4 j hj)) rfl rfl hd fun H' e1 e2 e3 => ?_
  rw [hsl] at e1 ⊢
  exact kk ok H' _ ls (rr_up (e := .inr (ci, fs.set j v)) hr ho e2 e3 ⟨_, hcl, t_OB.to (V := updV (vp_V fs) j v) ⟨_, e1, q2, q3, t_set q4 hap hj v⟩ (fun j' _ => vp_updV_set hl2 v j')⟩ hu) (hS.put e2 e3 (Nat.le_add_right _ _)) hl
theorem v_putF {o ci index M : Nat} {fs : List Value} {C : String} {T : u_T} {v : Value} {ty : FieldType} (hin : ∀ w ∈ u_ws C T M, w ∈ TB) (ty0 : Nat → FieldType) (hty : ∀ k, k < M → parseFieldDescriptor (T k).2.2.1 = some (ty0 k)) (hnm : ∀ a, a < M → ∀ b, b < M → a ≠ b → (T a).2.1 ≠ (T b).2.1) (hcl : vwCl[ci]? = some (C, T, M)) (j : Nat) (hj : j < M) (hw : Cond.fieldLink own index (T j).1 (T j).2.1 (T j).2.2.1 ∈ TB) (hfin : (T j).2.2.2 = true) (hin2 : X.2.2.2.2.2.2.1.name = "<init>") (hdecl : (T j).1 = own) (htd : parseFieldDescriptor (T j).2.2.1 = some ty) (hc : h o = .inr (ci, fs)) (ho : o < N) (hn2 : narrow ty v = v) (hfit : fits ty v = true) (hl2 : j < fs.length) (hd : decode cc pc = .ok (.putfield index, 3))
    (hu : ∀ o', o' < N → h' o' = va_up h o (.inr (ci, fs.set j v)) o') (kk : V E X R own cc nL ret k n Q B N (pc + 3) lv st h') : V E X R own cc nL ret k n Q B N pc lv (v :: .ref (Ez E + o) :: st) h := by
  intro ok H locs ls hr hS hl
  have hK := ok.2.2.2.2.2.1.1
  have hts := ok.2.2.2.2.1
  have hap := va_apart (own := own) (cl := vwCl) hts hin ty0 hty hnm hK hcl
  have hat := hr.2 o ho
  rw [hc] at hat
  obtain ⟨r, h1, cell, q1, q2, q3, q4⟩ := hat
  have hrr : r = (C, T, M) := Option.some.inj (h1.symm.trans hcl)
  subst hrr
  obtain ⟨hSl, hfc, kC, hkC, hkind⟩ := hK.1 ci _ hcl
  obtain ⟨cf, kf, fi, f, hi, hsl⟩ := hSl j hj
  have hlay := hts _ (hin _ (u_in_lay hj))
  unfold u_lay at hlay
  rw [if_pos hfin] at hlay
  have hst := (u_facts hfc hkC (u_lays hts hin hj) hi).1
  have hcf : X.2.2.2.1.cls = cf := by
    obtain ⟨_, _, c', _, _, _, -, -, hf', -, -, -, hown2, -⟩ := Cond.laysFinal_spec hlay
    have e1 : c' = cf := by have := hi.symm.trans hf'; simp at this; exact this.1.symm
    rw [hdecl] at hown2
    rw [← e1]; exact Option.some.inj (ok.2.2.2.1.symm.trans hown2)
  have h6 := u_fits hfc hkC hkind (Or.inr hlay) hi htd hn2 hfit
  refine W.putFinK ok.1 ok.2.1 ok.2.2.2.1 (hts _ hw) hi hst hcf hin2 (by rw [q2]; exact h6) q1 q3 (by rw [hsl]; exact k2_hasslot (q4 j hj)) rfl rfl hd fun H' e1 e2 e3 => ?_
  rw [hsl] at e1 ⊢
  exact kk ok H' _ ls (rr_up (e := .inr (ci, fs.set j v)) hr ho e2 e3 ⟨_, hcl, t_OB.to (V := updV (vp_V fs) j v) ⟨_, e1, q2, q3, t_set q4 hap hj v⟩ (fun j' _ => vp_updV_set hl2 v j')⟩ hu) (hS.put e2 e3 (Nat.le_add_right _ _)) hl
theorem v_iald {o len : Nat} {f : Nat → Int32} {i : Int32} (hc : h o = .inl (EI E, len, .inl f)) (ho : o < N) (hin : vp_in i len) (hd : decode cc pc = .ok (.iaload, 1)) (kk : V E X R own cc nL ret k n Q B N (pc + 1) lv (.int (f i.toNatClampNeg) :: st) h) : V E X R own cc nL ret k n Q B N pc lv (.int i :: .ref (Ez E + o) :: st) h := fun ok H locs ls hr hS hl =>
  va_iald ok.1 ok.2.1 ok.2.2.2.2.2.1.1 (rr1 hr ho hc) 0 0 rfl rfl hin hd (kk ok H locs ls hr hS hl)
theorem v_zald {o len : Nat} {f : Nat → Int32} {i : Int32} (hc : h o = .inl (EZ E, len, .inl f)) (ho : o < N) (hin : vp_in i len) (hd : decode cc pc = .ok (.baload, 1)) (kk : V E X R own cc nL ret k n Q B N (pc + 1) lv (.int (f i.toNatClampNeg) :: st) h) : V E X R own cc nL ret k n Q B N pc lv (.int i :: .ref (Ez E + o) :: st) h := fun ok H locs ls hr hS hl =>
  va_zald ok.1 ok.2.1 ok.2.2.2.2.2.1.1 (rr1 hr ho hc) 0 1 rfl rfl hin hd (kk ok H locs ls hr hS hl)
theorem v_iast {o len : Nat} {f : Nat → Int32} {i x : Int32} (hc : h o = .inl (EI E, len, .inl f)) (ho : o < N) (hin : vp_in i len) (hd : decode cc pc = .ok (.iastore, 1)) (hu : ∀ o', o' < N → h' o' = va_up h o (.inl (EI E, len, .inl (upd f i.toNatClampNeg x))) o') (kk : V E X R own cc nL ret k n Q B N (pc + 1) lv st h') : V E X R own cc nL ret k n Q B N pc lv (.int x :: .int i :: .ref (Ez E + o) :: st) h := by
  intro ok H locs ls hr hS hl
  have hat := hr.2 o ho
  rw [hc] at hat
  refine W.iast ok.1 ok.2.1 hat ((ok.2.2.2.2.2.1.1.2 0 _ rfl).1 len (fun j => .int (f j))) (fun q => by cases q) (by show ¬ (i < 0 ∨ (arrV _ _ _).slots.size ≤ _); rw [arrV_size]; exact hin) rfl rfl hd fun H1 e z oq => ?_
  refine kk ok H1 _ ls (rr_up hr ho z oq ?_ hu) (hS.put z oq (Nat.le_add_right _ _)) hl
  show H1[_]? = some (vp_cell _ _)
  rw [e, vp_cell_i, vp_cell_i, arrV_store]
  congr 2
  funext q
  by_cases hq : q = i.toNatClampNeg
  · subst hq
    simp [updV, upd, vp_nar]
    try rfl
  · simp [updV, upd, hq]
theorem v_zast {o len : Nat} {f : Nat → Int32} {i x : Int32} (hc : h o = .inl (EZ E, len, .inl f)) (ho : o < N) (hin : vp_in i len) (hd : decode cc pc = .ok (.bastore, 1)) (hu : ∀ o', o' < N → h' o' = va_up h o (.inl (EZ E, len, .inl (upd f i.toNatClampNeg (vp_nar .boolean x)))) o') (kk : V E X R own cc nL ret k n Q B N (pc + 1) lv st h') : V E X R own cc nL ret k n Q B N pc lv (.int x :: .int i :: .ref (Ez E + o) :: st) h := by
  intro ok H locs ls hr hS hl
  have hat := hr.2 o ho
  rw [hc] at hat
  refine W.zast ok.1 ok.2.1 hat ((ok.2.2.2.2.2.1.1.2 1 _ rfl).1 len (fun j => .int (f j))) (fun q => by cases q) (by show ¬ (i < 0 ∨ (arrV _ _ _).slots.size ≤ _); rw [arrV_size]; exact hin) rfl rfl hd fun H1 e z oq => ?_
  refine kk ok H1 _ ls (rr_up hr ho z oq ?_ hu) (hS.put z oq (Nat.le_add_right _ _)) hl
  show H1[_]? = some (vp_cell _ _)
  rw [e, vp_cell_i, vp_cell_i, arrV_store]
  congr 2
  funext q
  by_cases hq : q = i.toNatClampNeg
  · subst hq
    simp [updV, upd, vp_nar]
    try rfl
  · simp [updV, upd, hq]
theorem v_alen {o : Nat} {cA : ClassId} {x : vp_A} {ty : FieldType} (t0 : Nat) (v : Int32) (hc : h o = .inl (cA, x)) (ho : o < N) (ht : (tyE E)[t0]? = some (cA, ty)) (hv : Int32.ofNat x.1 = v) (hd : decode cc pc = .ok (.arraylength, 1)) (kk : V E X R own cc nL ret k n Q B N (pc + 1) lv (.int v :: st) h) : V E X R own cc nL ret k n Q B N pc lv (.ref (Ez E + o) :: st) h := fun ok H locs ls hr hS hl =>
  va_alen ok.1 ok.2.1 ok.2.2.2.2.2.1.1 (rr1 hr ho hc) 0 t0 rfl ht hv hd (kk ok H locs ls hr hS hl)
theorem v_aald {o len : Nat} {f : Nat → Option Nat} {i : Int32} {v : Value} (hc : h o = .inl (EF E, len, .inr (.inr (.inr (.inr f))))) (ho : o < N) (hin : vp_in i len) (hv : va_rf (f i.toNatClampNeg) = v) (hd : decode cc pc = .ok (.aaload, 1)) (kk : V E X R own cc nL ret k n Q B N (pc + 1) lv (v :: st) h) : V E X R own cc nL ret k n Q B N pc lv (.int i :: .ref (Ez E + o) :: st) h := fun ok H locs ls hr hS hl =>
  va_aldq ok.1 ok.2.1 ok.2.2.2.2.2.1.1 (rr1 hr ho hc) 0 2 rfl rfl hin hd (by rw [hv]; exact kk ok H locs ls hr hS hl)
theorem v_aast {o ov len : Nat} {fs : List Value} {f : Nat → Option Nat} {i : Int32} (hc : h o = .inl (EF E, len, .inr (.inr (.inr (.inr f))))) (ho : o < N) (hcv : h ov = .inr (0, fs)) (hov : ov < N) (hin : vp_in i len) (hd : decode cc pc = .ok (.aastore, 1)) (hu : ∀ o', o' < N → h' o' = va_up h o (.inl (EF E, len, .inr (.inr (.inr (.inr (va_up f i.toNatClampNeg (some (Ez E + ov)))))))) o') (kk : V E X R own cc nL ret k n Q B N (pc + 1) lv st h') : V E X R own cc nL ret k n Q B N pc lv (.ref (Ez E + ov) :: .int i :: .ref (Ez E + o) :: st) h := by
  intro ok H locs ls hr hS hl
  have hat := hr.2 o ho
  rw [hc] at hat
  have hav := hr.2 ov hov
  rw [hcv] at hav
  have hK := ok.2.2.2.2.2.1.1
  have hlt : i.toNatClampNeg < len := Nat.not_le.mp fun q => hin (Or.inr q)
  have h0 : ¬ i < 0 := fun q => hin (Or.inl q)
  obtain ⟨r', hr', cellV, g1, g2, g3, -⟩ := hav
  have hcls := (hK.1 0 _ rfl).2
  obtain ⟨kA, comp, k1, k2, k3, -⟩ := (hK.2 2 _ rfl).2
  have hcomp : comp = E.2.1.1 0 := Option.some.inj (k3.symm.trans hcls.1)
  subst hcomp
  obtain ⟨kC, hkC, -⟩ := id hcls.2
  refine W.aast ok.1 ok.2.1 hat (fun q h => by cases h) (fun h => by cases h) k1 k2 rfl hkC ⟨h0, by show _ < (arrV _ _ _).slots.size; rw [arrV_size]; exact hlt⟩ g1 (fun q h => by rw [g3] at h; cases h) (by rw [g2]; exact hkC) (by rw [g2]; exact va_assign hcls) rfl rfl hd fun H1 e z oq => ?_
  refine kk ok H1 _ ls (rr_up hr ho z oq ?_ hu) (hS.put z oq (Nat.le_add_right _ _)) hl
  show H1[_]? = some (vp_cell _ _)
  rw [e, vp_cell_q, vp_cell_q, arrV_store]
  congr 2
  funext q
  by_cases hq : q = i.toNatClampNeg
  · subst hq
    simp [updV, va_up, va_rf]
  · simp [updV, va_up, hq]
/-- a new cell comes behind the last one -/
theorem rr_new {H H1 : Heap} {e : va_E} (hr : Rr E true N h H) (hz : H1.size = H.size + 1) (hk : ∀ q : Nat, q < H.size → H1[q]? = H[q]?) (hP : va_at E.2.1 vwCl (Ez E + N, e) H1) (hu : ∀ o', o' < N + 1 → h' o' = va_up h N e o') : Rr E true (N + 1) h' H1 := by
  have hs := hr.1.2 rfl
  refine ⟨⟨by omega, fun _ => by omega⟩, fun o' ho' => ?_⟩
  rw [hu o' ho']
  by_cases he : o' = N
  · subst he; rw [va_up_self]; exact hP
  · rw [va_up_ne _ _ he]
    exact (hr.2 o' (by omega)).kept (hk _ (by show Ez E + o' < H.size; omega))
theorem va_S.more {H0 H H1 : Heap} {locs : List Loc} {A : Nat → Prop} (hS : va_S A H0 H locs) (hz : H1.size = H.size + 1) (hk : ∀ q : Nat, q < H.size → H1[q]? = H[q]?) : va_S A H0 H1 locs := ⟨Nat.le_trans hS.1 (by omega), fun x h1 h2 => (hk x (Nat.lt_of_lt_of_le h1 hS.1)).trans (hS.2.1 x h1 h2), hS.2.2⟩
theorem v_newa {atype : ArrayType} {ty : FieldType} {cA : ClassId} {a0 : vp_A} {x : Int32} {M : Nat} (t0 : Nat) (hw : Cond.arrayClass ty ∈ TB) (hty : newarray.typeOf atype = ty) (ht : (tyE E)[t0]? = some (cA, ty)) (hra : ∀ (U : State) (c1 : ClassId), va_RA U c1 ty → U.vm.findClass ("[" ++ ty.toString) = some c1) (ha : ∀ c : ClassId, vp_cell c a0 = arrV c M (fun _ => defaultValue ty)) (hn : ¬ x < 0) (hM : x.toNatClampNeg = M) (hb : M * componentBytes ty ≤ 536870912) (hcells : k + 1 ≤ R.cells) (hslots : n + M ≤ R.slots) (hd : decode cc pc = .ok (.newarray atype, 2)) (hu : ∀ o', o' < N + 1 → h' o' = va_up h N (.inl (cA, a0)) o')
    (kk : V E X R own cc nL ret (k + 1) (n + M) Q true (N + 1) (pc + 2) lv (.ref (Ez E + N) :: st) h') : V E X R own cc nL ret k n Q true N pc lv (.int x :: st) h := by
  intro ok H locs ls hr hS hl
  subst hty
  have hs := hr.1.2 rfl
  refine va_newaK ok.1 ok.2.1 (ok.2.2.2.2.1 _ hw) rfl hd rfl hn hM hb hcells hslots hs fun H1 c1 e1 z1 o1 hAr hNm => ?_
  have hc1 : c1 = cA := Option.some.inj (hNm.symm.trans (hra _ _ (ok.2.2.2.2.2.1.1.2 t0 _ ht).2))
  subst hc1
  exact kk ok H1 locs ls (rr_new hr (by omega) (fun q hq => o1 q (by omega)) (by show H1[_]? = some (vp_cell _ _); rw [ha]; exact e1) hu) (hS.more (by omega) (fun q hq => o1 q (by omega))) hl
theorem v_newq {index : Nat} {x : Int32} {M : Nat} (hcl : Cond.classLink own index "SparrowChange$Flock" ∈ TB) (hn : ¬ x < 0) (hM : x.toNatClampNeg = M) (hb : M * 4 ≤ 536870912) (hcells : k + 1 ≤ R.cells) (hslots : n + M ≤ R.slots) (hd : decode cc pc = .ok (.anewarray index, 3)) (hu : ∀ o', o' < N + 1 → h' o' = va_up h N (.inl (EF E, M, .inr (.inr (.inr (.inr (fun _ => none)))))) o')
    (kk : V E X R own cc nL ret (k + 1) (n + M) Q true (N + 1) (pc + 3) lv (.ref (Ez E + N) :: st) h') : V E X R own cc nL ret k n Q true N pc lv (.int x :: st) h := by
  intro ok H locs ls hr hS hl
  subst hM
  have hs := hr.1.2 rfl
  refine W.anew ok.1 ok.2.1 ok.2.2.2.1 (ok.2.2.2.2.1 _ hcl) (va_AO.use ok.2.2.2.2.2.1.2.2) rfl hd rfl hn hb hcells hslots fun cA kA comp f1 f2 f3 f4 => ?_
  obtain ⟨kA', comp', -, -, -, k4⟩ := (ok.2.2.2.2.2.1.1.2 2 _ rfl).2
  have hc1 : cA = EF E := Option.some.inj (f1.symm.trans k4)
  subst hc1
  rw [hs]
  refine kk ok _ locs ls (rr_new hr (by simp) (fun q hq => by rw [Array.getElem?_push, if_neg (Nat.ne_of_lt hq)]) ?_ hu) (hS.more (by simp) (fun q hq => by rw [Array.getElem?_push, if_neg (Nat.ne_of_lt hq)])) hl
  show (H.push _)[_]? = some (vp_cell _ _)
  rw [vp_cell_q, ← hs, Array.getElem?_push_size, ← arrV_new]
  rfl
theorem v_new {ci index M : Nat} {C : String} {T : u_T} {fs : List Value} (hin : ∀ w ∈ u_ws C T M, w ∈ TB) (ty : Nat → FieldType) (hty : ∀ k, k < M → parseFieldDescriptor (T k).2.2.1 = some (ty k)) (hc : vwCl[ci]? = some (C, T, M)) (hcl : Cond.classLink own index C ∈ TB) (hinst : Cond.instantiable C M ∈ TB) (hini : Cond.initialized C ∈ TB) (hfs : ∀ j, j < M → defaultValue (ty j) = vp_V fs j) (hcells : k + 1 ≤ R.cells) (hslots : n + M ≤ R.slots) (hd : decode cc pc = .ok (.new index, 3)) (hu : ∀ o', o' < N + 1 → h' o' = va_up h N (.inr (ci, fs)) o')
    (kk : V E X R own cc nL ret (k + 1) (n + M) Q true (N + 1) (pc + 3) lv (.ref (Ez E + N) :: st) h') : V E X R own cc nL ret k n Q true N pc lv st h := by
  intro ok H locs ls hr hS hl
  have hs := hr.1.2 rfl
  have hts := ok.2.2.2.2.1
  have hKn := ok.2.2.2.2.2.1.1.1 ci _ hc
  refine W.newcK ok.1 ok.2.1 ok.2.2.2.1 (hts _ hcl) (hts _ hinst) (hts _ hini) rfl hd hcells hslots hKn.2.1 hs fun H1 kC hkC e1 z1 o1 => ?_
  exact kk ok H1 locs ls (rr_new (e := .inr (ci, fs)) hr (by omega) (fun q hq => o1 q (by omega)) ⟨_, hc, (u_born ty hts hin hKn hkC e1 hty).to hfs⟩ hu) (hS.more (by omega) (fun q hq => o1 q (by omega))) hl
theorem v_iret {post : Option Value → Hp → Prop} {v : Int32} (hd : decode cc pc = .ok (.ireturn, 1)) (hp : post (some (.int v)) h) : V E X R own cc nL (some .int) k n (QX E X B N post k n) B N pc lv [.int v] h := fun ok H locs ls hr hS hl =>
  W.iret ok.1 ok.2.1 ok.2.2.2.2.2.2.1 (fun t ht hW => ⟨⟨_, h, rfl, hp, by rw [ht]; exact hr⟩, hS.F ht⟩) hS.2.2 hd ok.2.2.2.2.2.2.2.1
theorem v_zret {post : Option Value → Hp → Prop} {v : Int32} (hd : decode cc pc = .ok (.ireturn, 1)) (hn : narrow .boolean (.int v) = .int v) (hp : post (some (.int v)) h) : V E X R own cc nL (some .boolean) k n (QX E X B N post k n) B N pc lv [.int v] h := fun ok H locs ls hr hS hl =>
  W.zret ok.1 ok.2.1 ok.2.2.2.2.2.2.1 hn (fun t ht hW => ⟨⟨_, h, rfl, hp, by rw [ht]; exact hr⟩, hS.F ht⟩) hS.2.2 hd ok.2.2.2.2.2.2.2.1
theorem v_vret {post : Option Value → Hp → Prop} (hd : decode cc pc = .ok (.return_, 1)) (hp : post none h) : V E X R own cc nL none k n (QX E X B N post k n) B N pc lv [] h := fun ok H locs ls hr hS hl =>
  W.vret ok.1 ok.2.1 ok.2.2.2.2.2.2.1 (fun t ht hW => ⟨⟨_, h, rfl, hp, by rw [ht]; exact hr⟩, hS.F ht⟩) hS.2.2 hd ok.2.2.2.2.2.2.2.1
theorem v_objInit {idx : Nat} {a : Nat} (hl : Cond.methodLink own idx objectInit ∈ TB) (hd : decode cc pc = .ok (.invokespecial idx, 3)) (hR : 1 ≤ R.frames) (hR2 : (st.map fun v => v.category).sum + 12 ≤ R.locals) (kk : V E X R own cc nL ret k n Q B N (pc + 3) lv st h) : V E X R own cc nL ret k n Q B N pc lv (.ref a :: st) h := by
  intro ok H locs ls hr hS hl2
  refine W.objInit ok.1 ok.2.1 ok.2.2.2.1 (ok.2.2.2.2.1 _ hl) (ok.2.2.2.2.1 _ im_Obj) (ok.2.2.2.2.1 _ co_Obj) rfl (by rw [ok.2.2.1]; exact hl2.1) rfl hd hR (by show 2 * 0 + _ + 12 ≤ _; omega) ?_
  exact W.eq (g2 := F0 X.2.2.2.1 (pc + 3) ls st) rfl (kk ok H locs ls hr hS hl2)
abbrev dscOk (y : MethodName) (nA : Nat) : Prop := y.cls ≠ "java/lang/invoke/MethodHandle" ∧ y.cls ≠ "java/lang/invoke/VarHandle" ∧ (parseMethodDescriptor y.desc).map (fun d => d.parameters.length) = some nA
def LkV (own : String) (index : Nat) (y : MethodName) (C : String) (c1 : ByteArray) (m1 : Nat) (r1 : Option FieldType) (nA : Nat) : Prop := Cond.methodLink own index y ∈ TB ∧ Cond.instanceMethod y ∈ TB ∧ Cond.selects C y y ∈ TB ∧ Cond.initialized y.cls ∈ TB ∧ Cond.code y c1 m1 r1 ∈ TB ∧ dscOk y nA
def LkS (own : String) (index : Nat) (y : MethodName) (c1 : ByteArray) (m1 : Nat) (r1 : Option FieldType) (nA : Nat) : Prop := Cond.methodLink own index y ∈ TB ∧ Cond.static y ∈ TB ∧ Cond.initialized y.cls ∈ TB ∧ Cond.code y c1 m1 r1 ∈ TB ∧ dscOk y nA
def LkSN (own : String) (index : Nat) (y : MethodName) (host : String) (c1 : ByteArray) (m1 : Nat) (r1 : Option FieldType) (nA : Nat) : Prop := (own, index, y, host) ∈ nestW ∧ Cond.static y ∈ TB ∧ Cond.initialized y.cls ∈ TB ∧ Cond.code y c1 m1 r1 ∈ TB ∧ dscOk y nA
def LkI (own : String) (index : Nat) (y : MethodName) (c1 : ByteArray) (m1 : Nat) (nA : Nat) : Prop := Cond.methodLink own index y ∈ TB ∧ y.name = "<init>" ∧ Cond.instanceMethod y ∈ TB ∧ Cond.initialized y.cls ∈ TB ∧ Cond.code y c1 m1 none ∈ TB ∧ dscOk y nA
def LkIN (own : String) (index : Nat) (y : MethodName) (host : String) (c1 : ByteArray) (m1 : Nat) (nA : Nat) : Prop := (own, index, y, host) ∈ nestW ∧ y.name = "<init>" ∧ Cond.instanceMethod y ∈ TB ∧ Cond.initialized y.cls ∈ TB ∧ Cond.code y c1 m1 none ∈ TB ∧ dscOk y nA
/-- the room that a call needs -/
abbrev Rm (rm R : Room) (m1 : Nat) : Prop := rm.frames + 1 ≤ R.frames ∧ 8 + (m1 + 11) + rm.locals ≤ R.locals
theorem v_run {N' mc ms : Nat} {post : Option Value → Hp → Prop} {rest st0 : List Value} {a : Array Value}
    (hr : okX E X own cc nL ret → ∀ (H : Heap) (locs : List Loc) (ls : Array Slot), Rr E B N h H → va_S (zA E) X.2.2.1.heap H locs → lv_has ls nL lv → va_Run X.1 E.1 X.2.1 R X.2.2.1 X.2.2.2.1 X.2.2.2.2.1 X.2.2.2.2.2.1 X.2.2.2.2.2.2.1 X.2.2.2.2.2.2.2 H locs k n mc ms (F0 X.2.2.2.1 pc ls st0) rest (Qx E B N' post a) (zA E))
    (kk : ∀ (r : Option Value) (h' : Hp), post r h' → V E X R own cc nL ret (k + mc) (n + ms) Q B N' (pc + 3) lv (r.toList ++ rest) h') : V E X R own cc nL ret k n Q B N pc lv st0 h := by
  intro ok H locs ls hR hS hl T hT X0
  obtain ⟨v, st₀, t, T', L, h0, X', hL, e1, e2, ⟨⟨r, h', hv, hp, hb⟩, hz, hk⟩, stp⟩ := hr ok H locs ls hR hS hl T hT X0
  cases hv
  rw [h0] at hz hk
  obtain ⟨t2, a1, b1⟩ := kk v h' hp ok T'.heap (locs ++ L) ls (by rw [e1]; exact hb)
    ⟨Nat.le_trans hS.1 (by rw [e1]; exact hz), fun q h1 h2 => by rw [e1, hk q (Nat.lt_of_lt_of_le h1 hS.1) h2]; exact hS.2.1 q h1 h2, fun q hq => by
      rcases List.mem_append.mp hq with h | h
      · exact hS.2.2 q h
      · exact hL q h⟩ hl T' rfl X'
  exact ⟨t2, stp t2 a1, b1⟩
theorem pcx {av : List Value} {H : Heap} (ok : okX E X own cc nL ret) (hR : Rr E B N h H) : FrameBlind (va_Pc av (fun U => Rr E B N h U.heap ∧ KK E U ∧ Ez E ≤ U.heap.size)) ∧ ∀ U : State, U.heap = H → X.2.2.1.WarmedH U.vm → va_Pc av (fun U => Rr E B N h U.heap ∧ KK E U ∧ Ez E ≤ U.heap.size) av.toArray U :=
  ⟨fun _ U g mk q => ⟨q.1, q.2.1, KK.same (s := U) rfl q.2.2.1, q.2.2.2⟩, fun U hU hW => ⟨rfl, by rw [hU]; exact hR, ok.2.2.2.2.2.1.warm hW, by rw [hU]; exact Nat.le_trans (Nat.le_add_right _ _) hR.1.1⟩⟩
theorem v_callV {y : MethodName} {C : String} {T : u_T} {c1 : ByteArray} {m1 nA : Nat} {r1 : Option FieldType} {rm : Room} {index o ci M : Nat} {fs : List Value} {N' mc ms : Nat} {post : Option Value → Hp → Prop} (As rest : List Value) (lk : LkV own index y C c1 m1 r1 nA) (hc : h o = .inr (ci, fs)) (hcl : vwCl[ci]? = some (C, T, M)) (ho : o < N) (ct : Ct E y c1 m1 r1 rm B N (.ref (Ez E + o) :: As) h N' mc ms post) (hrm : rm.cells = mc ∧ rm.slots = ms ∧ Rm rm R m1) (hn : As.length = nA) (hst : st = As.reverse ++ .ref (Ez E + o) :: rest) (hcat : (rest.map fun v => v.category).sum ≤ 8) (hf : k + mc ≤ R.cells ∧ n + ms ≤ R.slots) (hd : decode cc pc = .ok (.invokevirtual index, 3))
    (kk : ∀ (r : Option Value) (h' : Hp), post r h' → V E X R own cc nL ret (k + mc) (n + ms) Q B N' (pc + 3) lv (r.toList ++ rest) h') : V E X R own cc nL ret k n Q B N pc lv st h := by
  subst hst
  refine v_run (a := (Value.ref (Ez E + o) :: As).toArray) (fun ok H locs ls hR hS hl => ?_) kk
  have hts := ok.2.2.2.2.1
  obtain ⟨l1, l2, l3, l4, l5, l6⟩ := lk
  exact va_runV (Ts := TB) (n := nA) (bytes := c1) (maxL := m1) (ret := r1) (C := C) ⟨ok.1, ok.2.1, ok.2.2.1, ok.2.2.2.1, hts⟩ ct ⟨callB_of nA hts (TB_goodB l5) rfl hrm.1 hrm.2.1 (hts _ l4) (hts _ l1) l6 hrm.2.2, hts _ l2, hts _ l3⟩ ⟨(pcx ok hR).1, va_recv (q0 := 0) ok.2.2.2.2.2.1.1 (rr1 hR ho hc) hcl rfl, (pcx ok hR).2⟩ rfl hn hl.1 rfl (lv_room hcat) hd hf
theorem v_callS {y : MethodName} {c1 : ByteArray} {m1 nA : Nat} {r1 : Option FieldType} {rm : Room} {index : Nat} {N' mc ms : Nat} {post : Option Value → Hp → Prop} (As rest : List Value) (lk : LkS own index y c1 m1 r1 nA) (ct : Ct E y c1 m1 r1 rm B N As h N' mc ms post) (hrm : rm.cells = mc ∧ rm.slots = ms ∧ Rm rm R m1) (hn : As.length = nA) (hst : st = As.reverse ++ rest) (hcat : (rest.map fun v => v.category).sum ≤ 8) (hf : k + mc ≤ R.cells ∧ n + ms ≤ R.slots) (hd : decode cc pc = .ok (.invokestatic index, 3))
    (kk : ∀ (r : Option Value) (h' : Hp), post r h' → V E X R own cc nL ret (k + mc) (n + ms) Q B N' (pc + 3) lv (r.toList ++ rest) h') : V E X R own cc nL ret k n Q B N pc lv st h := by
  subst hst
  refine v_run (a := As.toArray) (fun ok H locs ls hR hS hl => ?_) kk
  have hts := ok.2.2.2.2.1
  obtain ⟨l1, l2, l4, l5, l6⟩ := lk
  exact va_runS (Ts := TB) (n := nA) (bytes := c1) (maxL := m1) (ret := r1) ⟨ok.1, ok.2.1, ok.2.2.1, ok.2.2.2.1, hts⟩ ct ⟨callB_of nA hts (TB_goodB l5) rfl hrm.1 hrm.2.1 (hts _ l4) (hts _ l1) l6 hrm.2.2, hts _ l2⟩ (pcx ok hR) rfl hn hl.1 rfl (lv_room hcat) hd hf
theorem v_callSN {y : MethodName} {c1 : ByteArray} {m1 nA : Nat} {r1 : Option FieldType} {rm : Room} {index : Nat} {host : String} {N' mc ms : Nat} {post : Option Value → Hp → Prop} (As rest : List Value) (lk : LkSN own index y host c1 m1 r1 nA) (ct : Ct E y c1 m1 r1 rm B N As h N' mc ms post) (hrm : rm.cells = mc ∧ rm.slots = ms ∧ Rm rm R m1) (hn : As.length = nA) (hst : st = As.reverse ++ rest) (hcat : (rest.map fun v => v.category).sum ≤ 8) (hf : k + mc ≤ R.cells ∧ n + ms ≤ R.slots) (hd : decode cc pc = .ok (.invokestatic index, 3))
    (kk : ∀ (r : Option Value) (h' : Hp), post r h' → V E X R own cc nL ret (k + mc) (n + ms) Q B N' (pc + 3) lv (r.toList ++ rest) h') : V E X R own cc nL ret k n Q B N pc lv st h := by
  subst hst
  refine v_run (a := As.toArray) (fun ok H locs ls hR hS hl => ?_) kk
  have hts := ok.2.2.2.2.1
  obtain ⟨l1, l2, l4, l5, l6⟩ := lk
  exact va_runSN (Ts := TB) (n := nA) (bytes := c1) (maxL := m1) (ret := r1) ⟨ok.1, ok.2.1, ok.2.2.1, ok.2.2.2.1, hts⟩ ct ⟨va_cnB nA hts (TB_goodB l5) rfl hrm.1 hrm.2.1 (ok.2.2.2.2.2.1.2.1 _ l1) (hts _ l4) l6 hrm.2.2, hts _ l2, trivial⟩ (pcx ok hR) rfl hn hl.1 rfl (lv_room hcat) hd hf
theorem v_callI {y : MethodName} {c1 : ByteArray} {m1 nA : Nat} {rm : Room} {index a : Nat} {N' mc ms : Nat} {post : Option Value → Hp → Prop} (As rest : List Value) (lk : LkI own index y c1 m1 nA) (ct : Ct E y c1 m1 none rm B N (.ref a :: As) h N' mc ms post) (hrm : rm.cells = mc ∧ rm.slots = ms ∧ Rm rm R m1) (hn : As.length = nA) (hst : st = As.reverse ++ .ref a :: rest) (hcat : (rest.map fun v => v.category).sum ≤ 8) (hf : k + mc ≤ R.cells ∧ n + ms ≤ R.slots) (hd : decode cc pc = .ok (.invokespecial index, 3))
    (kk : ∀ (r : Option Value) (h' : Hp), post r h' → V E X R own cc nL ret (k + mc) (n + ms) Q B N' (pc + 3) lv (r.toList ++ rest) h') : V E X R own cc nL ret k n Q B N pc lv st h := by
  subst hst
  refine v_run (a := (Value.ref a :: As).toArray) (fun ok H locs ls hR hS hl => ?_) kk
  have hts := ok.2.2.2.2.1
  obtain ⟨l1, l2, l3, l4, l5, l6⟩ := lk
  exact va_runI (Ts := TB) (n := nA) (bytes := c1) (maxL := m1) ⟨ok.1, ok.2.1, ok.2.2.1, ok.2.2.2.1, hts⟩ ct ⟨callB_of nA hts (TB_goodB l5) rfl hrm.1 hrm.2.1 (hts _ l4) (hts _ l1) l6 hrm.2.2, l2, hts _ l3⟩ (pcx ok hR) rfl hn hl.1 rfl (lv_room hcat) hd hf
theorem v_callIN {y : MethodName} {c1 : ByteArray} {m1 nA : Nat} {rm : Room} {index a : Nat} {host : String} {N' mc ms : Nat} {post : Option Value → Hp → Prop} (As rest : List Value) (lk : LkIN own index y host c1 m1 nA) (ct : Ct E y c1 m1 none rm B N (.ref a :: As) h N' mc ms post) (hrm : rm.cells = mc ∧ rm.slots = ms ∧ Rm rm R m1) (hn : As.length = nA) (hst : st = As.reverse ++ .ref a :: rest) (hcat : (rest.map fun v => v.category).sum ≤ 8) (hf : k + mc ≤ R.cells ∧ n + ms ≤ R.slots) (hd : decode cc pc = .ok (.invokespecial index, 3))
    (kk : ∀ (r : Option Value) (h' : Hp), post r h' → V E X R own cc nL ret (k + mc) (n + ms) Q B N' (pc + 3) lv (r.toList ++ rest) h') : V E X R own cc nL ret k n Q B N pc lv st h := by
  subst hst
  refine v_run (a := (Value.ref a :: As).toArray) (fun ok H locs ls hR hS hl => ?_) kk
  have hts := ok.2.2.2.2.1
  obtain ⟨l1, l2, l3, l4, l5, l6⟩ := lk
  exact va_runIN (Ts := TB) (n := nA) (bytes := c1) (maxL := m1) ⟨ok.1, ok.2.1, ok.2.2.1, ok.2.2.2.1, hts⟩ ct ⟨va_cnB nA hts (TB_goodB l5) rfl hrm.1 hrm.2.1 (ok.2.2.2.2.2.1.2.1 _ l1) (hts _ l4) l6 hrm.2.2, l2, hts _ l3⟩ (pcx ok hR) rfl hn hl.1 rfl (lv_room hcat) hd hf
theorem v_copy {index o0 o1 n0 n1 : Nat} {f g : Nat → Int32} {sp dp x : Int32} (hlink : Cond.methodLink own index arraycopyName ∈ TB) (hs : Cond.static arraycopyName ∈ TB) (hi : Cond.initialized "java/lang/System" ∈ TB) (hc0 : h o0 = .inl (EI E, n0, .inl f)) (hc1 : h o1 = .inl (EI E, n1, .inl g)) (ho0 : o0 < N) (ho1 : o1 < N) (hne : o0 ≠ o1) (h1 : ¬ sp < 0) (h2 : ¬ dp < 0) (h3 : ¬ x < 0) (h4 : sp.toNatClampNeg + x.toNatClampNeg ≤ n0) (h5 : dp.toNatClampNeg + x.toNatClampNeg ≤ n1) (hframes : 1 ≤ R.frames) (hlocals : (st.map fun v => v.category).sum + (nativeFrameWords "java/lang/System" "arraycopy" 5 + 11) ≤ R.locals) (hd : decode cc pc = .ok (.invokestatic index, 3))
    (hu : ∀ o', o' < N → h' o' = va_up h o1 (.inl (EI E, n1, .inl (va_cpy f g sp.toNatClampNeg dp.toNatClampNeg x.toNatClampNeg))) o')
    (kk : V E X R own cc nL ret k n Q false N (pc + 3) lv st h') : V E X R own cc nL ret k n Q false N pc lv (.int x :: .int dp :: .ref (Ez E + o1) :: .int sp :: .ref (Ez E + o0) :: st) h := by
  intro ok H locs ls hr hS hl
  have hts := ok.2.2.2.2.1
  refine va_copyi (D := E.2.1) (cl := vwCl) (A := zA E) (H0 := X.2.2.1.heap) ok.1 ok.2.1 (by rw [ok.2.2.1]; exact hl.1.symm) ok.2.2.2.1 (hts _ hlink) (hts _ nat_arraycopy) (hts _ hs) (hts _ hi) ok.2.2.2.2.2.1.1 (rrN hr) ddN hS o0 o1 0 0 (atN ho0 hc0) (atN ho1 hc1) rfl rfl rfl h1 h2 h3 h4 h5 (fun i hi => rfl) hframes hlocals hd (fun H1 locs1 hP1 hD1 hS1 => ?_)
  have hcell : ∀ o', o' < N → va_at E.2.1 vwCl (Ez E + o', h' o') H1 := fun o' ho' => by
    rw [hu o' ho']
    by_cases he : o' = o1
    · subst he
      rw [va_up_self]
      exact hP1 o' _ (by rw [List.getElem?_set_self (by simpa using ho1)])
    · rw [va_up_ne _ _ he]
      exact hP1 o' _ (by rw [List.getElem?_set_ne (Ne.symm he)]; exact atN ho' rfl)
  have hsz : Ez E + N ≤ H1.size := by
    cases N with
    | zero => omega
    | succ M => have := (hcell M (by omega)).lt; simp only at this; omega
  exact kk ok H1 locs1 ls ⟨⟨hsz, fun e => by cases e⟩, hcell⟩ hS1 hl
end VV
