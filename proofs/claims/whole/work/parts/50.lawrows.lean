/-! THE CLAIM OUT OF ONE WALK OF THE LAW'S BODY. Your part is whole_start (and what it stands on); all else here is the same for every law, but numbers. -/
def R_law : String := "SparrowChangeLaw"
def lw_P (b : Addr) (xs : List Int32) (args : Array Value) (s : State) : Prop := args = #[.ref b] ∧ s.IntsAt b xs ∧ xs.length ≤ 256 ∧ (Jvm.Cond.and given_1 narrow_1).before args s = true
def lw_Q (_ : Array Value) (s : State) (o : Outcome) (t : State) : Prop := o = .returned (some (.int 1)) ∧ Framed s o t [] 600000 7302250
def lw_Z (below : List Frame) (a : Array Value) (s : State) : State → Prop := fun t => ∃ o, t.status = .running ∧ Ended t below o ∧ lw_Q a s o t
/-- the law's own end, with 1 on the stack, nothing written that was there before, its room as the claim has it -/
theorem lw_ret {p : Program} {l : Launch} {e : Env} {s : State} {m : MethodId} {below : List Frame} {meth : Method} {c : Code} {b : Nat} (hx : p.tables.exec = Jvm.exec) (hb : c.code = code) (hr : meth.sig.returnType = ret) (hlocks : meth.locks = false) {pc : Nat} {H : Heap} {ls : Array Slot} (hdg : decode code pc = .ok (.ireturn, 1)) : W p l e room_1 s m #[Value.ref b] below meth c H [] 600000 7302250 (lw_Z below #[Value.ref b] s) (F0 m pc ls [.int 1]) := by
  intro T hT X
  obtain ⟨fs, hret, hrun, hended, hW, hframe⟩ := X.leave (v := some (.int 1)) (hlocks := hlocks) (fun h => by rw [hr] at h; cases h)
  have hmeth' : T.vm.method? m = some meth := X.method'
  refine ⟨T.setFrames fs, ?_, .returned (some (.int 1)), hrun, hended, rfl, ⟨_, rfl⟩, hW, hframe⟩
  jvm_step X.here [X.here.top, hx, hb, hdg, hmeth', hr, ret, narrow_b1]
  (try refine ⟨rfl, ?_⟩); (try refine ⟨rfl, ?_⟩)
  first | (intro acts; rw [hret _ acts rfl rfl rfl]) | rw [hret _ _ rfl rfl rfl]
  exact Steps.refl _
/-- what holds at the law's entry: the machine, the code, the tables' words (any of lw_tbl by 'hts w (by decide +kernel)'), the script of L ints xs at the cell b, what the Statement gives of the start (any of its parts by flat_of_before) -/
def lw_At (p : Program) (s : State) (m : MethodId) (meth : Method) (c : Code) (b L : Nat) (xs : Nat → Int32) : Prop :=
  p.tables.exec = Jvm.exec ∧ c.code = code ∧ meth.sig.returnType = ret ∧ c.maxLocals = 4 ∧ s.vm.findClass R_law = some m.cls ∧ (∀ w ∈ lw_tbl, w.before #[Value.ref b] s = true) ∧ va_X b L xs s s.heap ∧ b < s.heap.size ∧ meth.locks = false ∧ (Jvm.Cond.and given_1 narrow_1).before #[Value.ref b] s = true
/-! the law's own rows: its script lies ahead of all that is made -/
section LR
variable {E : Ev} {X : Cx} {R : Room} {own : String} {cc : ByteArray} {nL : Nat} {rt : Option FieldType} {k n : Nat} {Q : State → Prop} {B : Bool} {N pc : Nat} {lv : List (Nat × Value)} {st : List Value} {h : Hp}
/-- the script at b: L ints xs -/
def ScrA (E : Ev) (X : Cx) (b L : Nat) (xs : Nat → Int32) : Prop := va_X b L xs X.2.2.1 X.2.2.1.heap ∧ b < X.2.2.1.heap.size ∧ ¬ zA E b
theorem v_sld {b L : Nat} {xs : Nat → Int32} (hX : ScrA E X b L xs) {i : Int32} (hin : vp_in i L) (hd : decode cc pc = .ok (.iaload, 1)) (kk : V E X R own cc nL rt k n Q B N (pc + 1) lv (.int (xs i.toNatClampNeg) :: st) h) : V E X R own cc nL rt k n Q B N pc lv (.int i :: .ref b :: st) h := fun ok H locs ls hr hS hl =>
  va_sld ok.1 ok.2.1 hX.1 hX.2.1 hX.2.2 hS hin hd (kk ok H locs ls hr hS hl)
theorem v_slen {b L : Nat} {xs : Nat → Int32} (hX : ScrA E X b L xs) (hd : decode cc pc = .ok (.arraylength, 1)) (kk : V E X R own cc nL rt k n Q B N (pc + 1) lv (.int (nI L) :: st) h) : V E X R own cc nL rt k n Q B N pc lv (.ref b :: st) h := fun ok H locs ls hr hS hl =>
  va_slen ok.1 ok.2.1 hX.1 hX.2.1 hX.2.2 hS hd (kk ok H locs ls hr hS hl)
/-- nothing more is made -/
theorem v_free (kk : V E X R own cc nL rt k n Q false N pc lv st h) : V E X R own cc nL rt k n Q true N pc lv st h := fun ok H locs ls hr hS hl => kk ok H locs ls ⟨⟨hr.1.1, fun e => Bool.noConfusion e⟩, hr.2⟩ hS hl
end LR
theorem v_lawret {E : Ev} {p : Program} {e : Env} {s : State} {m : MethodId} {below : List Frame} {meth : Method} {c : Code} {b k n N pc : Nat} {B : Bool} {lv : List (Nat × Value)} {h : Hp} (hE : Ez E = s.heap.size) (hk : k ≤ 600000) (hn : n ≤ 7302250) (hd : decode code pc = .ok (.ireturn, 1)) : V E (p, e, s, m, #[Value.ref b], below, meth, c) room_1 RL code 4 ret k n (lw_Z below #[Value.ref b] s) B N pc lv [.int 1] h := fun ok H locs ls hr hS hl =>
  va_forget (fun q hq => by have := hS.2.2 q hq; show s.heap.size ≤ q.base; rw [← hE]; exact this) (W.widen hk hn (lw_ret ok.1 ok.2.1 ok.2.2.2.2.2.2.1 ok.2.2.2.2.2.2.2.1 hd))
theorem oC (E : Ev) (σ : Sg) : ∃ fs, cellOf E σ 0 = .inr (6, fs) := by
  rw [cU_at]
  generalize gU σ = u
  obtain ⟨hj, dj, se, is, it, oo⟩ := u
  exact ⟨_, rfl⟩
theorem oM (E : Ev) (σ : Sg) : ∃ fs, cellOf E σ 132 = .inr (7, fs) := by
  rw [show 132 = 132 + 0 from rfl, cM_at]
  generalize σ.2 = u
  obtain ⟨A, ⟨un, sz, ft, wm, fm, bm, at_, bg, sg, fg, vl, wr⟩, sd⟩ := u
  exact ⟨_, rfl⟩
/-- both as they are made are alike -/
theorem RS_0 : RS 0 kG0 := by
  have hD : DRl (nI 0, nI 0, nI 0, 0, 0, zFn, zFn, zFn, zFn, zFn, zFn) zFn := ⟨0, 0, by omega, by omega, rfl, rfl, rfl, rfl, rfl, rfl, rfl, Nat.zero_le _, Nat.zero_le _, fun _ => ⟨rfl, rfl⟩, fun i hi => absurd hi (Nat.not_lt_zero _), fun i _ _ => rfl, fun d hd => absurd hd (Nat.not_lt_zero _), fun d _ _ => rfl⟩
  have lo : ∀ i, i ≠ 26 → upd zFn 26 (-1) i = nI 0 := fun i hi => by rw [upd_ne hi]; rfl
  refine ⟨(nI 0, nI 0, nI 0, 0, 0, zFn, zFn, zFn, zFn, zFn, zFn), zFn, zFn, upd zFn 26 (-1), zFn, zFn, zFn, zFn, zFn, zFn, zFn, zFn, zFn, zFn, 0, 0, 0, 0, 0, 0, 0, 0, -1, nI 0, nI 0, nI 0, lN 0, rfl, ⟨by decide, by decide, by decide, rfl, hD, _, _, rfl, hD⟩, ⟨⟨fun _ => 0, by decide, fun _ _ _ => rfl, fun j hj => ⟨?_, lo _ (by have := rx_15 hj; omega)⟩⟩, fun i hi => ⟨?_, fun _ => lo _ (by omega)⟩, (lo 14 (by omega)).symm, ⟨0, Nat.le_refl _, rfl, lo 16 (by omega)⟩, fun d hd => ⟨0, by omega, rfl, lo _ (by omega)⟩, ?_, ⟨0, rfl, Nat.le_refl _, lo 27 (by omega), fun k hk => absurd hk (Nat.not_lt_zero _)⟩⟩, ⟨0, rfl, by omega, by omega, fun k hk => absurd hk (Nat.not_lt_zero _)⟩, fun i hi => ⟨rfl, fun q => absurd rfl q⟩, ⟨0, by decide, rfl, rfl⟩, ⟨nI 0, nI 0, 0, rfl, by omega, by omega, fun i hi => absurd hi (Nat.not_lt_zero _)⟩, ⟨zFn, zFn, zFn, zFn, zFn, rfl, by omega, by omega, by omega, fun i hi => absurd hi (Nat.not_lt_zero _), fun i hi => absurd hi (Nat.not_lt_zero _), fun i hi => absurd hi (Nat.not_lt_zero _)⟩⟩
  · show (if j = 7 then nI 0 else zFn j) = nI 0
    split <;> rfl
  · rw [lo _ (by omega)]; rfl
  · rw [upd_self]; rfl
