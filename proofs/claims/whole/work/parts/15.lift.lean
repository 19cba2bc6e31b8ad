/-! contracts told of any state; what a sound state of the system is -/
theorem liftK {E : Ev} {y : MethodName} {cc : ByteArray} {nL : Nat} {ret : Option FieldType} {rm : Room} {B : Bool} {N : Nat} {av : List Value} {σ : Sg} {k N' mc ms : Nat} {F : FlockV} {post : Option Value → Hp → Prop} (hF : gF σ k = F) (H : Ct E y cc nL ret rm B N av (cellOf E (sFl σ k F)) N' mc ms post) : Ct E y cc nL ret rm B N av (cellOf E σ) N' mc ms post := by
  rw [← hF, sFl_id] at H; exact H
theorem liftR {E : Ev} {y : MethodName} {cc : ByteArray} {nL : Nat} {ret : Option FieldType} {rm : Room} {B : Bool} {N : Nat} {av : List Value} {σ : Sg} {k N' mc ms : Nat} {F : FlockV} {r : Option Value} (hF : gF σ k = F) (H : Ct E y cc nL ret rm B N av (cellOf E (sFl σ k F)) N' mc ms (Ff r (cellOf E (sFl σ k F)))) : Ct E y cc nL ret rm B N av (cellOf E σ) N' mc ms (Ff r (cellOf E σ)) := by
  rw [← hF, sFl_id] at H; exact H
theorem cF_b {E : Ev} {σ : Sg} (k : Nat) (hk : k < 20) : cellOf E σ (adr k + 1) = .inl (EI E, 7, .inl (fB (gF σ k))) := cFr_b hk rfl
theorem cF_c {E : Ev} {σ : Sg} (k : Nat) (hk : k < 20) : cellOf E σ (adr k + 2) = .inl (EI E, 7, .inl (fK (gF σ k))) := cFr_c hk rfl
theorem cF_o {E : Ev} {σ : Sg} (k : Nat) (hk : k < 20) : cellOf E σ (adr k + 3) = .inl (EI E, 9, .inl (fO (gF σ k))) := cFr_o hk rfl
abbrev parNp (P : ParV) : Nat := P.2.2.2.1.toNatClampNeg
abbrev parNd (P : ParV) : Nat := P.2.2.2.2.1.toNatClampNeg
abbrev parSd (P : ParV) : Int32 := P.1
abbrev parDu (P : ParV) : Int32 := P.2.1
abbrev parTr (P : ParV) : Int32 := P.2.2.1
abbrev parKd (P : ParV) : Fn := P.2.2.2.2.2.1
abbrev parBd (P : ParV) : Fn := P.2.2.2.2.2.2.1
abbrev parDr (P : ParV) : Fn := P.2.2.2.2.2.2.2.1
abbrev parDt (P : ParV) : Fn := P.2.2.2.2.2.2.2.2.1
abbrev parCr (P : ParV) : Fn := P.2.2.2.2.2.2.2.2.2.1
abbrev parOw (P : ParV) : Fn := P.2.2.2.2.2.2.2.2.2.2
/-- the parish that stands -/
abbrev hereP (σ : Sg) : ParV := gP σ (gU σ).1
def parOk (P : ParV) : Prop := ∃ (np nd : Nat) (sd du tr : Int32) (kd bd dr dt cr ow : Fn), P = (sd, du, tr, nI np, nI nd, kd, bd, dr, dt, cr, ow) ∧ np ≤ 7 ∧ nd ≤ 9 ∧ (∀ d, d < nd → vp_in (dt d) 7) ∧ (∀ d, d < nd → vp_in (cr d) 7)
def WC (σ : Sg) : Prop := ((gU σ).1 < 2 ∧ (gU σ).2.1 < 2 ∧ (gU σ).1 ≠ (gU σ).2.1) ∧ (∀ j, j < 2 → parOk (gP σ j)) ∧ (∃ x s : Nat, gQ σ = (nI x, nI s) ∧ x < 16 ∧ s ≤ 16) ∧ (∃ (wa df wf ep eb : Fn) (ws fs es : Nat), gS σ = (wa, df, wf, ep, eb, nI ws, nI fs, nI es) ∧ ws ≤ 6 ∧ fs ≤ 6 ∧ es ≤ 15 ∧ ∀ i, i < es → vp_in (ep i) 7) ∧ (∃ (lt : Fn) (L m : Nat) (fa fn ap : Int32), gT σ = (lt, nI L, fa, fn, ap, nI m) ∧ L ≤ 240 ∧ m ≤ 240)
def rem_ (σ : Sg) : Sg := sPa (sFl σ (2 + (gQ σ).1.toNatClampNeg) (fl_copy (gF σ 0) (gF σ (2 + (gQ σ).1.toNatClampNeg)))) (nI (((gQ σ).1.toNatClampNeg + 1) % 16), nI (min ((gQ σ).2.toNatClampNeg + 1) 16))
theorem rem_0 {σ : Sg} : gF (rem_ σ) 0 = gF σ 0 := va_up_ne _ _ (by omega)
theorem rem_1 {σ : Sg} : gF (rem_ σ) 1 = gF σ 1 := va_up_ne _ _ (by omega)
theorem k_hasNet {E : Ev} {σ : Sg} {k : Nat} {F : FlockV} (hk : k < 20) (hF : gF σ k = F)  (a : Int32) : Ct E yX0_hasNet cX0_hasNet 2 (some .boolean) ({ frames := 1, cells := 0, slots := 0, locals := 21 } : Room) false 146 [.ref (Ez E + adr k), .int a] (cellOf E σ) 146 0 0 (Ff (some (.int (bI (hasB (fN F) a)))) (cellOf E σ)) := by
  obtain ⟨t, hr, nt, rg, pe, b, c, o, p⟩ := F
  exact liftR hF (c_hasNet hk a)
theorem k_move {E : Ev} {σ : Sg} {k : Nat} {F : FlockV} (hk : k < 20) (hF : gF σ k = F)  (a z n : Int32) : Ct E yX0_move cX0_move 4 none ({ frames := 2, cells := 0, slots := 0, locals := 42 } : Room) false 146 [.ref (Ez E + adr k), .int a, .int z, .int n] (cellOf E σ) 146 0 0 (Ff none (cellOf E (sFl σ k (fl_move F a z n)))) := by
  obtain ⟨t, hr, nt, rg, pe, b, c, o, p⟩ := F
  exact liftK hF (c_move hk a z n)
theorem k_crumb {E : Ev} {σ : Sg} {k : Nat} {F : FlockV} (hk : k < 20) (hF : gF σ k = F)  (a n : Int32) : Ct E yX0_addCrumbs cX0_addCrumbs 3 none ({ frames := 1, cells := 0, slots := 0, locals := 21 } : Room) false 146 [.ref (Ez E + adr k), .int a, .int n] (cellOf E σ) 146 0 0 (Ff none (cellOf E (sFl σ k (fl_crumb F a n)))) := by
  obtain ⟨t, hr, nt, rg, pe, b, c, o, p⟩ := F
  exact liftK hF (c_crumb hk a n)
theorem k_hats {E : Ev} {σ : Sg} {k : Nat} {F : FlockV} (hk : k < 20) (hF : gF σ k = F)   : Ct E yX0_inAllHats cX0_inAllHats 3 (some .int) ({ frames := 0, cells := 0, slots := 0, locals := 0 } : Room) false 146 [.ref (Ez E + adr k)] (cellOf E σ) 146 0 0 (Ff (some (.int (sm (fB F) 7))) (cellOf E σ)) := by
  obtain ⟨t, hr, nt, rg, pe, b, c, o, p⟩ := F
  exact liftR hF (c_hats hk )
def fl_less (F : FlockV) (dt cr : Fn) (nd : Nat) (a z n : Int32) : FlockV := (fT F, fH F, fN F, fR F, fE F, fB F, fK F, (itn (st_less dt cr a z) nd (n, nI 0, fO F)).2.2, fP F)
theorem k_less {E : Ev} {σ : Sg} {k : Nat} {F : FlockV} (hk : k < 20) (hF : gF σ k = F) {j np nd : Nat} {sd du tr : Int32} {kd bd dr dt cr ow : Fn} (hj : j < 2) (hP : gP σ j = (sd, du, tr, nI np, nI nd, kd, bd, dr, dt, cr, ow)) (hnp : np ≤ 7) (hnd : nd ≤ 9) (a z n : Int32) : Ct E yX0_lessenDebts cX0_lessenDebts 9 (some .int) ({ frames := 1, cells := 0, slots := 0, locals := 21 } : Room) false 146 [.ref (Ez E + adr k), .ref (Ez E + pad j), .int a, .int z, .int n] (cellOf E σ) 146 0 0 (Ff (some (.int ((itn (st_less dt cr a z) nd (n, nI 0, fO F)).2.1))) (cellOf E (sFl σ k (fl_less F dt cr nd a z n)))) := by
  obtain ⟨t, hr, nt, rg, pe, b, c, o, p⟩ := F
  exact liftK hF (c_less hk hj hP hnp hnd a z n)
theorem k_scare {E : Ev} {σ : Sg} {k : Nat} {F : FlockV} (hk : k < 20) (hF : gF σ k = F) {j np nd : Nat} {sd du tr : Int32} {kd bd dr dt cr ow : Fn} (hj : j < 2) (hP : gP σ j = (sd, du, tr, nI np, nI nd, kd, bd, dr, dt, cr, ow)) (hnp : np ≤ 7) (hnd : nd ≤ 9) (x d : Int32) : Ct E yX0_scare cX0_scare 6 (some .int) ({ frames := 3, cells := 0, slots := 0, locals := 65 } : Room) false 146 [.ref (Ez E + adr k), .ref (Ez E + pad j), .int x, .int d] (cellOf E σ) 146 0 0 (Ff (some (.int ((itn (st_scare dr x d) np (nI 0, F)).1))) (cellOf E (sFl σ k ((itn (st_scare dr x d) np (nI 0, F)).2)))) := by
  obtain ⟨t, hr, nt, rg, pe, b, c, o, p⟩ := F
  exact liftK hF (c_scare hk hj hP hnp hnd x d)
theorem k_loss {E : Ev} {σ : Sg} {k : Nat} {F : FlockV} (hk : k < 20) (hF : gF σ k = F) {j np nd : Nat} {sd du tr : Int32} {kd bd dr dt cr ow : Fn} (hj : j < 2) (hP : gP σ j = (sd, du, tr, nI np, nI nd, kd, bd, dr, dt, cr, ow)) (hnp : np ≤ 7) (hnd : nd ≤ 9) {i : Nat} (hi : i < 7) (w : Bool) : Ct E yX0_loss cX0_loss 6 (some .int) ({ frames := 2, cells := 0, slots := 0, locals := 42 } : Room) false 146 [.ref (Ez E + adr k), .ref (Ez E + pad j), .int (nI i), .int (bI w)] (cellOf E σ) 146 0 0 (Ff (some (.int (fl_loss F kd i w))) (cellOf E σ)) := by
  obtain ⟨t, hr, nt, rg, pe, b, c, o, p⟩ := F
  exact liftR hF (c_loss hk hj hP hnp hnd hi w)
theorem k_drawn {E : Ev} {σ : Sg} {k : Nat} {F : FlockV} (hk : k < 20) (hF : gF σ k = F) {j np nd : Nat} {sd du tr : Int32} {kd bd dr dt cr ow : Fn} (hj : j < 2) (hP : gP σ j = (sd, du, tr, nI np, nI nd, kd, bd, dr, dt, cr, ow)) (hnp : np ≤ 7) (hnd : nd ≤ 9) (a : Int32) : Ct E yX0_drawnBy cX0_drawnBy 5 (some .int) ({ frames := 3, cells := 0, slots := 0, locals := 67 } : Room) false 146 [.ref (Ez E + adr k), .ref (Ez E + pad j), .int a] (cellOf E σ) 146 0 0 (Ff (some (.int (fl_drawn F kd a np))) (cellOf E σ)) := by
  obtain ⟨t, hr, nt, rg, pe, b, c, o, p⟩ := F
  exact liftR hF (c_drawn hk hj hP hnp hnd a)
theorem k_fly {E : Ev} {σ : Sg} {k : Nat} {F : FlockV} (hk : k < 20) (hF : gF σ k = F) {j np nd : Nat} {sd du tr : Int32} {kd bd dr dt cr ow : Fn} (hj : j < 2) (hP : gP σ j = (sd, du, tr, nI np, nI nd, kd, bd, dr, dt, cr, ow)) (hnp : np ≤ 7) (hnd : nd ≤ 9)  : Ct E yX0_flyForAnHour cX0_flyForAnHour 4 none ({ frames := 3, cells := 0, slots := 0, locals := 67 } : Room) false 146 [.ref (Ez E + adr k), .ref (Ez E + pad j)] (cellOf E σ) 146 0 0 (Ff none (cellOf E (sFl σ k (fl_fly F kd np)))) := by
  obtain ⟨t, hr, nt, rg, pe, b, c, o, p⟩ := F
  exact liftK hF (c_fly hk hj hP hnp hnd )
theorem k_dusk {E : Ev} {σ : Sg} {k : Nat} {F : FlockV} (hk : k < 20) (hF : gF σ k = F) {j np nd : Nat} {sd du tr : Int32} {kd bd dr dt cr ow : Fn} (hj : j < 2) (hP : gP σ j = (sd, du, tr, nI np, nI nd, kd, bd, dr, dt, cr, ow)) (hnp : np ≤ 7) (hnd : nd ≤ 9)  : Ct E yX0_isDusk cX0_isDusk 2 (some .boolean) ({ frames := 0, cells := 0, slots := 0, locals := 0 } : Room) false 146 [.ref (Ez E + adr k), .ref (Ez E + pad j)] (cellOf E σ) 146 0 0 (Ff (some (.int (bI (duskB (fH F) du)))) (cellOf E σ)) := by
  obtain ⟨t, hr, nt, rg, pe, b, c, o, p⟩ := F
  exact liftR hF (c_dusk hk hj hP hnp hnd )
theorem k_pass {E : Ev} {σ : Sg} {k : Nat} {F : FlockV} (hk : k < 20) (hF : gF σ k = F) {j np nd : Nat} {sd du tr : Int32} {kd bd dr dt cr ow : Fn} (hj : j < 2) (hP : gP σ j = (sd, du, tr, nI np, nI nd, kd, bd, dr, dt, cr, ow)) (hnp : np ≤ 7) (hnd : nd ≤ 9)  : Ct E yX0_passHour cX0_passHour 2 none ({ frames := 4, cells := 0, slots := 0, locals := 90 } : Room) false 146 [.ref (Ez E + adr k), .ref (Ez E + pad j)] (cellOf E σ) 146 0 0 (Ff none (cellOf E (sFl σ k (fl_pass F kd du np)))) := by
  obtain ⟨t, hr, nt, rg, pe, b, c, o, p⟩ := F
  exact liftK hF (c_pass hk hj hP hnp hnd )
theorem k_begin {E : Ev} {σ : Sg} {k : Nat} {F : FlockV} (hk : k < 20) (hF : gF σ k = F) {j np nd : Nat} {sd du tr : Int32} {kd bd dr dt cr ow : Fn} (hj : j < 2) (hP : gP σ j = (sd, du, tr, nI np, nI nd, kd, bd, dr, dt, cr, ow)) (hnp : np ≤ 7) (hnd : nd ≤ 9)  : Ct E yX0_begin cX0_begin 3 none ({ frames := 2, cells := 0, slots := 0, locals := 42 } : Room) false 146 [.ref (Ez E + adr k), .ref (Ez E + pad j)] (cellOf E σ) 146 0 0 (Ff none (cellOf E (sFl σ k (fl_begin F sd tr np nd bd ow)))) := by
  obtain ⟨t, hr, nt, rg, pe, b, c, o, p⟩ := F
  exact liftK hF (c_begin hk hj hP hnp hnd )
theorem k_known {E : Ev} {σ : Sg} {k : Nat} {F : FlockV} (hk : k < 20) (hF : gF σ k = F)   : Ct E yX0_placesKnown cX0_placesKnown 1 (some .int) ({ frames := 1, cells := 0, slots := 0, locals := 21 } : Room) false 146 [.ref (Ez E + adr k)] (cellOf E σ) 146 0 0 (Ff (some (.int (mnI (fE F) (nI 20)))) (cellOf E σ)) := by
  obtain ⟨t, hr, nt, rg, pe, b, c, o, p⟩ := F
  exact liftR hF (c_known hk )
theorem k_back {E : Ev} {σ : Sg} {k : Nat} {F : FlockV} (hk : k < 20) (hF : gF σ k = F)  (i : Int32) : Ct E yX0_placeBack cX0_placeBack 2 (some .int) ({ frames := 2, cells := 0, slots := 0, locals := 41 } : Room) false 146 [.ref (Ez E + adr k), .int i] (cellOf E σ) 146 0 0 (Ff (some (.int (fl_back F i))) (cellOf E σ)) := by
  obtain ⟨t, hr, nt, rg, pe, b, c, o, p⟩ := F
  exact liftR hF (c_back hk i)
theorem k_remember {E : Ev} {σ : Sg} {x s : Nat} (hQ : gQ σ = (nI x, nI s)) (hx : x < 16) (hs : s ≤ 16) : Ct E yX2_remember cX2_remember 2 none ({ frames := 2, cells := 0, slots := 0, locals := 61 } : Room) false 146 [.ref (Ez E + 27), .ref (Ez E + adr 0)] (cellOf E σ) 146 0 0 (Ff none (cellOf E (rem_ σ))) := by
  have h := c_remember (E := E) (σ := σ) hx hs
  unfold rem_
  rw [hQ]
  simp only [nI_clamp (show x < 2 ^ 31 by omega), nI_clamp (show s < 2 ^ 31 by omega)]
  have e : sPa σ (nI x, nI s) = σ := by rw [← hQ]
  rw [e] at h; exact h
def rec_ (σ : Sg) : Sg := sPa (sFl σ 0 (fl_copy (gF σ (2 + ((gQ σ).1.toNatClampNeg + 15) % 16)) (gF σ 0))) (nI (((gQ σ).1.toNatClampNeg + 15) % 16), nI ((gQ σ).2.toNatClampNeg - 1))
theorem k_recall {E : Ev} {σ : Sg} {x s : Nat} (hQ : gQ σ = (nI x, nI s)) (hx : x < 16) (hs : s ≤ 16) (h0 : 0 < s) : Ct E yX2_recallInto cX2_recallInto 2 none ({ frames := 2, cells := 0, slots := 0, locals := 61 } : Room) false 146 [.ref (Ez E + 27), .ref (Ez E + adr 0)] (cellOf E σ) 146 0 0 (Ff none (cellOf E (rec_ σ))) := by
  have h := c_recall (E := E) (σ := σ) hx hs
  rw [if_pos h0] at h
  unfold rec_
  rw [hQ]
  simp only [nI_clamp (show x < 2 ^ 31 by omega), nI_clamp (show s < 2 ^ 31 by omega)]
  have e : sPa σ (nI x, nI s) = σ := by rw [← hQ]
  rw [e] at h; exact h
theorem k_pforget {E : Ev} {σ : Sg} {x s : Nat} (hQ : gQ σ = (nI x, nI s)) (hx : x < 16) (hs : s ≤ 16) : Ct E yX2_forget cX2_forget 1 none ({ frames := 0, cells := 0, slots := 0, locals := 0 } : Room) false 146 [.ref (Ez E + 27)] (cellOf E σ) 146 0 0 (Ff none (cellOf E (sPa σ (nI x, nI 0)))) := by
  have h := c_pforget (E := E) (σ := σ) hx hs
  have e : sPa σ (nI x, nI s) = σ := by rw [← hQ]
  rw [e] at h; exact h
theorem k_sforget {E : Ev} {σ : Sg} {wa df wf ep eb : Fn} {ws fs es : Nat} (hws : ws ≤ 6) (hfs : fs ≤ 6) (hes : es ≤ 15) (hS : gS σ = (wa, df, wf, ep, eb, nI ws, nI fs, nI es))  : Ct E yX3_forget cX3_forget 1 none ({ frames := 0, cells := 0, slots := 0, locals := 0 } : Room) false 146 [.ref (Ez E + 115)] (cellOf E σ) 146 0 0 (Ff none (cellOf E (sSe σ (wa, df, wf, ep, eb, nI 0, nI 0, nI 0)))) := by
  have h := c_sforget (E := E) (σ := σ) (wa := wa) (df := df) (wf := wf) (ep := ep) (eb := eb) hws hfs hes 
  have e : sSe σ (wa, df, wf, ep, eb, nI ws, nI fs, nI es) = σ := by rw [← hS]
  rw [e] at h; exact h
theorem k_allW {E : Ev} {σ : Sg} {wa df wf ep eb : Fn} {ws fs es : Nat} (hws : ws ≤ 6) (hfs : fs ≤ 6) (hes : es ≤ 15) (hS : gS σ = (wa, df, wf, ep, eb, nI ws, nI fs, nI es)) (n : Int32) : Ct E yX3_allWatchedAre cX3_allWatchedAre 3 (some .boolean) ({ frames := 0, cells := 0, slots := 0, locals := 0 } : Room) false 146 [.ref (Ez E + 115), .int n] (cellOf E σ) 146 0 0 (Ff (some (.int (bI (allW wa n ws)))) (cellOf E σ)) := by
  have h := c_allW (E := E) (σ := σ) (wa := wa) (df := df) (wf := wf) (ep := ep) (eb := eb) hws hfs hes n
  have e : sSe σ (wa, df, wf, ep, eb, nI ws, nI fs, nI es) = σ := by rw [← hS]
  rw [e] at h; exact h
theorem k_below {E : Ev} {σ : Sg} {wa df wf ep eb : Fn} {ws fs es : Nat} (hws : ws ≤ 6) (hfs : fs ≤ 6) (hes : es ≤ 15) (hS : gS σ = (wa, df, wf, ep, eb, nI ws, nI fs, nI es)) {en : Nat} (hen : en ≤ 51) : Ct E yX3_reachesBelow cX3_reachesBelow 4 (some .int) ({ frames := 1, cells := 0, slots := 0, locals := 22 } : Room) false 146 [.ref (Ez E + 115), .int (nI en)] (cellOf E σ) 146 0 0 (Ff (some (.int (cntR (fun r => canR df wf fs (nI r)) en))) (cellOf E σ)) := by
  have h := c_below (E := E) (σ := σ) (wa := wa) (df := df) (wf := wf) (ep := ep) (eb := eb) hws hfs hes hen
  have e : sSe σ (wa, df, wf, ep, eb, nI ws, nI fs, nI es) = σ := by rw [← hS]
  rw [e] at h; exact h
theorem k_least {E : Ev} {σ : Sg} {wa df wf ep eb : Fn} {ws fs es : Nat} (hws : ws ≤ 6) (hfs : fs ≤ 6) (hes : es ≤ 15) (hS : gS σ = (wa, df, wf, ep, eb, nI ws, nI fs, nI es))  : Ct E yX3_leastReach cX3_leastReach 2 (some .int) ({ frames := 1, cells := 0, slots := 0, locals := 22 } : Room) false 146 [.ref (Ez E + 115)] (cellOf E σ) 146 0 0 (Ff (some (.int (fst_ (fun r => canR df wf fs (nI r)) 51 0))) (cellOf E σ)) := by
  have h := c_least (E := E) (σ := σ) (wa := wa) (df := df) (wf := wf) (ep := ep) (eb := eb) hws hfs hes 
  have e : sSe σ (wa, df, wf, ep, eb, nI ws, nI fs, nI es) = σ := by rw [← hS]
  rw [e] at h; exact h
theorem k_great {E : Ev} {σ : Sg} {wa df wf ep eb : Fn} {ws fs es : Nat} (hws : ws ≤ 6) (hfs : fs ≤ 6) (hes : es ≤ 15) (hS : gS σ = (wa, df, wf, ep, eb, nI ws, nI fs, nI es))  : Ct E yX3_greatestReach cX3_greatestReach 2 (some .int) ({ frames := 1, cells := 0, slots := 0, locals := 22 } : Room) false 146 [.ref (Ez E + 115)] (cellOf E σ) 146 0 0 (Ff (some (.int (lst_ (fun r => canR df wf fs (nI r)) 51))) (cellOf E σ)) := by
  have h := c_great (E := E) (σ := σ) (wa := wa) (df := df) (wf := wf) (ep := ep) (eb := eb) hws hfs hes 
  have e : sSe σ (wa, df, wf, ep, eb, nI ws, nI fs, nI es) = σ := by rw [← hS]
  rw [e] at h; exact h
theorem k_part {E : Ev} {σ : Sg} {wa df wf ep eb : Fn} {ws fs es : Nat} (hws : ws ≤ 6) (hfs : fs ≤ 6) (hes : es ≤ 15) (hS : gS σ = (wa, df, wf, ep, eb, nI ws, nI fs, nI es))  : Ct E yX3_bestDoorToPart cX3_bestDoorToPart 7 (some .int) ({ frames := 2, cells := 0, slots := 0, locals := 45 } : Room) false 146 [.ref (Ez E + 115)] (cellOf E σ) 146 0 0 (Ff (some (.int (partR (fun r => canR df wf fs (nI r)) (cntR (fun r => canR df wf fs (nI r)) 51)))) (cellOf E σ)) := by
  have h := c_part (E := E) (σ := σ) (wa := wa) (df := df) (wf := wf) (ep := ep) (eb := eb) hws hfs hes 
  have e : sSe σ (wa, df, wf, ep, eb, nI ws, nI fs, nI es) = σ := by rw [← hS]
  rw [e] at h; exact h
theorem k_addW {E : Ev} {σ : Sg} {wa df wf ep eb : Fn} {ws fs es : Nat} (hws : ws ≤ 6) (hfs : fs ≤ 6) (hes : es ≤ 15) (hS : gS σ = (wa, df, wf, ep, eb, nI ws, nI fs, nI es)) (x : Int32) (hc : ws < 6) : Ct E yX3_addWatched cX3_addWatched 2 (some .int) ({ frames := 0, cells := 0, slots := 0, locals := 0 } : Room) false 146 [.ref (Ez E + 115), .int x] (cellOf E σ) 146 0 0 (Ff (some (.int (nI (ws + 1)))) (cellOf E (sSe σ (upd wa ws x, df, wf, ep, eb, nI (ws + 1), nI fs, nI es)))) := by
  have h := c_addW (E := E) (σ := σ) (wa := wa) (df := df) (wf := wf) (ep := ep) (eb := eb) hws hfs hes x
  have e : sSe σ (wa, df, wf, ep, eb, nI ws, nI fs, nI es) = σ := by rw [← hS]
  rw [e, if_pos hc, if_pos hc] at h; exact h
theorem k_addF {E : Ev} {σ : Sg} {wa df wf ep eb : Fn} {ws fs es : Nat} (hws : ws ≤ 6) (hfs : fs ≤ 6) (hes : es ≤ 15) (hS : gS σ = (wa, df, wf, ep, eb, nI ws, nI fs, nI es)) (x : Int32) (y : Bool) (hc : fs < 6) : Ct E yX3_addFelt cX3_addFelt 3 (some .int) ({ frames := 0, cells := 0, slots := 0, locals := 0 } : Room) false 146 [.ref (Ez E + 115), .int x, .int (bI y)] (cellOf E σ) 146 0 0 (Ff (some (.int (nI (fs + 1)))) (cellOf E (sSe σ (wa, upd df fs x, upd wf fs (bI y), ep, eb, nI ws, nI (fs + 1), nI es)))) := by
  have h := c_addF (E := E) (σ := σ) (wa := wa) (df := df) (wf := wf) (ep := ep) (eb := eb) hws hfs hes x y
  have e : sSe σ (wa, df, wf, ep, eb, nI ws, nI fs, nI es) = σ := by rw [← hS]
  rw [e, if_pos hc, if_pos hc] at h; exact h
theorem k_addE {E : Ev} {σ : Sg} {wa df wf ep eb : Fn} {ws fs es : Nat} (hws : ws ≤ 6) (hfs : fs ≤ 6) (hes : es ≤ 15) (hS : gS σ = (wa, df, wf, ep, eb, nI ws, nI fs, nI es)) (x y : Int32) (hc : es < 15) : Ct E yX3_addEntry cX3_addEntry 3 (some .int) ({ frames := 0, cells := 0, slots := 0, locals := 0 } : Room) false 146 [.ref (Ez E + 115), .int x, .int y] (cellOf E σ) 146 0 0 (Ff (some (.int (nI (es + 1)))) (cellOf E (sSe σ (wa, df, wf, upd ep es x, upd eb es y, nI ws, nI fs, nI (es + 1))))) := by
  have h := c_addE (E := E) (σ := σ) (wa := wa) (df := df) (wf := wf) (ep := ep) (eb := eb) hws hfs hes x y
  have e : sSe σ (wa, df, wf, ep, eb, nI ws, nI fs, nI es) = σ := by rw [← hS]
  rw [e, if_pos hc, if_pos hc] at h; exact h
theorem k_fwrong {E : Ev} {σ : Sg} {wa df wf ep eb : Fn} {ws fs es : Nat} (hws : ws ≤ 6) (hfs : fs ≤ 6) (hes : es ≤ 15) (hS : gS σ = (wa, df, wf, ep, eb, nI ws, nI fs, nI es)) {F : FlockV} (hF : gF σ 0 = F) (hep : ∀ i, i < es → vp_in (ep i) 7) : Ct E yX3_firstWrong cX3_firstWrong 3 (some .int) ({ frames := 0, cells := 0, slots := 0, locals := 0 } : Room) false 146 [.ref (Ez E + 115), .ref (Ez E + adr 0)] (cellOf E σ) 146 0 0 (Ff (some (.int (fst_ (wrongB (fB F) ep eb) es 0))) (cellOf E σ)) := by
  obtain ⟨t, hr, nt, rg, pe, b, c, o, p⟩ := F
  have h := c_fwrong (E := E) (σ := σ) (wa := wa) (df := df) (wf := wf) (ep := ep) (eb := eb) hws hfs hes hF hep
  have e : sSe σ (wa, df, wf, ep, eb, nI ws, nI fs, nI es) = σ := by rw [← hS]
  rw [e] at h; exact h
def richI (b : Fn) (n : Nat) : Int32 := (itn (fun i (s : Int32 × Int32) => if b i ≤ s.2 then s else (nI i, b i)) n (-1, -1)).1
def st_rich (b : Fn) (i : Nat) (s : Int32 × Int32) : Int32 × Int32 := if b i ≤ s.2 then s else (nI i, b i)
def credI (dt cr o : Fn) (a : Int32) (n : Nat) : Int32 := itn (fun d s => if dt d = a ∧ ¬ o d ≤ 0 then s ||| (nI 1 <<< (cr d &&& 31)) else s) n (nI 0)
theorem credI_s {dt cr o : Fn} {a : Int32} {i : Nat} : credI dt cr o a (i + 1) = if dt i = a ∧ ¬ o i ≤ 0 then credI dt cr o a i ||| (nI 1 <<< (cr i &&& 31)) else credI dt cr o a i := rfl
def owI (dt o : Fn) (a : Int32) (n : Nat) : Int32 := itn (fun d s => s + (if dt d = a then o d else nI 0)) n (nI 0)
theorem owI_t {dt o : Fn} {a : Int32} {i : Nat} (h : dt i = a) : owI dt o a (i + 1) = owI dt o a i + o i := by show _ + (if dt i = a then _ else _) = _; rw [if_pos h]; rfl
theorem owI_f {dt o : Fn} {a : Int32} {i : Nat} (h : ¬ dt i = a) : owI dt o a (i + 1) = owI dt o a i + nI 0 := by show _ + (if dt i = a then _ else _) = _; rw [if_neg h]; rfl
set_option maxHeartbeats 4000000 in
set_option maxRecDepth 100000 in
theorem c_rich {E : Ev} {σ : Sg} {dj : Nat} {se : Int32} {is it oo : Fn} {j np nd : Nat} {sd du tr : Int32} {kd bd dr dt cr ow : Fn} (hj : j < 2) (hP : gP σ j = (sd, du, tr, nI np, nI nd, kd, bd, dr, dt, cr, ow)) (hnp : np ≤ 7) (hnd : nd ≤ 9) (hU : gU σ = (j, dj, se, is, it, oo)) {t hr nt rg pe : Int32} {b c o p : Fn} (hG : gF σ 0 = (t, hr, nt, rg, pe, b, c, o, p))  : Ct E yX6_richest cX6_richest 4 (some .int) ({ frames := 0, cells := 0, slots := 0, locals := 0 } : Room) false 146 [.ref (Ez E + 0)] (cellOf E σ) 146 0 0 (Ff (some (.int (richI b np))) (cellOf E σ)) := by
  refine Ct.ofV (by decide) (Nat.le_of_ble_eq_true rfl) (fun X hnm => ?_)
  show V E X _ RX6 _ _ _ _ _ _ false 146 0 [(0, .ref (Ez E + 0))] [] _
  refine v_iconst (pc := 0) (-1) dX6_richest_0 kI_m1 ?_
  refine v_istore_n (pc := 1) [1, 0] [(0, _), (1, _)] dX6_richest_1 rfl (by decide) rfl ?_
  refine v_iconst (pc := 2) (-1) dX6_richest_2 kI_m1 ?_
  refine v_istore_n (pc := 3) [1, 2, 0] [(0, _), (1, _), (2, _)] dX6_richest_3 rfl (by decide) rfl ?_
  refine v_iconst (pc := 4) (nI 0) dX6_richest_4 kI_0 ?_
  refine v_istore_n (pc := 5) [1, 2, 3, 0] [(0, _), (1, _), (2, _), (3, _)] dX6_richest_5 rfl (by decide) rfl ?_
  refine dn (P := fun i => V E X ({ frames := 0, cells := 0, slots := 0, locals := 0 } : Room) RX6 cX6_richest 4 (some .int) 0 0 (QX E X false 146 (Ff (some (.int (richI b np))) (cellOf E σ)) 0 0) false 146 6 [(0, .ref (Ez E + 0)), (1, .int (itn (st_rich b) i (-1, -1)).1), (2, .int (itn (st_rich b) i (-1, -1)).2), (3, .int (nI i))] [] (cellOf E σ)) (N := np) ?_ ?_
  · refine v_iload_n (pc := 6) 3 dX6_richest_6 rfl rfl ?_
    refine v_aload_n (pc := 7) 0 dX6_richest_7 rfl rfl ?_
    refine g_X6_19 (pc := 8) (cUr_obj hU) (by decide) rfl dX6_richest_8 ?_
    refine g_X6_101 (pc := 11) (cPr_obj hj hP) (pad_lt0 hj) rfl dX6_richest_11 ?_
    refine v_icmp_geN (pc := 14) (by omega) (by omega) (tgt := 48) dX6_richest_14 rfl (fun c_14 => ?_) (fun c_14 => False.elim ((fun c => by omega) c_14))
    refine v_iload_n (pc := 48) 1 dX6_richest_48 rfl rfl ?_
    exact v_iret (pc := 49) dX6_richest_49 (⟨rfl, rfl⟩)
  · intro i hi ih
    have ih : V E X ({ frames := 0, cells := 0, slots := 0, locals := 0 } : Room) RX6 cX6_richest 4 (some .int) 0 0 (QX E X false 146 (Ff (some (.int (richI b np))) (cellOf E σ)) 0 0) false 146 6 [(0, .ref (Ez E + 0)), (1, .int (st_rich b i (itn (st_rich b) i (-1, -1))).1), (2, .int (st_rich b i (itn (st_rich b) i (-1, -1))).2), (3, .int (nI (i + 1)))] [] (cellOf E σ) := by rw [itn_s] at ih; exact ih
    generalize itn (st_rich b) i (-1, -1) = z_ at ih ⊢
    obtain ⟨z1, z2⟩ := z_
    show V E X _ RX6 _ _ _ _ _ _ false 146 _ [(0, .ref (Ez E + 0)), (1, .int z1), (2, .int z2), (3, .int (nI i))] [] (cellOf E σ)
    refine v_iload_n (pc := 6) 3 dX6_richest_6 rfl rfl ?_
    refine v_aload_n (pc := 7) 0 dX6_richest_7 rfl rfl ?_
    refine g_X6_19 (pc := 8) (cUr_obj hU) (by decide) rfl dX6_richest_8 ?_
    refine g_X6_101 (pc := 11) (cPr_obj hj hP) (pad_lt0 hj) rfl dX6_richest_11 ?_
    refine v_icmp_geN (pc := 14) (by omega) (by omega) (tgt := 48) dX6_richest_14 rfl (fun c_14 => False.elim ((fun c => by omega) c_14)) (fun c_14 => ?_)
    refine v_aload_n (pc := 17) 0 dX6_richest_17 rfl rfl ?_
    refine g_X6_29 (pc := 18) (cUr_obj hU) (by decide) rfl dX6_richest_18 ?_
    refine g_X6_164 (pc := 21) (cFr_obj (k := 0) (by decide) hG) (adr_lt0 (k := 0) (by decide)) rfl dX6_richest_21 ?_
    refine v_iload_n (pc := 24) 3 dX6_richest_24 rfl rfl ?_
    refine v_ialdN (pc := 25) (cFr_b (k := 0) (by decide) hG) (adr_lt (k := 0) (by decide) (by decide)) (by omega) (by decide) dX6_richest_25 ?_
    refine v_iload_n (pc := 26) 2 dX6_richest_26 rfl rfl ?_
    refine v_icmp_le (pc := 27) (tgt := 42) dX6_richest_27 rfl (fun c_27 => ?_) (fun c_27 => ?_)
    · refine v_iincN (pc := 42) 3 [1, 2, 3, 0] [(0, _), (1, _), (2, _), (3, _)] kI_1 dX6_richest_42 rfl (by decide) rfl ?_
      refine v_goto (pc := 45) (tgt := 6) dX6_richest_45 rfl ?_
      first
        | (rw [show st_rich b i (z1, z2) = _ from if_pos (by assumption)] at ih; exact ih)
        | (rw [show st_rich b i (z1, z2) = _ from if_neg (by first | assumption | exact Int32.not_le.mpr (by assumption))] at ih; exact ih)
    · refine v_aload_n (pc := 30) 0 dX6_richest_30 rfl rfl ?_
      refine g_X6_29 (pc := 31) (cUr_obj hU) (by decide) rfl dX6_richest_31 ?_
      refine g_X6_164 (pc := 34) (cFr_obj (k := 0) (by decide) hG) (adr_lt0 (k := 0) (by decide)) rfl dX6_richest_34 ?_
      refine v_iload_n (pc := 37) 3 dX6_richest_37 rfl rfl ?_
      refine v_ialdN (pc := 38) (cFr_b (k := 0) (by decide) hG) (adr_lt (k := 0) (by decide) (by decide)) (by omega) (by decide) dX6_richest_38 ?_
      refine v_istore_n (pc := 39) [1, 2, 0, 3] [(0, _), (1, _), (2, _), (3, _)] dX6_richest_39 rfl (by decide) rfl ?_
      refine v_iload_n (pc := 40) 3 dX6_richest_40 rfl rfl ?_
      refine v_istore_n (pc := 41) [1, 0, 2, 3] [(0, _), (1, _), (2, _), (3, _)] dX6_richest_41 rfl (by decide) rfl ?_
      refine v_iincN (pc := 42) 3 [1, 2, 3, 0] [(0, _), (1, _), (2, _), (3, _)] kI_1 dX6_richest_42 rfl (by decide) rfl ?_
      refine v_goto (pc := 45) (tgt := 6) dX6_richest_45 rfl ?_
      first
        | (rw [show st_rich b i (z1, z2) = _ from if_pos (by assumption)] at ih; exact ih)
        | (rw [show st_rich b i (z1, z2) = _ from if_neg (by first | assumption | exact Int32.not_le.mpr (by assumption))] at ih; exact ih)
set_option maxHeartbeats 4000000 in
set_option maxRecDepth 100000 in
theorem c_cred {E : Ev} {σ : Sg} {dj : Nat} {se : Int32} {is it oo : Fn} {j np nd : Nat} {sd du tr : Int32} {kd bd dr dt cr ow : Fn} (hj : j < 2) (hP : gP σ j = (sd, du, tr, nI np, nI nd, kd, bd, dr, dt, cr, ow)) (hnp : np ≤ 7) (hnd : nd ≤ 9) (hU : gU σ = (j, dj, se, is, it, oo)) {t hr nt rg pe : Int32} {b c o p : Fn} (hG : gF σ 0 = (t, hr, nt, rg, pe, b, c, o, p)) (a : Int32) : Ct E yX6_creditorsOf cX6_creditorsOf 4 (some .int) ({ frames := 0, cells := 0, slots := 0, locals := 0 } : Room) false 146 [.ref (Ez E + 0), .int a] (cellOf E σ) 146 0 0 (Ff (some (.int (credI dt cr o a nd))) (cellOf E σ)) := by
  refine Ct.ofV (by decide) (Nat.le_of_ble_eq_true rfl) (fun X hnm => ?_)
  show V E X _ RX6 _ _ _ _ _ _ false 146 0 [(0, .ref (Ez E + 0)), (1, .int a)] [] _
  refine v_iconst (pc := 0) (nI 0) dX6_creditorsOf_0 kI_0 ?_
  refine v_istore_n (pc := 1) [1, 2, 0] [(0, _), (1, _), (2, _)] dX6_creditorsOf_1 rfl (by decide) rfl ?_
  refine v_iconst (pc := 2) (nI 0) dX6_creditorsOf_2 kI_0 ?_
  refine v_istore_n (pc := 3) [1, 2, 3, 0] [(0, _), (1, _), (2, _), (3, _)] dX6_creditorsOf_3 rfl (by decide) rfl ?_
  refine dn (P := fun i => V E X ({ frames := 0, cells := 0, slots := 0, locals := 0 } : Room) RX6 cX6_creditorsOf 4 (some .int) 0 0 (QX E X false 146 (Ff (some (.int (credI dt cr o a nd))) (cellOf E σ)) 0 0) false 146 4 [(0, .ref (Ez E + 0)), (1, .int a), (2, .int (credI dt cr o a i)), (3, .int (nI i))] [] (cellOf E σ)) (N := nd) ?_ ?_
  · refine v_iload_n (pc := 4) 3 dX6_creditorsOf_4 rfl rfl ?_
    refine v_aload_n (pc := 5) 0 dX6_creditorsOf_5 rfl rfl ?_
    refine g_X6_19 (pc := 6) (cUr_obj hU) (by decide) rfl dX6_creditorsOf_6 ?_
    refine g_X6_110 (pc := 9) (cPr_obj hj hP) (pad_lt0 hj) rfl dX6_creditorsOf_9 ?_
    refine v_icmp_geN (pc := 12) (by omega) (by omega) (tgt := 60) dX6_creditorsOf_12 rfl (fun c_12 => ?_) (fun c_12 => False.elim ((fun c => by omega) c_12))
    refine v_iload_n (pc := 60) 2 dX6_creditorsOf_60 rfl rfl ?_
    exact v_iret (pc := 61) dX6_creditorsOf_61 (⟨rfl, rfl⟩)
  · intro i hi ih
    refine v_iload_n (pc := 4) 3 dX6_creditorsOf_4 rfl rfl ?_
    refine v_aload_n (pc := 5) 0 dX6_creditorsOf_5 rfl rfl ?_
    refine g_X6_19 (pc := 6) (cUr_obj hU) (by decide) rfl dX6_creditorsOf_6 ?_
    refine g_X6_110 (pc := 9) (cPr_obj hj hP) (pad_lt0 hj) rfl dX6_creditorsOf_9 ?_
    refine v_icmp_geN (pc := 12) (by omega) (by omega) (tgt := 60) dX6_creditorsOf_12 rfl (fun c_12 => False.elim ((fun c => by omega) c_12)) (fun c_12 => ?_)
    refine v_aload_n (pc := 15) 0 dX6_creditorsOf_15 rfl rfl ?_
    refine g_X6_19 (pc := 16) (cUr_obj hU) (by decide) rfl dX6_creditorsOf_16 ?_
    refine g_X6_189 (pc := 19) (cPr_obj hj hP) (pad_lt0 hj) rfl dX6_creditorsOf_19 ?_
    refine v_iload_n (pc := 22) 3 dX6_creditorsOf_22 rfl rfl ?_
    refine v_ialdN (pc := 23) (cPr_dt hj hP) (pad_lt hj (by decide)) (by omega) (by decide) dX6_creditorsOf_23 ?_
    refine v_iload_n (pc := 24) 1 dX6_creditorsOf_24 rfl rfl ?_
    refine v_icmp_ne (pc := 25) (tgt := 54) dX6_creditorsOf_25 rfl (fun c_25 => ?_) (fun c_25 => ?_)
    · refine v_iincN (pc := 54) 3 [1, 2, 3, 0] [(0, _), (1, _), (2, _), (3, _)] kI_1 dX6_creditorsOf_54 rfl (by decide) rfl ?_
      refine v_goto (pc := 57) (tgt := 4) dX6_creditorsOf_57 rfl ?_
      first
        | (rw [credI_s, if_pos ⟨by assumption, by first | assumption | exact Int32.not_le.mpr (by assumption)⟩] at ih; exact ih)
        | (rw [credI_s, if_neg (by rintro ⟨q1, q2⟩; first | exact absurd q1 (by assumption) | exact q2 (by assumption))] at ih; exact ih)
    · refine v_aload_n (pc := 28) 0 dX6_creditorsOf_28 rfl rfl ?_
      refine g_X6_29 (pc := 29) (cUr_obj hU) (by decide) rfl dX6_creditorsOf_29 ?_
      refine g_X6_195 (pc := 32) (cFr_obj (k := 0) (by decide) hG) (adr_lt0 (k := 0) (by decide)) rfl dX6_creditorsOf_32 ?_
      refine v_iload_n (pc := 35) 3 dX6_creditorsOf_35 rfl rfl ?_
      refine v_ialdN (pc := 36) (cFr_o (k := 0) (by decide) hG) (adr_lt (k := 0) (by decide) (by decide)) (by omega) (by decide) dX6_creditorsOf_36 ?_
      refine v_if_le (pc := 37) (tgt := 54) dX6_creditorsOf_37 rfl (fun c_37 => ?_) (fun c_37 => ?_)
      · refine v_iincN (pc := 54) 3 [1, 2, 3, 0] [(0, _), (1, _), (2, _), (3, _)] kI_1 dX6_creditorsOf_54 rfl (by decide) rfl ?_
        refine v_goto (pc := 57) (tgt := 4) dX6_creditorsOf_57 rfl ?_
        first
          | (rw [credI_s, if_pos ⟨by assumption, by first | assumption | exact Int32.not_le.mpr (by assumption)⟩] at ih; exact ih)
          | (rw [credI_s, if_neg (by rintro ⟨q1, q2⟩; first | exact absurd q1 (by assumption) | exact q2 (by assumption))] at ih; exact ih)
      · refine v_iload_n (pc := 40) 2 dX6_creditorsOf_40 rfl rfl ?_
        refine v_iconst (pc := 41) (nI 1) dX6_creditorsOf_41 kI_1 ?_
        refine v_aload_n (pc := 42) 0 dX6_creditorsOf_42 rfl rfl ?_
        refine g_X6_19 (pc := 43) (cUr_obj hU) (by decide) rfl dX6_creditorsOf_43 ?_
        refine g_X6_192 (pc := 46) (cPr_obj hj hP) (pad_lt0 hj) rfl dX6_creditorsOf_46 ?_
        refine v_iload_n (pc := 49) 3 dX6_creditorsOf_49 rfl rfl ?_
        refine v_ialdN (pc := 50) (cPr_cr hj hP) (pad_lt hj (by decide)) (by omega) (by decide) dX6_creditorsOf_50 ?_
        refine v_ishl (pc := 51) dX6_creditorsOf_51 ?_
        refine v_ior (pc := 52) dX6_creditorsOf_52 ?_
        refine v_istore_n (pc := 53) [1, 2, 0, 3] [(0, _), (1, _), (2, _), (3, _)] dX6_creditorsOf_53 rfl (by decide) rfl ?_
        refine v_iincN (pc := 54) 3 [1, 2, 3, 0] [(0, _), (1, _), (2, _), (3, _)] kI_1 dX6_creditorsOf_54 rfl (by decide) rfl ?_
        refine v_goto (pc := 57) (tgt := 4) dX6_creditorsOf_57 rfl ?_
        first
          | (rw [credI_s, if_pos ⟨by assumption, by first | assumption | exact Int32.not_le.mpr (by assumption)⟩] at ih; exact ih)
          | (rw [credI_s, if_neg (by rintro ⟨q1, q2⟩; first | exact absurd q1 (by assumption) | exact q2 (by assumption))] at ih; exact ih)
set_option maxHeartbeats 4000000 in
set_option maxRecDepth 100000 in
theorem c_owBy {E : Ev} {σ : Sg} {dj : Nat} {se : Int32} {is it oo : Fn} {j np nd : Nat} {sd du tr : Int32} {kd bd dr dt cr ow : Fn} (hj : j < 2) (hP : gP σ j = (sd, du, tr, nI np, nI nd, kd, bd, dr, dt, cr, ow)) (hnp : np ≤ 7) (hnd : nd ≤ 9) (hU : gU σ = (j, dj, se, is, it, oo)) {t hr nt rg pe : Int32} {b c o p : Fn} (hG : gF σ 0 = (t, hr, nt, rg, pe, b, c, o, p)) (a : Int32) : Ct E yX6_owedBy cX6_owedBy 4 (some .int) ({ frames := 0, cells := 0, slots := 0, locals := 0 } : Room) false 146 [.ref (Ez E + 0), .int a] (cellOf E σ) 146 0 0 (Ff (some (.int (owI dt o a nd))) (cellOf E σ)) := by
  refine Ct.ofV (by decide) (Nat.le_of_ble_eq_true rfl) (fun X hnm => ?_)
  show V E X _ RX6 _ _ _ _ _ _ false 146 0 [(0, .ref (Ez E + 0)), (1, .int a)] [] _
  refine v_iconst (pc := 0) (nI 0) dX6_owedBy_0 kI_0 ?_
  refine v_istore_n (pc := 1) [1, 2, 0] [(0, _), (1, _), (2, _)] dX6_owedBy_1 rfl (by decide) rfl ?_
  refine v_iconst (pc := 2) (nI 0) dX6_owedBy_2 kI_0 ?_
  refine v_istore_n (pc := 3) [1, 2, 3, 0] [(0, _), (1, _), (2, _), (3, _)] dX6_owedBy_3 rfl (by decide) rfl ?_
  refine dn (P := fun i => V E X ({ frames := 0, cells := 0, slots := 0, locals := 0 } : Room) RX6 cX6_owedBy 4 (some .int) 0 0 (QX E X false 146 (Ff (some (.int (owI dt o a nd))) (cellOf E σ)) 0 0) false 146 4 [(0, .ref (Ez E + 0)), (1, .int a), (2, .int (owI dt o a i)), (3, .int (nI i))] [] (cellOf E σ)) (N := nd) ?_ ?_
  · refine v_iload_n (pc := 4) 3 dX6_owedBy_4 rfl rfl ?_
    refine v_aload_n (pc := 5) 0 dX6_owedBy_5 rfl rfl ?_
    refine g_X6_19 (pc := 6) (cUr_obj hU) (by decide) rfl dX6_owedBy_6 ?_
    refine g_X6_110 (pc := 9) (cPr_obj hj hP) (pad_lt0 hj) rfl dX6_owedBy_9 ?_
    refine v_icmp_geN (pc := 12) (by omega) (by omega) (tgt := 50) dX6_owedBy_12 rfl (fun c_12 => ?_) (fun c_12 => False.elim ((fun c => by omega) c_12))
    refine v_iload_n (pc := 50) 2 dX6_owedBy_50 rfl rfl ?_
    exact v_iret (pc := 51) dX6_owedBy_51 (⟨rfl, rfl⟩)
  · intro i hi ih
    refine v_iload_n (pc := 4) 3 dX6_owedBy_4 rfl rfl ?_
    refine v_aload_n (pc := 5) 0 dX6_owedBy_5 rfl rfl ?_
    refine g_X6_19 (pc := 6) (cUr_obj hU) (by decide) rfl dX6_owedBy_6 ?_
    refine g_X6_110 (pc := 9) (cPr_obj hj hP) (pad_lt0 hj) rfl dX6_owedBy_9 ?_
    refine v_icmp_geN (pc := 12) (by omega) (by omega) (tgt := 50) dX6_owedBy_12 rfl (fun c_12 => False.elim ((fun c => by omega) c_12)) (fun c_12 => ?_)
    refine v_iload_n (pc := 15) 2 dX6_owedBy_15 rfl rfl ?_
    refine v_aload_n (pc := 16) 0 dX6_owedBy_16 rfl rfl ?_
    refine g_X6_19 (pc := 17) (cUr_obj hU) (by decide) rfl dX6_owedBy_17 ?_
    refine g_X6_189 (pc := 20) (cPr_obj hj hP) (pad_lt0 hj) rfl dX6_owedBy_20 ?_
    refine v_iload_n (pc := 23) 3 dX6_owedBy_23 rfl rfl ?_
    refine v_ialdN (pc := 24) (cPr_dt hj hP) (pad_lt hj (by decide)) (by omega) (by decide) dX6_owedBy_24 ?_
    refine v_iload_n (pc := 25) 1 dX6_owedBy_25 rfl rfl ?_
    refine v_icmp_ne (pc := 26) (tgt := 41) dX6_owedBy_26 rfl (fun c_26 => ?_) (fun c_26 => ?_)
    · refine v_iconst (pc := 41) (nI 0) dX6_owedBy_41 kI_0 ?_
      refine v_iadd (pc := 42) dX6_owedBy_42 ?_
      refine v_istore_n (pc := 43) [1, 2, 0, 3] [(0, _), (1, _), (2, _), (3, _)] dX6_owedBy_43 rfl (by decide) rfl ?_
      refine v_iincN (pc := 44) 3 [1, 2, 3, 0] [(0, _), (1, _), (2, _), (3, _)] kI_1 dX6_owedBy_44 rfl (by decide) rfl ?_
      refine v_goto (pc := 47) (tgt := 4) dX6_owedBy_47 rfl ?_
      first
        | (rw [owI_t (by assumption)] at ih; exact ih)
        | (rw [owI_f (by assumption)] at ih; exact ih)
    · refine v_aload_n (pc := 29) 0 dX6_owedBy_29 rfl rfl ?_
      refine g_X6_29 (pc := 30) (cUr_obj hU) (by decide) rfl dX6_owedBy_30 ?_
      refine g_X6_195 (pc := 33) (cFr_obj (k := 0) (by decide) hG) (adr_lt0 (k := 0) (by decide)) rfl dX6_owedBy_33 ?_
      refine v_iload_n (pc := 36) 3 dX6_owedBy_36 rfl rfl ?_
      refine v_ialdN (pc := 37) (cFr_o (k := 0) (by decide) hG) (adr_lt (k := 0) (by decide) (by decide)) (by omega) (by decide) dX6_owedBy_37 ?_
      refine v_goto (pc := 38) (tgt := 42) dX6_owedBy_38 rfl ?_
      refine v_iadd (pc := 42) dX6_owedBy_42 ?_
      refine v_istore_n (pc := 43) [1, 2, 0, 3] [(0, _), (1, _), (2, _), (3, _)] dX6_owedBy_43 rfl (by decide) rfl ?_
      refine v_iincN (pc := 44) 3 [1, 2, 3, 0] [(0, _), (1, _), (2, _), (3, _)] kI_1 dX6_owedBy_44 rfl (by decide) rfl ?_
      refine v_goto (pc := 47) (tgt := 4) dX6_owedBy_47 rfl ?_
      first
        | (rw [owI_t (by assumption)] at ih; exact ih)
        | (rw [owI_f (by assumption)] at ih; exact ih)
set_option maxHeartbeats 4000000 in
set_option maxRecDepth 100000 in
theorem c_owTo {E : Ev} {σ : Sg} {dj : Nat} {se : Int32} {is it oo : Fn} {j np nd : Nat} {sd du tr : Int32} {kd bd dr dt cr ow : Fn} (hj : j < 2) (hP : gP σ j = (sd, du, tr, nI np, nI nd, kd, bd, dr, dt, cr, ow)) (hnp : np ≤ 7) (hnd : nd ≤ 9) (hU : gU σ = (j, dj, se, is, it, oo)) {t hr nt rg pe : Int32} {b c o p : Fn} (hG : gF σ 0 = (t, hr, nt, rg, pe, b, c, o, p)) (a : Int32) : Ct E yX6_owedTo cX6_owedTo 4 (some .int) ({ frames := 0, cells := 0, slots := 0, locals := 0 } : Room) false 146 [.ref (Ez E + 0), .int a] (cellOf E σ) 146 0 0 (Ff (some (.int (owI cr o a nd))) (cellOf E σ)) := by
  refine Ct.ofV (by decide) (Nat.le_of_ble_eq_true rfl) (fun X hnm => ?_)
  show V E X _ RX6 _ _ _ _ _ _ false 146 0 [(0, .ref (Ez E + 0)), (1, .int a)] [] _
  refine v_iconst (pc := 0) (nI 0) dX6_owedTo_0 kI_0 ?_
  refine v_istore_n (pc := 1) [1, 2, 0] [(0, _), (1, _), (2, _)] dX6_owedTo_1 rfl (by decide) rfl ?_
  refine v_iconst (pc := 2) (nI 0) dX6_owedTo_2 kI_0 ?_
  refine v_istore_n (pc := 3) [1, 2, 3, 0] [(0, _), (1, _), (2, _), (3, _)] dX6_owedTo_3 rfl (by decide) rfl ?_
  refine dn (P := fun i => V E X ({ frames := 0, cells := 0, slots := 0, locals := 0 } : Room) RX6 cX6_owedTo 4 (some .int) 0 0 (QX E X false 146 (Ff (some (.int (owI cr o a nd))) (cellOf E σ)) 0 0) false 146 4 [(0, .ref (Ez E + 0)), (1, .int a), (2, .int (owI cr o a i)), (3, .int (nI i))] [] (cellOf E σ)) (N := nd) ?_ ?_
  · refine v_iload_n (pc := 4) 3 dX6_owedTo_4 rfl rfl ?_
    refine v_aload_n (pc := 5) 0 dX6_owedTo_5 rfl rfl ?_
    refine g_X6_19 (pc := 6) (cUr_obj hU) (by decide) rfl dX6_owedTo_6 ?_
    refine g_X6_110 (pc := 9) (cPr_obj hj hP) (pad_lt0 hj) rfl dX6_owedTo_9 ?_
    refine v_icmp_geN (pc := 12) (by omega) (by omega) (tgt := 50) dX6_owedTo_12 rfl (fun c_12 => ?_) (fun c_12 => False.elim ((fun c => by omega) c_12))
    refine v_iload_n (pc := 50) 2 dX6_owedTo_50 rfl rfl ?_
    exact v_iret (pc := 51) dX6_owedTo_51 (⟨rfl, rfl⟩)
  · intro i hi ih
    refine v_iload_n (pc := 4) 3 dX6_owedTo_4 rfl rfl ?_
    refine v_aload_n (pc := 5) 0 dX6_owedTo_5 rfl rfl ?_
    refine g_X6_19 (pc := 6) (cUr_obj hU) (by decide) rfl dX6_owedTo_6 ?_
    refine g_X6_110 (pc := 9) (cPr_obj hj hP) (pad_lt0 hj) rfl dX6_owedTo_9 ?_
    refine v_icmp_geN (pc := 12) (by omega) (by omega) (tgt := 50) dX6_owedTo_12 rfl (fun c_12 => False.elim ((fun c => by omega) c_12)) (fun c_12 => ?_)
    refine v_iload_n (pc := 15) 2 dX6_owedTo_15 rfl rfl ?_
    refine v_aload_n (pc := 16) 0 dX6_owedTo_16 rfl rfl ?_
    refine g_X6_19 (pc := 17) (cUr_obj hU) (by decide) rfl dX6_owedTo_17 ?_
    refine g_X6_192 (pc := 20) (cPr_obj hj hP) (pad_lt0 hj) rfl dX6_owedTo_20 ?_
    refine v_iload_n (pc := 23) 3 dX6_owedTo_23 rfl rfl ?_
    refine v_ialdN (pc := 24) (cPr_cr hj hP) (pad_lt hj (by decide)) (by omega) (by decide) dX6_owedTo_24 ?_
    refine v_iload_n (pc := 25) 1 dX6_owedTo_25 rfl rfl ?_
    refine v_icmp_ne (pc := 26) (tgt := 41) dX6_owedTo_26 rfl (fun c_26 => ?_) (fun c_26 => ?_)
    · refine v_iconst (pc := 41) (nI 0) dX6_owedTo_41 kI_0 ?_
      refine v_iadd (pc := 42) dX6_owedTo_42 ?_
      refine v_istore_n (pc := 43) [1, 2, 0, 3] [(0, _), (1, _), (2, _), (3, _)] dX6_owedTo_43 rfl (by decide) rfl ?_
      refine v_iincN (pc := 44) 3 [1, 2, 3, 0] [(0, _), (1, _), (2, _), (3, _)] kI_1 dX6_owedTo_44 rfl (by decide) rfl ?_
      refine v_goto (pc := 47) (tgt := 4) dX6_owedTo_47 rfl ?_
      first
        | (rw [owI_t (by assumption)] at ih; exact ih)
        | (rw [owI_f (by assumption)] at ih; exact ih)
    · refine v_aload_n (pc := 29) 0 dX6_owedTo_29 rfl rfl ?_
      refine g_X6_29 (pc := 30) (cUr_obj hU) (by decide) rfl dX6_owedTo_30 ?_
      refine g_X6_195 (pc := 33) (cFr_obj (k := 0) (by decide) hG) (adr_lt0 (k := 0) (by decide)) rfl dX6_owedTo_33 ?_
      refine v_iload_n (pc := 36) 3 dX6_owedTo_36 rfl rfl ?_
      refine v_ialdN (pc := 37) (cFr_o (k := 0) (by decide) hG) (adr_lt (k := 0) (by decide) (by decide)) (by omega) (by decide) dX6_owedTo_37 ?_
      refine v_goto (pc := 38) (tgt := 42) dX6_owedTo_38 rfl ?_
      refine v_iadd (pc := 42) dX6_owedTo_42 ?_
      refine v_istore_n (pc := 43) [1, 2, 0, 3] [(0, _), (1, _), (2, _), (3, _)] dX6_owedTo_43 rfl (by decide) rfl ?_
      refine v_iincN (pc := 44) 3 [1, 2, 3, 0] [(0, _), (1, _), (2, _), (3, _)] kI_1 dX6_owedTo_44 rfl (by decide) rfl ?_
      refine v_goto (pc := 47) (tgt := 4) dX6_owedTo_47 rfl ?_
      first
        | (rw [owI_t (by assumption)] at ih; exact ih)
        | (rw [owI_f (by assumption)] at ih; exact ih)
set_option maxHeartbeats 4000000 in
set_option maxRecDepth 100000 in
theorem c_owAll {E : Ev} {σ : Sg} {dj : Nat} {se : Int32} {is it oo : Fn} {j np nd : Nat} {sd du tr : Int32} {kd bd dr dt cr ow : Fn} (hj : j < 2) (hP : gP σ j = (sd, du, tr, nI np, nI nd, kd, bd, dr, dt, cr, ow)) (hnp : np ≤ 7) (hnd : nd ≤ 9) (hU : gU σ = (j, dj, se, is, it, oo)) {t hr nt rg pe : Int32} {b c o p : Fn} (hG : gF σ 0 = (t, hr, nt, rg, pe, b, c, o, p))  : Ct E yX6_owedInAll cX6_owedInAll 3 (some .int) ({ frames := 0, cells := 0, slots := 0, locals := 0 } : Room) false 146 [.ref (Ez E + 0)] (cellOf E σ) 146 0 0 (Ff (some (.int (sm o nd))) (cellOf E σ)) := by
  refine Ct.ofV (by decide) (Nat.le_of_ble_eq_true rfl) (fun X hnm => ?_)
  show V E X _ RX6 _ _ _ _ _ _ false 146 0 [(0, .ref (Ez E + 0))] [] _
  refine v_iconst (pc := 0) (nI 0) dX6_owedInAll_0 kI_0 ?_
  refine v_istore_n (pc := 1) [1, 0] [(0, _), (1, _)] dX6_owedInAll_1 rfl (by decide) rfl ?_
  refine v_iconst (pc := 2) (nI 0) dX6_owedInAll_2 kI_0 ?_
  refine v_istore_n (pc := 3) [1, 2, 0] [(0, _), (1, _), (2, _)] dX6_owedInAll_3 rfl (by decide) rfl ?_
  refine dn (P := fun i => V E X ({ frames := 0, cells := 0, slots := 0, locals := 0 } : Room) RX6 cX6_owedInAll 3 (some .int) 0 0 (QX E X false 146 (Ff (some (.int (sm o nd))) (cellOf E σ)) 0 0) false 146 4 [(0, .ref (Ez E + 0)), (1, .int (sm o i)), (2, .int (nI i))] [] (cellOf E σ)) (N := nd) ?_ ?_
  · refine v_iload_n (pc := 4) 2 dX6_owedInAll_4 rfl rfl ?_
    refine v_aload_n (pc := 5) 0 dX6_owedInAll_5 rfl rfl ?_
    refine g_X6_19 (pc := 6) (cUr_obj hU) (by decide) rfl dX6_owedInAll_6 ?_
    refine g_X6_110 (pc := 9) (cPr_obj hj hP) (pad_lt0 hj) rfl dX6_owedInAll_9 ?_
    refine v_icmp_geN (pc := 12) (by omega) (by omega) (tgt := 33) dX6_owedInAll_12 rfl (fun c_12 => ?_) (fun c_12 => False.elim ((fun c => by omega) c_12))
    refine v_iload_n (pc := 33) 1 dX6_owedInAll_33 rfl rfl ?_
    exact v_iret (pc := 34) dX6_owedInAll_34 (⟨rfl, rfl⟩)
  · intro i hi ih
    refine v_iload_n (pc := 4) 2 dX6_owedInAll_4 rfl rfl ?_
    refine v_aload_n (pc := 5) 0 dX6_owedInAll_5 rfl rfl ?_
    refine g_X6_19 (pc := 6) (cUr_obj hU) (by decide) rfl dX6_owedInAll_6 ?_
    refine g_X6_110 (pc := 9) (cPr_obj hj hP) (pad_lt0 hj) rfl dX6_owedInAll_9 ?_
    refine v_icmp_geN (pc := 12) (by omega) (by omega) (tgt := 33) dX6_owedInAll_12 rfl (fun c_12 => False.elim ((fun c => by omega) c_12)) (fun c_12 => ?_)
    refine v_iload_n (pc := 15) 1 dX6_owedInAll_15 rfl rfl ?_
    refine v_aload_n (pc := 16) 0 dX6_owedInAll_16 rfl rfl ?_
    refine g_X6_29 (pc := 17) (cUr_obj hU) (by decide) rfl dX6_owedInAll_17 ?_
    refine g_X6_195 (pc := 20) (cFr_obj (k := 0) (by decide) hG) (adr_lt0 (k := 0) (by decide)) rfl dX6_owedInAll_20 ?_
    refine v_iload_n (pc := 23) 2 dX6_owedInAll_23 rfl rfl ?_
    refine v_ialdN (pc := 24) (cFr_o (k := 0) (by decide) hG) (adr_lt (k := 0) (by decide) (by decide)) (by omega) (by decide) dX6_owedInAll_24 ?_
    refine v_iadd (pc := 25) dX6_owedInAll_25 ?_
    refine v_istore_n (pc := 26) [1, 0, 2] [(0, _), (1, _), (2, _)] dX6_owedInAll_26 rfl (by decide) rfl ?_
    refine v_iincN (pc := 27) 2 [1, 2, 0] [(0, _), (1, _), (2, _)] kI_1 dX6_owedInAll_27 rfl (by decide) rfl ?_
    refine v_goto (pc := 30) (tgt := 4) dX6_owedInAll_30 rfl ?_
    exact ih
def suspI (F : FlockV) (kd wa : Fn) (ws n : Nat) : Int32 := itn (fun i s => if allW wa (fl_drawn F kd (nI i) n) ws = true then s ||| (nI 1 <<< (nI i &&& 31)) else s) n (nI 0)
set_option maxHeartbeats 4000000 in
set_option maxRecDepth 100000 in
theorem c_susp {E : Ev} {σ : Sg} {dj : Nat} {se : Int32} {is it oo : Fn} {j np nd : Nat} {sd du tr : Int32} {kd bd dr dt cr ow : Fn} (hj : j < 2) (hP : gP σ j = (sd, du, tr, nI np, nI nd, kd, bd, dr, dt, cr, ow)) (hnp : np ≤ 7) (hnd : nd ≤ 9) (hU : gU σ = (j, dj, se, is, it, oo)) {t hr nt rg pe : Int32} {b c o p : Fn} (hG : gF σ 0 = (t, hr, nt, rg, pe, b, c, o, p)) {wa df wf ep eb : Fn} {ws fs es : Nat} (hws : ws ≤ 6) (hfs : fs ≤ 6) (hes : es ≤ 15) (hS : gS σ = (wa, df, wf, ep, eb, nI ws, nI fs, nI es)) : Ct E yX6_suspects cX6_suspects 3 (some .int) ({ frames := 4, cells := 0, slots := 0, locals := 91 } : Room) false 146 [.ref (Ez E + 0)] (cellOf E σ) 146 0 0 (Ff (some (.int (suspI (t, hr, nt, rg, pe, b, c, o, p) kd wa ws np))) (cellOf E σ)) := by
  refine Ct.ofV (by decide) (Nat.le_of_ble_eq_true rfl) (fun X hnm => ?_)
  show V E X _ RX6 _ _ _ _ _ _ false 146 0 [(0, .ref (Ez E + 0))] [] _
  refine v_iconst (pc := 0) (nI 0) dX6_suspects_0 kI_0 ?_
  refine v_istore_n (pc := 1) [1, 0] [(0, _), (1, _)] dX6_suspects_1 rfl (by decide) rfl ?_
  refine v_iconst (pc := 2) (nI 0) dX6_suspects_2 kI_0 ?_
  refine v_istore_n (pc := 3) [1, 2, 0] [(0, _), (1, _), (2, _)] dX6_suspects_3 rfl (by decide) rfl ?_
  refine dn (P := fun i => V E X ({ frames := 4, cells := 0, slots := 0, locals := 91 } : Room) RX6 cX6_suspects 3 (some .int) 0 0 (QX E X false 146 (Ff (some (.int (suspI (t, hr, nt, rg, pe, b, c, o, p) kd wa ws np))) (cellOf E σ)) 0 0) false 146 4 [(0, .ref (Ez E + 0)), (1, .int (itn (fun i s => if allW wa (fl_drawn (t, hr, nt, rg, pe, b, c, o, p) kd (nI i) np) ws = true then s ||| (nI 1 <<< (nI i &&& 31)) else s) i (nI 0))), (2, .int (nI i))] [] (cellOf E σ)) (N := np) ?_ ?_
  · refine v_iload_n (pc := 4) 2 dX6_suspects_4 rfl rfl ?_
    refine v_aload_n (pc := 5) 0 dX6_suspects_5 rfl rfl ?_
    refine g_X6_19 (pc := 6) (cUr_obj hU) (by decide) rfl dX6_suspects_6 ?_
    refine g_X6_101 (pc := 9) (cPr_obj hj hP) (pad_lt0 hj) rfl dX6_suspects_9 ?_
    refine v_icmp_geN (pc := 12) (by omega) (by omega) (tgt := 49) dX6_suspects_12 rfl (fun c_12 => ?_) (fun c_12 => False.elim ((fun c => by omega) c_12))
    refine v_iload_n (pc := 49) 1 dX6_suspects_49 rfl rfl ?_
    exact v_iret (pc := 50) dX6_suspects_50 (⟨rfl, rfl⟩)
  · intro i hi ih
    refine v_iload_n (pc := 4) 2 dX6_suspects_4 rfl rfl ?_
    refine v_aload_n (pc := 5) 0 dX6_suspects_5 rfl rfl ?_
    refine g_X6_19 (pc := 6) (cUr_obj hU) (by decide) rfl dX6_suspects_6 ?_
    refine g_X6_101 (pc := 9) (cPr_obj hj hP) (pad_lt0 hj) rfl dX6_suspects_9 ?_
    refine v_icmp_geN (pc := 12) (by omega) (by omega) (tgt := 49) dX6_suspects_12 rfl (fun c_12 => False.elim ((fun c => by omega) c_12)) (fun c_12 => ?_)
    refine v_aload_n (pc := 15) 0 dX6_suspects_15 rfl rfl ?_
    refine g_X6_65 (pc := 16) (cUr_obj hU) (by decide) rfl dX6_suspects_16 ?_
    refine v_aload_n (pc := 19) 0 dX6_suspects_19 rfl rfl ?_
    refine g_X6_29 (pc := 20) (cUr_obj hU) (by decide) rfl dX6_suspects_20 ?_
    refine v_aload_n (pc := 23) 0 dX6_suspects_23 rfl rfl ?_
    refine g_X6_19 (pc := 24) (cUr_obj hU) (by decide) rfl dX6_suspects_24 ?_
    refine v_iload_n (pc := 27) 2 dX6_suspects_27 rfl rfl ?_
    refine v_callV (pc := 28) _ _ k_X6_319 (cFr_obj (k := 0) (by decide) hG) rfl (adr_lt0 (k := 0) (by decide)) (k_drawn (by decide) hG hj hP hnp hnd _) ⟨rfl, rfl, by decide⟩ rfl rfl (Nat.le_of_ble_eq_true rfl) ⟨Nat.le_of_ble_eq_true rfl, Nat.le_of_ble_eq_true rfl⟩ dX6_suspects_28 (unS ?_)
    show V E X _ RX6 _ _ _ 0 0 _ false 146 31 _ [_, _] _
    refine v_callV (pc := 31) _ _ k_X6_323 (cSr_obj hS) rfl (by decide) (k_allW hws hfs hes hS _) ⟨rfl, rfl, by decide⟩ rfl rfl (Nat.le_of_ble_eq_true rfl) ⟨Nat.le_of_ble_eq_true rfl, Nat.le_of_ble_eq_true rfl⟩ dX6_suspects_31 (unS ?_)
    show V E X _ RX6 _ _ _ 0 0 _ false 146 34 _ [_] _
    refine v_if_eqB (pc := 34) (tgt := 43) dX6_suspects_34 rfl (fun c_34 => ?_) (fun c_34 => ?_)
    · refine v_iincN (pc := 43) 2 [1, 2, 0] [(0, _), (1, _), (2, _)] kI_1 dX6_suspects_43 rfl (by decide) rfl ?_
      refine v_goto (pc := 46) (tgt := 4) dX6_suspects_46 rfl ?_
      rw [itn_s] at ih
      first
        | (rw [if_pos (by assumption)] at ih; exact ih)
        | (rw [if_neg (by rw [show allW wa _ ws = false by assumption]; decide)] at ih; exact ih)
    · refine v_iload_n (pc := 37) 1 dX6_suspects_37 rfl rfl ?_
      refine v_iconst (pc := 38) (nI 1) dX6_suspects_38 kI_1 ?_
      refine v_iload_n (pc := 39) 2 dX6_suspects_39 rfl rfl ?_
      refine v_ishl (pc := 40) dX6_suspects_40 ?_
      refine v_ior (pc := 41) dX6_suspects_41 ?_
      refine v_istore_n (pc := 42) [1, 0, 2] [(0, _), (1, _), (2, _)] dX6_suspects_42 rfl (by decide) rfl ?_
      refine v_iincN (pc := 43) 2 [1, 2, 0] [(0, _), (1, _), (2, _)] kI_1 dX6_suspects_43 rfl (by decide) rfl ?_
      refine v_goto (pc := 46) (tgt := 4) dX6_suspects_46 rfl ?_
      rw [itn_s] at ih
      first
        | (rw [if_pos (by assumption)] at ih; exact ih)
        | (rw [if_neg (by rw [show allW wa _ ws = false by assumption]; decide)] at ih; exact ih)
def cUNK : Int32 := -1000000001
def cOUT : Int32 := -1000000002
def cNOT : Int32 := -1000000003
def cFUL : Int32 := -1000000004
def refI (sd hr n : Int32) : Int32 := if outB n (nI 1) (nI 60) = true then cOUT else if sd = 0 then cNOT else if hr ≤ nI 9000 then nI 0 else cFUL
set_option maxHeartbeats 4000000 in
set_option maxRecDepth 100000 in
theorem c_refu {E : Ev} {σ : Sg} {dj : Nat} {se : Int32} {is it oo : Fn} {j np nd : Nat} {sd du tr : Int32} {kd bd dr dt cr ow : Fn} (hj : j < 2) (hP : gP σ j = (sd, du, tr, nI np, nI nd, kd, bd, dr, dt, cr, ow)) (hnp : np ≤ 7) (hnd : nd ≤ 9) (hU : gU σ = (j, dj, se, is, it, oo)) {t hr nt rg pe : Int32} {b c o p : Fn} (hG : gF σ 0 = (t, hr, nt, rg, pe, b, c, o, p)) (n : Int32) : Ct E yX6_refusalOfHours cX6_refusalOfHours 2 (some .int) ({ frames := 1, cells := 0, slots := 0, locals := 22 } : Room) false 146 [.ref (Ez E + 0), .int n] (cellOf E σ) 146 0 0 (Ff (some (.int (refI sd hr n))) (cellOf E σ)) := by
  refine Ct.ofV (by decide) (Nat.le_of_ble_eq_true rfl) (fun X hnm => ?_)
  show V E X _ RX6 _ _ _ _ _ _ false 146 0 [(0, .ref (Ez E + 0)), (1, .int n)] [] _
  refine v_iload_n (pc := 0) 1 dX6_refusalOfHours_0 rfl rfl ?_
  refine v_iconst (pc := 1) (nI 1) dX6_refusalOfHours_1 kI_1 ?_
  refine v_bipush (pc := 2) (nI 60) dX6_refusalOfHours_2 kB_60 ?_
  refine v_callS (pc := 4) _ _ k_X6_76 (c_isOutside _ _ _) ⟨rfl, rfl, by decide⟩ rfl rfl (Nat.le_of_ble_eq_true rfl) ⟨Nat.le_of_ble_eq_true rfl, Nat.le_of_ble_eq_true rfl⟩ dX6_refusalOfHours_4 (unS ?_)
  show V E X _ RX6 _ _ _ 0 0 _ false 146 7 _ [_] _
  refine v_if_eqB (pc := 7) (tgt := 13) dX6_refusalOfHours_7 rfl (fun c_7 => ?_) (fun c_7 => ?_)
  · refine v_aload_n (pc := 13) 0 dX6_refusalOfHours_13 rfl rfl ?_
    refine g_X6_19 (pc := 14) (cUr_obj hU) (by decide) rfl dX6_refusalOfHours_14 ?_
    refine g_X6_218 (pc := 17) (cPr_obj hj hP) (pad_lt0 hj) rfl dX6_refusalOfHours_17 ?_
    refine v_if_ne (pc := 20) (tgt := 26) dX6_refusalOfHours_20 rfl (fun c_20 => ?_) (fun c_20 => ?_)
    · refine v_aload_n (pc := 26) 0 dX6_refusalOfHours_26 rfl rfl ?_
      refine g_X6_29 (pc := 27) (cUr_obj hU) (by decide) rfl dX6_refusalOfHours_27 ?_
      refine g_X6_113 (pc := 30) (cFr_obj (k := 0) (by decide) hG) (adr_lt0 (k := 0) (by decide)) rfl dX6_refusalOfHours_30 ?_
      refine v_sipush (pc := 33) (nI 9000) dX6_refusalOfHours_33 kS_9000 ?_
      refine v_icmp_le (pc := 36) (tgt := 44) dX6_refusalOfHours_36 rfl (fun c_36 => ?_) (fun c_36 => ?_)
      · refine v_iconst (pc := 44) (nI 0) dX6_refusalOfHours_44 kI_0 ?_
        exact v_iret (pc := 45) dX6_refusalOfHours_45 (⟨by unfold refI; rw [if_neg (by rw [c_7]; decide), if_neg c_20]; rw [if_pos (by assumption)], rfl⟩)
      · refine v_ldc (pc := 39) _ kc_X6_84 dX6_refusalOfHours_39 rfl ?_
        refine v_goto (pc := 41) (tgt := 45) dX6_refusalOfHours_41 rfl ?_
        exact v_iret (pc := 45) dX6_refusalOfHours_45 (⟨by unfold refI; rw [if_neg (by rw [c_7]; decide), if_neg c_20]; rw [if_neg (by first | assumption | exact Int32.not_le.mpr (by assumption))]; rfl, rfl⟩)
    · refine v_ldc (pc := 23) _ kc_X6_201 dX6_refusalOfHours_23 rfl ?_
      exact v_iret (pc := 25) dX6_refusalOfHours_25 (⟨by unfold refI; rw [if_neg (by rw [c_7]; decide), if_pos c_20]; rfl, rfl⟩)
  · refine v_ldc (pc := 10) _ kc_X6_80 dX6_refusalOfHours_10 rfl ?_
    exact v_iret (pc := 12) dX6_refusalOfHours_12 (⟨by unfold refI; rw [if_pos c_7]; rfl, rfl⟩)
