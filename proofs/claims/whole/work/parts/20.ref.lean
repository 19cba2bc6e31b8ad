/-! the reference, its rows and numbers by name -/
def mkA (xP xR xW xS xZ xG xK xT xQ xF xB xL xC : Fn) : Nat → Fn
  | 0 => xP | 1 => xR | 2 => xW | 3 => xS | 4 => xZ | 5 => xG | 6 => xK | 7 => xT | 8 => xQ | 9 => xF | 10 => xB | 11 => xL | _ => xC
theorem mkA_up0 {xP xR xW xS xZ xG xK xT xQ xF xB xL xC : Fn} {v_ : Fn} : va_up (mkA xP xR xW xS xZ xG xK xT xQ xF xB xL xC) 0 v_ = mkA v_ xR xW xS xZ xG xK xT xQ xF xB xL xC := by
  funext i
  match i with
  | 0 => rfl
  | 1 => rfl
  | 2 => rfl
  | 3 => rfl
  | 4 => rfl
  | 5 => rfl
  | 6 => rfl
  | 7 => rfl
  | 8 => rfl
  | 9 => rfl
  | 10 => rfl
  | 11 => rfl
  | _ + 12 => rfl
theorem mkA_up1 {xP xR xW xS xZ xG xK xT xQ xF xB xL xC : Fn} {v_ : Fn} : va_up (mkA xP xR xW xS xZ xG xK xT xQ xF xB xL xC) 1 v_ = mkA xP v_ xW xS xZ xG xK xT xQ xF xB xL xC := by
  funext i
  match i with
  | 0 => rfl
  | 1 => rfl
  | 2 => rfl
  | 3 => rfl
  | 4 => rfl
  | 5 => rfl
  | 6 => rfl
  | 7 => rfl
  | 8 => rfl
  | 9 => rfl
  | 10 => rfl
  | 11 => rfl
  | _ + 12 => rfl
theorem mkA_up2 {xP xR xW xS xZ xG xK xT xQ xF xB xL xC : Fn} {v_ : Fn} : va_up (mkA xP xR xW xS xZ xG xK xT xQ xF xB xL xC) 2 v_ = mkA xP xR v_ xS xZ xG xK xT xQ xF xB xL xC := by
  funext i
  match i with
  | 0 => rfl
  | 1 => rfl
  | 2 => rfl
  | 3 => rfl
  | 4 => rfl
  | 5 => rfl
  | 6 => rfl
  | 7 => rfl
  | 8 => rfl
  | 9 => rfl
  | 10 => rfl
  | 11 => rfl
  | _ + 12 => rfl
theorem mkA_up3 {xP xR xW xS xZ xG xK xT xQ xF xB xL xC : Fn} {v_ : Fn} : va_up (mkA xP xR xW xS xZ xG xK xT xQ xF xB xL xC) 3 v_ = mkA xP xR xW v_ xZ xG xK xT xQ xF xB xL xC := by
  funext i
  match i with
  | 0 => rfl
  | 1 => rfl
  | 2 => rfl
  | 3 => rfl
  | 4 => rfl
  | 5 => rfl
  | 6 => rfl
  | 7 => rfl
  | 8 => rfl
  | 9 => rfl
  | 10 => rfl
  | 11 => rfl
  | _ + 12 => rfl
theorem mkA_up4 {xP xR xW xS xZ xG xK xT xQ xF xB xL xC : Fn} {v_ : Fn} : va_up (mkA xP xR xW xS xZ xG xK xT xQ xF xB xL xC) 4 v_ = mkA xP xR xW xS v_ xG xK xT xQ xF xB xL xC := by
  funext i
  match i with
  | 0 => rfl
  | 1 => rfl
  | 2 => rfl
  | 3 => rfl
  | 4 => rfl
  | 5 => rfl
  | 6 => rfl
  | 7 => rfl
  | 8 => rfl
  | 9 => rfl
  | 10 => rfl
  | 11 => rfl
  | _ + 12 => rfl
theorem mkA_up5 {xP xR xW xS xZ xG xK xT xQ xF xB xL xC : Fn} {v_ : Fn} : va_up (mkA xP xR xW xS xZ xG xK xT xQ xF xB xL xC) 5 v_ = mkA xP xR xW xS xZ v_ xK xT xQ xF xB xL xC := by
  funext i
  match i with
  | 0 => rfl
  | 1 => rfl
  | 2 => rfl
  | 3 => rfl
  | 4 => rfl
  | 5 => rfl
  | 6 => rfl
  | 7 => rfl
  | 8 => rfl
  | 9 => rfl
  | 10 => rfl
  | 11 => rfl
  | _ + 12 => rfl
theorem mkA_up6 {xP xR xW xS xZ xG xK xT xQ xF xB xL xC : Fn} {v_ : Fn} : va_up (mkA xP xR xW xS xZ xG xK xT xQ xF xB xL xC) 6 v_ = mkA xP xR xW xS xZ xG v_ xT xQ xF xB xL xC := by
  funext i
  match i with
  | 0 => rfl
  | 1 => rfl
  | 2 => rfl
  | 3 => rfl
  | 4 => rfl
  | 5 => rfl
  | 6 => rfl
  | 7 => rfl
  | 8 => rfl
  | 9 => rfl
  | 10 => rfl
  | 11 => rfl
  | _ + 12 => rfl
theorem mkA_up7 {xP xR xW xS xZ xG xK xT xQ xF xB xL xC : Fn} {v_ : Fn} : va_up (mkA xP xR xW xS xZ xG xK xT xQ xF xB xL xC) 7 v_ = mkA xP xR xW xS xZ xG xK v_ xQ xF xB xL xC := by
  funext i
  match i with
  | 0 => rfl
  | 1 => rfl
  | 2 => rfl
  | 3 => rfl
  | 4 => rfl
  | 5 => rfl
  | 6 => rfl
  | 7 => rfl
  | 8 => rfl
  | 9 => rfl
  | 10 => rfl
  | 11 => rfl
  | _ + 12 => rfl
theorem mkA_up8 {xP xR xW xS xZ xG xK xT xQ xF xB xL xC : Fn} {v_ : Fn} : va_up (mkA xP xR xW xS xZ xG xK xT xQ xF xB xL xC) 8 v_ = mkA xP xR xW xS xZ xG xK xT v_ xF xB xL xC := by
  funext i
  match i with
  | 0 => rfl
  | 1 => rfl
  | 2 => rfl
  | 3 => rfl
  | 4 => rfl
  | 5 => rfl
  | 6 => rfl
  | 7 => rfl
  | 8 => rfl
  | 9 => rfl
  | 10 => rfl
  | 11 => rfl
  | _ + 12 => rfl
theorem mkA_up9 {xP xR xW xS xZ xG xK xT xQ xF xB xL xC : Fn} {v_ : Fn} : va_up (mkA xP xR xW xS xZ xG xK xT xQ xF xB xL xC) 9 v_ = mkA xP xR xW xS xZ xG xK xT xQ v_ xB xL xC := by
  funext i
  match i with
  | 0 => rfl
  | 1 => rfl
  | 2 => rfl
  | 3 => rfl
  | 4 => rfl
  | 5 => rfl
  | 6 => rfl
  | 7 => rfl
  | 8 => rfl
  | 9 => rfl
  | 10 => rfl
  | 11 => rfl
  | _ + 12 => rfl
theorem mkA_up10 {xP xR xW xS xZ xG xK xT xQ xF xB xL xC : Fn} {v_ : Fn} : va_up (mkA xP xR xW xS xZ xG xK xT xQ xF xB xL xC) 10 v_ = mkA xP xR xW xS xZ xG xK xT xQ xF v_ xL xC := by
  funext i
  match i with
  | 0 => rfl
  | 1 => rfl
  | 2 => rfl
  | 3 => rfl
  | 4 => rfl
  | 5 => rfl
  | 6 => rfl
  | 7 => rfl
  | 8 => rfl
  | 9 => rfl
  | 10 => rfl
  | 11 => rfl
  | _ + 12 => rfl
theorem mkA_up11 {xP xR xW xS xZ xG xK xT xQ xF xB xL xC : Fn} {v_ : Fn} : va_up (mkA xP xR xW xS xZ xG xK xT xQ xF xB xL xC) 11 v_ = mkA xP xR xW xS xZ xG xK xT xQ xF xB v_ xC := by
  funext i
  match i with
  | 0 => rfl
  | 1 => rfl
  | 2 => rfl
  | 3 => rfl
  | 4 => rfl
  | 5 => rfl
  | 6 => rfl
  | 7 => rfl
  | 8 => rfl
  | 9 => rfl
  | 10 => rfl
  | 11 => rfl
  | _ + 12 => rfl
theorem cM_parish {E : Ev} {c : CSt} {xP xR xW xS xZ xG xK xT xQ xF xB xL xC : Fn} {I : IntV} {sd : Int64} : cellOf E (c, (mkA xP xR xW xS xZ xG xK xT xQ xF xB xL xC, I, sd)) 133 = .inl (EI E, 52, .inl xP) := cMr_a 0
theorem wM_parish {E : Ev} {c : CSt} {xP xR xW xS xZ xG xK xT xQ xF xB xL xC : Fn} {I : IntV} {sd : Int64} {v_ : Fn} (o' : Nat) (ho : o' < 146) : cellOf E (c, (mkA v_ xR xW xS xZ xG xK xT xQ xF xB xL xC, I, sd)) o' = va_up (cellOf E (c, (mkA xP xR xW xS xZ xG xK xT xQ xF xB xL xC, I, sd))) 133 (.inl (EI E, 52, .inl v_)) o' := by
  have h := wM_a (E := E) (c := c) (A := mkA xP xR xW xS xZ xG xK xT xQ xF xB xL xC) (I := I) (sd := sd) 0 (g := v_) o' ho
  rw [show va_up (mkA xP xR xW xS xZ xG xK xT xQ xF xB xL xC) 0 v_ = mkA v_ xR xW xS xZ xG xK xT xQ xF xB xL xC from mkA_up0] at h; exact h
theorem cM_read {E : Ev} {c : CSt} {xP xR xW xS xZ xG xK xT xQ xF xB xL xC : Fn} {I : IntV} {sd : Int64} : cellOf E (c, (mkA xP xR xW xS xZ xG xK xT xQ xF xB xL xC, I, sd)) 134 = .inl (EI E, 52, .inl xR) := cMr_a 1
theorem wM_read {E : Ev} {c : CSt} {xP xR xW xS xZ xG xK xT xQ xF xB xL xC : Fn} {I : IntV} {sd : Int64} {v_ : Fn} (o' : Nat) (ho : o' < 146) : cellOf E (c, (mkA xP v_ xW xS xZ xG xK xT xQ xF xB xL xC, I, sd)) o' = va_up (cellOf E (c, (mkA xP xR xW xS xZ xG xK xT xQ xF xB xL xC, I, sd))) 134 (.inl (EI E, 52, .inl v_)) o' := by
  have h := wM_a (E := E) (c := c) (A := mkA xP xR xW xS xZ xG xK xT xQ xF xB xL xC) (I := I) (sd := sd) 1 (g := v_) o' ho
  rw [show va_up (mkA xP xR xW xS xZ xG xK xT xQ xF xB xL xC) 1 v_ = mkA xP v_ xW xS xZ xG xK xT xQ xF xB xL xC from mkA_up1] at h; exact h
theorem cM_now {E : Ev} {c : CSt} {xP xR xW xS xZ xG xK xT xQ xF xB xL xC : Fn} {I : IntV} {sd : Int64} : cellOf E (c, (mkA xP xR xW xS xZ xG xK xT xQ xF xB xL xC, I, sd)) 135 = .inl (EI E, 48, .inl xW) := cMr_a 2
theorem wM_now {E : Ev} {c : CSt} {xP xR xW xS xZ xG xK xT xQ xF xB xL xC : Fn} {I : IntV} {sd : Int64} {v_ : Fn} (o' : Nat) (ho : o' < 146) : cellOf E (c, (mkA xP xR v_ xS xZ xG xK xT xQ xF xB xL xC, I, sd)) o' = va_up (cellOf E (c, (mkA xP xR xW xS xZ xG xK xT xQ xF xB xL xC, I, sd))) 135 (.inl (EI E, 48, .inl v_)) o' := by
  have h := wM_a (E := E) (c := c) (A := mkA xP xR xW xS xZ xG xK xT xQ xF xB xL xC) (I := I) (sd := sd) 2 (g := v_) o' ho
  rw [show va_up (mkA xP xR xW xS xZ xG xK xT xQ xF xB xL xC) 2 v_ = mkA xP xR v_ xS xZ xG xK xT xQ xF xB xL xC from mkA_up2] at h; exact h
theorem cM_aside {E : Ev} {c : CSt} {xP xR xW xS xZ xG xK xT xQ xF xB xL xC : Fn} {I : IntV} {sd : Int64} : cellOf E (c, (mkA xP xR xW xS xZ xG xK xT xQ xF xB xL xC, I, sd)) 136 = .inl (EI E, 48, .inl xS) := cMr_a 3
theorem wM_aside {E : Ev} {c : CSt} {xP xR xW xS xZ xG xK xT xQ xF xB xL xC : Fn} {I : IntV} {sd : Int64} {v_ : Fn} (o' : Nat) (ho : o' < 146) : cellOf E (c, (mkA xP xR xW v_ xZ xG xK xT xQ xF xB xL xC, I, sd)) o' = va_up (cellOf E (c, (mkA xP xR xW xS xZ xG xK xT xQ xF xB xL xC, I, sd))) 136 (.inl (EI E, 48, .inl v_)) o' := by
  have h := wM_a (E := E) (c := c) (A := mkA xP xR xW xS xZ xG xK xT xQ xF xB xL xC) (I := I) (sd := sd) 3 (g := v_) o' ho
  rw [show va_up (mkA xP xR xW xS xZ xG xK xT xQ xF xB xL xC) 3 v_ = mkA xP xR xW v_ xZ xG xK xT xQ xF xB xL xC from mkA_up3] at h; exact h
theorem cM_past {E : Ev} {c : CSt} {xP xR xW xS xZ xG xK xT xQ xF xB xL xC : Fn} {I : IntV} {sd : Int64} : cellOf E (c, (mkA xP xR xW xS xZ xG xK xT xQ xF xB xL xC, I, sd)) 137 = .inl (EI E, 768, .inl xZ) := cMr_a 4
theorem wM_past {E : Ev} {c : CSt} {xP xR xW xS xZ xG xK xT xQ xF xB xL xC : Fn} {I : IntV} {sd : Int64} {v_ : Fn} (o' : Nat) (ho : o' < 146) : cellOf E (c, (mkA xP xR xW xS v_ xG xK xT xQ xF xB xL xC, I, sd)) o' = va_up (cellOf E (c, (mkA xP xR xW xS xZ xG xK xT xQ xF xB xL xC, I, sd))) 137 (.inl (EI E, 768, .inl v_)) o' := by
  have h := wM_a (E := E) (c := c) (A := mkA xP xR xW xS xZ xG xK xT xQ xF xB xL xC) (I := I) (sd := sd) 4 (g := v_) o' ho
  rw [show va_up (mkA xP xR xW xS xZ xG xK xT xQ xF xB xL xC) 4 v_ = mkA xP xR xW xS v_ xG xK xT xQ xF xB xL xC from mkA_up4] at h; exact h
theorem cM_images {E : Ev} {c : CSt} {xP xR xW xS xZ xG xK xT xQ xF xB xL xC : Fn} {I : IntV} {sd : Int64} : cellOf E (c, (mkA xP xR xW xS xZ xG xK xT xQ xF xB xL xC, I, sd)) 138 = .inl (EI E, 98, .inl xG) := cMr_a 5
theorem wM_images {E : Ev} {c : CSt} {xP xR xW xS xZ xG xK xT xQ xF xB xL xC : Fn} {I : IntV} {sd : Int64} {v_ : Fn} (o' : Nat) (ho : o' < 146) : cellOf E (c, (mkA xP xR xW xS xZ v_ xK xT xQ xF xB xL xC, I, sd)) o' = va_up (cellOf E (c, (mkA xP xR xW xS xZ xG xK xT xQ xF xB xL xC, I, sd))) 138 (.inl (EI E, 98, .inl v_)) o' := by
  have h := wM_a (E := E) (c := c) (A := mkA xP xR xW xS xZ xG xK xT xQ xF xB xL xC) (I := I) (sd := sd) 5 (g := v_) o' ho
  rw [show va_up (mkA xP xR xW xS xZ xG xK xT xQ xF xB xL xC) 5 v_ = mkA xP xR xW xS xZ v_ xK xT xQ xF xB xL xC from mkA_up5] at h; exact h
theorem cM_kept {E : Ev} {c : CSt} {xP xR xW xS xZ xG xK xT xQ xF xB xL xC : Fn} {I : IntV} {sd : Int64} : cellOf E (c, (mkA xP xR xW xS xZ xG xK xT xQ xF xB xL xC, I, sd)) 139 = .inl (EZ E, 2, .inl xK) := cMr_a 6
theorem wM_kept {E : Ev} {c : CSt} {xP xR xW xS xZ xG xK xT xQ xF xB xL xC : Fn} {I : IntV} {sd : Int64} {v_ : Fn} (o' : Nat) (ho : o' < 146) : cellOf E (c, (mkA xP xR xW xS xZ xG v_ xT xQ xF xB xL xC, I, sd)) o' = va_up (cellOf E (c, (mkA xP xR xW xS xZ xG xK xT xQ xF xB xL xC, I, sd))) 139 (.inl (EZ E, 2, .inl v_)) o' := by
  have h := wM_a (E := E) (c := c) (A := mkA xP xR xW xS xZ xG xK xT xQ xF xB xL xC) (I := I) (sd := sd) 6 (g := v_) o' ho
  rw [show va_up (mkA xP xR xW xS xZ xG xK xT xQ xF xB xL xC) 6 v_ = mkA xP xR xW xS xZ xG v_ xT xQ xF xB xL xC from mkA_up6] at h; exact h
theorem cM_text {E : Ev} {c : CSt} {xP xR xW xS xZ xG xK xT xQ xF xB xL xC : Fn} {I : IntV} {sd : Int64} : cellOf E (c, (mkA xP xR xW xS xZ xG xK xT xQ xF xB xL xC, I, sd)) 140 = .inl (EI E, 240, .inl xT) := cMr_a 7
theorem wM_text {E : Ev} {c : CSt} {xP xR xW xS xZ xG xK xT xQ xF xB xL xC : Fn} {I : IntV} {sd : Int64} {v_ : Fn} (o' : Nat) (ho : o' < 146) : cellOf E (c, (mkA xP xR xW xS xZ xG xK v_ xQ xF xB xL xC, I, sd)) o' = va_up (cellOf E (c, (mkA xP xR xW xS xZ xG xK xT xQ xF xB xL xC, I, sd))) 140 (.inl (EI E, 240, .inl v_)) o' := by
  have h := wM_a (E := E) (c := c) (A := mkA xP xR xW xS xZ xG xK xT xQ xF xB xL xC) (I := I) (sd := sd) 7 (g := v_) o' ho
  rw [show va_up (mkA xP xR xW xS xZ xG xK xT xQ xF xB xL xC) 7 v_ = mkA xP xR xW xS xZ xG xK v_ xQ xF xB xL xC from mkA_up7] at h; exact h
theorem cM_watched {E : Ev} {c : CSt} {xP xR xW xS xZ xG xK xT xQ xF xB xL xC : Fn} {I : IntV} {sd : Int64} : cellOf E (c, (mkA xP xR xW xS xZ xG xK xT xQ xF xB xL xC, I, sd)) 141 = .inl (EI E, 6, .inl xQ) := cMr_a 8
theorem wM_watched {E : Ev} {c : CSt} {xP xR xW xS xZ xG xK xT xQ xF xB xL xC : Fn} {I : IntV} {sd : Int64} {v_ : Fn} (o' : Nat) (ho : o' < 146) : cellOf E (c, (mkA xP xR xW xS xZ xG xK xT v_ xF xB xL xC, I, sd)) o' = va_up (cellOf E (c, (mkA xP xR xW xS xZ xG xK xT xQ xF xB xL xC, I, sd))) 141 (.inl (EI E, 6, .inl v_)) o' := by
  have h := wM_a (E := E) (c := c) (A := mkA xP xR xW xS xZ xG xK xT xQ xF xB xL xC) (I := I) (sd := sd) 8 (g := v_) o' ho
  rw [show va_up (mkA xP xR xW xS xZ xG xK xT xQ xF xB xL xC) 8 v_ = mkA xP xR xW xS xZ xG xK xT v_ xF xB xL xC from mkA_up8] at h; exact h
theorem cM_felt {E : Ev} {c : CSt} {xP xR xW xS xZ xG xK xT xQ xF xB xL xC : Fn} {I : IntV} {sd : Int64} : cellOf E (c, (mkA xP xR xW xS xZ xG xK xT xQ xF xB xL xC, I, sd)) 142 = .inl (EI E, 18, .inl xF) := cMr_a 9
theorem wM_felt {E : Ev} {c : CSt} {xP xR xW xS xZ xG xK xT xQ xF xB xL xC : Fn} {I : IntV} {sd : Int64} {v_ : Fn} (o' : Nat) (ho : o' < 146) : cellOf E (c, (mkA xP xR xW xS xZ xG xK xT xQ v_ xB xL xC, I, sd)) o' = va_up (cellOf E (c, (mkA xP xR xW xS xZ xG xK xT xQ xF xB xL xC, I, sd))) 142 (.inl (EI E, 18, .inl v_)) o' := by
  have h := wM_a (E := E) (c := c) (A := mkA xP xR xW xS xZ xG xK xT xQ xF xB xL xC) (I := I) (sd := sd) 9 (g := v_) o' ho
  rw [show va_up (mkA xP xR xW xS xZ xG xK xT xQ xF xB xL xC) 9 v_ = mkA xP xR xW xS xZ xG xK xT xQ v_ xB xL xC from mkA_up9] at h; exact h
theorem cM_book {E : Ev} {c : CSt} {xP xR xW xS xZ xG xK xT xQ xF xB xL xC : Fn} {I : IntV} {sd : Int64} : cellOf E (c, (mkA xP xR xW xS xZ xG xK xT xQ xF xB xL xC, I, sd)) 143 = .inl (EI E, 30, .inl xB) := cMr_a 10
theorem wM_book {E : Ev} {c : CSt} {xP xR xW xS xZ xG xK xT xQ xF xB xL xC : Fn} {I : IntV} {sd : Int64} {v_ : Fn} (o' : Nat) (ho : o' < 146) : cellOf E (c, (mkA xP xR xW xS xZ xG xK xT xQ xF v_ xL xC, I, sd)) o' = va_up (cellOf E (c, (mkA xP xR xW xS xZ xG xK xT xQ xF xB xL xC, I, sd))) 143 (.inl (EI E, 30, .inl v_)) o' := by
  have h := wM_a (E := E) (c := c) (A := mkA xP xR xW xS xZ xG xK xT xQ xF xB xL xC) (I := I) (sd := sd) 10 (g := v_) o' ho
  rw [show va_up (mkA xP xR xW xS xZ xG xK xT xQ xF xB xL xC) 10 v_ = mkA xP xR xW xS xZ xG xK xT xQ xF v_ xL xC from mkA_up10] at h; exact h
theorem cM_loss {E : Ev} {c : CSt} {xP xR xW xS xZ xG xK xT xQ xF xB xL xC : Fn} {I : IntV} {sd : Int64} : cellOf E (c, (mkA xP xR xW xS xZ xG xK xT xQ xF xB xL xC, I, sd)) 144 = .inl (EI E, 7, .inl xL) := cMr_a 11
theorem wM_loss {E : Ev} {c : CSt} {xP xR xW xS xZ xG xK xT xQ xF xB xL xC : Fn} {I : IntV} {sd : Int64} {v_ : Fn} (o' : Nat) (ho : o' < 146) : cellOf E (c, (mkA xP xR xW xS xZ xG xK xT xQ xF xB v_ xC, I, sd)) o' = va_up (cellOf E (c, (mkA xP xR xW xS xZ xG xK xT xQ xF xB xL xC, I, sd))) 144 (.inl (EI E, 7, .inl v_)) o' := by
  have h := wM_a (E := E) (c := c) (A := mkA xP xR xW xS xZ xG xK xT xQ xF xB xL xC) (I := I) (sd := sd) 11 (g := v_) o' ho
  rw [show va_up (mkA xP xR xW xS xZ xG xK xT xQ xF xB xL xC) 11 v_ = mkA xP xR xW xS xZ xG xK xT xQ xF xB v_ xC from mkA_up11] at h; exact h
theorem cM_can {E : Ev} {c : CSt} {xP xR xW xS xZ xG xK xT xQ xF xB xL xC : Fn} {I : IntV} {sd : Int64} : cellOf E (c, (mkA xP xR xW xS xZ xG xK xT xQ xF xB xL xC, I, sd)) 145 = .inl (EI E, 512, .inl xC) := cMr_a 12
theorem wM_can {E : Ev} {c : CSt} {xP xR xW xS xZ xG xK xT xQ xF xB xL xC : Fn} {I : IntV} {sd : Int64} {v_ : Fn} (o' : Nat) (ho : o' < 146) : cellOf E (c, (mkA xP xR xW xS xZ xG xK xT xQ xF xB xL v_, I, sd)) o' = va_up (cellOf E (c, (mkA xP xR xW xS xZ xG xK xT xQ xF xB xL xC, I, sd))) 145 (.inl (EI E, 512, .inl v_)) o' := by
  have h := wM_a (E := E) (c := c) (A := mkA xP xR xW xS xZ xG xK xT xQ xF xB xL xC) (I := I) (sd := sd) 12 (g := v_) o' ho
  refine Eq.trans ?_ h
  by_cases hlt : o' < 132
  · exact (cM_out E (c, (mkA xP xR xW xS xZ xG xK xT xQ xF xB xL xC, I, sd)) (mkA xP xR xW xS xZ xG xK xT xQ xF xB xL v_, I, sd) hlt).trans (cM_out E (c, (mkA xP xR xW xS xZ xG xK xT xQ xF xB xL xC, I, sd)) (va_up (mkA xP xR xW xS xZ xG xK xT xQ xF xB xL xC) 12 v_, I, sd) hlt).symm
  · obtain ⟨j, rfl⟩ : ∃ j, o' = 132 + j := ⟨o' - 132, by omega⟩
    rw [cM_at, cM_at]
    obtain ⟨un, sz, ft, wm, fm, bm, at_, bg, sg, fg, vl, wr⟩ := I
    match j, ho with
    | 0, _ => rfl
    | 1, _ => rfl
    | 2, _ => rfl
    | 3, _ => rfl
    | 4, _ => rfl
    | 5, _ => rfl
    | 6, _ => rfl
    | 7, _ => rfl
    | 8, _ => rfl
    | 9, _ => rfl
    | 10, _ => rfl
    | 11, _ => rfl
    | 12, _ => rfl
    | 13, _ => rfl
    | j + 14, ho => exact absurd ho (by omega)
theorem wM_un {E : Ev} {c : CSt} {A : Nat → Fn} {un sz ft wm fm bm at_ bg sg fg vl wr : Int32} {sd : Int64} {v_ : Int32} (o' : Nat) (ho : o' < 146) : cellOf E (c, (A, (v_, sz, ft, wm, fm, bm, at_, bg, sg, fg, vl, wr), sd)) o' = va_up (cellOf E (c, (A, (un, sz, ft, wm, fm, bm, at_, bg, sg, fg, vl, wr), sd))) 132 (.inr (7, [.ref (Ez E + 133), .ref (Ez E + 134), .ref (Ez E + 135), .ref (Ez E + 136), .ref (Ez E + 137), .int v_, .ref (Ez E + 138), .ref (Ez E + 139), .long sd, .ref (Ez E + 140), .int sz, .int ft, .ref (Ez E + 141), .int wm, .ref (Ez E + 142), .int fm, .ref (Ez E + 143), .int bm, .int at_, .int bg, .int sg, .int fg, .int vl, .int wr, .ref (Ez E + 144), .ref (Ez E + 145)])) o' := wM_i o' ho
theorem wM_sz {E : Ev} {c : CSt} {A : Nat → Fn} {un sz ft wm fm bm at_ bg sg fg vl wr : Int32} {sd : Int64} {v_ : Int32} (o' : Nat) (ho : o' < 146) : cellOf E (c, (A, (un, v_, ft, wm, fm, bm, at_, bg, sg, fg, vl, wr), sd)) o' = va_up (cellOf E (c, (A, (un, sz, ft, wm, fm, bm, at_, bg, sg, fg, vl, wr), sd))) 132 (.inr (7, [.ref (Ez E + 133), .ref (Ez E + 134), .ref (Ez E + 135), .ref (Ez E + 136), .ref (Ez E + 137), .int un, .ref (Ez E + 138), .ref (Ez E + 139), .long sd, .ref (Ez E + 140), .int v_, .int ft, .ref (Ez E + 141), .int wm, .ref (Ez E + 142), .int fm, .ref (Ez E + 143), .int bm, .int at_, .int bg, .int sg, .int fg, .int vl, .int wr, .ref (Ez E + 144), .ref (Ez E + 145)])) o' := wM_i o' ho
theorem wM_ft {E : Ev} {c : CSt} {A : Nat → Fn} {un sz ft wm fm bm at_ bg sg fg vl wr : Int32} {sd : Int64} {v_ : Int32} (o' : Nat) (ho : o' < 146) : cellOf E (c, (A, (un, sz, v_, wm, fm, bm, at_, bg, sg, fg, vl, wr), sd)) o' = va_up (cellOf E (c, (A, (un, sz, ft, wm, fm, bm, at_, bg, sg, fg, vl, wr), sd))) 132 (.inr (7, [.ref (Ez E + 133), .ref (Ez E + 134), .ref (Ez E + 135), .ref (Ez E + 136), .ref (Ez E + 137), .int un, .ref (Ez E + 138), .ref (Ez E + 139), .long sd, .ref (Ez E + 140), .int sz, .int v_, .ref (Ez E + 141), .int wm, .ref (Ez E + 142), .int fm, .ref (Ez E + 143), .int bm, .int at_, .int bg, .int sg, .int fg, .int vl, .int wr, .ref (Ez E + 144), .ref (Ez E + 145)])) o' := wM_i o' ho
theorem wM_wm {E : Ev} {c : CSt} {A : Nat → Fn} {un sz ft wm fm bm at_ bg sg fg vl wr : Int32} {sd : Int64} {v_ : Int32} (o' : Nat) (ho : o' < 146) : cellOf E (c, (A, (un, sz, ft, v_, fm, bm, at_, bg, sg, fg, vl, wr), sd)) o' = va_up (cellOf E (c, (A, (un, sz, ft, wm, fm, bm, at_, bg, sg, fg, vl, wr), sd))) 132 (.inr (7, [.ref (Ez E + 133), .ref (Ez E + 134), .ref (Ez E + 135), .ref (Ez E + 136), .ref (Ez E + 137), .int un, .ref (Ez E + 138), .ref (Ez E + 139), .long sd, .ref (Ez E + 140), .int sz, .int ft, .ref (Ez E + 141), .int v_, .ref (Ez E + 142), .int fm, .ref (Ez E + 143), .int bm, .int at_, .int bg, .int sg, .int fg, .int vl, .int wr, .ref (Ez E + 144), .ref (Ez E + 145)])) o' := wM_i o' ho
theorem wM_fm {E : Ev} {c : CSt} {A : Nat → Fn} {un sz ft wm fm bm at_ bg sg fg vl wr : Int32} {sd : Int64} {v_ : Int32} (o' : Nat) (ho : o' < 146) : cellOf E (c, (A, (un, sz, ft, wm, v_, bm, at_, bg, sg, fg, vl, wr), sd)) o' = va_up (cellOf E (c, (A, (un, sz, ft, wm, fm, bm, at_, bg, sg, fg, vl, wr), sd))) 132 (.inr (7, [.ref (Ez E + 133), .ref (Ez E + 134), .ref (Ez E + 135), .ref (Ez E + 136), .ref (Ez E + 137), .int un, .ref (Ez E + 138), .ref (Ez E + 139), .long sd, .ref (Ez E + 140), .int sz, .int ft, .ref (Ez E + 141), .int wm, .ref (Ez E + 142), .int v_, .ref (Ez E + 143), .int bm, .int at_, .int bg, .int sg, .int fg, .int vl, .int wr, .ref (Ez E + 144), .ref (Ez E + 145)])) o' := wM_i o' ho
theorem wM_bm {E : Ev} {c : CSt} {A : Nat → Fn} {un sz ft wm fm bm at_ bg sg fg vl wr : Int32} {sd : Int64} {v_ : Int32} (o' : Nat) (ho : o' < 146) : cellOf E (c, (A, (un, sz, ft, wm, fm, v_, at_, bg, sg, fg, vl, wr), sd)) o' = va_up (cellOf E (c, (A, (un, sz, ft, wm, fm, bm, at_, bg, sg, fg, vl, wr), sd))) 132 (.inr (7, [.ref (Ez E + 133), .ref (Ez E + 134), .ref (Ez E + 135), .ref (Ez E + 136), .ref (Ez E + 137), .int un, .ref (Ez E + 138), .ref (Ez E + 139), .long sd, .ref (Ez E + 140), .int sz, .int ft, .ref (Ez E + 141), .int wm, .ref (Ez E + 142), .int fm, .ref (Ez E + 143), .int v_, .int at_, .int bg, .int sg, .int fg, .int vl, .int wr, .ref (Ez E + 144), .ref (Ez E + 145)])) o' := wM_i o' ho
theorem wM_at_ {E : Ev} {c : CSt} {A : Nat → Fn} {un sz ft wm fm bm at_ bg sg fg vl wr : Int32} {sd : Int64} {v_ : Int32} (o' : Nat) (ho : o' < 146) : cellOf E (c, (A, (un, sz, ft, wm, fm, bm, v_, bg, sg, fg, vl, wr), sd)) o' = va_up (cellOf E (c, (A, (un, sz, ft, wm, fm, bm, at_, bg, sg, fg, vl, wr), sd))) 132 (.inr (7, [.ref (Ez E + 133), .ref (Ez E + 134), .ref (Ez E + 135), .ref (Ez E + 136), .ref (Ez E + 137), .int un, .ref (Ez E + 138), .ref (Ez E + 139), .long sd, .ref (Ez E + 140), .int sz, .int ft, .ref (Ez E + 141), .int wm, .ref (Ez E + 142), .int fm, .ref (Ez E + 143), .int bm, .int v_, .int bg, .int sg, .int fg, .int vl, .int wr, .ref (Ez E + 144), .ref (Ez E + 145)])) o' := wM_i o' ho
theorem wM_bg {E : Ev} {c : CSt} {A : Nat → Fn} {un sz ft wm fm bm at_ bg sg fg vl wr : Int32} {sd : Int64} {v_ : Int32} (o' : Nat) (ho : o' < 146) : cellOf E (c, (A, (un, sz, ft, wm, fm, bm, at_, v_, sg, fg, vl, wr), sd)) o' = va_up (cellOf E (c, (A, (un, sz, ft, wm, fm, bm, at_, bg, sg, fg, vl, wr), sd))) 132 (.inr (7, [.ref (Ez E + 133), .ref (Ez E + 134), .ref (Ez E + 135), .ref (Ez E + 136), .ref (Ez E + 137), .int un, .ref (Ez E + 138), .ref (Ez E + 139), .long sd, .ref (Ez E + 140), .int sz, .int ft, .ref (Ez E + 141), .int wm, .ref (Ez E + 142), .int fm, .ref (Ez E + 143), .int bm, .int at_, .int v_, .int sg, .int fg, .int vl, .int wr, .ref (Ez E + 144), .ref (Ez E + 145)])) o' := wM_i o' ho
theorem wM_sg {E : Ev} {c : CSt} {A : Nat → Fn} {un sz ft wm fm bm at_ bg sg fg vl wr : Int32} {sd : Int64} {v_ : Int32} (o' : Nat) (ho : o' < 146) : cellOf E (c, (A, (un, sz, ft, wm, fm, bm, at_, bg, v_, fg, vl, wr), sd)) o' = va_up (cellOf E (c, (A, (un, sz, ft, wm, fm, bm, at_, bg, sg, fg, vl, wr), sd))) 132 (.inr (7, [.ref (Ez E + 133), .ref (Ez E + 134), .ref (Ez E + 135), .ref (Ez E + 136), .ref (Ez E + 137), .int un, .ref (Ez E + 138), .ref (Ez E + 139), .long sd, .ref (Ez E + 140), .int sz, .int ft, .ref (Ez E + 141), .int wm, .ref (Ez E + 142), .int fm, .ref (Ez E + 143), .int bm, .int at_, .int bg, .int v_, .int fg, .int vl, .int wr, .ref (Ez E + 144), .ref (Ez E + 145)])) o' := wM_i o' ho
theorem wM_fg {E : Ev} {c : CSt} {A : Nat → Fn} {un sz ft wm fm bm at_ bg sg fg vl wr : Int32} {sd : Int64} {v_ : Int32} (o' : Nat) (ho : o' < 146) : cellOf E (c, (A, (un, sz, ft, wm, fm, bm, at_, bg, sg, v_, vl, wr), sd)) o' = va_up (cellOf E (c, (A, (un, sz, ft, wm, fm, bm, at_, bg, sg, fg, vl, wr), sd))) 132 (.inr (7, [.ref (Ez E + 133), .ref (Ez E + 134), .ref (Ez E + 135), .ref (Ez E + 136), .ref (Ez E + 137), .int un, .ref (Ez E + 138), .ref (Ez E + 139), .long sd, .ref (Ez E + 140), .int sz, .int ft, .ref (Ez E + 141), .int wm, .ref (Ez E + 142), .int fm, .ref (Ez E + 143), .int bm, .int at_, .int bg, .int sg, .int v_, .int vl, .int wr, .ref (Ez E + 144), .ref (Ez E + 145)])) o' := wM_i o' ho
theorem wM_vl {E : Ev} {c : CSt} {A : Nat → Fn} {un sz ft wm fm bm at_ bg sg fg vl wr : Int32} {sd : Int64} {v_ : Int32} (o' : Nat) (ho : o' < 146) : cellOf E (c, (A, (un, sz, ft, wm, fm, bm, at_, bg, sg, fg, v_, wr), sd)) o' = va_up (cellOf E (c, (A, (un, sz, ft, wm, fm, bm, at_, bg, sg, fg, vl, wr), sd))) 132 (.inr (7, [.ref (Ez E + 133), .ref (Ez E + 134), .ref (Ez E + 135), .ref (Ez E + 136), .ref (Ez E + 137), .int un, .ref (Ez E + 138), .ref (Ez E + 139), .long sd, .ref (Ez E + 140), .int sz, .int ft, .ref (Ez E + 141), .int wm, .ref (Ez E + 142), .int fm, .ref (Ez E + 143), .int bm, .int at_, .int bg, .int sg, .int fg, .int v_, .int wr, .ref (Ez E + 144), .ref (Ez E + 145)])) o' := wM_i o' ho
theorem wM_wr {E : Ev} {c : CSt} {A : Nat → Fn} {un sz ft wm fm bm at_ bg sg fg vl wr : Int32} {sd : Int64} {v_ : Int32} (o' : Nat) (ho : o' < 146) : cellOf E (c, (A, (un, sz, ft, wm, fm, bm, at_, bg, sg, fg, vl, v_), sd)) o' = va_up (cellOf E (c, (A, (un, sz, ft, wm, fm, bm, at_, bg, sg, fg, vl, wr), sd))) 132 (.inr (7, [.ref (Ez E + 133), .ref (Ez E + 134), .ref (Ez E + 135), .ref (Ez E + 136), .ref (Ez E + 137), .int un, .ref (Ez E + 138), .ref (Ez E + 139), .long sd, .ref (Ez E + 140), .int sz, .int ft, .ref (Ez E + 141), .int wm, .ref (Ez E + 142), .int fm, .ref (Ez E + 143), .int bm, .int at_, .int bg, .int sg, .int fg, .int vl, .int v_, .ref (Ez E + 144), .ref (Ez E + 145)])) o' := wM_i o' ho
theorem wM_sd {E : Ev} {c : CSt} {A : Nat → Fn} {un sz ft wm fm bm at_ bg sg fg vl wr : Int32} {sd : Int64} {v_ : Int64} (o' : Nat) (ho : o' < 146) : cellOf E (c, (A, (un, sz, ft, wm, fm, bm, at_, bg, sg, fg, vl, wr), v_)) o' = va_up (cellOf E (c, (A, (un, sz, ft, wm, fm, bm, at_, bg, sg, fg, vl, wr), sd))) 132 (.inr (7, [.ref (Ez E + 133), .ref (Ez E + 134), .ref (Ez E + 135), .ref (Ez E + 136), .ref (Ez E + 137), .int un, .ref (Ez E + 138), .ref (Ez E + 139), .long v_, .ref (Ez E + 140), .int sz, .int ft, .ref (Ez E + 141), .int wm, .ref (Ez E + 142), .int fm, .ref (Ez E + 143), .int bm, .int at_, .int bg, .int sg, .int fg, .int vl, .int wr, .ref (Ez E + 144), .ref (Ez E + 145)])) o' := wM_i o' ho
/-- whether a number lies within -/
def inB (v lo hi : Int32) : Bool := !(outB v lo hi)
theorem inB_t {v lo hi : Int32} (h1 : ¬ v < lo) (h2 : ¬ hi < v) : inB v lo hi = true := by
  unfold inB outB; rw [decide_eq_false (by rintro (q | q); exact h1 q; exact h2 q)]; rfl
theorem inB_f {v lo hi : Int32} (h : v < lo ∨ hi < v) : inB v lo hi = false := by
  unfold inB outB; rw [decide_eq_true h]; rfl
theorem l64_lt {a b : Int32} : a.toInt64 < b.toInt64 ↔ a < b := by
  rw [Int64.lt_iff_toInt_lt, Int32.lt_iff_toInt_lt, Int32.toInt_toInt64, Int32.toInt_toInt64]
set_option maxHeartbeats 4000000 in
set_option maxRecDepth 100000 in
theorem m_in {E : Ev} {B : Bool} {N : Nat} {h : Hp} (v lo hi : Int32) : Ct E yX7_in cX7_in 6 (some .boolean) ({ frames := 0, cells := 0, slots := 0, locals := 0 } : Room) B N [.long v.toInt64, .long lo.toInt64, .long hi.toInt64] h N 0 0 (Ff (some (.int (bI (inB v lo hi)))) h) := by
  refine Ct.ofV (by decide) (Nat.le_of_ble_eq_true rfl) (fun X hnm => ?_)
  show V E X _ RX7 _ _ _ _ _ _ B N 0 [(0, .long v.toInt64), (2, .long lo.toInt64), (4, .long hi.toInt64)] [] _
  refine v_lload_n (pc := 0) 0 dX7_in_0 rfl rfl ?_
  refine v_lload_n (pc := 1) 1 dX7_in_1 rfl rfl ?_
  refine v_lcmp (pc := 2) dX7_in_2 ?_
  refine v_if_lt (pc := 3) (tgt := 17) dX7_in_3 rfl (fun c_3 => ?_) (fun c_3 => ?_)
  · refine v_iconst (pc := 17) (nI 0) dX7_in_17 kI_0 ?_
    exact v_zret (pc := 18) dX7_in_18 ((by rfl)) (⟨by rw [inB_f (Or.inl (l64_lt.mp ((lg_cmp_lt _ _).mp c_3)))]; rfl, rfl⟩)
  · refine v_lload_n (pc := 6) 0 dX7_in_6 rfl rfl ?_
    refine v_lload (pc := 7) 2 dX7_in_7 rfl ?_
    refine v_lcmp (pc := 9) dX7_in_9 ?_
    refine v_if_gt (pc := 10) (tgt := 17) dX7_in_10 rfl (fun c_10 => ?_) (fun c_10 => ?_)
    · refine v_iconst (pc := 17) (nI 0) dX7_in_17 kI_0 ?_
      exact v_zret (pc := 18) dX7_in_18 ((by rfl)) (⟨by rw [inB_f (Or.inr (l64_lt.mp ((lg_cmp_gt _ _).mp (by first | exact c_10 | exact Int32.not_le.mp c_10))))]; rfl, rfl⟩)
    · refine v_iconst (pc := 13) (nI 1) dX7_in_13 kI_1 ?_
      refine v_goto (pc := 14) (tgt := 18) dX7_in_14 rfl ?_
      exact v_zret (pc := 18) dX7_in_18 ((by rfl)) (⟨by rw [inB_t (fun q => c_3 ((lg_cmp_lt _ _).mpr (l64_lt.mpr q))) (fun q => c_10 ((lg_cmp_gt _ _).mpr (l64_lt.mpr q)))]; rfl, rfl⟩)
set_option maxHeartbeats 4000000 in
set_option maxRecDepth 100000 in
theorem m_has {E : Ev} {B : Bool} {N : Nat} {h : Hp} (s k : Int32) : Ct E yX7_has cX7_has 2 (some .boolean) ({ frames := 0, cells := 0, slots := 0, locals := 0 } : Room) B N [.int s, .int k] h N 0 0 (Ff (some (.int (bI (hasB s k)))) h) := by
  refine Ct.ofV (by decide) (Nat.le_of_ble_eq_true rfl) (fun X hnm => ?_)
  show V E X _ RX7 _ _ _ _ _ _ B N 0 [(0, .int s), (1, .int k)] [] _
  refine v_iload_n (pc := 0) 0 dX7_has_0 rfl rfl ?_
  refine v_iload_n (pc := 1) 1 dX7_has_1 rfl rfl ?_
  refine v_ishr (pc := 2) dX7_has_2 ?_
  refine v_iconst (pc := 3) (nI 1) dX7_has_3 kI_1 ?_
  refine v_iand (pc := 4) dX7_has_4 ?_
  refine v_iconst (pc := 5) (nI 1) dX7_has_5 kI_1 ?_
  refine v_icmp_ne (pc := 6) (tgt := 13) dX7_has_6 rfl (fun c_6 => ?_) (fun c_6 => ?_)
  · refine v_iconst (pc := 13) (nI 0) dX7_has_13 kI_0 ?_
    exact v_zret (pc := 14) dX7_has_14 ((by rfl)) (⟨by rw [show hasB s k = false from decide_eq_false c_6]; rfl, rfl⟩)
  · refine v_iconst (pc := 9) (nI 1) dX7_has_9 kI_1 ?_
    refine v_goto (pc := 10) (tgt := 14) dX7_has_10 rfl ?_
    exact v_zret (pc := 14) dX7_has_14 ((by rfl)) (⟨by rw [show hasB s k = true from decide_eq_true c_6]; rfl, rfl⟩)
def lsI (v w : Int32) : Int32 := if v < w then v else w
def grI (v w : Int32) : Int32 := if v ≤ w then w else v
def plI (n : Int32) : Int32 := if n = 0 then nI 0 else n / nI 10 + nI 1
def lbI (k n : Int32) (w : Bool) : Int32 := if k = nI 1 then plI n / nI 2 else if k = nI 2 then nI 0 else if k = nI 3 then lsI n (nI 2 * plI n) else if k = nI 4 then (if w = true then nI 0 else plI n) else plI n
def loI (P s : Fn) (i : Nat) : Int32 := if hasB (s 14) (nI i) = true then nI 0 else lbI (P (4 + i)) (s (0 + i)) (decide (¬ s (7 + i) ≤ 0))
set_option maxHeartbeats 4000000 in
set_option maxRecDepth 100000 in
theorem m_lesser {E : Ev} {B : Bool} {N : Nat} {h : Hp} (v w : Int32) : Ct E yX7_lesser cX7_lesser 2 (some .int) ({ frames := 0, cells := 0, slots := 0, locals := 0 } : Room) B N [.int v, .int w] h N 0 0 (Ff (some (.int (lsI v w))) h) := by
  refine Ct.ofV (by decide) (Nat.le_of_ble_eq_true rfl) (fun X hnm => ?_)
  show V E X _ RX7 _ _ _ _ _ _ B N 0 [(0, .int v), (1, .int w)] [] _
  refine v_iload_n (pc := 0) 0 dX7_lesser_0 rfl rfl ?_
  refine v_iload_n (pc := 1) 1 dX7_lesser_1 rfl rfl ?_
  refine v_icmp_ge (pc := 2) (tgt := 9) dX7_lesser_2 rfl (fun c_2 => ?_) (fun c_2 => ?_)
  · refine v_iload_n (pc := 9) 1 dX7_lesser_9 rfl rfl ?_
    exact v_iret (pc := 10) dX7_lesser_10 (⟨by rw [show lsI v w = _ from if_neg (Int32.not_lt.mpr c_2)], rfl⟩)
  · refine v_iload_n (pc := 5) 0 dX7_lesser_5 rfl rfl ?_
    refine v_goto (pc := 6) (tgt := 10) dX7_lesser_6 rfl ?_
    exact v_iret (pc := 10) dX7_lesser_10 (⟨by rw [show lsI v w = _ from if_pos (Int32.not_le.mp c_2)], rfl⟩)
set_option maxHeartbeats 4000000 in
set_option maxRecDepth 100000 in
theorem m_greater {E : Ev} {B : Bool} {N : Nat} {h : Hp} (v w : Int32) : Ct E yX7_greater cX7_greater 2 (some .int) ({ frames := 0, cells := 0, slots := 0, locals := 0 } : Room) B N [.int v, .int w] h N 0 0 (Ff (some (.int (grI v w))) h) := by
  refine Ct.ofV (by decide) (Nat.le_of_ble_eq_true rfl) (fun X hnm => ?_)
  show V E X _ RX7 _ _ _ _ _ _ B N 0 [(0, .int v), (1, .int w)] [] _
  refine v_iload_n (pc := 0) 0 dX7_greater_0 rfl rfl ?_
  refine v_iload_n (pc := 1) 1 dX7_greater_1 rfl rfl ?_
  refine v_icmp_le (pc := 2) (tgt := 9) dX7_greater_2 rfl (fun c_2 => ?_) (fun c_2 => ?_)
  · refine v_iload_n (pc := 9) 1 dX7_greater_9 rfl rfl ?_
    exact v_iret (pc := 10) dX7_greater_10 (⟨by rw [show grI v w = _ from if_pos c_2], rfl⟩)
  · refine v_iload_n (pc := 5) 0 dX7_greater_5 rfl rfl ?_
    refine v_goto (pc := 6) (tgt := 10) dX7_greater_6 rfl ?_
    exact v_iret (pc := 10) dX7_greater_10 (⟨by rw [show grI v w = _ from if_neg c_2], rfl⟩)
set_option maxHeartbeats 4000000 in
set_option maxRecDepth 100000 in
theorem m_plain {E : Ev} {B : Bool} {N : Nat} {h : Hp} (n : Int32) : Ct E yX7_plainLoss cX7_plainLoss 1 (some .int) ({ frames := 0, cells := 0, slots := 0, locals := 0 } : Room) B N [.int n] h N 0 0 (Ff (some (.int (plI n))) h) := by
  refine Ct.ofV (by decide) (Nat.le_of_ble_eq_true rfl) (fun X hnm => ?_)
  show V E X _ RX7 _ _ _ _ _ _ B N 0 [(0, .int n)] [] _
  refine v_iload_n (pc := 0) 0 dX7_plainLoss_0 rfl rfl ?_
  refine v_if_ne (pc := 1) (tgt := 8) dX7_plainLoss_1 rfl (fun c_1 => ?_) (fun c_1 => ?_)
  · refine v_iload_n (pc := 8) 0 dX7_plainLoss_8 rfl rfl ?_
    refine v_bipush (pc := 9) (nI 10) dX7_plainLoss_9 kB_10 ?_
    refine v_idiv (pc := 11) dX7_plainLoss_11 (by decide) ?_
    refine v_iconst (pc := 12) (nI 1) dX7_plainLoss_12 kI_1 ?_
    refine v_iadd (pc := 13) dX7_plainLoss_13 ?_
    exact v_iret (pc := 14) dX7_plainLoss_14 (⟨by rw [show plI n = _ from if_neg c_1], rfl⟩)
  · refine v_iconst (pc := 4) (nI 0) dX7_plainLoss_4 kI_0 ?_
    refine v_goto (pc := 5) (tgt := 14) dX7_plainLoss_5 rfl ?_
    exact v_iret (pc := 14) dX7_plainLoss_14 (⟨by rw [show plI n = _ from if_pos c_1], rfl⟩)
set_option maxHeartbeats 4000000 in
set_option maxRecDepth 100000 in
theorem m_lossBy {E : Ev} {B : Bool} {N : Nat} {h : Hp} (k n : Int32) (w : Bool) : Ct E yX7_lossBy cX7_lossBy 3 (some .int) ({ frames := 1, cells := 0, slots := 0, locals := 21 } : Room) B N [.int k, .int n, .int (bI w)] h N 0 0 (Ff (some (.int (lbI k n w))) h) := by
  refine Ct.ofV (by decide) (Nat.le_of_ble_eq_true rfl) (fun X hnm => ?_)
  show V E X _ RX7 _ _ _ _ _ _ B N 0 [(0, .int k), (1, .int n), (2, .int (bI w))] [] _
  refine v_iload_n (pc := 0) 0 dX7_lossBy_0 rfl rfl ?_
  rcases sw_1_4 k with s_1 | s_1 | s_1 | s_1 | s_1
  · refine v_tabIn (pc := 1) (off := 31) (tgt := 32) dX7_lossBy_1 (by rw [s_1]; decide) (by rw [s_1]; decide) (by rw [s_1]; rfl) rfl ?_
    refine v_iload_n (pc := 32) 1 dX7_lossBy_32 rfl rfl ?_
    refine v_callS (pc := 33) _ _ k_X7_134 (m_plain _) ⟨rfl, rfl, by decide⟩ rfl rfl (Nat.le_of_ble_eq_true rfl) ⟨Nat.le_of_ble_eq_true rfl, Nat.le_of_ble_eq_true rfl⟩ dX7_lossBy_33 (unS ?_)
    show V E X _ RX7 _ _ _ 0 0 _ B N 36 _ [_] _
    refine v_iconst (pc := 36) (nI 2) dX7_lossBy_36 kI_2 ?_
    refine v_idiv (pc := 37) dX7_lossBy_37 (by decide) ?_
    exact v_iret (pc := 38) dX7_lossBy_38 (⟨by unfold lbI; rw [if_pos s_1], rfl⟩)
  · refine v_tabIn (pc := 1) (off := 38) (tgt := 39) dX7_lossBy_1 (by rw [s_1]; decide) (by rw [s_1]; decide) (by rw [s_1]; rfl) rfl ?_
    refine v_iconst (pc := 39) (nI 0) dX7_lossBy_39 kI_0 ?_
    exact v_iret (pc := 40) dX7_lossBy_40 (⟨by unfold lbI; rw [if_neg (show ¬ k = nI 1 from fun e => by rw [e] at s_1; revert s_1; decide), if_pos s_1], rfl⟩)
  · refine v_tabIn (pc := 1) (off := 40) (tgt := 41) dX7_lossBy_1 (by rw [s_1]; decide) (by rw [s_1]; decide) (by rw [s_1]; rfl) rfl ?_
    refine v_iload_n (pc := 41) 1 dX7_lossBy_41 rfl rfl ?_
    refine v_iconst (pc := 42) (nI 2) dX7_lossBy_42 kI_2 ?_
    refine v_iload_n (pc := 43) 1 dX7_lossBy_43 rfl rfl ?_
    refine v_callS (pc := 44) _ _ k_X7_134 (m_plain _) ⟨rfl, rfl, by decide⟩ rfl rfl (Nat.le_of_ble_eq_true rfl) ⟨Nat.le_of_ble_eq_true rfl, Nat.le_of_ble_eq_true rfl⟩ dX7_lossBy_44 (unS ?_)
    show V E X _ RX7 _ _ _ 0 0 _ B N 47 _ [_, _, _] _
    refine v_imul (pc := 47) dX7_lossBy_47 ?_
    refine v_callS (pc := 48) _ _ k_X7_138 (m_lesser _ _) ⟨rfl, rfl, by decide⟩ rfl rfl (Nat.le_of_ble_eq_true rfl) ⟨Nat.le_of_ble_eq_true rfl, Nat.le_of_ble_eq_true rfl⟩ dX7_lossBy_48 (unS ?_)
    show V E X _ RX7 _ _ _ 0 0 _ B N 51 _ [_] _
    exact v_iret (pc := 51) dX7_lossBy_51 (⟨by unfold lbI; rw [if_neg (show ¬ k = nI 1 from fun e => by rw [e] at s_1; revert s_1; decide), if_neg (show ¬ k = nI 2 from fun e => by rw [e] at s_1; revert s_1; decide), if_pos s_1], rfl⟩)
  · refine v_tabIn (pc := 1) (off := 51) (tgt := 52) dX7_lossBy_1 (by rw [s_1]; decide) (by rw [s_1]; decide) (by rw [s_1]; rfl) rfl ?_
    refine v_iload_n (pc := 52) 2 dX7_lossBy_52 rfl rfl ?_
    refine v_if_eqB (pc := 53) (tgt := 60) dX7_lossBy_53 rfl (fun c_53 => ?_) (fun c_53 => ?_)
    · refine v_iload_n (pc := 60) 1 dX7_lossBy_60 rfl rfl ?_
      refine v_callS (pc := 61) _ _ k_X7_134 (m_plain _) ⟨rfl, rfl, by decide⟩ rfl rfl (Nat.le_of_ble_eq_true rfl) ⟨Nat.le_of_ble_eq_true rfl, Nat.le_of_ble_eq_true rfl⟩ dX7_lossBy_61 (unS ?_)
      show V E X _ RX7 _ _ _ 0 0 _ B N 64 _ [_] _
      exact v_iret (pc := 64) dX7_lossBy_64 (⟨by unfold lbI; rw [if_neg (show ¬ k = nI 1 from fun e => by rw [e] at s_1; revert s_1; decide), if_neg (show ¬ k = nI 2 from fun e => by rw [e] at s_1; revert s_1; decide), if_neg (show ¬ k = nI 3 from fun e => by rw [e] at s_1; revert s_1; decide), if_pos s_1, if_neg (by rw [c_53]; decide)], rfl⟩)
    · refine v_iconst (pc := 56) (nI 0) dX7_lossBy_56 kI_0 ?_
      refine v_goto (pc := 57) (tgt := 64) dX7_lossBy_57 rfl ?_
      exact v_iret (pc := 64) dX7_lossBy_64 (⟨by unfold lbI; rw [if_neg (show ¬ k = nI 1 from fun e => by rw [e] at s_1; revert s_1; decide), if_neg (show ¬ k = nI 2 from fun e => by rw [e] at s_1; revert s_1; decide), if_neg (show ¬ k = nI 3 from fun e => by rw [e] at s_1; revert s_1; decide), if_pos s_1, if_pos c_53], rfl⟩)
  · refine v_tabOut (pc := 1) (tgt := 65) dX7_lossBy_1 s_1 rfl ?_
    refine v_iload_n (pc := 65) 1 dX7_lossBy_65 rfl rfl ?_
    refine v_callS (pc := 66) _ _ k_X7_134 (m_plain _) ⟨rfl, rfl, by decide⟩ rfl rfl (Nat.le_of_ble_eq_true rfl) ⟨Nat.le_of_ble_eq_true rfl, Nat.le_of_ble_eq_true rfl⟩ dX7_lossBy_66 (unS ?_)
    show V E X _ RX7 _ _ _ 0 0 _ B N 69 _ [_] _
    exact v_iret (pc := 69) dX7_lossBy_69 (⟨by unfold lbI; rw [if_neg (show ¬ k = nI 1 from fun e => by rw [e] at s_1; revert s_1; decide), if_neg (show ¬ k = nI 2 from fun e => by rw [e] at s_1; revert s_1; decide), if_neg (show ¬ k = nI 3 from fun e => by rw [e] at s_1; revert s_1; decide), if_neg (show ¬ k = nI 4 from fun e => by rw [e] at s_1; revert s_1; decide)], rfl⟩)
def cpA (a : Fn) (i : Nat) (b : Fn) (j n : Nat) : Fn := itn (fun k f => upd f (j + k) (a (i + k))) n b
set_option maxHeartbeats 4000000 in
set_option maxRecDepth 100000 in
theorem m_cp_parish_now {E : Ev} {c : CSt} {xP xR xW xS xZ xG xK xT xQ xF xB xL xC : Fn} {un sz wm fm bm at_ bg fg : Nat} {ft sg vl wr : Int32} {sd : Int64} {i j n : Nat} (hi : i + n ≤ 52) (hj : j + n ≤ 48) : Ct E yX7_copies cX7_copies 6 none ({ frames := 0, cells := 0, slots := 0, locals := 0 } : Room) false 146 [.ref (Ez E + 133), .int (nI i), .ref (Ez E + 135), .int (nI j), .int (nI n)] (cellOf E (c, (mkA xP xR xW xS xZ xG xK xT xQ xF xB xL xC, (nI un, nI sz, ft, nI wm, nI fm, nI bm, nI at_, nI bg, sg, nI fg, vl, wr), sd))) 146 0 0 (Ff none (cellOf E (c, (mkA xP xR (cpA xP i xW j n) xS xZ xG xK xT xQ xF xB xL xC, (nI un, nI sz, ft, nI wm, nI fm, nI bm, nI at_, nI bg, sg, nI fg, vl, wr), sd)))) := by
  refine Ct.ofV (by decide) (Nat.le_of_ble_eq_true rfl) (fun X hnm => ?_)
  show V E X _ RX7 _ _ _ _ _ _ false 146 0 [(0, .ref (Ez E + 133)), (1, .int (nI i)), (2, .ref (Ez E + 135)), (3, .int (nI j)), (4, .int (nI n))] [] _
  refine v_iconst (pc := 0) (nI 0) dX7_copies_0 kI_0 ?_
  refine v_istore (pc := 1) [1, 2, 3, 4, 5, 0] [(0, _), (1, _), (2, _), (3, _), (4, _), (5, _)] dX7_copies_1 (by decide) rfl ?_
  refine dn (P := fun e => V E X ({ frames := 0, cells := 0, slots := 0, locals := 0 } : Room) RX7 cX7_copies 6 none 0 0 (QX E X false 146 (Ff none (cellOf E (c, (mkA xP xR (cpA xP i xW j n) xS xZ xG xK xT xQ xF xB xL xC, (nI un, nI sz, ft, nI wm, nI fm, nI bm, nI at_, nI bg, sg, nI fg, vl, wr), sd)))) 0 0) false 146 3 [(0, .ref (Ez E + 133)), (1, .int (nI i)), (2, .ref (Ez E + 135)), (3, .int (nI j)), (4, .int (nI n)), (5, .int (nI e))] [] (cellOf E (c, (mkA xP xR (itn (fun k f => upd f (j + k) (xP (i + k))) e xW) xS xZ xG xK xT xQ xF xB xL xC, (nI un, nI sz, ft, nI wm, nI fm, nI bm, nI at_, nI bg, sg, nI fg, vl, wr), sd)))) (N := n) ?_ ?_
  · refine v_iload (pc := 3) 5 dX7_copies_3 rfl ?_
    refine v_iload (pc := 5) 4 dX7_copies_5 rfl ?_
    refine v_icmp_geN (pc := 7) (by omega) (by omega) (tgt := 28) dX7_copies_7 rfl (fun c_7 => ?_) (fun c_7 => False.elim ((fun c => by omega) c_7))
    exact v_vret (pc := 28) dX7_copies_28 (⟨rfl, rfl⟩)
  · intro e he ih
    have ih : V E X ({ frames := 0, cells := 0, slots := 0, locals := 0 } : Room) RX7 cX7_copies 6 none 0 0 (QX E X false 146 (Ff none (cellOf E (c, (mkA xP xR (cpA xP i xW j n) xS xZ xG xK xT xQ xF xB xL xC, (nI un, nI sz, ft, nI wm, nI fm, nI bm, nI at_, nI bg, sg, nI fg, vl, wr), sd)))) 0 0) false 146 3 [(0, .ref (Ez E + 133)), (1, .int (nI i)), (2, .ref (Ez E + 135)), (3, .int (nI j)), (4, .int (nI n)), (5, .int (nI (e + 1)))] [] (cellOf E (c, (mkA xP xR (upd (itn (fun k f => upd f (j + k) (xP (i + k))) e xW) (j + e) (xP (i + e))) xS xZ xG xK xT xQ xF xB xL xC, (nI un, nI sz, ft, nI wm, nI fm, nI bm, nI at_, nI bg, sg, nI fg, vl, wr), sd))) := by rw [itn_s] at ih; exact ih
    generalize itn (fun k f => upd f (j + k) (xP (i + k))) e xW = f1 at ih ⊢
    show V E X _ RX7 _ _ _ _ _ _ false 146 _ [(0, .ref (Ez E + 133)), (1, .int (nI i)), (2, .ref (Ez E + 135)), (3, .int (nI j)), (4, .int (nI n)), (5, .int (nI e))] [] (cellOf E (c, (mkA xP xR f1 xS xZ xG xK xT xQ xF xB xL xC, (nI un, nI sz, ft, nI wm, nI fm, nI bm, nI at_, nI bg, sg, nI fg, vl, wr), sd)))
    refine v_iload (pc := 3) 5 dX7_copies_3 rfl ?_
    refine v_iload (pc := 5) 4 dX7_copies_5 rfl ?_
    refine v_icmp_geN (pc := 7) (by omega) (by omega) (tgt := 28) dX7_copies_7 rfl (fun c_7 => False.elim ((fun c => by omega) c_7)) (fun c_7 => ?_)
    refine v_aload_n (pc := 10) 2 dX7_copies_10 rfl rfl ?_
    refine v_iload_n (pc := 11) 3 dX7_copies_11 rfl rfl ?_
    refine v_iload (pc := 12) 5 dX7_copies_12 rfl ?_
    refine v_iaddN (pc := 14) dX7_copies_14 ?_
    refine v_aload_n (pc := 15) 0 dX7_copies_15 rfl rfl ?_
    refine v_iload_n (pc := 16) 1 dX7_copies_16 rfl rfl ?_
    refine v_iload (pc := 17) 5 dX7_copies_17 rfl ?_
    refine v_iaddN (pc := 19) dX7_copies_19 ?_
    refine v_ialdN (pc := 20) (cM_parish) (by decide) (by omega) (by decide) dX7_copies_20 ?_
    refine v_iastN (pc := 21) (cM_now) (by decide) (by omega) (by decide) dX7_copies_21 (wM_now) ?_
    refine v_iincN (pc := 22) 5 [1, 2, 3, 4, 5, 0] [(0, _), (1, _), (2, _), (3, _), (4, _), (5, _)] kI_1 dX7_copies_22 rfl (by decide) rfl ?_
    refine v_goto (pc := 25) (tgt := 3) dX7_copies_25 rfl ?_
    exact ih
set_option maxHeartbeats 4000000 in
set_option maxRecDepth 100000 in
theorem m_cp_read_parish {E : Ev} {c : CSt} {xP xR xW xS xZ xG xK xT xQ xF xB xL xC : Fn} {un sz wm fm bm at_ bg fg : Nat} {ft sg vl wr : Int32} {sd : Int64} {i j n : Nat} (hi : i + n ≤ 52) (hj : j + n ≤ 52) : Ct E yX7_copies cX7_copies 6 none ({ frames := 0, cells := 0, slots := 0, locals := 0 } : Room) false 146 [.ref (Ez E + 134), .int (nI i), .ref (Ez E + 133), .int (nI j), .int (nI n)] (cellOf E (c, (mkA xP xR xW xS xZ xG xK xT xQ xF xB xL xC, (nI un, nI sz, ft, nI wm, nI fm, nI bm, nI at_, nI bg, sg, nI fg, vl, wr), sd))) 146 0 0 (Ff none (cellOf E (c, (mkA (cpA xR i xP j n) xR xW xS xZ xG xK xT xQ xF xB xL xC, (nI un, nI sz, ft, nI wm, nI fm, nI bm, nI at_, nI bg, sg, nI fg, vl, wr), sd)))) := by
  refine Ct.ofV (by decide) (Nat.le_of_ble_eq_true rfl) (fun X hnm => ?_)
  show V E X _ RX7 _ _ _ _ _ _ false 146 0 [(0, .ref (Ez E + 134)), (1, .int (nI i)), (2, .ref (Ez E + 133)), (3, .int (nI j)), (4, .int (nI n))] [] _
  refine v_iconst (pc := 0) (nI 0) dX7_copies_0 kI_0 ?_
  refine v_istore (pc := 1) [1, 2, 3, 4, 5, 0] [(0, _), (1, _), (2, _), (3, _), (4, _), (5, _)] dX7_copies_1 (by decide) rfl ?_
  refine dn (P := fun e => V E X ({ frames := 0, cells := 0, slots := 0, locals := 0 } : Room) RX7 cX7_copies 6 none 0 0 (QX E X false 146 (Ff none (cellOf E (c, (mkA (cpA xR i xP j n) xR xW xS xZ xG xK xT xQ xF xB xL xC, (nI un, nI sz, ft, nI wm, nI fm, nI bm, nI at_, nI bg, sg, nI fg, vl, wr), sd)))) 0 0) false 146 3 [(0, .ref (Ez E + 134)), (1, .int (nI i)), (2, .ref (Ez E + 133)), (3, .int (nI j)), (4, .int (nI n)), (5, .int (nI e))] [] (cellOf E (c, (mkA (itn (fun k f => upd f (j + k) (xR (i + k))) e xP) xR xW xS xZ xG xK xT xQ xF xB xL xC, (nI un, nI sz, ft, nI wm, nI fm, nI bm, nI at_, nI bg, sg, nI fg, vl, wr), sd)))) (N := n) ?_ ?_
  · refine v_iload (pc := 3) 5 dX7_copies_3 rfl ?_
    refine v_iload (pc := 5) 4 dX7_copies_5 rfl ?_
    refine v_icmp_geN (pc := 7) (by omega) (by omega) (tgt := 28) dX7_copies_7 rfl (fun c_7 => ?_) (fun c_7 => False.elim ((fun c => by omega) c_7))
    exact v_vret (pc := 28) dX7_copies_28 (⟨rfl, rfl⟩)
  · intro e he ih
    have ih : V E X ({ frames := 0, cells := 0, slots := 0, locals := 0 } : Room) RX7 cX7_copies 6 none 0 0 (QX E X false 146 (Ff none (cellOf E (c, (mkA (cpA xR i xP j n) xR xW xS xZ xG xK xT xQ xF xB xL xC, (nI un, nI sz, ft, nI wm, nI fm, nI bm, nI at_, nI bg, sg, nI fg, vl, wr), sd)))) 0 0) false 146 3 [(0, .ref (Ez E + 134)), (1, .int (nI i)), (2, .ref (Ez E + 133)), (3, .int (nI j)), (4, .int (nI n)), (5, .int (nI (e + 1)))] [] (cellOf E (c, (mkA (upd (itn (fun k f => upd f (j + k) (xR (i + k))) e xP) (j + e) (xR (i + e))) xR xW xS xZ xG xK xT xQ xF xB xL xC, (nI un, nI sz, ft, nI wm, nI fm, nI bm, nI at_, nI bg, sg, nI fg, vl, wr), sd))) := by rw [itn_s] at ih; exact ih
    generalize itn (fun k f => upd f (j + k) (xR (i + k))) e xP = f1 at ih ⊢
    show V E X _ RX7 _ _ _ _ _ _ false 146 _ [(0, .ref (Ez E + 134)), (1, .int (nI i)), (2, .ref (Ez E + 133)), (3, .int (nI j)), (4, .int (nI n)), (5, .int (nI e))] [] (cellOf E (c, (mkA f1 xR xW xS xZ xG xK xT xQ xF xB xL xC, (nI un, nI sz, ft, nI wm, nI fm, nI bm, nI at_, nI bg, sg, nI fg, vl, wr), sd)))
    refine v_iload (pc := 3) 5 dX7_copies_3 rfl ?_
    refine v_iload (pc := 5) 4 dX7_copies_5 rfl ?_
    refine v_icmp_geN (pc := 7) (by omega) (by omega) (tgt := 28) dX7_copies_7 rfl (fun c_7 => False.elim ((fun c => by omega) c_7)) (fun c_7 => ?_)
    refine v_aload_n (pc := 10) 2 dX7_copies_10 rfl rfl ?_
    refine v_iload_n (pc := 11) 3 dX7_copies_11 rfl rfl ?_
    refine v_iload (pc := 12) 5 dX7_copies_12 rfl ?_
    refine v_iaddN (pc := 14) dX7_copies_14 ?_
    refine v_aload_n (pc := 15) 0 dX7_copies_15 rfl rfl ?_
    refine v_iload_n (pc := 16) 1 dX7_copies_16 rfl rfl ?_
    refine v_iload (pc := 17) 5 dX7_copies_17 rfl ?_
    refine v_iaddN (pc := 19) dX7_copies_19 ?_
    refine v_ialdN (pc := 20) (cM_read) (by decide) (by omega) (by decide) dX7_copies_20 ?_
    refine v_iastN (pc := 21) (cM_parish) (by decide) (by omega) (by decide) dX7_copies_21 (wM_parish) ?_
    refine v_iincN (pc := 22) 5 [1, 2, 3, 4, 5, 0] [(0, _), (1, _), (2, _), (3, _), (4, _), (5, _)] kI_1 dX7_copies_22 rfl (by decide) rfl ?_
    refine v_goto (pc := 25) (tgt := 3) dX7_copies_25 rfl ?_
    exact ih
set_option maxHeartbeats 4000000 in
set_option maxRecDepth 100000 in
theorem m_cp_now_past {E : Ev} {c : CSt} {xP xR xW xS xZ xG xK xT xQ xF xB xL xC : Fn} {un sz wm fm bm at_ bg fg : Nat} {ft sg vl wr : Int32} {sd : Int64} {i j n : Nat} (hi : i + n ≤ 48) (hj : j + n ≤ 768) : Ct E yX7_copies cX7_copies 6 none ({ frames := 0, cells := 0, slots := 0, locals := 0 } : Room) false 146 [.ref (Ez E + 135), .int (nI i), .ref (Ez E + 137), .int (nI j), .int (nI n)] (cellOf E (c, (mkA xP xR xW xS xZ xG xK xT xQ xF xB xL xC, (nI un, nI sz, ft, nI wm, nI fm, nI bm, nI at_, nI bg, sg, nI fg, vl, wr), sd))) 146 0 0 (Ff none (cellOf E (c, (mkA xP xR xW xS (cpA xW i xZ j n) xG xK xT xQ xF xB xL xC, (nI un, nI sz, ft, nI wm, nI fm, nI bm, nI at_, nI bg, sg, nI fg, vl, wr), sd)))) := by
  refine Ct.ofV (by decide) (Nat.le_of_ble_eq_true rfl) (fun X hnm => ?_)
  show V E X _ RX7 _ _ _ _ _ _ false 146 0 [(0, .ref (Ez E + 135)), (1, .int (nI i)), (2, .ref (Ez E + 137)), (3, .int (nI j)), (4, .int (nI n))] [] _
  refine v_iconst (pc := 0) (nI 0) dX7_copies_0 kI_0 ?_
  refine v_istore (pc := 1) [1, 2, 3, 4, 5, 0] [(0, _), (1, _), (2, _), (3, _), (4, _), (5, _)] dX7_copies_1 (by decide) rfl ?_
  refine dn (P := fun e => V E X ({ frames := 0, cells := 0, slots := 0, locals := 0 } : Room) RX7 cX7_copies 6 none 0 0 (QX E X false 146 (Ff none (cellOf E (c, (mkA xP xR xW xS (cpA xW i xZ j n) xG xK xT xQ xF xB xL xC, (nI un, nI sz, ft, nI wm, nI fm, nI bm, nI at_, nI bg, sg, nI fg, vl, wr), sd)))) 0 0) false 146 3 [(0, .ref (Ez E + 135)), (1, .int (nI i)), (2, .ref (Ez E + 137)), (3, .int (nI j)), (4, .int (nI n)), (5, .int (nI e))] [] (cellOf E (c, (mkA xP xR xW xS (itn (fun k f => upd f (j + k) (xW (i + k))) e xZ) xG xK xT xQ xF xB xL xC, (nI un, nI sz, ft, nI wm, nI fm, nI bm, nI at_, nI bg, sg, nI fg, vl, wr), sd)))) (N := n) ?_ ?_
  · refine v_iload (pc := 3) 5 dX7_copies_3 rfl ?_
    refine v_iload (pc := 5) 4 dX7_copies_5 rfl ?_
    refine v_icmp_geN (pc := 7) (by omega) (by omega) (tgt := 28) dX7_copies_7 rfl (fun c_7 => ?_) (fun c_7 => False.elim ((fun c => by omega) c_7))
    exact v_vret (pc := 28) dX7_copies_28 (⟨rfl, rfl⟩)
  · intro e he ih
    have ih : V E X ({ frames := 0, cells := 0, slots := 0, locals := 0 } : Room) RX7 cX7_copies 6 none 0 0 (QX E X false 146 (Ff none (cellOf E (c, (mkA xP xR xW xS (cpA xW i xZ j n) xG xK xT xQ xF xB xL xC, (nI un, nI sz, ft, nI wm, nI fm, nI bm, nI at_, nI bg, sg, nI fg, vl, wr), sd)))) 0 0) false 146 3 [(0, .ref (Ez E + 135)), (1, .int (nI i)), (2, .ref (Ez E + 137)), (3, .int (nI j)), (4, .int (nI n)), (5, .int (nI (e + 1)))] [] (cellOf E (c, (mkA xP xR xW xS (upd (itn (fun k f => upd f (j + k) (xW (i + k))) e xZ) (j + e) (xW (i + e))) xG xK xT xQ xF xB xL xC, (nI un, nI sz, ft, nI wm, nI fm, nI bm, nI at_, nI bg, sg, nI fg, vl, wr), sd))) := by rw [itn_s] at ih; exact ih
    generalize itn (fun k f => upd f (j + k) (xW (i + k))) e xZ = f1 at ih ⊢
    show V E X _ RX7 _ _ _ _ _ _ false 146 _ [(0, .ref (Ez E + 135)), (1, .int (nI i)), (2, .ref (Ez E + 137)), (3, .int (nI j)), (4, .int (nI n)), (5, .int (nI e))] [] (cellOf E (c, (mkA xP xR xW xS f1 xG xK xT xQ xF xB xL xC, (nI un, nI sz, ft, nI wm, nI fm, nI bm, nI at_, nI bg, sg, nI fg, vl, wr), sd)))
    refine v_iload (pc := 3) 5 dX7_copies_3 rfl ?_
    refine v_iload (pc := 5) 4 dX7_copies_5 rfl ?_
    refine v_icmp_geN (pc := 7) (by omega) (by omega) (tgt := 28) dX7_copies_7 rfl (fun c_7 => False.elim ((fun c => by omega) c_7)) (fun c_7 => ?_)
    refine v_aload_n (pc := 10) 2 dX7_copies_10 rfl rfl ?_
    refine v_iload_n (pc := 11) 3 dX7_copies_11 rfl rfl ?_
    refine v_iload (pc := 12) 5 dX7_copies_12 rfl ?_
    refine v_iaddN (pc := 14) dX7_copies_14 ?_
    refine v_aload_n (pc := 15) 0 dX7_copies_15 rfl rfl ?_
    refine v_iload_n (pc := 16) 1 dX7_copies_16 rfl rfl ?_
    refine v_iload (pc := 17) 5 dX7_copies_17 rfl ?_
    refine v_iaddN (pc := 19) dX7_copies_19 ?_
    refine v_ialdN (pc := 20) (cM_now) (by decide) (by omega) (by decide) dX7_copies_20 ?_
    refine v_iastN (pc := 21) (cM_past) (by decide) (by omega) (by decide) dX7_copies_21 (wM_past) ?_
    refine v_iincN (pc := 22) 5 [1, 2, 3, 4, 5, 0] [(0, _), (1, _), (2, _), (3, _), (4, _), (5, _)] kI_1 dX7_copies_22 rfl (by decide) rfl ?_
    refine v_goto (pc := 25) (tgt := 3) dX7_copies_25 rfl ?_
    exact ih
set_option maxHeartbeats 4000000 in
set_option maxRecDepth 100000 in
theorem m_cp_past_now {E : Ev} {c : CSt} {xP xR xW xS xZ xG xK xT xQ xF xB xL xC : Fn} {un sz wm fm bm at_ bg fg : Nat} {ft sg vl wr : Int32} {sd : Int64} {i j n : Nat} (hi : i + n ≤ 768) (hj : j + n ≤ 48) : Ct E yX7_copies cX7_copies 6 none ({ frames := 0, cells := 0, slots := 0, locals := 0 } : Room) false 146 [.ref (Ez E + 137), .int (nI i), .ref (Ez E + 135), .int (nI j), .int (nI n)] (cellOf E (c, (mkA xP xR xW xS xZ xG xK xT xQ xF xB xL xC, (nI un, nI sz, ft, nI wm, nI fm, nI bm, nI at_, nI bg, sg, nI fg, vl, wr), sd))) 146 0 0 (Ff none (cellOf E (c, (mkA xP xR (cpA xZ i xW j n) xS xZ xG xK xT xQ xF xB xL xC, (nI un, nI sz, ft, nI wm, nI fm, nI bm, nI at_, nI bg, sg, nI fg, vl, wr), sd)))) := by
  refine Ct.ofV (by decide) (Nat.le_of_ble_eq_true rfl) (fun X hnm => ?_)
  show V E X _ RX7 _ _ _ _ _ _ false 146 0 [(0, .ref (Ez E + 137)), (1, .int (nI i)), (2, .ref (Ez E + 135)), (3, .int (nI j)), (4, .int (nI n))] [] _
  refine v_iconst (pc := 0) (nI 0) dX7_copies_0 kI_0 ?_
  refine v_istore (pc := 1) [1, 2, 3, 4, 5, 0] [(0, _), (1, _), (2, _), (3, _), (4, _), (5, _)] dX7_copies_1 (by decide) rfl ?_
  refine dn (P := fun e => V E X ({ frames := 0, cells := 0, slots := 0, locals := 0 } : Room) RX7 cX7_copies 6 none 0 0 (QX E X false 146 (Ff none (cellOf E (c, (mkA xP xR (cpA xZ i xW j n) xS xZ xG xK xT xQ xF xB xL xC, (nI un, nI sz, ft, nI wm, nI fm, nI bm, nI at_, nI bg, sg, nI fg, vl, wr), sd)))) 0 0) false 146 3 [(0, .ref (Ez E + 137)), (1, .int (nI i)), (2, .ref (Ez E + 135)), (3, .int (nI j)), (4, .int (nI n)), (5, .int (nI e))] [] (cellOf E (c, (mkA xP xR (itn (fun k f => upd f (j + k) (xZ (i + k))) e xW) xS xZ xG xK xT xQ xF xB xL xC, (nI un, nI sz, ft, nI wm, nI fm, nI bm, nI at_, nI bg, sg, nI fg, vl, wr), sd)))) (N := n) ?_ ?_
  · refine v_iload (pc := 3) 5 dX7_copies_3 rfl ?_
    refine v_iload (pc := 5) 4 dX7_copies_5 rfl ?_
    refine v_icmp_geN (pc := 7) (by omega) (by omega) (tgt := 28) dX7_copies_7 rfl (fun c_7 => ?_) (fun c_7 => False.elim ((fun c => by omega) c_7))
    exact v_vret (pc := 28) dX7_copies_28 (⟨rfl, rfl⟩)
  · intro e he ih
    have ih : V E X ({ frames := 0, cells := 0, slots := 0, locals := 0 } : Room) RX7 cX7_copies 6 none 0 0 (QX E X false 146 (Ff none (cellOf E (c, (mkA xP xR (cpA xZ i xW j n) xS xZ xG xK xT xQ xF xB xL xC, (nI un, nI sz, ft, nI wm, nI fm, nI bm, nI at_, nI bg, sg, nI fg, vl, wr), sd)))) 0 0) false 146 3 [(0, .ref (Ez E + 137)), (1, .int (nI i)), (2, .ref (Ez E + 135)), (3, .int (nI j)), (4, .int (nI n)), (5, .int (nI (e + 1)))] [] (cellOf E (c, (mkA xP xR (upd (itn (fun k f => upd f (j + k) (xZ (i + k))) e xW) (j + e) (xZ (i + e))) xS xZ xG xK xT xQ xF xB xL xC, (nI un, nI sz, ft, nI wm, nI fm, nI bm, nI at_, nI bg, sg, nI fg, vl, wr), sd))) := by rw [itn_s] at ih; exact ih
    generalize itn (fun k f => upd f (j + k) (xZ (i + k))) e xW = f1 at ih ⊢
    show V E X _ RX7 _ _ _ _ _ _ false 146 _ [(0, .ref (Ez E + 137)), (1, .int (nI i)), (2, .ref (Ez E + 135)), (3, .int (nI j)), (4, .int (nI n)), (5, .int (nI e))] [] (cellOf E (c, (mkA xP xR f1 xS xZ xG xK xT xQ xF xB xL xC, (nI un, nI sz, ft, nI wm, nI fm, nI bm, nI at_, nI bg, sg, nI fg, vl, wr), sd)))
    refine v_iload (pc := 3) 5 dX7_copies_3 rfl ?_
    refine v_iload (pc := 5) 4 dX7_copies_5 rfl ?_
    refine v_icmp_geN (pc := 7) (by omega) (by omega) (tgt := 28) dX7_copies_7 rfl (fun c_7 => False.elim ((fun c => by omega) c_7)) (fun c_7 => ?_)
    refine v_aload_n (pc := 10) 2 dX7_copies_10 rfl rfl ?_
    refine v_iload_n (pc := 11) 3 dX7_copies_11 rfl rfl ?_
    refine v_iload (pc := 12) 5 dX7_copies_12 rfl ?_
    refine v_iaddN (pc := 14) dX7_copies_14 ?_
    refine v_aload_n (pc := 15) 0 dX7_copies_15 rfl rfl ?_
    refine v_iload_n (pc := 16) 1 dX7_copies_16 rfl rfl ?_
    refine v_iload (pc := 17) 5 dX7_copies_17 rfl ?_
    refine v_iaddN (pc := 19) dX7_copies_19 ?_
    refine v_ialdN (pc := 20) (cM_past) (by decide) (by omega) (by decide) dX7_copies_20 ?_
    refine v_iastN (pc := 21) (cM_now) (by decide) (by omega) (by decide) dX7_copies_21 (wM_now) ?_
    refine v_iincN (pc := 22) 5 [1, 2, 3, 4, 5, 0] [(0, _), (1, _), (2, _), (3, _), (4, _), (5, _)] kI_1 dX7_copies_22 rfl (by decide) rfl ?_
    refine v_goto (pc := 25) (tgt := 3) dX7_copies_25 rfl ?_
    exact ih
set_option maxHeartbeats 4000000 in
set_option maxRecDepth 100000 in
theorem m_cp_now_aside {E : Ev} {c : CSt} {xP xR xW xS xZ xG xK xT xQ xF xB xL xC : Fn} {un sz wm fm bm at_ bg fg : Nat} {ft sg vl wr : Int32} {sd : Int64} {i j n : Nat} (hi : i + n ≤ 48) (hj : j + n ≤ 48) : Ct E yX7_copies cX7_copies 6 none ({ frames := 0, cells := 0, slots := 0, locals := 0 } : Room) false 146 [.ref (Ez E + 135), .int (nI i), .ref (Ez E + 136), .int (nI j), .int (nI n)] (cellOf E (c, (mkA xP xR xW xS xZ xG xK xT xQ xF xB xL xC, (nI un, nI sz, ft, nI wm, nI fm, nI bm, nI at_, nI bg, sg, nI fg, vl, wr), sd))) 146 0 0 (Ff none (cellOf E (c, (mkA xP xR xW (cpA xW i xS j n) xZ xG xK xT xQ xF xB xL xC, (nI un, nI sz, ft, nI wm, nI fm, nI bm, nI at_, nI bg, sg, nI fg, vl, wr), sd)))) := by
  refine Ct.ofV (by decide) (Nat.le_of_ble_eq_true rfl) (fun X hnm => ?_)
  show V E X _ RX7 _ _ _ _ _ _ false 146 0 [(0, .ref (Ez E + 135)), (1, .int (nI i)), (2, .ref (Ez E + 136)), (3, .int (nI j)), (4, .int (nI n))] [] _
  refine v_iconst (pc := 0) (nI 0) dX7_copies_0 kI_0 ?_
  refine v_istore (pc := 1) [1, 2, 3, 4, 5, 0] [(0, _), (1, _), (2, _), (3, _), (4, _), (5, _)] dX7_copies_1 (by decide) rfl ?_
  refine dn (P := fun e => V E X ({ frames := 0, cells := 0, slots := 0, locals := 0 } : Room) RX7 cX7_copies 6 none 0 0 (QX E X false 146 (Ff none (cellOf E (c, (mkA xP xR xW (cpA xW i xS j n) xZ xG xK xT xQ xF xB xL xC, (nI un, nI sz, ft, nI wm, nI fm, nI bm, nI at_, nI bg, sg, nI fg, vl, wr), sd)))) 0 0) false 146 3 [(0, .ref (Ez E + 135)), (1, .int (nI i)), (2, .ref (Ez E + 136)), (3, .int (nI j)), (4, .int (nI n)), (5, .int (nI e))] [] (cellOf E (c, (mkA xP xR xW (itn (fun k f => upd f (j + k) (xW (i + k))) e xS) xZ xG xK xT xQ xF xB xL xC, (nI un, nI sz, ft, nI wm, nI fm, nI bm, nI at_, nI bg, sg, nI fg, vl, wr), sd)))) (N := n) ?_ ?_
  · refine v_iload (pc := 3) 5 dX7_copies_3 rfl ?_
    refine v_iload (pc := 5) 4 dX7_copies_5 rfl ?_
    refine v_icmp_geN (pc := 7) (by omega) (by omega) (tgt := 28) dX7_copies_7 rfl (fun c_7 => ?_) (fun c_7 => False.elim ((fun c => by omega) c_7))
    exact v_vret (pc := 28) dX7_copies_28 (⟨rfl, rfl⟩)
  · intro e he ih
    have ih : V E X ({ frames := 0, cells := 0, slots := 0, locals := 0 } : Room) RX7 cX7_copies 6 none 0 0 (QX E X false 146 (Ff none (cellOf E (c, (mkA xP xR xW (cpA xW i xS j n) xZ xG xK xT xQ xF xB xL xC, (nI un, nI sz, ft, nI wm, nI fm, nI bm, nI at_, nI bg, sg, nI fg, vl, wr), sd)))) 0 0) false 146 3 [(0, .ref (Ez E + 135)), (1, .int (nI i)), (2, .ref (Ez E + 136)), (3, .int (nI j)), (4, .int (nI n)), (5, .int (nI (e + 1)))] [] (cellOf E (c, (mkA xP xR xW (upd (itn (fun k f => upd f (j + k) (xW (i + k))) e xS) (j + e) (xW (i + e))) xZ xG xK xT xQ xF xB xL xC, (nI un, nI sz, ft, nI wm, nI fm, nI bm, nI at_, nI bg, sg, nI fg, vl, wr), sd))) := by rw [itn_s] at ih; exact ih
    generalize itn (fun k f => upd f (j + k) (xW (i + k))) e xS = f1 at ih ⊢
    show V E X _ RX7 _ _ _ _ _ _ false 146 _ [(0, .ref (Ez E + 135)), (1, .int (nI i)), (2, .ref (Ez E + 136)), (3, .int (nI j)), (4, .int (nI n)), (5, .int (nI e))] [] (cellOf E (c, (mkA xP xR xW f1 xZ xG xK xT xQ xF xB xL xC, (nI un, nI sz, ft, nI wm, nI fm, nI bm, nI at_, nI bg, sg, nI fg, vl, wr), sd)))
    refine v_iload (pc := 3) 5 dX7_copies_3 rfl ?_
    refine v_iload (pc := 5) 4 dX7_copies_5 rfl ?_
    refine v_icmp_geN (pc := 7) (by omega) (by omega) (tgt := 28) dX7_copies_7 rfl (fun c_7 => False.elim ((fun c => by omega) c_7)) (fun c_7 => ?_)
    refine v_aload_n (pc := 10) 2 dX7_copies_10 rfl rfl ?_
    refine v_iload_n (pc := 11) 3 dX7_copies_11 rfl rfl ?_
    refine v_iload (pc := 12) 5 dX7_copies_12 rfl ?_
    refine v_iaddN (pc := 14) dX7_copies_14 ?_
    refine v_aload_n (pc := 15) 0 dX7_copies_15 rfl rfl ?_
    refine v_iload_n (pc := 16) 1 dX7_copies_16 rfl rfl ?_
    refine v_iload (pc := 17) 5 dX7_copies_17 rfl ?_
    refine v_iaddN (pc := 19) dX7_copies_19 ?_
    refine v_ialdN (pc := 20) (cM_now) (by decide) (by omega) (by decide) dX7_copies_20 ?_
    refine v_iastN (pc := 21) (cM_aside) (by decide) (by omega) (by decide) dX7_copies_21 (wM_aside) ?_
    refine v_iincN (pc := 22) 5 [1, 2, 3, 4, 5, 0] [(0, _), (1, _), (2, _), (3, _), (4, _), (5, _)] kI_1 dX7_copies_22 rfl (by decide) rfl ?_
    refine v_goto (pc := 25) (tgt := 3) dX7_copies_25 rfl ?_
    exact ih
set_option maxHeartbeats 4000000 in
set_option maxRecDepth 100000 in
theorem m_cp_now_images {E : Ev} {c : CSt} {xP xR xW xS xZ xG xK xT xQ xF xB xL xC : Fn} {un sz wm fm bm at_ bg fg : Nat} {ft sg vl wr : Int32} {sd : Int64} {i j n : Nat} (hi : i + n ≤ 48) (hj : j + n ≤ 98) : Ct E yX7_copies cX7_copies 6 none ({ frames := 0, cells := 0, slots := 0, locals := 0 } : Room) false 146 [.ref (Ez E + 135), .int (nI i), .ref (Ez E + 138), .int (nI j), .int (nI n)] (cellOf E (c, (mkA xP xR xW xS xZ xG xK xT xQ xF xB xL xC, (nI un, nI sz, ft, nI wm, nI fm, nI bm, nI at_, nI bg, sg, nI fg, vl, wr), sd))) 146 0 0 (Ff none (cellOf E (c, (mkA xP xR xW xS xZ (cpA xW i xG j n) xK xT xQ xF xB xL xC, (nI un, nI sz, ft, nI wm, nI fm, nI bm, nI at_, nI bg, sg, nI fg, vl, wr), sd)))) := by
  refine Ct.ofV (by decide) (Nat.le_of_ble_eq_true rfl) (fun X hnm => ?_)
  show V E X _ RX7 _ _ _ _ _ _ false 146 0 [(0, .ref (Ez E + 135)), (1, .int (nI i)), (2, .ref (Ez E + 138)), (3, .int (nI j)), (4, .int (nI n))] [] _
  refine v_iconst (pc := 0) (nI 0) dX7_copies_0 kI_0 ?_
  refine v_istore (pc := 1) [1, 2, 3, 4, 5, 0] [(0, _), (1, _), (2, _), (3, _), (4, _), (5, _)] dX7_copies_1 (by decide) rfl ?_
  refine dn (P := fun e => V E X ({ frames := 0, cells := 0, slots := 0, locals := 0 } : Room) RX7 cX7_copies 6 none 0 0 (QX E X false 146 (Ff none (cellOf E (c, (mkA xP xR xW xS xZ (cpA xW i xG j n) xK xT xQ xF xB xL xC, (nI un, nI sz, ft, nI wm, nI fm, nI bm, nI at_, nI bg, sg, nI fg, vl, wr), sd)))) 0 0) false 146 3 [(0, .ref (Ez E + 135)), (1, .int (nI i)), (2, .ref (Ez E + 138)), (3, .int (nI j)), (4, .int (nI n)), (5, .int (nI e))] [] (cellOf E (c, (mkA xP xR xW xS xZ (itn (fun k f => upd f (j + k) (xW (i + k))) e xG) xK xT xQ xF xB xL xC, (nI un, nI sz, ft, nI wm, nI fm, nI bm, nI at_, nI bg, sg, nI fg, vl, wr), sd)))) (N := n) ?_ ?_
  · refine v_iload (pc := 3) 5 dX7_copies_3 rfl ?_
    refine v_iload (pc := 5) 4 dX7_copies_5 rfl ?_
    refine v_icmp_geN (pc := 7) (by omega) (by omega) (tgt := 28) dX7_copies_7 rfl (fun c_7 => ?_) (fun c_7 => False.elim ((fun c => by omega) c_7))
    exact v_vret (pc := 28) dX7_copies_28 (⟨rfl, rfl⟩)
  · intro e he ih
    have ih : V E X ({ frames := 0, cells := 0, slots := 0, locals := 0 } : Room) RX7 cX7_copies 6 none 0 0 (QX E X false 146 (Ff none (cellOf E (c, (mkA xP xR xW xS xZ (cpA xW i xG j n) xK xT xQ xF xB xL xC, (nI un, nI sz, ft, nI wm, nI fm, nI bm, nI at_, nI bg, sg, nI fg, vl, wr), sd)))) 0 0) false 146 3 [(0, .ref (Ez E + 135)), (1, .int (nI i)), (2, .ref (Ez E + 138)), (3, .int (nI j)), (4, .int (nI n)), (5, .int (nI (e + 1)))] [] (cellOf E (c, (mkA xP xR xW xS xZ (upd (itn (fun k f => upd f (j + k) (xW (i + k))) e xG) (j + e) (xW (i + e))) xK xT xQ xF xB xL xC, (nI un, nI sz, ft, nI wm, nI fm, nI bm, nI at_, nI bg, sg, nI fg, vl, wr), sd))) := by rw [itn_s] at ih; exact ih
    generalize itn (fun k f => upd f (j + k) (xW (i + k))) e xG = f1 at ih ⊢
    show V E X _ RX7 _ _ _ _ _ _ false 146 _ [(0, .ref (Ez E + 135)), (1, .int (nI i)), (2, .ref (Ez E + 138)), (3, .int (nI j)), (4, .int (nI n)), (5, .int (nI e))] [] (cellOf E (c, (mkA xP xR xW xS xZ f1 xK xT xQ xF xB xL xC, (nI un, nI sz, ft, nI wm, nI fm, nI bm, nI at_, nI bg, sg, nI fg, vl, wr), sd)))
    refine v_iload (pc := 3) 5 dX7_copies_3 rfl ?_
    refine v_iload (pc := 5) 4 dX7_copies_5 rfl ?_
    refine v_icmp_geN (pc := 7) (by omega) (by omega) (tgt := 28) dX7_copies_7 rfl (fun c_7 => False.elim ((fun c => by omega) c_7)) (fun c_7 => ?_)
    refine v_aload_n (pc := 10) 2 dX7_copies_10 rfl rfl ?_
    refine v_iload_n (pc := 11) 3 dX7_copies_11 rfl rfl ?_
    refine v_iload (pc := 12) 5 dX7_copies_12 rfl ?_
    refine v_iaddN (pc := 14) dX7_copies_14 ?_
    refine v_aload_n (pc := 15) 0 dX7_copies_15 rfl rfl ?_
    refine v_iload_n (pc := 16) 1 dX7_copies_16 rfl rfl ?_
    refine v_iload (pc := 17) 5 dX7_copies_17 rfl ?_
    refine v_iaddN (pc := 19) dX7_copies_19 ?_
    refine v_ialdN (pc := 20) (cM_now) (by decide) (by omega) (by decide) dX7_copies_20 ?_
    refine v_iastN (pc := 21) (cM_images) (by decide) (by omega) (by decide) dX7_copies_21 (wM_images) ?_
    refine v_iincN (pc := 22) 5 [1, 2, 3, 4, 5, 0] [(0, _), (1, _), (2, _), (3, _), (4, _), (5, _)] kI_1 dX7_copies_22 rfl (by decide) rfl ?_
    refine v_goto (pc := 25) (tgt := 3) dX7_copies_25 rfl ?_
    exact ih
set_option maxHeartbeats 4000000 in
set_option maxRecDepth 100000 in
theorem m_cp_images_now {E : Ev} {c : CSt} {xP xR xW xS xZ xG xK xT xQ xF xB xL xC : Fn} {un sz wm fm bm at_ bg fg : Nat} {ft sg vl wr : Int32} {sd : Int64} {i j n : Nat} (hi : i + n ≤ 98) (hj : j + n ≤ 48) : Ct E yX7_copies cX7_copies 6 none ({ frames := 0, cells := 0, slots := 0, locals := 0 } : Room) false 146 [.ref (Ez E + 138), .int (nI i), .ref (Ez E + 135), .int (nI j), .int (nI n)] (cellOf E (c, (mkA xP xR xW xS xZ xG xK xT xQ xF xB xL xC, (nI un, nI sz, ft, nI wm, nI fm, nI bm, nI at_, nI bg, sg, nI fg, vl, wr), sd))) 146 0 0 (Ff none (cellOf E (c, (mkA xP xR (cpA xG i xW j n) xS xZ xG xK xT xQ xF xB xL xC, (nI un, nI sz, ft, nI wm, nI fm, nI bm, nI at_, nI bg, sg, nI fg, vl, wr), sd)))) := by
  refine Ct.ofV (by decide) (Nat.le_of_ble_eq_true rfl) (fun X hnm => ?_)
  show V E X _ RX7 _ _ _ _ _ _ false 146 0 [(0, .ref (Ez E + 138)), (1, .int (nI i)), (2, .ref (Ez E + 135)), (3, .int (nI j)), (4, .int (nI n))] [] _
  refine v_iconst (pc := 0) (nI 0) dX7_copies_0 kI_0 ?_
  refine v_istore (pc := 1) [1, 2, 3, 4, 5, 0] [(0, _), (1, _), (2, _), (3, _), (4, _), (5, _)] dX7_copies_1 (by decide) rfl ?_
  refine dn (P := fun e => V E X ({ frames := 0, cells := 0, slots := 0, locals := 0 } : Room) RX7 cX7_copies 6 none 0 0 (QX E X false 146 (Ff none (cellOf E (c, (mkA xP xR (cpA xG i xW j n) xS xZ xG xK xT xQ xF xB xL xC, (nI un, nI sz, ft, nI wm, nI fm, nI bm, nI at_, nI bg, sg, nI fg, vl, wr), sd)))) 0 0) false 146 3 [(0, .ref (Ez E + 138)), (1, .int (nI i)), (2, .ref (Ez E + 135)), (3, .int (nI j)), (4, .int (nI n)), (5, .int (nI e))] [] (cellOf E (c, (mkA xP xR (itn (fun k f => upd f (j + k) (xG (i + k))) e xW) xS xZ xG xK xT xQ xF xB xL xC, (nI un, nI sz, ft, nI wm, nI fm, nI bm, nI at_, nI bg, sg, nI fg, vl, wr), sd)))) (N := n) ?_ ?_
  · refine v_iload (pc := 3) 5 dX7_copies_3 rfl ?_
    refine v_iload (pc := 5) 4 dX7_copies_5 rfl ?_
    refine v_icmp_geN (pc := 7) (by omega) (by omega) (tgt := 28) dX7_copies_7 rfl (fun c_7 => ?_) (fun c_7 => False.elim ((fun c => by omega) c_7))
    exact v_vret (pc := 28) dX7_copies_28 (⟨rfl, rfl⟩)
  · intro e he ih
    have ih : V E X ({ frames := 0, cells := 0, slots := 0, locals := 0 } : Room) RX7 cX7_copies 6 none 0 0 (QX E X false 146 (Ff none (cellOf E (c, (mkA xP xR (cpA xG i xW j n) xS xZ xG xK xT xQ xF xB xL xC, (nI un, nI sz, ft, nI wm, nI fm, nI bm, nI at_, nI bg, sg, nI fg, vl, wr), sd)))) 0 0) false 146 3 [(0, .ref (Ez E + 138)), (1, .int (nI i)), (2, .ref (Ez E + 135)), (3, .int (nI j)), (4, .int (nI n)), (5, .int (nI (e + 1)))] [] (cellOf E (c, (mkA xP xR (upd (itn (fun k f => upd f (j + k) (xG (i + k))) e xW) (j + e) (xG (i + e))) xS xZ xG xK xT xQ xF xB xL xC, (nI un, nI sz, ft, nI wm, nI fm, nI bm, nI at_, nI bg, sg, nI fg, vl, wr), sd))) := by rw [itn_s] at ih; exact ih
    generalize itn (fun k f => upd f (j + k) (xG (i + k))) e xW = f1 at ih ⊢
    show V E X _ RX7 _ _ _ _ _ _ false 146 _ [(0, .ref (Ez E + 138)), (1, .int (nI i)), (2, .ref (Ez E + 135)), (3, .int (nI j)), (4, .int (nI n)), (5, .int (nI e))] [] (cellOf E (c, (mkA xP xR f1 xS xZ xG xK xT xQ xF xB xL xC, (nI un, nI sz, ft, nI wm, nI fm, nI bm, nI at_, nI bg, sg, nI fg, vl, wr), sd)))
    refine v_iload (pc := 3) 5 dX7_copies_3 rfl ?_
    refine v_iload (pc := 5) 4 dX7_copies_5 rfl ?_
    refine v_icmp_geN (pc := 7) (by omega) (by omega) (tgt := 28) dX7_copies_7 rfl (fun c_7 => False.elim ((fun c => by omega) c_7)) (fun c_7 => ?_)
    refine v_aload_n (pc := 10) 2 dX7_copies_10 rfl rfl ?_
    refine v_iload_n (pc := 11) 3 dX7_copies_11 rfl rfl ?_
    refine v_iload (pc := 12) 5 dX7_copies_12 rfl ?_
    refine v_iaddN (pc := 14) dX7_copies_14 ?_
    refine v_aload_n (pc := 15) 0 dX7_copies_15 rfl rfl ?_
    refine v_iload_n (pc := 16) 1 dX7_copies_16 rfl rfl ?_
    refine v_iload (pc := 17) 5 dX7_copies_17 rfl ?_
    refine v_iaddN (pc := 19) dX7_copies_19 ?_
    refine v_ialdN (pc := 20) (cM_images) (by decide) (by omega) (by decide) dX7_copies_20 ?_
    refine v_iastN (pc := 21) (cM_now) (by decide) (by omega) (by decide) dX7_copies_21 (wM_now) ?_
    refine v_iincN (pc := 22) 5 [1, 2, 3, 4, 5, 0] [(0, _), (1, _), (2, _), (3, _), (4, _), (5, _)] kI_1 dX7_copies_22 rfl (by decide) rfl ?_
    refine v_goto (pc := 25) (tgt := 3) dX7_copies_25 rfl ?_
    exact ih
