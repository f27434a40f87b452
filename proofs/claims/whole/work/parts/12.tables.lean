/-! fields, constants and classes by their places in the constant pools -/
def fX0 (x : Nat) : Option (Nat × Nat × Nat × Nat) := match x with
  | 9 => some (0, 0, 2, 1)
  | 15 => some (0, 1, 2, 1)
  | 18 => some (0, 2, 2, 1)
  | 21 => some (0, 3, 2, 1)
  | _ => none
theorem ofX0_9 (f : Nat → Nat → Nat → Nat → Prop) : oF fX0 9 f = f 0 0 2 1 := propext Iff.rfl
theorem ofX0_15 (f : Nat → Nat → Nat → Nat → Prop) : oF fX0 15 f = f 0 1 2 1 := propext Iff.rfl
theorem ofX0_18 (f : Nat → Nat → Nat → Nat → Prop) : oF fX0 18 f = f 0 2 2 1 := propext Iff.rfl
theorem ofX0_21 (f : Nat → Nat → Nat → Nat → Prop) : oF fX0 21 f = f 0 3 2 1 := propext Iff.rfl
theorem fokX0 : FOK RX0 fX0 := by
  intro x ci fi cd fw h
  unfold fX0 at h
  split at h
  · cases h; exact ⟨by decide, by decide, by decide +kernel, by decide, (ws_mem (List.mem_of_getElem? (i := 159) (by decide +kernel)) (by decide +kernel)), by decide +kernel, by decide +kernel⟩
  · cases h; exact ⟨by decide, by decide, by decide +kernel, by decide, (ws_mem (List.mem_of_getElem? (i := 163) (by decide +kernel)) (by decide +kernel)), by decide +kernel, by decide +kernel⟩
  · cases h; exact ⟨by decide, by decide, by decide +kernel, by decide, (ws_mem (List.mem_of_getElem? (i := 167) (by decide +kernel)) (by decide +kernel)), by decide +kernel, by decide +kernel⟩
  · cases h; exact ⟨by decide, by decide, by decide +kernel, by decide, (ws_mem (List.mem_of_getElem? (i := 168) (by decide +kernel)) (by decide +kernel)), by decide +kernel, by decide +kernel⟩
  · cases h
def zX0 (_ : Nat) : Option (Int ⊕ Int) := none
theorem zokX0 : ZOK RX0 zX0 := fun _ _ => ⟨(fun h => (by cases h)), (fun h => (by cases h))⟩
def uX0 (_ : Nat) : Option Nat := none
theorem uokX0 : UOK RX0 uX0 := fun _ _ h => by cases h
def fX1 (x : Nat) : Option (Nat × Nat × Nat × Nat) := match x with
  | 9 => some (1, 0, 2, 1)
  | 15 => some (1, 1, 2, 1)
  | 18 => some (1, 2, 2, 1)
  | 21 => some (1, 3, 2, 1)
  | 24 => some (1, 4, 0, 0)
  | 28 => some (1, 5, 3, 0)
  | 34 => some (1, 8, 2, 1)
  | 37 => some (1, 9, 2, 1)
  | 40 => some (1, 10, 2, 1)
  | 55 => some (1, 6, 0, 0)
  | 58 => some (1, 11, 3, 0)
  | 91 => some (1, 7, 0, 0)
  | _ => none
theorem ofX1_9 (f : Nat → Nat → Nat → Nat → Prop) : oF fX1 9 f = f 1 0 2 1 := propext Iff.rfl
theorem ofX1_15 (f : Nat → Nat → Nat → Nat → Prop) : oF fX1 15 f = f 1 1 2 1 := propext Iff.rfl
theorem ofX1_18 (f : Nat → Nat → Nat → Nat → Prop) : oF fX1 18 f = f 1 2 2 1 := propext Iff.rfl
theorem ofX1_21 (f : Nat → Nat → Nat → Nat → Prop) : oF fX1 21 f = f 1 3 2 1 := propext Iff.rfl
theorem ofX1_24 (f : Nat → Nat → Nat → Nat → Prop) : oF fX1 24 f = f 1 4 0 0 := propext Iff.rfl
theorem ofX1_28 (f : Nat → Nat → Nat → Nat → Prop) : oF fX1 28 f = f 1 5 3 0 := propext Iff.rfl
theorem ofX1_34 (f : Nat → Nat → Nat → Nat → Prop) : oF fX1 34 f = f 1 8 2 1 := propext Iff.rfl
theorem ofX1_37 (f : Nat → Nat → Nat → Nat → Prop) : oF fX1 37 f = f 1 9 2 1 := propext Iff.rfl
theorem ofX1_40 (f : Nat → Nat → Nat → Nat → Prop) : oF fX1 40 f = f 1 10 2 1 := propext Iff.rfl
theorem ofX1_55 (f : Nat → Nat → Nat → Nat → Prop) : oF fX1 55 f = f 1 6 0 0 := propext Iff.rfl
theorem ofX1_58 (f : Nat → Nat → Nat → Nat → Prop) : oF fX1 58 f = f 1 11 3 0 := propext Iff.rfl
theorem ofX1_91 (f : Nat → Nat → Nat → Nat → Prop) : oF fX1 91 f = f 1 7 0 0 := propext Iff.rfl
theorem fokX1 : FOK RX1 fX1 := by
  intro x ci fi cd fw h
  unfold fX1 at h
  split at h
  · cases h; exact ⟨by decide, by decide, by decide +kernel, by decide, (ws_mem (List.mem_of_getElem? (i := 272) (by decide +kernel)) (by decide +kernel)), by decide +kernel, by decide +kernel⟩
  · cases h; exact ⟨by decide, by decide, by decide +kernel, by decide, (ws_mem (List.mem_of_getElem? (i := 274) (by decide +kernel)) (by decide +kernel)), by decide +kernel, by decide +kernel⟩
  · cases h; exact ⟨by decide, by decide, by decide +kernel, by decide, (ws_mem (List.mem_of_getElem? (i := 276) (by decide +kernel)) (by decide +kernel)), by decide +kernel, by decide +kernel⟩
  · cases h; exact ⟨by decide, by decide, by decide +kernel, by decide, (ws_mem (List.mem_of_getElem? (i := 278) (by decide +kernel)) (by decide +kernel)), by decide +kernel, by decide +kernel⟩
  · cases h; exact ⟨by decide, by decide, by decide +kernel, by decide, (ws_mem (List.mem_of_getElem? (i := 280) (by decide +kernel)) (by decide +kernel)), by decide +kernel, by decide +kernel⟩
  · cases h; exact ⟨by decide, by decide, by decide +kernel, by decide, (ws_mem (List.mem_of_getElem? (i := 282) (by decide +kernel)) (by decide +kernel)), by decide +kernel, by decide +kernel⟩
  · cases h; exact ⟨by decide, by decide, by decide +kernel, by decide, (ws_mem (List.mem_of_getElem? (i := 288) (by decide +kernel)) (by decide +kernel)), by decide +kernel, by decide +kernel⟩
  · cases h; exact ⟨by decide, by decide, by decide +kernel, by decide, (ws_mem (List.mem_of_getElem? (i := 289) (by decide +kernel)) (by decide +kernel)), by decide +kernel, by decide +kernel⟩
  · cases h; exact ⟨by decide, by decide, by decide +kernel, by decide, (ws_mem (List.mem_of_getElem? (i := 290) (by decide +kernel)) (by decide +kernel)), by decide +kernel, by decide +kernel⟩
  · cases h; exact ⟨by decide, by decide, by decide +kernel, by decide, (ws_mem (List.mem_of_getElem? (i := 284) (by decide +kernel)) (by decide +kernel)), by decide +kernel, by decide +kernel⟩
  · cases h; exact ⟨by decide, by decide, by decide +kernel, by decide, (ws_mem (List.mem_of_getElem? (i := 291) (by decide +kernel)) (by decide +kernel)), by decide +kernel, by decide +kernel⟩
  · cases h; exact ⟨by decide, by decide, by decide +kernel, by decide, (ws_mem (List.mem_of_getElem? (i := 286) (by decide +kernel)) (by decide +kernel)), by decide +kernel, by decide +kernel⟩
  · cases h
def zX1 (x : Nat) : Option (Int ⊕ Int) := match x with
  | 80 => some (.inl 536870912)
  | _ => none
theorem ozX1_80 (f : Int → Prop) : oI zX1 80 f = f 536870912 := propext Iff.rfl
theorem zokX1 : ZOK RX1 zX1 := by
  intro x v
  unfold zX1
  split
  · exact ⟨(fun h => (by cases h; exact (ws_mem (List.mem_of_getElem? (i := 589) (by decide +kernel)) (by decide +kernel)))), (fun h => (by cases h))⟩
  · exact ⟨(fun h => (by cases h)), (fun h => (by cases h))⟩
def uX1 (x : Nat) : Option Nat := match x with
  | 32 => some 16
  | _ => none
theorem onX1_32 (f : Nat → Prop) (g : Prop) : oN uX1 32 f g = f 16 := propext Iff.rfl
theorem uokX1 : UOK RX1 uX1 := by
  intro x t h
  unfold uX1 at h
  split at h
  · cases h; exact ⟨fun q => by revert q; decide, fun q => by revert q; decide, fun q => by revert q; decide, fun _ => (ws_mem (List.mem_of_getElem? (i := 270) (by decide +kernel)) (by decide +kernel))⟩
  · cases h
def fX2 (x : Nat) : Option (Nat × Nat × Nat × Nat) := match x with
  | 9 => some (2, 0, 0, 0)
  | 18 => some (2, 2, 2, 1)
  | 22 => some (2, 3, 2, 1)
  | 26 => some (2, 4, 2, 1)
  | 43 => some (2, 1, 0, 0)
  | _ => none
theorem ofX2_9 (f : Nat → Nat → Nat → Nat → Prop) : oF fX2 9 f = f 2 0 0 0 := propext Iff.rfl
theorem ofX2_18 (f : Nat → Nat → Nat → Nat → Prop) : oF fX2 18 f = f 2 2 2 1 := propext Iff.rfl
theorem ofX2_22 (f : Nat → Nat → Nat → Nat → Prop) : oF fX2 22 f = f 2 3 2 1 := propext Iff.rfl
theorem ofX2_26 (f : Nat → Nat → Nat → Nat → Prop) : oF fX2 26 f = f 2 4 2 1 := propext Iff.rfl
theorem ofX2_43 (f : Nat → Nat → Nat → Nat → Prop) : oF fX2 43 f = f 2 1 0 0 := propext Iff.rfl
theorem fokX2 : FOK RX2 fX2 := by
  intro x ci fi cd fw h
  unfold fX2 at h
  split at h
  · cases h; exact ⟨by decide, by decide, by decide +kernel, by decide, (ws_mem (List.mem_of_getElem? (i := 326) (by decide +kernel)) (by decide +kernel)), by decide +kernel, by decide +kernel⟩
  · cases h; exact ⟨by decide, by decide, by decide +kernel, by decide, (ws_mem (List.mem_of_getElem? (i := 330) (by decide +kernel)) (by decide +kernel)), by decide +kernel, by decide +kernel⟩
  · cases h; exact ⟨by decide, by decide, by decide +kernel, by decide, (ws_mem (List.mem_of_getElem? (i := 332) (by decide +kernel)) (by decide +kernel)), by decide +kernel, by decide +kernel⟩
  · cases h; exact ⟨by decide, by decide, by decide +kernel, by decide, (ws_mem (List.mem_of_getElem? (i := 333) (by decide +kernel)) (by decide +kernel)), by decide +kernel, by decide +kernel⟩
  · cases h; exact ⟨by decide, by decide, by decide +kernel, by decide, (ws_mem (List.mem_of_getElem? (i := 328) (by decide +kernel)) (by decide +kernel)), by decide +kernel, by decide +kernel⟩
  · cases h
def zX2 (_ : Nat) : Option (Int ⊕ Int) := none
theorem zokX2 : ZOK RX2 zX2 := fun _ _ => ⟨(fun h => (by cases h)), (fun h => (by cases h))⟩
def uX2 (x : Nat) : Option Nat := match x with
  | 15 => some 3
  | _ => none
theorem onX2_15 (f : Nat → Prop) (g : Prop) : oN uX2 15 f g = f 3 := propext Iff.rfl
theorem uokX2 : UOK RX2 uX2 := by
  intro x t h
  unfold uX2 at h
  split at h
  · cases h; exact ⟨fun _ => ⟨(ws_mem (List.mem_of_getElem? (i := 324) (by decide +kernel)) (by decide +kernel)), (ws_mem (List.mem_of_getElem? (i := 93) (by decide +kernel)) (by decide +kernel)), (ws_mem (List.mem_of_getElem? (i := 56) (by decide +kernel)) (by decide +kernel))⟩, fun q => by revert q; decide, fun q => by revert q; decide, fun q => by revert q; decide⟩
  · cases h
def fX3 (x : Nat) : Option (Nat × Nat × Nat × Nat) := match x with
  | 9 => some (3, 0, 0, 0)
  | 15 => some (3, 1, 0, 0)
  | 18 => some (3, 2, 0, 0)
  | 21 => some (3, 3, 0, 0)
  | _ => none
theorem ofX3_9 (f : Nat → Nat → Nat → Nat → Prop) : oF fX3 9 f = f 3 0 0 0 := propext Iff.rfl
theorem ofX3_15 (f : Nat → Nat → Nat → Nat → Prop) : oF fX3 15 f = f 3 1 0 0 := propext Iff.rfl
theorem ofX3_18 (f : Nat → Nat → Nat → Nat → Prop) : oF fX3 18 f = f 3 2 0 0 := propext Iff.rfl
theorem ofX3_21 (f : Nat → Nat → Nat → Nat → Prop) : oF fX3 21 f = f 3 3 0 0 := propext Iff.rfl
theorem fokX3 : FOK RX3 fX3 := by
  intro x ci fi cd fw h
  unfold fX3 at h
  split at h
  · cases h; exact ⟨by decide, by decide, by decide +kernel, by decide, (ws_mem (List.mem_of_getElem? (i := 98) (by decide +kernel)) (by decide +kernel)), by decide +kernel, by decide +kernel⟩
  · cases h; exact ⟨by decide, by decide, by decide +kernel, by decide, (ws_mem (List.mem_of_getElem? (i := 100) (by decide +kernel)) (by decide +kernel)), by decide +kernel, by decide +kernel⟩
  · cases h; exact ⟨by decide, by decide, by decide +kernel, by decide, (ws_mem (List.mem_of_getElem? (i := 103) (by decide +kernel)) (by decide +kernel)), by decide +kernel, by decide +kernel⟩
  · cases h; exact ⟨by decide, by decide, by decide +kernel, by decide, (ws_mem (List.mem_of_getElem? (i := 107) (by decide +kernel)) (by decide +kernel)), by decide +kernel, by decide +kernel⟩
  · cases h
def zX3 (_ : Nat) : Option (Int ⊕ Int) := none
theorem zokX3 : ZOK RX3 zX3 := fun _ _ => ⟨(fun h => (by cases h)), (fun h => (by cases h))⟩
def uX3 (_ : Nat) : Option Nat := none
theorem uokX3 : UOK RX3 uX3 := fun _ _ h => by cases h
theorem onX3_41 (f : Nat → Prop) (g : Prop) : oN uX3 41 f g = g := propext Iff.rfl
def fX4 (x : Nat) : Option (Nat × Nat × Nat × Nat) := match x with
  | 11 => some (4, 0, 2, 1)
  | 16 => some (4, 1, 2, 1)
  | 20 => some (5, 1, 0, 0)
  | 26 => some (5, 0, 2, 2)
  | 30 => some (3, 1, 0, 0)
  | 35 => some (6, 2, 2, 2)
  | _ => none
theorem ofX4_11 (f : Nat → Nat → Nat → Nat → Prop) : oF fX4 11 f = f 4 0 2 1 := propext Iff.rfl
theorem ofX4_16 (f : Nat → Nat → Nat → Nat → Prop) : oF fX4 16 f = f 4 1 2 1 := propext Iff.rfl
theorem ofX4_20 (f : Nat → Nat → Nat → Nat → Prop) : oF fX4 20 f = f 5 1 0 0 := propext Iff.rfl
theorem ofX4_26 (f : Nat → Nat → Nat → Nat → Prop) : oF fX4 26 f = f 5 0 2 2 := propext Iff.rfl
theorem ofX4_30 (f : Nat → Nat → Nat → Nat → Prop) : oF fX4 30 f = f 3 1 0 0 := propext Iff.rfl
theorem ofX4_35 (f : Nat → Nat → Nat → Nat → Prop) : oF fX4 35 f = f 6 2 2 2 := propext Iff.rfl
theorem fokX4 : FOK RX4 fX4 := by
  intro x ci fi cd fw h
  unfold fX4 at h
  split at h
  · cases h; exact ⟨by decide, by decide, by decide +kernel, by decide, (ws_mem (List.mem_of_getElem? (i := 257) (by decide +kernel)) (by decide +kernel)), by decide +kernel, by decide +kernel⟩
  · cases h; exact ⟨by decide, by decide, by decide +kernel, by decide, (ws_mem (List.mem_of_getElem? (i := 258) (by decide +kernel)) (by decide +kernel)), by decide +kernel, by decide +kernel⟩
  · cases h; exact ⟨by decide, by decide, by decide +kernel, by decide, (ws_mem (List.mem_of_getElem? (i := 130) (by decide +kernel)) (by decide +kernel)), by decide +kernel, by decide +kernel⟩
  · cases h; exact ⟨by decide, by decide, by decide +kernel, by decide, (ws_mem (List.mem_of_getElem? (i := 125) (by decide +kernel)) (by decide +kernel)), by decide +kernel, by decide +kernel⟩
  · cases h; exact ⟨by decide, by decide, by decide +kernel, by decide, (ws_mem (List.mem_of_getElem? (i := 101) (by decide +kernel)) (by decide +kernel)), by decide +kernel, by decide +kernel⟩
  · cases h; exact ⟨by decide, by decide, by decide +kernel, by decide, (ws_mem (List.mem_of_getElem? (i := 191) (by decide +kernel)) (by decide +kernel)), by decide +kernel, by decide +kernel⟩
  · cases h
def zX4 (_ : Nat) : Option (Int ⊕ Int) := none
theorem zokX4 : ZOK RX4 zX4 := fun _ _ => ⟨(fun h => (by cases h)), (fun h => (by cases h))⟩
def uX4 (x : Nat) : Option Nat := match x with
  | 9 => some 16
  | _ => none
theorem onX4_9 (f : Nat → Prop) (g : Prop) : oN uX4 9 f g = f 16 := propext Iff.rfl
theorem uokX4 : UOK RX4 uX4 := by
  intro x t h
  unfold uX4 at h
  split at h
  · cases h; exact ⟨fun q => by revert q; decide, fun q => by revert q; decide, fun q => by revert q; decide, fun _ => (ws_mem (List.mem_of_getElem? (i := 256) (by decide +kernel)) (by decide +kernel))⟩
  · cases h
def fX5 (x : Nat) : Option (Nat × Nat × Nat × Nat) := match x with
  | 11 => some (5, 0, 2, 1)
  | 18 => some (5, 1, 0, 0)
  | 22 => some (3, 0, 0, 0)
  | 25 => some (3, 3, 0, 0)
  | 28 => some (3, 1, 0, 0)
  | 31 => some (3, 2, 0, 0)
  | 34 => some (3, 4, 0, 0)
  | _ => none
theorem ofX5_11 (f : Nat → Nat → Nat → Nat → Prop) : oF fX5 11 f = f 5 0 2 1 := propext Iff.rfl
theorem ofX5_18 (f : Nat → Nat → Nat → Nat → Prop) : oF fX5 18 f = f 5 1 0 0 := propext Iff.rfl
theorem ofX5_22 (f : Nat → Nat → Nat → Nat → Prop) : oF fX5 22 f = f 3 0 0 0 := propext Iff.rfl
theorem ofX5_25 (f : Nat → Nat → Nat → Nat → Prop) : oF fX5 25 f = f 3 3 0 0 := propext Iff.rfl
theorem ofX5_28 (f : Nat → Nat → Nat → Nat → Prop) : oF fX5 28 f = f 3 1 0 0 := propext Iff.rfl
theorem ofX5_31 (f : Nat → Nat → Nat → Nat → Prop) : oF fX5 31 f = f 3 2 0 0 := propext Iff.rfl
theorem ofX5_34 (f : Nat → Nat → Nat → Nat → Prop) : oF fX5 34 f = f 3 4 0 0 := propext Iff.rfl
theorem fokX5 : FOK RX5 fX5 := by
  intro x ci fi cd fw h
  unfold fX5 at h
  split at h
  · cases h; exact ⟨by decide, by decide, by decide +kernel, by decide, (ws_mem (List.mem_of_getElem? (i := 124) (by decide +kernel)) (by decide +kernel)), by decide +kernel, by decide +kernel⟩
  · cases h; exact ⟨by decide, by decide, by decide +kernel, by decide, (ws_mem (List.mem_of_getElem? (i := 129) (by decide +kernel)) (by decide +kernel)), by decide +kernel, by decide +kernel⟩
  · cases h; exact ⟨by decide, by decide, by decide +kernel, by decide, (ws_mem (List.mem_of_getElem? (i := 99) (by decide +kernel)) (by decide +kernel)), by decide +kernel, by decide +kernel⟩
  · cases h; exact ⟨by decide, by decide, by decide +kernel, by decide, (ws_mem (List.mem_of_getElem? (i := 108) (by decide +kernel)) (by decide +kernel)), by decide +kernel, by decide +kernel⟩
  · cases h; exact ⟨by decide, by decide, by decide +kernel, by decide, (ws_mem (List.mem_of_getElem? (i := 102) (by decide +kernel)) (by decide +kernel)), by decide +kernel, by decide +kernel⟩
  · cases h; exact ⟨by decide, by decide, by decide +kernel, by decide, (ws_mem (List.mem_of_getElem? (i := 104) (by decide +kernel)) (by decide +kernel)), by decide +kernel, by decide +kernel⟩
  · cases h; exact ⟨by decide, by decide, by decide +kernel, by decide, (ws_mem (List.mem_of_getElem? (i := 110) (by decide +kernel)) (by decide +kernel)), by decide +kernel, by decide +kernel⟩
  · cases h
def zX5 (_ : Nat) : Option (Int ⊕ Int) := none
theorem zokX5 : ZOK RX5 zX5 := fun _ _ => ⟨(fun h => (by cases h)), (fun h => (by cases h))⟩
def uX5 (x : Nat) : Option Nat := match x with
  | 9 => some 3
  | 100009 => some 14
  | _ => none
theorem onX5_9 (f : Nat → Prop) (g : Prop) : oN uX5 9 f g = f 3 := propext Iff.rfl
theorem onX5_100009 (f : Nat → Prop) (g : Prop) : oN uX5 100009 f g = f 14 := propext Iff.rfl
theorem uokX5 : UOK RX5 uX5 := by
  intro x t h
  unfold uX5 at h
  split at h
  · cases h; exact ⟨fun _ => ⟨(ws_mem (List.mem_of_getElem? (i := 91) (by decide +kernel)) (by decide +kernel)), (ws_mem (List.mem_of_getElem? (i := 93) (by decide +kernel)) (by decide +kernel)), (ws_mem (List.mem_of_getElem? (i := 56) (by decide +kernel)) (by decide +kernel))⟩, fun q => by revert q; decide, fun q => by revert q; decide, fun q => by revert q; decide⟩
  · cases h; exact ⟨fun q => by revert q; decide, fun _ => (ws_mem (List.mem_of_getElem? (i := 91) (by decide +kernel)) (by decide +kernel)), fun q => by revert q; decide, fun q => by revert q; decide⟩
  · cases h
def fX6 (x : Nat) : Option (Nat × Nat × Nat × Nat) := match x with
  | 9 => some (6, 0, 2, 1)
  | 15 => some (6, 1, 2, 1)
  | 18 => some (6, 2, 2, 1)
  | 25 => some (5, 1, 0, 0)
  | 31 => some (5, 0, 2, 2)
  | 35 => some (0, 0, 2, 2)
  | 51 => some (6, 3, 0, 0)
  | 54 => some (0, 1, 2, 2)
  | _ => none
theorem ofX6_9 (f : Nat → Nat → Nat → Nat → Prop) : oF fX6 9 f = f 6 0 2 1 := propext Iff.rfl
theorem ofX6_15 (f : Nat → Nat → Nat → Nat → Prop) : oF fX6 15 f = f 6 1 2 1 := propext Iff.rfl
theorem ofX6_18 (f : Nat → Nat → Nat → Nat → Prop) : oF fX6 18 f = f 6 2 2 1 := propext Iff.rfl
theorem ofX6_25 (f : Nat → Nat → Nat → Nat → Prop) : oF fX6 25 f = f 5 1 0 0 := propext Iff.rfl
theorem ofX6_31 (f : Nat → Nat → Nat → Nat → Prop) : oF fX6 31 f = f 5 0 2 2 := propext Iff.rfl
theorem ofX6_35 (f : Nat → Nat → Nat → Nat → Prop) : oF fX6 35 f = f 0 0 2 2 := propext Iff.rfl
theorem ofX6_51 (f : Nat → Nat → Nat → Nat → Prop) : oF fX6 51 f = f 6 3 0 0 := propext Iff.rfl
theorem ofX6_54 (f : Nat → Nat → Nat → Nat → Prop) : oF fX6 54 f = f 0 1 2 2 := propext Iff.rfl
theorem fokX6 : FOK RX6 fX6 := by
  intro x ci fi cd fw h
  unfold fX6 at h
  split at h
  · cases h; exact ⟨by decide, by decide, by decide +kernel, by decide, (ws_mem (List.mem_of_getElem? (i := 185) (by decide +kernel)) (by decide +kernel)), by decide +kernel, by decide +kernel⟩
  · cases h; exact ⟨by decide, by decide, by decide +kernel, by decide, (ws_mem (List.mem_of_getElem? (i := 188) (by decide +kernel)) (by decide +kernel)), by decide +kernel, by decide +kernel⟩
  · cases h; exact ⟨by decide, by decide, by decide +kernel, by decide, (ws_mem (List.mem_of_getElem? (i := 190) (by decide +kernel)) (by decide +kernel)), by decide +kernel, by decide +kernel⟩
  · cases h; exact ⟨by decide, by decide, by decide +kernel, by decide, (ws_mem (List.mem_of_getElem? (i := 132) (by decide +kernel)) (by decide +kernel)), by decide +kernel, by decide +kernel⟩
  · cases h; exact ⟨by decide, by decide, by decide +kernel, by decide, (ws_mem (List.mem_of_getElem? (i := 126) (by decide +kernel)) (by decide +kernel)), by decide +kernel, by decide +kernel⟩
  · cases h; exact ⟨by decide, by decide, by decide +kernel, by decide, (ws_mem (List.mem_of_getElem? (i := 161) (by decide +kernel)) (by decide +kernel)), by decide +kernel, by decide +kernel⟩
  · cases h; exact ⟨by decide, by decide, by decide +kernel, by decide, (ws_mem (List.mem_of_getElem? (i := 194) (by decide +kernel)) (by decide +kernel)), by decide +kernel, by decide +kernel⟩
  · cases h; exact ⟨by decide, by decide, by decide +kernel, by decide, (ws_mem (List.mem_of_getElem? (i := 164) (by decide +kernel)) (by decide +kernel)), by decide +kernel, by decide +kernel⟩
  · cases h
def zX6 (_ : Nat) : Option (Int ⊕ Int) := none
theorem zokX6 : ZOK RX6 zX6 := fun _ _ => ⟨(fun h => (by cases h)), (fun h => (by cases h))⟩
def uX6 (_ : Nat) : Option Nat := none
theorem uokX6 : UOK RX6 uX6 := fun _ _ h => by cases h
def fX7 (x : Nat) : Option (Nat × Nat × Nat × Nat) := match x with
  | 12 => some (7, 0, 2, 1)
  | 21 => some (7, 1, 2, 1)
  | 28 => some (7, 3, 2, 1)
  | 32 => some (7, 4, 2, 1)
  | 35 => some (7, 5, 2, 1)
  | 41 => some (7, 6, 2, 1)
  | 44 => some (7, 7, 2, 1)
  | 47 => some (7, 8, 2, 1)
  | 50 => some (7, 9, 2, 1)
  | 53 => some (7, 10, 2, 1)
  | 56 => some (7, 11, 2, 1)
  | 65 => some (7, 2, 3, 0)
  | 69 => some (6, 0, 2, 2)
  | 76 => some (0, 0, 2, 2)
  | 87 => some (5, 0, 2, 2)
  | 91 => some (3, 4, 0, 0)
  | 101 => some (6, 2, 2, 2)
  | 108 => some (5, 1, 0, 0)
  | 111 => some (3, 2, 0, 0)
  | 147 => some (0, 1, 2, 2)
  | _ => none
theorem ofX7_12 (f : Nat → Nat → Nat → Nat → Prop) : oF fX7 12 f = f 7 0 2 1 := propext Iff.rfl
theorem ofX7_21 (f : Nat → Nat → Nat → Nat → Prop) : oF fX7 21 f = f 7 1 2 1 := propext Iff.rfl
theorem ofX7_28 (f : Nat → Nat → Nat → Nat → Prop) : oF fX7 28 f = f 7 3 2 1 := propext Iff.rfl
theorem ofX7_32 (f : Nat → Nat → Nat → Nat → Prop) : oF fX7 32 f = f 7 4 2 1 := propext Iff.rfl
theorem ofX7_35 (f : Nat → Nat → Nat → Nat → Prop) : oF fX7 35 f = f 7 5 2 1 := propext Iff.rfl
theorem ofX7_41 (f : Nat → Nat → Nat → Nat → Prop) : oF fX7 41 f = f 7 6 2 1 := propext Iff.rfl
theorem ofX7_44 (f : Nat → Nat → Nat → Nat → Prop) : oF fX7 44 f = f 7 7 2 1 := propext Iff.rfl
theorem ofX7_47 (f : Nat → Nat → Nat → Nat → Prop) : oF fX7 47 f = f 7 8 2 1 := propext Iff.rfl
theorem ofX7_50 (f : Nat → Nat → Nat → Nat → Prop) : oF fX7 50 f = f 7 9 2 1 := propext Iff.rfl
theorem ofX7_53 (f : Nat → Nat → Nat → Nat → Prop) : oF fX7 53 f = f 7 10 2 1 := propext Iff.rfl
theorem ofX7_56 (f : Nat → Nat → Nat → Nat → Prop) : oF fX7 56 f = f 7 11 2 1 := propext Iff.rfl
theorem ofX7_65 (f : Nat → Nat → Nat → Nat → Prop) : oF fX7 65 f = f 7 2 3 0 := propext Iff.rfl
theorem ofX7_69 (f : Nat → Nat → Nat → Nat → Prop) : oF fX7 69 f = f 6 0 2 2 := propext Iff.rfl
theorem ofX7_76 (f : Nat → Nat → Nat → Nat → Prop) : oF fX7 76 f = f 0 0 2 2 := propext Iff.rfl
theorem ofX7_87 (f : Nat → Nat → Nat → Nat → Prop) : oF fX7 87 f = f 5 0 2 2 := propext Iff.rfl
theorem ofX7_91 (f : Nat → Nat → Nat → Nat → Prop) : oF fX7 91 f = f 3 4 0 0 := propext Iff.rfl
theorem ofX7_101 (f : Nat → Nat → Nat → Nat → Prop) : oF fX7 101 f = f 6 2 2 2 := propext Iff.rfl
theorem ofX7_108 (f : Nat → Nat → Nat → Nat → Prop) : oF fX7 108 f = f 5 1 0 0 := propext Iff.rfl
theorem ofX7_111 (f : Nat → Nat → Nat → Nat → Prop) : oF fX7 111 f = f 3 2 0 0 := propext Iff.rfl
theorem ofX7_147 (f : Nat → Nat → Nat → Nat → Prop) : oF fX7 147 f = f 0 1 2 2 := propext Iff.rfl
theorem fokX7 : FOK RX7 fX7 := by
  intro x ci fi cd fw h
  unfold fX7 at h
  split at h
  · cases h; exact ⟨by decide, by decide, by decide +kernel, by decide, (ws_mem (List.mem_of_getElem? (i := 210) (by decide +kernel)) (by decide +kernel)), by decide +kernel, by decide +kernel⟩
  · cases h; exact ⟨by decide, by decide, by decide +kernel, by decide, (ws_mem (List.mem_of_getElem? (i := 212) (by decide +kernel)) (by decide +kernel)), by decide +kernel, by decide +kernel⟩
  · cases h; exact ⟨by decide, by decide, by decide +kernel, by decide, (ws_mem (List.mem_of_getElem? (i := 216) (by decide +kernel)) (by decide +kernel)), by decide +kernel, by decide +kernel⟩
  · cases h; exact ⟨by decide, by decide, by decide +kernel, by decide, (ws_mem (List.mem_of_getElem? (i := 217) (by decide +kernel)) (by decide +kernel)), by decide +kernel, by decide +kernel⟩
  · cases h; exact ⟨by decide, by decide, by decide +kernel, by decide, (ws_mem (List.mem_of_getElem? (i := 218) (by decide +kernel)) (by decide +kernel)), by decide +kernel, by decide +kernel⟩
  · cases h; exact ⟨by decide, by decide, by decide +kernel, by decide, (ws_mem (List.mem_of_getElem? (i := 219) (by decide +kernel)) (by decide +kernel)), by decide +kernel, by decide +kernel⟩
  · cases h; exact ⟨by decide, by decide, by decide +kernel, by decide, (ws_mem (List.mem_of_getElem? (i := 220) (by decide +kernel)) (by decide +kernel)), by decide +kernel, by decide +kernel⟩
  · cases h; exact ⟨by decide, by decide, by decide +kernel, by decide, (ws_mem (List.mem_of_getElem? (i := 221) (by decide +kernel)) (by decide +kernel)), by decide +kernel, by decide +kernel⟩
  · cases h; exact ⟨by decide, by decide, by decide +kernel, by decide, (ws_mem (List.mem_of_getElem? (i := 222) (by decide +kernel)) (by decide +kernel)), by decide +kernel, by decide +kernel⟩
  · cases h; exact ⟨by decide, by decide, by decide +kernel, by decide, (ws_mem (List.mem_of_getElem? (i := 223) (by decide +kernel)) (by decide +kernel)), by decide +kernel, by decide +kernel⟩
  · cases h; exact ⟨by decide, by decide, by decide +kernel, by decide, (ws_mem (List.mem_of_getElem? (i := 224) (by decide +kernel)) (by decide +kernel)), by decide +kernel, by decide +kernel⟩
  · cases h; exact ⟨by decide, by decide, by decide +kernel, by decide, (ws_mem (List.mem_of_getElem? (i := 214) (by decide +kernel)) (by decide +kernel)), by decide +kernel, by decide +kernel⟩
  · cases h; exact ⟨by decide, by decide, by decide +kernel, by decide, (ws_mem (List.mem_of_getElem? (i := 186) (by decide +kernel)) (by decide +kernel)), by decide +kernel, by decide +kernel⟩
  · cases h; exact ⟨by decide, by decide, by decide +kernel, by decide, (ws_mem (List.mem_of_getElem? (i := 160) (by decide +kernel)) (by decide +kernel)), by decide +kernel, by decide +kernel⟩
  · cases h; exact ⟨by decide, by decide, by decide +kernel, by decide, (ws_mem (List.mem_of_getElem? (i := 128) (by decide +kernel)) (by decide +kernel)), by decide +kernel, by decide +kernel⟩
  · cases h; exact ⟨by decide, by decide, by decide +kernel, by decide, (ws_mem (List.mem_of_getElem? (i := 111) (by decide +kernel)) (by decide +kernel)), by decide +kernel, by decide +kernel⟩
  · cases h; exact ⟨by decide, by decide, by decide +kernel, by decide, (ws_mem (List.mem_of_getElem? (i := 192) (by decide +kernel)) (by decide +kernel)), by decide +kernel, by decide +kernel⟩
  · cases h; exact ⟨by decide, by decide, by decide +kernel, by decide, (ws_mem (List.mem_of_getElem? (i := 133) (by decide +kernel)) (by decide +kernel)), by decide +kernel, by decide +kernel⟩
  · cases h; exact ⟨by decide, by decide, by decide +kernel, by decide, (ws_mem (List.mem_of_getElem? (i := 106) (by decide +kernel)) (by decide +kernel)), by decide +kernel, by decide +kernel⟩
  · cases h; exact ⟨by decide, by decide, by decide +kernel, by decide, (ws_mem (List.mem_of_getElem? (i := 166) (by decide +kernel)) (by decide +kernel)), by decide +kernel, by decide +kernel⟩
  · cases h
def zX7 (x : Nat) : Option (Int ⊕ Int) := match x with
  | 139 => some (.inl 536870912)
  | _ => none
theorem ozX7_139 (f : Int → Prop) : oI zX7 139 f = f 536870912 := propext Iff.rfl
theorem zokX7 : ZOK RX7 zX7 := by
  intro x v
  unfold zX7
  split
  · exact ⟨(fun h => (by cases h; exact (ws_mem (List.mem_of_getElem? (i := 486) (by decide +kernel)) (by decide +kernel)))), (fun h => (by cases h))⟩
  · exact ⟨(fun h => (by cases h)), (fun h => (by cases h))⟩
def uX7 (x : Nat) : Option Nat := match x with
  | 9 => some 5
  | 18 => some 0
  | 25 => some 6
  | 39 => some 16
  | _ => none
theorem onX7_9 (f : Nat → Prop) (g : Prop) : oN uX7 9 f g = f 5 := propext Iff.rfl
theorem onX7_18 (f : Nat → Prop) (g : Prop) : oN uX7 18 f g = f 0 := propext Iff.rfl
theorem onX7_25 (f : Nat → Prop) (g : Prop) : oN uX7 25 f g = f 6 := propext Iff.rfl
theorem onX7_39 (f : Nat → Prop) (g : Prop) : oN uX7 39 f g = f 16 := propext Iff.rfl
theorem uokX7 : UOK RX7 uX7 := by
  intro x t h
  unfold uX7 at h
  split at h
  · cases h; exact ⟨fun _ => ⟨(ws_mem (List.mem_of_getElem? (i := 85) (by decide +kernel)) (by decide +kernel)), (ws_mem (List.mem_of_getElem? (i := 86) (by decide +kernel)) (by decide +kernel)), (ws_mem (List.mem_of_getElem? (i := 55) (by decide +kernel)) (by decide +kernel))⟩, fun q => by revert q; decide, fun q => by revert q; decide, fun q => by revert q; decide⟩
  · cases h; exact ⟨fun _ => ⟨(ws_mem (List.mem_of_getElem? (i := 139) (by decide +kernel)) (by decide +kernel)), (ws_mem (List.mem_of_getElem? (i := 140) (by decide +kernel)) (by decide +kernel)), (ws_mem (List.mem_of_getElem? (i := 57) (by decide +kernel)) (by decide +kernel))⟩, fun q => by revert q; decide, fun q => by revert q; decide, fun q => by revert q; decide⟩
  · cases h; exact ⟨fun _ => ⟨(ws_mem (List.mem_of_getElem? (i := 179) (by decide +kernel)) (by decide +kernel)), (ws_mem (List.mem_of_getElem? (i := 180) (by decide +kernel)) (by decide +kernel)), (ws_mem (List.mem_of_getElem? (i := 59) (by decide +kernel)) (by decide +kernel))⟩, fun q => by revert q; decide, fun q => by revert q; decide, fun q => by revert q; decide⟩
  · cases h; exact ⟨fun q => by revert q; decide, fun q => by revert q; decide, fun q => by revert q; decide, fun _ => (ws_mem (List.mem_of_getElem? (i := 205) (by decide +kernel)) (by decide +kernel))⟩
  · cases h
def fX8 (x : Nat) : Option (Nat × Nat × Nat × Nat) := match x with
  | 10 => some (8, 0, 2, 1)
  | 19 => some (8, 1, 2, 1)
  | 26 => some (8, 2, 2, 1)
  | 32 => some (8, 3, 2, 1)
  | 41 => some (7, 0, 2, 2)
  | 45 => some (5, 1, 0, 0)
  | 65 => some (5, 0, 2, 2)
  | 69 => some (3, 2, 0, 0)
  | 74 => some (7, 1, 2, 2)
  | 87 => some (1, 4, 0, 0)
  | 90 => some (1, 6, 0, 0)
  | 93 => some (0, 0, 2, 2)
  | 97 => some (7, 2, 3, 0)
  | 105 => some (0, 1, 2, 2)
  | 116 => some (6, 1, 2, 2)
  | 128 => some (6, 3, 0, 0)
  | 135 => some (6, 0, 2, 2)
  | 138 => some (6, 2, 2, 2)
  | 161 => some (3, 4, 0, 0)
  | 169 => some (1, 0, 2, 2)
  | 172 => some (1, 1, 2, 2)
  | 175 => some (1, 5, 3, 0)
  | 192 => some (1, 7, 0, 0)
  | 193 => some (1, 2, 2, 2)
  | 199 => some (1, 3, 2, 2)
  | 211 => some (2, 0, 0, 0)
  | 231 => some (2, 1, 0, 0)
  | 250 => some (2, 2, 2, 2)
  | 260 => some (3, 3, 0, 0)
  | _ => none
theorem ofX8_10 (f : Nat → Nat → Nat → Nat → Prop) : oF fX8 10 f = f 8 0 2 1 := propext Iff.rfl
theorem ofX8_19 (f : Nat → Nat → Nat → Nat → Prop) : oF fX8 19 f = f 8 1 2 1 := propext Iff.rfl
theorem ofX8_26 (f : Nat → Nat → Nat → Nat → Prop) : oF fX8 26 f = f 8 2 2 1 := propext Iff.rfl
theorem ofX8_32 (f : Nat → Nat → Nat → Nat → Prop) : oF fX8 32 f = f 8 3 2 1 := propext Iff.rfl
theorem ofX8_41 (f : Nat → Nat → Nat → Nat → Prop) : oF fX8 41 f = f 7 0 2 2 := propext Iff.rfl
theorem ofX8_45 (f : Nat → Nat → Nat → Nat → Prop) : oF fX8 45 f = f 5 1 0 0 := propext Iff.rfl
theorem ofX8_65 (f : Nat → Nat → Nat → Nat → Prop) : oF fX8 65 f = f 5 0 2 2 := propext Iff.rfl
theorem ofX8_69 (f : Nat → Nat → Nat → Nat → Prop) : oF fX8 69 f = f 3 2 0 0 := propext Iff.rfl
theorem ofX8_74 (f : Nat → Nat → Nat → Nat → Prop) : oF fX8 74 f = f 7 1 2 2 := propext Iff.rfl
theorem ofX8_87 (f : Nat → Nat → Nat → Nat → Prop) : oF fX8 87 f = f 1 4 0 0 := propext Iff.rfl
theorem ofX8_90 (f : Nat → Nat → Nat → Nat → Prop) : oF fX8 90 f = f 1 6 0 0 := propext Iff.rfl
theorem ofX8_93 (f : Nat → Nat → Nat → Nat → Prop) : oF fX8 93 f = f 0 0 2 2 := propext Iff.rfl
theorem ofX8_97 (f : Nat → Nat → Nat → Nat → Prop) : oF fX8 97 f = f 7 2 3 0 := propext Iff.rfl
theorem ofX8_105 (f : Nat → Nat → Nat → Nat → Prop) : oF fX8 105 f = f 0 1 2 2 := propext Iff.rfl
theorem ofX8_116 (f : Nat → Nat → Nat → Nat → Prop) : oF fX8 116 f = f 6 1 2 2 := propext Iff.rfl
theorem ofX8_128 (f : Nat → Nat → Nat → Nat → Prop) : oF fX8 128 f = f 6 3 0 0 := propext Iff.rfl
theorem ofX8_135 (f : Nat → Nat → Nat → Nat → Prop) : oF fX8 135 f = f 6 0 2 2 := propext Iff.rfl
theorem ofX8_138 (f : Nat → Nat → Nat → Nat → Prop) : oF fX8 138 f = f 6 2 2 2 := propext Iff.rfl
theorem ofX8_161 (f : Nat → Nat → Nat → Nat → Prop) : oF fX8 161 f = f 3 4 0 0 := propext Iff.rfl
theorem ofX8_169 (f : Nat → Nat → Nat → Nat → Prop) : oF fX8 169 f = f 1 0 2 2 := propext Iff.rfl
theorem ofX8_172 (f : Nat → Nat → Nat → Nat → Prop) : oF fX8 172 f = f 1 1 2 2 := propext Iff.rfl
theorem ofX8_175 (f : Nat → Nat → Nat → Nat → Prop) : oF fX8 175 f = f 1 5 3 0 := propext Iff.rfl
theorem ofX8_192 (f : Nat → Nat → Nat → Nat → Prop) : oF fX8 192 f = f 1 7 0 0 := propext Iff.rfl
theorem ofX8_193 (f : Nat → Nat → Nat → Nat → Prop) : oF fX8 193 f = f 1 2 2 2 := propext Iff.rfl
theorem ofX8_199 (f : Nat → Nat → Nat → Nat → Prop) : oF fX8 199 f = f 1 3 2 2 := propext Iff.rfl
theorem ofX8_211 (f : Nat → Nat → Nat → Nat → Prop) : oF fX8 211 f = f 2 0 0 0 := propext Iff.rfl
theorem ofX8_231 (f : Nat → Nat → Nat → Nat → Prop) : oF fX8 231 f = f 2 1 0 0 := propext Iff.rfl
theorem ofX8_250 (f : Nat → Nat → Nat → Nat → Prop) : oF fX8 250 f = f 2 2 2 2 := propext Iff.rfl
theorem ofX8_260 (f : Nat → Nat → Nat → Nat → Prop) : oF fX8 260 f = f 3 3 0 0 := propext Iff.rfl
theorem fokX8 : FOK RX8 fX8 := by
  intro x ci fi cd fw h
  unfold fX8 at h
  split at h
  · cases h; exact ⟨by decide, by decide, by decide +kernel, by decide, (ws_mem (List.mem_of_getElem? (i := 346) (by decide +kernel)) (by decide +kernel)), by decide +kernel, by decide +kernel⟩
  · cases h; exact ⟨by decide, by decide, by decide +kernel, by decide, (ws_mem (List.mem_of_getElem? (i := 347) (by decide +kernel)) (by decide +kernel)), by decide +kernel, by decide +kernel⟩
  · cases h; exact ⟨by decide, by decide, by decide +kernel, by decide, (ws_mem (List.mem_of_getElem? (i := 348) (by decide +kernel)) (by decide +kernel)), by decide +kernel, by decide +kernel⟩
  · cases h; exact ⟨by decide, by decide, by decide +kernel, by decide, (ws_mem (List.mem_of_getElem? (i := 349) (by decide +kernel)) (by decide +kernel)), by decide +kernel, by decide +kernel⟩
  · cases h; exact ⟨by decide, by decide, by decide +kernel, by decide, (ws_mem (List.mem_of_getElem? (i := 211) (by decide +kernel)) (by decide +kernel)), by decide +kernel, by decide +kernel⟩
  · cases h; exact ⟨by decide, by decide, by decide +kernel, by decide, (ws_mem (List.mem_of_getElem? (i := 131) (by decide +kernel)) (by decide +kernel)), by decide +kernel, by decide +kernel⟩
  · cases h; exact ⟨by decide, by decide, by decide +kernel, by decide, (ws_mem (List.mem_of_getElem? (i := 127) (by decide +kernel)) (by decide +kernel)), by decide +kernel, by decide +kernel⟩
  · cases h; exact ⟨by decide, by decide, by decide +kernel, by decide, (ws_mem (List.mem_of_getElem? (i := 105) (by decide +kernel)) (by decide +kernel)), by decide +kernel, by decide +kernel⟩
  · cases h; exact ⟨by decide, by decide, by decide +kernel, by decide, (ws_mem (List.mem_of_getElem? (i := 213) (by decide +kernel)) (by decide +kernel)), by decide +kernel, by decide +kernel⟩
  · cases h; exact ⟨by decide, by decide, by decide +kernel, by decide, (ws_mem (List.mem_of_getElem? (i := 281) (by decide +kernel)) (by decide +kernel)), by decide +kernel, by decide +kernel⟩
  · cases h; exact ⟨by decide, by decide, by decide +kernel, by decide, (ws_mem (List.mem_of_getElem? (i := 285) (by decide +kernel)) (by decide +kernel)), by decide +kernel, by decide +kernel⟩
  · cases h; exact ⟨by decide, by decide, by decide +kernel, by decide, (ws_mem (List.mem_of_getElem? (i := 162) (by decide +kernel)) (by decide +kernel)), by decide +kernel, by decide +kernel⟩
  · cases h; exact ⟨by decide, by decide, by decide +kernel, by decide, (ws_mem (List.mem_of_getElem? (i := 215) (by decide +kernel)) (by decide +kernel)), by decide +kernel, by decide +kernel⟩
  · cases h; exact ⟨by decide, by decide, by decide +kernel, by decide, (ws_mem (List.mem_of_getElem? (i := 165) (by decide +kernel)) (by decide +kernel)), by decide +kernel, by decide +kernel⟩
  · cases h; exact ⟨by decide, by decide, by decide +kernel, by decide, (ws_mem (List.mem_of_getElem? (i := 189) (by decide +kernel)) (by decide +kernel)), by decide +kernel, by decide +kernel⟩
  · cases h; exact ⟨by decide, by decide, by decide +kernel, by decide, (ws_mem (List.mem_of_getElem? (i := 195) (by decide +kernel)) (by decide +kernel)), by decide +kernel, by decide +kernel⟩
  · cases h; exact ⟨by decide, by decide, by decide +kernel, by decide, (ws_mem (List.mem_of_getElem? (i := 187) (by decide +kernel)) (by decide +kernel)), by decide +kernel, by decide +kernel⟩
  · cases h; exact ⟨by decide, by decide, by decide +kernel, by decide, (ws_mem (List.mem_of_getElem? (i := 193) (by decide +kernel)) (by decide +kernel)), by decide +kernel, by decide +kernel⟩
  · cases h; exact ⟨by decide, by decide, by decide +kernel, by decide, (ws_mem (List.mem_of_getElem? (i := 112) (by decide +kernel)) (by decide +kernel)), by decide +kernel, by decide +kernel⟩
  · cases h; exact ⟨by decide, by decide, by decide +kernel, by decide, (ws_mem (List.mem_of_getElem? (i := 273) (by decide +kernel)) (by decide +kernel)), by decide +kernel, by decide +kernel⟩
  · cases h; exact ⟨by decide, by decide, by decide +kernel, by decide, (ws_mem (List.mem_of_getElem? (i := 275) (by decide +kernel)) (by decide +kernel)), by decide +kernel, by decide +kernel⟩
  · cases h; exact ⟨by decide, by decide, by decide +kernel, by decide, (ws_mem (List.mem_of_getElem? (i := 283) (by decide +kernel)) (by decide +kernel)), by decide +kernel, by decide +kernel⟩
  · cases h; exact ⟨by decide, by decide, by decide +kernel, by decide, (ws_mem (List.mem_of_getElem? (i := 287) (by decide +kernel)) (by decide +kernel)), by decide +kernel, by decide +kernel⟩
  · cases h; exact ⟨by decide, by decide, by decide +kernel, by decide, (ws_mem (List.mem_of_getElem? (i := 277) (by decide +kernel)) (by decide +kernel)), by decide +kernel, by decide +kernel⟩
  · cases h; exact ⟨by decide, by decide, by decide +kernel, by decide, (ws_mem (List.mem_of_getElem? (i := 279) (by decide +kernel)) (by decide +kernel)), by decide +kernel, by decide +kernel⟩
  · cases h; exact ⟨by decide, by decide, by decide +kernel, by decide, (ws_mem (List.mem_of_getElem? (i := 327) (by decide +kernel)) (by decide +kernel)), by decide +kernel, by decide +kernel⟩
  · cases h; exact ⟨by decide, by decide, by decide +kernel, by decide, (ws_mem (List.mem_of_getElem? (i := 329) (by decide +kernel)) (by decide +kernel)), by decide +kernel, by decide +kernel⟩
  · cases h; exact ⟨by decide, by decide, by decide +kernel, by decide, (ws_mem (List.mem_of_getElem? (i := 331) (by decide +kernel)) (by decide +kernel)), by decide +kernel, by decide +kernel⟩
  · cases h; exact ⟨by decide, by decide, by decide +kernel, by decide, (ws_mem (List.mem_of_getElem? (i := 109) (by decide +kernel)) (by decide +kernel)), by decide +kernel, by decide +kernel⟩
  · cases h
def zX8 (x : Nat) : Option (Int ⊕ Int) := match x with
  | 160 => some (.inl 200000)
  | 263 => some (.inl 100000)
  | _ => none
theorem ozX8_160 (f : Int → Prop) : oI zX8 160 f = f 200000 := propext Iff.rfl
theorem ozX8_263 (f : Int → Prop) : oI zX8 263 f = f 100000 := propext Iff.rfl
theorem zokX8 : ZOK RX8 zX8 := by
  intro x v
  unfold zX8
  split
  · exact ⟨(fun h => (by cases h; exact (ws_mem (List.mem_of_getElem? (i := 550) (by decide +kernel)) (by decide +kernel)))), (fun h => (by cases h))⟩
  · exact ⟨(fun h => (by cases h; exact (ws_mem (List.mem_of_getElem? (i := 409) (by decide +kernel)) (by decide +kernel)))), (fun h => (by cases h))⟩
  · exact ⟨(fun h => (by cases h)), (fun h => (by cases h))⟩
def uX8 (x : Nat) : Option Nat := match x with
  | 7 => some 7
  | 16 => some 4
  | 23 => some 1
  | 30 => some 2
  | 100030 => some 15
  | _ => none
theorem onX8_7 (f : Nat → Prop) (g : Prop) : oN uX8 7 f g = f 7 := propext Iff.rfl
theorem onX8_16 (f : Nat → Prop) (g : Prop) : oN uX8 16 f g = f 4 := propext Iff.rfl
theorem onX8_23 (f : Nat → Prop) (g : Prop) : oN uX8 23 f g = f 1 := propext Iff.rfl
theorem onX8_30 (f : Nat → Prop) (g : Prop) : oN uX8 30 f g = f 2 := propext Iff.rfl
theorem onX8_100030 (f : Nat → Prop) (g : Prop) : oN uX8 100030 f g = f 15 := propext Iff.rfl
theorem uokX8 : UOK RX8 uX8 := by
  intro x t h
  unfold uX8 at h
  split at h
  · cases h; exact ⟨fun _ => ⟨(ws_mem (List.mem_of_getElem? (i := 79) (by decide +kernel)) (by decide +kernel)), (ws_mem (List.mem_of_getElem? (i := 80) (by decide +kernel)) (by decide +kernel)), (ws_mem (List.mem_of_getElem? (i := 54) (by decide +kernel)) (by decide +kernel))⟩, fun q => by revert q; decide, fun q => by revert q; decide, fun q => by revert q; decide⟩
  · cases h; exact ⟨fun _ => ⟨(ws_mem (List.mem_of_getElem? (i := 250) (by decide +kernel)) (by decide +kernel)), (ws_mem (List.mem_of_getElem? (i := 251) (by decide +kernel)) (by decide +kernel)), (ws_mem (List.mem_of_getElem? (i := 61) (by decide +kernel)) (by decide +kernel))⟩, fun q => by revert q; decide, fun q => by revert q; decide, fun q => by revert q; decide⟩
  · cases h; exact ⟨fun _ => ⟨(ws_mem (List.mem_of_getElem? (i := 264) (by decide +kernel)) (by decide +kernel)), (ws_mem (List.mem_of_getElem? (i := 265) (by decide +kernel)) (by decide +kernel)), (ws_mem (List.mem_of_getElem? (i := 62) (by decide +kernel)) (by decide +kernel))⟩, fun q => by revert q; decide, fun q => by revert q; decide, fun q => by revert q; decide⟩
  · cases h; exact ⟨fun _ => ⟨(ws_mem (List.mem_of_getElem? (i := 317) (by decide +kernel)) (by decide +kernel)), (ws_mem (List.mem_of_getElem? (i := 319) (by decide +kernel)) (by decide +kernel)), (ws_mem (List.mem_of_getElem? (i := 63) (by decide +kernel)) (by decide +kernel))⟩, fun q => by revert q; decide, fun q => by revert q; decide, fun q => by revert q; decide⟩
  · cases h; exact ⟨fun q => by revert q; decide, fun q => by revert q; decide, fun _ => (ws_mem (List.mem_of_getElem? (i := 317) (by decide +kernel)) (by decide +kernel)), fun q => by revert q; decide⟩
  · cases h
theorem onX8_121 (f : Nat → Prop) (g : Prop) : oN uX8 121 f g = g := propext Iff.rfl
theorem onX8_232 (f : Nat → Prop) (g : Prop) : oN uX8 232 f g = g := propext Iff.rfl
def fX9 (x : Nat) : Option (Nat × Nat × Nat × Nat) := match x with
  | 7 => some (9, 0, 0, 0)
  | 13 => some (9, 1, 0, 0)
  | 16 => some (9, 2, 0, 0)
  | 19 => some (9, 3, 0, 0)
  | 22 => some (9, 4, 0, 0)
  | 25 => some (9, 5, 0, 0)
  | 28 => some (9, 6, 2, 1)
  | 32 => some (9, 7, 2, 1)
  | 35 => some (9, 8, 2, 1)
  | 38 => some (9, 9, 2, 1)
  | 41 => some (9, 10, 2, 1)
  | 44 => some (9, 11, 2, 1)
  | 47 => some (9, 12, 2, 1)
  | 50 => some (9, 13, 2, 1)
  | 54 => some (9, 14, 2, 1)
  | 58 => some (9, 15, 2, 1)
  | 61 => some (9, 16, 2, 1)
  | 64 => some (9, 17, 2, 1)
  | 67 => some (9, 18, 2, 1)
  | 70 => some (9, 19, 2, 1)
  | 73 => some (9, 20, 2, 1)
  | 76 => some (9, 21, 2, 1)
  | 79 => some (9, 22, 2, 1)
  | 82 => some (9, 23, 2, 1)
  | 85 => some (9, 24, 2, 1)
  | 88 => some (9, 25, 3, 0)
  | 92 => some (9, 26, 2, 1)
  | 95 => some (9, 27, 2, 1)
  | 98 => some (9, 28, 2, 1)
  | 101 => some (9, 29, 2, 1)
  | 104 => some (9, 30, 2, 1)
  | 107 => some (9, 31, 2, 1)
  | 110 => some (9, 32, 2, 1)
  | 113 => some (9, 33, 2, 1)
  | 116 => some (9, 34, 2, 1)
  | 119 => some (9, 35, 2, 1)
  | 122 => some (9, 36, 2, 1)
  | 125 => some (9, 37, 2, 1)
  | _ => none
theorem ofX9_7 (f : Nat → Nat → Nat → Nat → Prop) : oF fX9 7 f = f 9 0 0 0 := propext Iff.rfl
theorem ofX9_13 (f : Nat → Nat → Nat → Nat → Prop) : oF fX9 13 f = f 9 1 0 0 := propext Iff.rfl
theorem ofX9_16 (f : Nat → Nat → Nat → Nat → Prop) : oF fX9 16 f = f 9 2 0 0 := propext Iff.rfl
theorem ofX9_19 (f : Nat → Nat → Nat → Nat → Prop) : oF fX9 19 f = f 9 3 0 0 := propext Iff.rfl
theorem ofX9_22 (f : Nat → Nat → Nat → Nat → Prop) : oF fX9 22 f = f 9 4 0 0 := propext Iff.rfl
theorem ofX9_25 (f : Nat → Nat → Nat → Nat → Prop) : oF fX9 25 f = f 9 5 0 0 := propext Iff.rfl
theorem ofX9_28 (f : Nat → Nat → Nat → Nat → Prop) : oF fX9 28 f = f 9 6 2 1 := propext Iff.rfl
theorem ofX9_32 (f : Nat → Nat → Nat → Nat → Prop) : oF fX9 32 f = f 9 7 2 1 := propext Iff.rfl
theorem ofX9_35 (f : Nat → Nat → Nat → Nat → Prop) : oF fX9 35 f = f 9 8 2 1 := propext Iff.rfl
theorem ofX9_38 (f : Nat → Nat → Nat → Nat → Prop) : oF fX9 38 f = f 9 9 2 1 := propext Iff.rfl
theorem ofX9_41 (f : Nat → Nat → Nat → Nat → Prop) : oF fX9 41 f = f 9 10 2 1 := propext Iff.rfl
theorem ofX9_44 (f : Nat → Nat → Nat → Nat → Prop) : oF fX9 44 f = f 9 11 2 1 := propext Iff.rfl
theorem ofX9_47 (f : Nat → Nat → Nat → Nat → Prop) : oF fX9 47 f = f 9 12 2 1 := propext Iff.rfl
theorem ofX9_50 (f : Nat → Nat → Nat → Nat → Prop) : oF fX9 50 f = f 9 13 2 1 := propext Iff.rfl
theorem ofX9_54 (f : Nat → Nat → Nat → Nat → Prop) : oF fX9 54 f = f 9 14 2 1 := propext Iff.rfl
theorem ofX9_58 (f : Nat → Nat → Nat → Nat → Prop) : oF fX9 58 f = f 9 15 2 1 := propext Iff.rfl
theorem ofX9_61 (f : Nat → Nat → Nat → Nat → Prop) : oF fX9 61 f = f 9 16 2 1 := propext Iff.rfl
theorem ofX9_64 (f : Nat → Nat → Nat → Nat → Prop) : oF fX9 64 f = f 9 17 2 1 := propext Iff.rfl
theorem ofX9_67 (f : Nat → Nat → Nat → Nat → Prop) : oF fX9 67 f = f 9 18 2 1 := propext Iff.rfl
theorem ofX9_70 (f : Nat → Nat → Nat → Nat → Prop) : oF fX9 70 f = f 9 19 2 1 := propext Iff.rfl
theorem ofX9_73 (f : Nat → Nat → Nat → Nat → Prop) : oF fX9 73 f = f 9 20 2 1 := propext Iff.rfl
theorem ofX9_76 (f : Nat → Nat → Nat → Nat → Prop) : oF fX9 76 f = f 9 21 2 1 := propext Iff.rfl
theorem ofX9_79 (f : Nat → Nat → Nat → Nat → Prop) : oF fX9 79 f = f 9 22 2 1 := propext Iff.rfl
theorem ofX9_82 (f : Nat → Nat → Nat → Nat → Prop) : oF fX9 82 f = f 9 23 2 1 := propext Iff.rfl
theorem ofX9_85 (f : Nat → Nat → Nat → Nat → Prop) : oF fX9 85 f = f 9 24 2 1 := propext Iff.rfl
theorem ofX9_88 (f : Nat → Nat → Nat → Nat → Prop) : oF fX9 88 f = f 9 25 3 0 := propext Iff.rfl
theorem ofX9_92 (f : Nat → Nat → Nat → Nat → Prop) : oF fX9 92 f = f 9 26 2 1 := propext Iff.rfl
theorem ofX9_95 (f : Nat → Nat → Nat → Nat → Prop) : oF fX9 95 f = f 9 27 2 1 := propext Iff.rfl
theorem ofX9_98 (f : Nat → Nat → Nat → Nat → Prop) : oF fX9 98 f = f 9 28 2 1 := propext Iff.rfl
theorem ofX9_101 (f : Nat → Nat → Nat → Nat → Prop) : oF fX9 101 f = f 9 29 2 1 := propext Iff.rfl
theorem ofX9_104 (f : Nat → Nat → Nat → Nat → Prop) : oF fX9 104 f = f 9 30 2 1 := propext Iff.rfl
theorem ofX9_107 (f : Nat → Nat → Nat → Nat → Prop) : oF fX9 107 f = f 9 31 2 1 := propext Iff.rfl
theorem ofX9_110 (f : Nat → Nat → Nat → Nat → Prop) : oF fX9 110 f = f 9 32 2 1 := propext Iff.rfl
theorem ofX9_113 (f : Nat → Nat → Nat → Nat → Prop) : oF fX9 113 f = f 9 33 2 1 := propext Iff.rfl
theorem ofX9_116 (f : Nat → Nat → Nat → Nat → Prop) : oF fX9 116 f = f 9 34 2 1 := propext Iff.rfl
theorem ofX9_119 (f : Nat → Nat → Nat → Nat → Prop) : oF fX9 119 f = f 9 35 2 1 := propext Iff.rfl
theorem ofX9_122 (f : Nat → Nat → Nat → Nat → Prop) : oF fX9 122 f = f 9 36 2 1 := propext Iff.rfl
theorem ofX9_125 (f : Nat → Nat → Nat → Nat → Prop) : oF fX9 125 f = f 9 37 2 1 := propext Iff.rfl
theorem fokX9 : FOK RX9 fX9 := by
  intro x ci fi cd fw h
  unfold fX9 at h
  split at h
  · cases h; exact ⟨by decide, by decide, by decide +kernel, by decide, (ws_mem (List.mem_of_getElem? (i := 854) (by decide +kernel)) (by decide +kernel)), by decide +kernel, by decide +kernel⟩
  · cases h; exact ⟨by decide, by decide, by decide +kernel, by decide, (ws_mem (List.mem_of_getElem? (i := 855) (by decide +kernel)) (by decide +kernel)), by decide +kernel, by decide +kernel⟩
  · cases h; exact ⟨by decide, by decide, by decide +kernel, by decide, (ws_mem (List.mem_of_getElem? (i := 856) (by decide +kernel)) (by decide +kernel)), by decide +kernel, by decide +kernel⟩
  · cases h; exact ⟨by decide, by decide, by decide +kernel, by decide, (ws_mem (List.mem_of_getElem? (i := 857) (by decide +kernel)) (by decide +kernel)), by decide +kernel, by decide +kernel⟩
  · cases h; exact ⟨by decide, by decide, by decide +kernel, by decide, (ws_mem (List.mem_of_getElem? (i := 858) (by decide +kernel)) (by decide +kernel)), by decide +kernel, by decide +kernel⟩
  · cases h; exact ⟨by decide, by decide, by decide +kernel, by decide, (ws_mem (List.mem_of_getElem? (i := 859) (by decide +kernel)) (by decide +kernel)), by decide +kernel, by decide +kernel⟩
  · cases h; exact ⟨by decide, by decide, by decide +kernel, by decide, (ws_mem (List.mem_of_getElem? (i := 860) (by decide +kernel)) (by decide +kernel)), by decide +kernel, by decide +kernel⟩
  · cases h; exact ⟨by decide, by decide, by decide +kernel, by decide, (ws_mem (List.mem_of_getElem? (i := 861) (by decide +kernel)) (by decide +kernel)), by decide +kernel, by decide +kernel⟩
  · cases h; exact ⟨by decide, by decide, by decide +kernel, by decide, (ws_mem (List.mem_of_getElem? (i := 862) (by decide +kernel)) (by decide +kernel)), by decide +kernel, by decide +kernel⟩
  · cases h; exact ⟨by decide, by decide, by decide +kernel, by decide, (ws_mem (List.mem_of_getElem? (i := 863) (by decide +kernel)) (by decide +kernel)), by decide +kernel, by decide +kernel⟩
  · cases h; exact ⟨by decide, by decide, by decide +kernel, by decide, (ws_mem (List.mem_of_getElem? (i := 864) (by decide +kernel)) (by decide +kernel)), by decide +kernel, by decide +kernel⟩
  · cases h; exact ⟨by decide, by decide, by decide +kernel, by decide, (ws_mem (List.mem_of_getElem? (i := 865) (by decide +kernel)) (by decide +kernel)), by decide +kernel, by decide +kernel⟩
  · cases h; exact ⟨by decide, by decide, by decide +kernel, by decide, (ws_mem (List.mem_of_getElem? (i := 866) (by decide +kernel)) (by decide +kernel)), by decide +kernel, by decide +kernel⟩
  · cases h; exact ⟨by decide, by decide, by decide +kernel, by decide, (ws_mem (List.mem_of_getElem? (i := 867) (by decide +kernel)) (by decide +kernel)), by decide +kernel, by decide +kernel⟩
  · cases h; exact ⟨by decide, by decide, by decide +kernel, by decide, (ws_mem (List.mem_of_getElem? (i := 868) (by decide +kernel)) (by decide +kernel)), by decide +kernel, by decide +kernel⟩
  · cases h; exact ⟨by decide, by decide, by decide +kernel, by decide, (ws_mem (List.mem_of_getElem? (i := 869) (by decide +kernel)) (by decide +kernel)), by decide +kernel, by decide +kernel⟩
  · cases h; exact ⟨by decide, by decide, by decide +kernel, by decide, (ws_mem (List.mem_of_getElem? (i := 870) (by decide +kernel)) (by decide +kernel)), by decide +kernel, by decide +kernel⟩
  · cases h; exact ⟨by decide, by decide, by decide +kernel, by decide, (ws_mem (List.mem_of_getElem? (i := 871) (by decide +kernel)) (by decide +kernel)), by decide +kernel, by decide +kernel⟩
  · cases h; exact ⟨by decide, by decide, by decide +kernel, by decide, (ws_mem (List.mem_of_getElem? (i := 872) (by decide +kernel)) (by decide +kernel)), by decide +kernel, by decide +kernel⟩
  · cases h; exact ⟨by decide, by decide, by decide +kernel, by decide, (ws_mem (List.mem_of_getElem? (i := 873) (by decide +kernel)) (by decide +kernel)), by decide +kernel, by decide +kernel⟩
  · cases h; exact ⟨by decide, by decide, by decide +kernel, by decide, (ws_mem (List.mem_of_getElem? (i := 874) (by decide +kernel)) (by decide +kernel)), by decide +kernel, by decide +kernel⟩
  · cases h; exact ⟨by decide, by decide, by decide +kernel, by decide, (ws_mem (List.mem_of_getElem? (i := 875) (by decide +kernel)) (by decide +kernel)), by decide +kernel, by decide +kernel⟩
  · cases h; exact ⟨by decide, by decide, by decide +kernel, by decide, (ws_mem (List.mem_of_getElem? (i := 876) (by decide +kernel)) (by decide +kernel)), by decide +kernel, by decide +kernel⟩
  · cases h; exact ⟨by decide, by decide, by decide +kernel, by decide, (ws_mem (List.mem_of_getElem? (i := 877) (by decide +kernel)) (by decide +kernel)), by decide +kernel, by decide +kernel⟩
  · cases h; exact ⟨by decide, by decide, by decide +kernel, by decide, (ws_mem (List.mem_of_getElem? (i := 878) (by decide +kernel)) (by decide +kernel)), by decide +kernel, by decide +kernel⟩
  · cases h; exact ⟨by decide, by decide, by decide +kernel, by decide, (ws_mem (List.mem_of_getElem? (i := 879) (by decide +kernel)) (by decide +kernel)), by decide +kernel, by decide +kernel⟩
  · cases h; exact ⟨by decide, by decide, by decide +kernel, by decide, (ws_mem (List.mem_of_getElem? (i := 880) (by decide +kernel)) (by decide +kernel)), by decide +kernel, by decide +kernel⟩
  · cases h; exact ⟨by decide, by decide, by decide +kernel, by decide, (ws_mem (List.mem_of_getElem? (i := 881) (by decide +kernel)) (by decide +kernel)), by decide +kernel, by decide +kernel⟩
  · cases h; exact ⟨by decide, by decide, by decide +kernel, by decide, (ws_mem (List.mem_of_getElem? (i := 882) (by decide +kernel)) (by decide +kernel)), by decide +kernel, by decide +kernel⟩
  · cases h; exact ⟨by decide, by decide, by decide +kernel, by decide, (ws_mem (List.mem_of_getElem? (i := 883) (by decide +kernel)) (by decide +kernel)), by decide +kernel, by decide +kernel⟩
  · cases h; exact ⟨by decide, by decide, by decide +kernel, by decide, (ws_mem (List.mem_of_getElem? (i := 884) (by decide +kernel)) (by decide +kernel)), by decide +kernel, by decide +kernel⟩
  · cases h; exact ⟨by decide, by decide, by decide +kernel, by decide, (ws_mem (List.mem_of_getElem? (i := 885) (by decide +kernel)) (by decide +kernel)), by decide +kernel, by decide +kernel⟩
  · cases h; exact ⟨by decide, by decide, by decide +kernel, by decide, (ws_mem (List.mem_of_getElem? (i := 886) (by decide +kernel)) (by decide +kernel)), by decide +kernel, by decide +kernel⟩
  · cases h; exact ⟨by decide, by decide, by decide +kernel, by decide, (ws_mem (List.mem_of_getElem? (i := 887) (by decide +kernel)) (by decide +kernel)), by decide +kernel, by decide +kernel⟩
  · cases h; exact ⟨by decide, by decide, by decide +kernel, by decide, (ws_mem (List.mem_of_getElem? (i := 888) (by decide +kernel)) (by decide +kernel)), by decide +kernel, by decide +kernel⟩
  · cases h; exact ⟨by decide, by decide, by decide +kernel, by decide, (ws_mem (List.mem_of_getElem? (i := 889) (by decide +kernel)) (by decide +kernel)), by decide +kernel, by decide +kernel⟩
  · cases h; exact ⟨by decide, by decide, by decide +kernel, by decide, (ws_mem (List.mem_of_getElem? (i := 890) (by decide +kernel)) (by decide +kernel)), by decide +kernel, by decide +kernel⟩
  · cases h; exact ⟨by decide, by decide, by decide +kernel, by decide, (ws_mem (List.mem_of_getElem? (i := 891) (by decide +kernel)) (by decide +kernel)), by decide +kernel, by decide +kernel⟩
  · cases h
def zX9 (x : Nat) : Option (Int ⊕ Int) := match x with
  | 139 => some (.inl 100000)
  | 174 => some (.inr 1000000000000)
  | 216 => some (.inl 200000)
  | _ => none
theorem ozX9_139 (f : Int → Prop) : oI zX9 139 f = f 100000 := propext Iff.rfl
theorem ozX9_174 (f : Int → Prop) : oL zX9 174 f = f 1000000000000 := propext Iff.rfl
theorem ozX9_216 (f : Int → Prop) : oI zX9 216 f = f 200000 := propext Iff.rfl
theorem zokX9 : ZOK RX9 zX9 := by
  intro x v
  unfold zX9
  split
  · exact ⟨(fun h => (by cases h; exact (ws_mem (List.mem_of_getElem? (i := 1011) (by decide +kernel)) (by decide +kernel)))), (fun h => (by cases h))⟩
  · exact ⟨(fun h => (by cases h)), (fun h => (by cases h; exact (ws_mem (List.mem_of_getElem? (i := 1076) (by decide +kernel)) (by decide +kernel))))⟩
  · exact ⟨(fun h => (by cases h; exact (ws_mem (List.mem_of_getElem? (i := 1141) (by decide +kernel)) (by decide +kernel)))), (fun h => (by cases h))⟩
  · exact ⟨(fun h => (by cases h)), (fun h => (by cases h))⟩
def uX9 (_ : Nat) : Option Nat := none
theorem uokX9 : UOK RX9 uX9 := fun _ _ h => by cases h
def fL (_ : Nat) : Option (Nat × Nat × Nat × Nat) := none
theorem fokL : FOK RL fL := fun _ _ _ _ _ h => by cases h
def zL (_ : Nat) : Option (Int ⊕ Int) := none
theorem zokL : ZOK RL zL := fun _ _ => ⟨(fun h => (by cases h)), (fun h => (by cases h))⟩
def uL (x : Nat) : Option Nat := match x with
  | 8 => some 8
  | 34 => some 9
  | _ => none
theorem onL_8 (f : Nat → Prop) (g : Prop) : oN uL 8 f g = f 8 := propext Iff.rfl
theorem onL_34 (f : Nat → Prop) (g : Prop) : oN uL 34 f g = f 9 := propext Iff.rfl
theorem uokL : UOK RL uL := by
  intro x t h
  unfold uL at h
  split at h
  · cases h; exact ⟨fun _ => ⟨(ws_mem (List.mem_of_getElem? (i := 71) (by decide +kernel)) (by decide +kernel)), (ws_mem (List.mem_of_getElem? (i := 72) (by decide +kernel)) (by decide +kernel)), (ws_mem (List.mem_of_getElem? (i := 53) (by decide +kernel)) (by decide +kernel))⟩, fun q => by revert q; decide, fun q => by revert q; decide, fun q => by revert q; decide⟩
  · cases h; exact ⟨fun _ => ⟨(ws_mem (List.mem_of_getElem? (i := 848) (by decide +kernel)) (by decide +kernel)), (ws_mem (List.mem_of_getElem? (i := 849) (by decide +kernel)) (by decide +kernel)), (ws_mem (List.mem_of_getElem? (i := 64) (by decide +kernel)) (by decide +kernel))⟩, fun q => by revert q; decide, fun q => by revert q; decide, fun q => by revert q; decide⟩
  · cases h
def fJ7 (_ : Nat) : Option (Nat × Nat × Nat × Nat) := none
theorem fokJ7 : FOK RJ7 fJ7 := fun _ _ _ _ _ h => by cases h
def zJ7 (_ : Nat) : Option (Int ⊕ Int) := none
theorem zokJ7 : ZOK RJ7 zJ7 := fun _ _ => ⟨(fun h => (by cases h)), (fun h => (by cases h))⟩
def uJ7 (_ : Nat) : Option Nat := none
theorem uokJ7 : UOK RJ7 uJ7 := fun _ _ h => by cases h
