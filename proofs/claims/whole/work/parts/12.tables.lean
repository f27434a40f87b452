/-! fields, constants and classes by their places in the constant pools -/
def fX0 (x : Nat) : Option (Nat × Nat × Nat × Nat) := match x with
  | 9 => some (0, 0, 2, 1)
  | 15 => some (0, 1, 2, 1)
  | 18 => some (0, 2, 2, 1)
  | 21 => some (0, 3, 2, 1)
  | _ => none
theorem fokX0 : FOK RX0 fX0 := by
  intro x ci fi cd fw h
  unfold fX0 at h
  split at h
  · cases h; exact ⟨by decide, by decide, by decide +kernel, by decide, (ws_mem (List.mem_of_getElem? (i := 160) (by decide +kernel)) (by decide +kernel)), by decide +kernel, by decide +kernel⟩
  · cases h; exact ⟨by decide, by decide, by decide +kernel, by decide, (ws_mem (List.mem_of_getElem? (i := 164) (by decide +kernel)) (by decide +kernel)), by decide +kernel, by decide +kernel⟩
  · cases h; exact ⟨by decide, by decide, by decide +kernel, by decide, (ws_mem (List.mem_of_getElem? (i := 168) (by decide +kernel)) (by decide +kernel)), by decide +kernel, by decide +kernel⟩
  · cases h; exact ⟨by decide, by decide, by decide +kernel, by decide, (ws_mem (List.mem_of_getElem? (i := 169) (by decide +kernel)) (by decide +kernel)), by decide +kernel, by decide +kernel⟩
  · cases h
def zX0 (_ : Nat) : Option (Int ⊕ Int) := none
theorem zokX0 : ZOK RX0 zX0 := fun _ _ => ⟨(fun h => (by cases h)), (fun h => (by cases h))⟩
def uX0 (_ : Nat) : Option Nat := none
theorem uokX0 : UOK RX0 uX0 := fun _ _ h => by cases h
def fX1 (x : Nat) : Option (Nat × Nat × Nat × Nat) := match x with
  | 9 => some (1, 0, 2, 1)
  | 15 => some (1, 1, 2, 1)
  | 18 => some (1, 2, 2, 1)
  | 21 => some (1, 3, 2, 1)
  | 24 => some (1, 4, 0, 0)
  | 28 => some (1, 5, 3, 0)
  | 34 => some (1, 8, 2, 1)
  | 37 => some (1, 9, 2, 1)
  | 40 => some (1, 10, 2, 1)
  | 55 => some (1, 6, 0, 0)
  | 58 => some (1, 11, 3, 0)
  | 91 => some (1, 7, 0, 0)
  | _ => none
theorem fokX1 : FOK RX1 fX1 := by
  intro x ci fi cd fw h
  unfold fX1 at h
  split at h
  · cases h; exact ⟨by decide, by decide, by decide +kernel, by decide, (ws_mem (List.mem_of_getElem? (i := 273) (by decide +kernel)) (by decide +kernel)), by decide +kernel, by decide +kernel⟩
  · cases h; exact ⟨by decide, by decide, by decide +kernel, by decide, (ws_mem (List.mem_of_getElem? (i := 275) (by decide +kernel)) (by decide +kernel)), by decide +kernel, by decide +kernel⟩
  · cases h; exact ⟨by decide, by decide, by decide +kernel, by decide, (ws_mem (List.mem_of_getElem? (i := 277) (by decide +kernel)) (by decide +kernel)), by decide +kernel, by decide +kernel⟩
  · cases h; exact ⟨by decide, by decide, by decide +kernel, by decide, (ws_mem (List.mem_of_getElem? (i := 279) (by decide +kernel)) (by decide +kernel)), by decide +kernel, by decide +kernel⟩
  · cases h; exact ⟨by decide, by decide, by decide +kernel, by decide, (ws_mem (List.mem_of_getElem? (i := 281) (by decide +kernel)) (by decide +kernel)), by decide +kernel, by decide +kernel⟩
  · cases h; exact ⟨by decide, by decide, by decide +kernel, by decide, (ws_mem (List.mem_of_getElem? (i := 283) (by decide +kernel)) (by decide +kernel)), by decide +kernel, by decide +kernel⟩
  · cases h; exact ⟨by decide, by decide, by decide +kernel, by decide, (ws_mem (List.mem_of_getElem? (i := 289) (by decide +kernel)) (by decide +kernel)), by decide +kernel, by decide +kernel⟩
  · cases h; exact ⟨by decide, by decide, by decide +kernel, by decide, (ws_mem (List.mem_of_getElem? (i := 290) (by decide +kernel)) (by decide +kernel)), by decide +kernel, by decide +kernel⟩
  · cases h; exact ⟨by decide, by decide, by decide +kernel, by decide, (ws_mem (List.mem_of_getElem? (i := 291) (by decide +kernel)) (by decide +kernel)), by decide +kernel, by decide +kernel⟩
  · cases h; exact ⟨by decide, by decide, by decide +kernel, by decide, (ws_mem (List.mem_of_getElem? (i := 285) (by decide +kernel)) (by decide +kernel)), by decide +kernel, by decide +kernel⟩
  · cases h; exact ⟨by decide, by decide, by decide +kernel, by decide, (ws_mem (List.mem_of_getElem? (i := 292) (by decide +kernel)) (by decide +kernel)), by decide +kernel, by decide +kernel⟩
  · cases h; exact ⟨by decide, by decide, by decide +kernel, by decide, (ws_mem (List.mem_of_getElem? (i := 287) (by decide +kernel)) (by decide +kernel)), by decide +kernel, by decide +kernel⟩
  · cases h
def zX1 (x : Nat) : Option (Int ⊕ Int) := match x with
  | 80 => some (.inl 536870912)
  | _ => none
theorem zokX1 : ZOK RX1 zX1 := by
  intro x v
  unfold zX1
  split
  · exact ⟨(fun h => (by cases h; exact (ws_mem (List.mem_of_getElem? (i := 590) (by decide +kernel)) (by decide +kernel)))), (fun h => (by cases h))⟩
  · exact ⟨(fun h => (by cases h)), (fun h => (by cases h))⟩
def uX1 (x : Nat) : Option Nat := match x with
  | 32 => some 16
  | _ => none
theorem uokX1 : UOK RX1 uX1 := by
  intro x t h
  unfold uX1 at h
  split at h
  · cases h; exact ⟨fun q => by revert q; decide, fun q => by revert q; decide, fun q => by revert q; decide, fun _ => (ws_mem (List.mem_of_getElem? (i := 271) (by decide +kernel)) (by decide +kernel))⟩
  · cases h
def fX2 (x : Nat) : Option (Nat × Nat × Nat × Nat) := match x with
  | 9 => some (2, 0, 0, 0)
  | 18 => some (2, 2, 2, 1)
  | 22 => some (2, 3, 2, 1)
  | 26 => some (2, 4, 2, 1)
  | 43 => some (2, 1, 0, 0)
  | _ => none
theorem fokX2 : FOK RX2 fX2 := by
  intro x ci fi cd fw h
  unfold fX2 at h
  split at h
  · cases h; exact ⟨by decide, by decide, by decide +kernel, by decide, (ws_mem (List.mem_of_getElem? (i := 327) (by decide +kernel)) (by decide +kernel)), by decide +kernel, by decide +kernel⟩
  · cases h; exact ⟨by decide, by decide, by decide +kernel, by decide, (ws_mem (List.mem_of_getElem? (i := 331) (by decide +kernel)) (by decide +kernel)), by decide +kernel, by decide +kernel⟩
  · cases h; exact ⟨by decide, by decide, by decide +kernel, by decide, (ws_mem (List.mem_of_getElem? (i := 333) (by decide +kernel)) (by decide +kernel)), by decide +kernel, by decide +kernel⟩
  · cases h; exact ⟨by decide, by decide, by decide +kernel, by decide, (ws_mem (List.mem_of_getElem? (i := 334) (by decide +kernel)) (by decide +kernel)), by decide +kernel, by decide +kernel⟩
  · cases h; exact ⟨by decide, by decide, by decide +kernel, by decide, (ws_mem (List.mem_of_getElem? (i := 329) (by decide +kernel)) (by decide +kernel)), by decide +kernel, by decide +kernel⟩
  · cases h
def zX2 (_ : Nat) : Option (Int ⊕ Int) := none
theorem zokX2 : ZOK RX2 zX2 := fun _ _ => ⟨(fun h => (by cases h)), (fun h => (by cases h))⟩
def uX2 (x : Nat) : Option Nat := match x with
  | 15 => some 3
  | _ => none
theorem uokX2 : UOK RX2 uX2 := by
  intro x t h
  unfold uX2 at h
  split at h
  · cases h; exact ⟨fun _ => ⟨(ws_mem (List.mem_of_getElem? (i := 325) (by decide +kernel)) (by decide +kernel)), (ws_mem (List.mem_of_getElem? (i := 93) (by decide +kernel)) (by decide +kernel)), (ws_mem (List.mem_of_getElem? (i := 56) (by decide +kernel)) (by decide +kernel))⟩, fun q => by revert q; decide, fun q => by revert q; decide, fun q => by revert q; decide⟩
  · cases h
def fX3 (x : Nat) : Option (Nat × Nat × Nat × Nat) := match x with
  | 9 => some (3, 0, 0, 0)
  | 15 => some (3, 1, 0, 0)
  | 18 => some (3, 2, 0, 0)
  | 21 => some (3, 3, 0, 0)
  | 24 => some (3, 4, 0, 0)
  | _ => none
theorem fokX3 : FOK RX3 fX3 := by
  intro x ci fi cd fw h
  unfold fX3 at h
  split at h
  · cases h; exact ⟨by decide, by decide, by decide +kernel, by decide, (ws_mem (List.mem_of_getElem? (i := 98) (by decide +kernel)) (by decide +kernel)), by decide +kernel, by decide +kernel⟩
  · cases h; exact ⟨by decide, by decide, by decide +kernel, by decide, (ws_mem (List.mem_of_getElem? (i := 100) (by decide +kernel)) (by decide +kernel)), by decide +kernel, by decide +kernel⟩
  · cases h; exact ⟨by decide, by decide, by decide +kernel, by decide, (ws_mem (List.mem_of_getElem? (i := 103) (by decide +kernel)) (by decide +kernel)), by decide +kernel, by decide +kernel⟩
  · cases h; exact ⟨by decide, by decide, by decide +kernel, by decide, (ws_mem (List.mem_of_getElem? (i := 107) (by decide +kernel)) (by decide +kernel)), by decide +kernel, by decide +kernel⟩
  · cases h; exact ⟨by decide, by decide, by decide +kernel, by decide, (ws_mem (List.mem_of_getElem? (i := 110) (by decide +kernel)) (by decide +kernel)), by decide +kernel, by decide +kernel⟩
  · cases h
def zX3 (_ : Nat) : Option (Int ⊕ Int) := none
theorem zokX3 : ZOK RX3 zX3 := fun _ _ => ⟨(fun h => (by cases h)), (fun h => (by cases h))⟩
def uX3 (_ : Nat) : Option Nat := none
theorem uokX3 : UOK RX3 uX3 := fun _ _ h => by cases h
def fX4 (x : Nat) : Option (Nat × Nat × Nat × Nat) := match x with
  | 11 => some (4, 0, 2, 1)
  | 16 => some (4, 1, 2, 1)
  | 20 => some (5, 1, 0, 0)
  | 26 => some (5, 0, 2, 2)
  | 30 => some (3, 1, 0, 0)
  | 35 => some (6, 2, 2, 2)
  | _ => none
theorem fokX4 : FOK RX4 fX4 := by
  intro x ci fi cd fw h
  unfold fX4 at h
  split at h
  · cases h; exact ⟨by decide, by decide, by decide +kernel, by decide, (ws_mem (List.mem_of_getElem? (i := 258) (by decide +kernel)) (by decide +kernel)), by decide +kernel, by decide +kernel⟩
  · cases h; exact ⟨by decide, by decide, by decide +kernel, by decide, (ws_mem (List.mem_of_getElem? (i := 259) (by decide +kernel)) (by decide +kernel)), by decide +kernel, by decide +kernel⟩
  · cases h; exact ⟨by decide, by decide, by decide +kernel, by decide, (ws_mem (List.mem_of_getElem? (i := 131) (by decide +kernel)) (by decide +kernel)), by decide +kernel, by decide +kernel⟩
  · cases h; exact ⟨by decide, by decide, by decide +kernel, by decide, (ws_mem (List.mem_of_getElem? (i := 126) (by decide +kernel)) (by decide +kernel)), by decide +kernel, by decide +kernel⟩
  · cases h; exact ⟨by decide, by decide, by decide +kernel, by decide, (ws_mem (List.mem_of_getElem? (i := 101) (by decide +kernel)) (by decide +kernel)), by decide +kernel, by decide +kernel⟩
  · cases h; exact ⟨by decide, by decide, by decide +kernel, by decide, (ws_mem (List.mem_of_getElem? (i := 192) (by decide +kernel)) (by decide +kernel)), by decide +kernel, by decide +kernel⟩
  · cases h
def zX4 (_ : Nat) : Option (Int ⊕ Int) := none
theorem zokX4 : ZOK RX4 zX4 := fun _ _ => ⟨(fun h => (by cases h)), (fun h => (by cases h))⟩
def uX4 (x : Nat) : Option Nat := match x with
  | 9 => some 16
  | _ => none
theorem uokX4 : UOK RX4 uX4 := by
  intro x t h
  unfold uX4 at h
  split at h
  · cases h; exact ⟨fun q => by revert q; decide, fun q => by revert q; decide, fun q => by revert q; decide, fun _ => (ws_mem (List.mem_of_getElem? (i := 257) (by decide +kernel)) (by decide +kernel))⟩
  · cases h
def fX5 (x : Nat) : Option (Nat × Nat × Nat × Nat) := match x with
  | 11 => some (5, 0, 2, 1)
  | 18 => some (5, 1, 0, 0)
  | 22 => some (3, 0, 0, 0)
  | 25 => some (3, 3, 0, 0)
  | 28 => some (3, 1, 0, 0)
  | 31 => some (3, 2, 0, 0)
  | 34 => some (3, 4, 0, 0)
  | _ => none
theorem fokX5 : FOK RX5 fX5 := by
  intro x ci fi cd fw h
  unfold fX5 at h
  split at h
  · cases h; exact ⟨by decide, by decide, by decide +kernel, by decide, (ws_mem (List.mem_of_getElem? (i := 125) (by decide +kernel)) (by decide +kernel)), by decide +kernel, by decide +kernel⟩
  · cases h; exact ⟨by decide, by decide, by decide +kernel, by decide, (ws_mem (List.mem_of_getElem? (i := 130) (by decide +kernel)) (by decide +kernel)), by decide +kernel, by decide +kernel⟩
  · cases h; exact ⟨by decide, by decide, by decide +kernel, by decide, (ws_mem (List.mem_of_getElem? (i := 99) (by decide +kernel)) (by decide +kernel)), by decide +kernel, by decide +kernel⟩
  · cases h; exact ⟨by decide, by decide, by decide +kernel, by decide, (ws_mem (List.mem_of_getElem? (i := 108) (by decide +kernel)) (by decide +kernel)), by decide +kernel, by decide +kernel⟩
  · cases h; exact ⟨by decide, by decide, by decide +kernel, by decide, (ws_mem (List.mem_of_getElem? (i := 102) (by decide +kernel)) (by decide +kernel)), by decide +kernel, by decide +kernel⟩
  · cases h; exact ⟨by decide, by decide, by decide +kernel, by decide, (ws_mem (List.mem_of_getElem? (i := 104) (by decide +kernel)) (by decide +kernel)), by decide +kernel, by decide +kernel⟩
  · cases h; exact ⟨by decide, by decide, by decide +kernel, by decide, (ws_mem (List.mem_of_getElem? (i := 111) (by decide +kernel)) (by decide +kernel)), by decide +kernel, by decide +kernel⟩
  · cases h
def zX5 (_ : Nat) : Option (Int ⊕ Int) := none
theorem zokX5 : ZOK RX5 zX5 := fun _ _ => ⟨(fun h => (by cases h)), (fun h => (by cases h))⟩
def uX5 (x : Nat) : Option Nat := match x with
  | 9 => some 3
  | 100009 => some 14
  | _ => none
theorem uokX5 : UOK RX5 uX5 := by
  intro x t h
  unfold uX5 at h
  split at h
  · cases h; exact ⟨fun _ => ⟨(ws_mem (List.mem_of_getElem? (i := 91) (by decide +kernel)) (by decide +kernel)), (ws_mem (List.mem_of_getElem? (i := 93) (by decide +kernel)) (by decide +kernel)), (ws_mem (List.mem_of_getElem? (i := 56) (by decide +kernel)) (by decide +kernel))⟩, fun q => by revert q; decide, fun q => by revert q; decide, fun q => by revert q; decide⟩
  · cases h; exact ⟨fun q => by revert q; decide, fun _ => (ws_mem (List.mem_of_getElem? (i := 91) (by decide +kernel)) (by decide +kernel)), fun q => by revert q; decide, fun q => by revert q; decide⟩
  · cases h
def fX6 (x : Nat) : Option (Nat × Nat × Nat × Nat) := match x with
  | 9 => some (6, 0, 2, 1)
  | 15 => some (6, 1, 2, 1)
  | 18 => some (6, 2, 2, 1)
  | 25 => some (5, 1, 0, 0)
  | 31 => some (5, 0, 2, 2)
  | 35 => some (0, 0, 2, 2)
  | 51 => some (6, 3, 0, 0)
  | 54 => some (0, 1, 2, 2)
  | _ => none
theorem fokX6 : FOK RX6 fX6 := by
  intro x ci fi cd fw h
  unfold fX6 at h
  split at h
  · cases h; exact ⟨by decide, by decide, by decide +kernel, by decide, (ws_mem (List.mem_of_getElem? (i := 186) (by decide +kernel)) (by decide +kernel)), by decide +kernel, by decide +kernel⟩
  · cases h; exact ⟨by decide, by decide, by decide +kernel, by decide, (ws_mem (List.mem_of_getElem? (i := 189) (by decide +kernel)) (by decide +kernel)), by decide +kernel, by decide +kernel⟩
  · cases h; exact ⟨by decide, by decide, by decide +kernel, by decide, (ws_mem (List.mem_of_getElem? (i := 191) (by decide +kernel)) (by decide +kernel)), by decide +kernel, by decide +kernel⟩
  · cases h; exact ⟨by decide, by decide, by decide +kernel, by decide, (ws_mem (List.mem_of_getElem? (i := 133) (by decide +kernel)) (by decide +kernel)), by decide +kernel, by decide +kernel⟩
  · cases h; exact ⟨by decide, by decide, by decide +kernel, by decide, (ws_mem (List.mem_of_getElem? (i := 127) (by decide +kernel)) (by decide +kernel)), by decide +kernel, by decide +kernel⟩
  · cases h; exact ⟨by decide, by decide, by decide +kernel, by decide, (ws_mem (List.mem_of_getElem? (i := 162) (by decide +kernel)) (by decide +kernel)), by decide +kernel, by decide +kernel⟩
  · cases h; exact ⟨by decide, by decide, by decide +kernel, by decide, (ws_mem (List.mem_of_getElem? (i := 195) (by decide +kernel)) (by decide +kernel)), by decide +kernel, by decide +kernel⟩
  · cases h; exact ⟨by decide, by decide, by decide +kernel, by decide, (ws_mem (List.mem_of_getElem? (i := 165) (by decide +kernel)) (by decide +kernel)), by decide +kernel, by decide +kernel⟩
  · cases h
def zX6 (_ : Nat) : Option (Int ⊕ Int) := none
theorem zokX6 : ZOK RX6 zX6 := fun _ _ => ⟨(fun h => (by cases h)), (fun h => (by cases h))⟩
def uX6 (_ : Nat) : Option Nat := none
theorem uokX6 : UOK RX6 uX6 := fun _ _ h => by cases h
def fX7 (x : Nat) : Option (Nat × Nat × Nat × Nat) := match x with
  | 12 => some (7, 0, 2, 1)
  | 21 => some (7, 1, 2, 1)
  | 28 => some (7, 3, 2, 1)
  | 32 => some (7, 4, 2, 1)
  | 35 => some (7, 5, 2, 1)
  | 41 => some (7, 6, 2, 1)
  | 44 => some (7, 7, 2, 1)
  | 47 => some (7, 8, 2, 1)
  | 50 => some (7, 9, 2, 1)
  | 53 => some (7, 10, 2, 1)
  | 56 => some (7, 11, 2, 1)
  | 65 => some (7, 2, 3, 0)
  | 69 => some (6, 0, 2, 2)
  | 76 => some (0, 0, 2, 2)
  | 87 => some (5, 0, 2, 2)
  | 91 => some (3, 4, 0, 0)
  | 101 => some (6, 2, 2, 2)
  | 108 => some (5, 1, 0, 0)
  | 111 => some (3, 2, 0, 0)
  | 147 => some (0, 1, 2, 2)
  | _ => none
theorem fokX7 : FOK RX7 fX7 := by
  intro x ci fi cd fw h
  unfold fX7 at h
  split at h
  · cases h; exact ⟨by decide, by decide, by decide +kernel, by decide, (ws_mem (List.mem_of_getElem? (i := 211) (by decide +kernel)) (by decide +kernel)), by decide +kernel, by decide +kernel⟩
  · cases h; exact ⟨by decide, by decide, by decide +kernel, by decide, (ws_mem (List.mem_of_getElem? (i := 213) (by decide +kernel)) (by decide +kernel)), by decide +kernel, by decide +kernel⟩
  · cases h; exact ⟨by decide, by decide, by decide +kernel, by decide, (ws_mem (List.mem_of_getElem? (i := 217) (by decide +kernel)) (by decide +kernel)), by decide +kernel, by decide +kernel⟩
  · cases h; exact ⟨by decide, by decide, by decide +kernel, by decide, (ws_mem (List.mem_of_getElem? (i := 218) (by decide +kernel)) (by decide +kernel)), by decide +kernel, by decide +kernel⟩
  · cases h; exact ⟨by decide, by decide, by decide +kernel, by decide, (ws_mem (List.mem_of_getElem? (i := 219) (by decide +kernel)) (by decide +kernel)), by decide +kernel, by decide +kernel⟩
  · cases h; exact ⟨by decide, by decide, by decide +kernel, by decide, (ws_mem (List.mem_of_getElem? (i := 220) (by decide +kernel)) (by decide +kernel)), by decide +kernel, by decide +kernel⟩
  · cases h; exact ⟨by decide, by decide, by decide +kernel, by decide, (ws_mem (List.mem_of_getElem? (i := 221) (by decide +kernel)) (by decide +kernel)), by decide +kernel, by decide +kernel⟩
  · cases h; exact ⟨by decide, by decide, by decide +kernel, by decide, (ws_mem (List.mem_of_getElem? (i := 222) (by decide +kernel)) (by decide +kernel)), by decide +kernel, by decide +kernel⟩
  · cases h; exact ⟨by decide, by decide, by decide +kernel, by decide, (ws_mem (List.mem_of_getElem? (i := 223) (by decide +kernel)) (by decide +kernel)), by decide +kernel, by decide +kernel⟩
  · cases h; exact ⟨by decide, by decide, by decide +kernel, by decide, (ws_mem (List.mem_of_getElem? (i := 224) (by decide +kernel)) (by decide +kernel)), by decide +kernel, by decide +kernel⟩
  · cases h; exact ⟨by decide, by decide, by decide +kernel, by decide, (ws_mem (List.mem_of_getElem? (i := 225) (by decide +kernel)) (by decide +kernel)), by decide +kernel, by decide +kernel⟩
  · cases h; exact ⟨by decide, by decide, by decide +kernel, by decide, (ws_mem (List.mem_of_getElem? (i := 215) (by decide +kernel)) (by decide +kernel)), by decide +kernel, by decide +kernel⟩
  · cases h; exact ⟨by decide, by decide, by decide +kernel, by decide, (ws_mem (List.mem_of_getElem? (i := 187) (by decide +kernel)) (by decide +kernel)), by decide +kernel, by decide +kernel⟩
  · cases h; exact ⟨by decide, by decide, by decide +kernel, by decide, (ws_mem (List.mem_of_getElem? (i := 161) (by decide +kernel)) (by decide +kernel)), by decide +kernel, by decide +kernel⟩
  · cases h; exact ⟨by decide, by decide, by decide +kernel, by decide, (ws_mem (List.mem_of_getElem? (i := 129) (by decide +kernel)) (by decide +kernel)), by decide +kernel, by decide +kernel⟩
  · cases h; exact ⟨by decide, by decide, by decide +kernel, by decide, (ws_mem (List.mem_of_getElem? (i := 112) (by decide +kernel)) (by decide +kernel)), by decide +kernel, by decide +kernel⟩
  · cases h; exact ⟨by decide, by decide, by decide +kernel, by decide, (ws_mem (List.mem_of_getElem? (i := 193) (by decide +kernel)) (by decide +kernel)), by decide +kernel, by decide +kernel⟩
  · cases h; exact ⟨by decide, by decide, by decide +kernel, by decide, (ws_mem (List.mem_of_getElem? (i := 134) (by decide +kernel)) (by decide +kernel)), by decide +kernel, by decide +kernel⟩
  · cases h; exact ⟨by decide, by decide, by decide +kernel, by decide, (ws_mem (List.mem_of_getElem? (i := 106) (by decide +kernel)) (by decide +kernel)), by decide +kernel, by decide +kernel⟩
  · cases h; exact ⟨by decide, by decide, by decide +kernel, by decide, (ws_mem (List.mem_of_getElem? (i := 167) (by decide +kernel)) (by decide +kernel)), by decide +kernel, by decide +kernel⟩
  · cases h
def zX7 (x : Nat) : Option (Int ⊕ Int) := match x with
  | 139 => some (.inl 536870912)
  | _ => none
theorem zokX7 : ZOK RX7 zX7 := by
  intro x v
  unfold zX7
  split
  · exact ⟨(fun h => (by cases h; exact (ws_mem (List.mem_of_getElem? (i := 487) (by decide +kernel)) (by decide +kernel)))), (fun h => (by cases h))⟩
  · exact ⟨(fun h => (by cases h)), (fun h => (by cases h))⟩
def uX7 (x : Nat) : Option Nat := match x with
  | 9 => some 5
  | 18 => some 0
  | 25 => some 6
  | 39 => some 16
  | _ => none
theorem uokX7 : UOK RX7 uX7 := by
  intro x t h
  unfold uX7 at h
  split at h
  · cases h; exact ⟨fun _ => ⟨(ws_mem (List.mem_of_getElem? (i := 85) (by decide +kernel)) (by decide +kernel)), (ws_mem (List.mem_of_getElem? (i := 86) (by decide +kernel)) (by decide +kernel)), (ws_mem (List.mem_of_getElem? (i := 55) (by decide +kernel)) (by decide +kernel))⟩, fun q => by revert q; decide, fun q => by revert q; decide, fun q => by revert q; decide⟩
  · cases h; exact ⟨fun _ => ⟨(ws_mem (List.mem_of_getElem? (i := 140) (by decide +kernel)) (by decide +kernel)), (ws_mem (List.mem_of_getElem? (i := 141) (by decide +kernel)) (by decide +kernel)), (ws_mem (List.mem_of_getElem? (i := 57) (by decide +kernel)) (by decide +kernel))⟩, fun q => by revert q; decide, fun q => by revert q; decide, fun q => by revert q; decide⟩
  · cases h; exact ⟨fun _ => ⟨(ws_mem (List.mem_of_getElem? (i := 180) (by decide +kernel)) (by decide +kernel)), (ws_mem (List.mem_of_getElem? (i := 181) (by decide +kernel)) (by decide +kernel)), (ws_mem (List.mem_of_getElem? (i := 59) (by decide +kernel)) (by decide +kernel))⟩, fun q => by revert q; decide, fun q => by revert q; decide, fun q => by revert q; decide⟩
  · cases h; exact ⟨fun q => by revert q; decide, fun q => by revert q; decide, fun q => by revert q; decide, fun _ => (ws_mem (List.mem_of_getElem? (i := 206) (by decide +kernel)) (by decide +kernel))⟩
  · cases h
def fX8 (x : Nat) : Option (Nat × Nat × Nat × Nat) := match x with
  | 10 => some (8, 0, 2, 1)
  | 19 => some (8, 1, 2, 1)
  | 26 => some (8, 2, 2, 1)
  | 32 => some (8, 3, 2, 1)
  | 41 => some (7, 0, 2, 2)
  | 45 => some (5, 1, 0, 0)
  | 65 => some (5, 0, 2, 2)
  | 69 => some (3, 2, 0, 0)
  | 74 => some (7, 1, 2, 2)
  | 87 => some (1, 4, 0, 0)
  | 90 => some (1, 6, 0, 0)
  | 93 => some (0, 0, 2, 2)
  | 97 => some (7, 2, 3, 0)
  | 105 => some (0, 1, 2, 2)
  | 116 => some (6, 1, 2, 2)
  | 128 => some (6, 3, 0, 0)
  | 135 => some (6, 0, 2, 2)
  | 138 => some (6, 2, 2, 2)
  | 161 => some (3, 4, 0, 0)
  | 169 => some (1, 0, 2, 2)
  | 172 => some (1, 1, 2, 2)
  | 175 => some (1, 5, 3, 0)
  | 192 => some (1, 7, 0, 0)
  | 193 => some (1, 2, 2, 2)
  | 199 => some (1, 3, 2, 2)
  | 211 => some (2, 0, 0, 0)
  | 231 => some (2, 1, 0, 0)
  | 250 => some (2, 2, 2, 2)
  | 260 => some (3, 3, 0, 0)
  | _ => none
theorem fokX8 : FOK RX8 fX8 := by
  intro x ci fi cd fw h
  unfold fX8 at h
  split at h
  · cases h; exact ⟨by decide, by decide, by decide +kernel, by decide, (ws_mem (List.mem_of_getElem? (i := 347) (by decide +kernel)) (by decide +kernel)), by decide +kernel, by decide +kernel⟩
  · cases h; exact ⟨by decide, by decide, by decide +kernel, by decide, (ws_mem (List.mem_of_getElem? (i := 348) (by decide +kernel)) (by decide +kernel)), by decide +kernel, by decide +kernel⟩
  · cases h; exact ⟨by decide, by decide, by decide +kernel, by decide, (ws_mem (List.mem_of_getElem? (i := 349) (by decide +kernel)) (by decide +kernel)), by decide +kernel, by decide +kernel⟩
  · cases h; exact ⟨by decide, by decide, by decide +kernel, by decide, (ws_mem (List.mem_of_getElem? (i := 350) (by decide +kernel)) (by decide +kernel)), by decide +kernel, by decide +kernel⟩
  · cases h; exact ⟨by decide, by decide, by decide +kernel, by decide, (ws_mem (List.mem_of_getElem? (i := 212) (by decide +kernel)) (by decide +kernel)), by decide +kernel, by decide +kernel⟩
  · cases h; exact ⟨by decide, by decide, by decide +kernel, by decide, (ws_mem (List.mem_of_getElem? (i := 132) (by decide +kernel)) (by decide +kernel)), by decide +kernel, by decide +kernel⟩
  · cases h; exact ⟨by decide, by decide, by decide +kernel, by decide, (ws_mem (List.mem_of_getElem? (i := 128) (by decide +kernel)) (by decide +kernel)), by decide +kernel, by decide +kernel⟩
  · cases h; exact ⟨by decide, by decide, by decide +kernel, by decide, (ws_mem (List.mem_of_getElem? (i := 105) (by decide +kernel)) (by decide +kernel)), by decide +kernel, by decide +kernel⟩
  · cases h; exact ⟨by decide, by decide, by decide +kernel, by decide, (ws_mem (List.mem_of_getElem? (i := 214) (by decide +kernel)) (by decide +kernel)), by decide +kernel, by decide +kernel⟩
  · cases h; exact ⟨by decide, by decide, by decide +kernel, by decide, (ws_mem (List.mem_of_getElem? (i := 282) (by decide +kernel)) (by decide +kernel)), by decide +kernel, by decide +kernel⟩
  · cases h; exact ⟨by decide, by decide, by decide +kernel, by decide, (ws_mem (List.mem_of_getElem? (i := 286) (by decide +kernel)) (by decide +kernel)), by decide +kernel, by decide +kernel⟩
  · cases h; exact ⟨by decide, by decide, by decide +kernel, by decide, (ws_mem (List.mem_of_getElem? (i := 163) (by decide +kernel)) (by decide +kernel)), by decide +kernel, by decide +kernel⟩
  · cases h; exact ⟨by decide, by decide, by decide +kernel, by decide, (ws_mem (List.mem_of_getElem? (i := 216) (by decide +kernel)) (by decide +kernel)), by decide +kernel, by decide +kernel⟩
  · cases h; exact ⟨by decide, by decide, by decide +kernel, by decide, (ws_mem (List.mem_of_getElem? (i := 166) (by decide +kernel)) (by decide +kernel)), by decide +kernel, by decide +kernel⟩
  · cases h; exact ⟨by decide, by decide, by decide +kernel, by decide, (ws_mem (List.mem_of_getElem? (i := 190) (by decide +kernel)) (by decide +kernel)), by decide +kernel, by decide +kernel⟩
  · cases h; exact ⟨by decide, by decide, by decide +kernel, by decide, (ws_mem (List.mem_of_getElem? (i := 196) (by decide +kernel)) (by decide +kernel)), by decide +kernel, by decide +kernel⟩
  · cases h; exact ⟨by decide, by decide, by decide +kernel, by decide, (ws_mem (List.mem_of_getElem? (i := 188) (by decide +kernel)) (by decide +kernel)), by decide +kernel, by decide +kernel⟩
  · cases h; exact ⟨by decide, by decide, by decide +kernel, by decide, (ws_mem (List.mem_of_getElem? (i := 194) (by decide +kernel)) (by decide +kernel)), by decide +kernel, by decide +kernel⟩
  · cases h; exact ⟨by decide, by decide, by decide +kernel, by decide, (ws_mem (List.mem_of_getElem? (i := 113) (by decide +kernel)) (by decide +kernel)), by decide +kernel, by decide +kernel⟩
  · cases h; exact ⟨by decide, by decide, by decide +kernel, by decide, (ws_mem (List.mem_of_getElem? (i := 274) (by decide +kernel)) (by decide +kernel)), by decide +kernel, by decide +kernel⟩
  · cases h; exact ⟨by decide, by decide, by decide +kernel, by decide, (ws_mem (List.mem_of_getElem? (i := 276) (by decide +kernel)) (by decide +kernel)), by decide +kernel, by decide +kernel⟩
  · cases h; exact ⟨by decide, by decide, by decide +kernel, by decide, (ws_mem (List.mem_of_getElem? (i := 284) (by decide +kernel)) (by decide +kernel)), by decide +kernel, by decide +kernel⟩
  · cases h; exact ⟨by decide, by decide, by decide +kernel, by decide, (ws_mem (List.mem_of_getElem? (i := 288) (by decide +kernel)) (by decide +kernel)), by decide +kernel, by decide +kernel⟩
  · cases h; exact ⟨by decide, by decide, by decide +kernel, by decide, (ws_mem (List.mem_of_getElem? (i := 278) (by decide +kernel)) (by decide +kernel)), by decide +kernel, by decide +kernel⟩
  · cases h; exact ⟨by decide, by decide, by decide +kernel, by decide, (ws_mem (List.mem_of_getElem? (i := 280) (by decide +kernel)) (by decide +kernel)), by decide +kernel, by decide +kernel⟩
  · cases h; exact ⟨by decide, by decide, by decide +kernel, by decide, (ws_mem (List.mem_of_getElem? (i := 328) (by decide +kernel)) (by decide +kernel)), by decide +kernel, by decide +kernel⟩
  · cases h; exact ⟨by decide, by decide, by decide +kernel, by decide, (ws_mem (List.mem_of_getElem? (i := 330) (by decide +kernel)) (by decide +kernel)), by decide +kernel, by decide +kernel⟩
  · cases h; exact ⟨by decide, by decide, by decide +kernel, by decide, (ws_mem (List.mem_of_getElem? (i := 332) (by decide +kernel)) (by decide +kernel)), by decide +kernel, by decide +kernel⟩
  · cases h; exact ⟨by decide, by decide, by decide +kernel, by decide, (ws_mem (List.mem_of_getElem? (i := 109) (by decide +kernel)) (by decide +kernel)), by decide +kernel, by decide +kernel⟩
  · cases h
def zX8 (x : Nat) : Option (Int ⊕ Int) := match x with
  | 160 => some (.inl 200000)
  | 263 => some (.inl 100000)
  | _ => none
theorem zokX8 : ZOK RX8 zX8 := by
  intro x v
  unfold zX8
  split
  · exact ⟨(fun h => (by cases h; exact (ws_mem (List.mem_of_getElem? (i := 551) (by decide +kernel)) (by decide +kernel)))), (fun h => (by cases h))⟩
  · exact ⟨(fun h => (by cases h; exact (ws_mem (List.mem_of_getElem? (i := 410) (by decide +kernel)) (by decide +kernel)))), (fun h => (by cases h))⟩
  · exact ⟨(fun h => (by cases h)), (fun h => (by cases h))⟩
def uX8 (x : Nat) : Option Nat := match x with
  | 7 => some 7
  | 16 => some 4
  | 23 => some 1
  | 30 => some 2
  | 100030 => some 15
  | _ => none
theorem uokX8 : UOK RX8 uX8 := by
  intro x t h
  unfold uX8 at h
  split at h
  · cases h; exact ⟨fun _ => ⟨(ws_mem (List.mem_of_getElem? (i := 79) (by decide +kernel)) (by decide +kernel)), (ws_mem (List.mem_of_getElem? (i := 80) (by decide +kernel)) (by decide +kernel)), (ws_mem (List.mem_of_getElem? (i := 54) (by decide +kernel)) (by decide +kernel))⟩, fun q => by revert q; decide, fun q => by revert q; decide, fun q => by revert q; decide⟩
  · cases h; exact ⟨fun _ => ⟨(ws_mem (List.mem_of_getElem? (i := 251) (by decide +kernel)) (by decide +kernel)), (ws_mem (List.mem_of_getElem? (i := 252) (by decide +kernel)) (by decide +kernel)), (ws_mem (List.mem_of_getElem? (i := 61) (by decide +kernel)) (by decide +kernel))⟩, fun q => by revert q; decide, fun q => by revert q; decide, fun q => by revert q; decide⟩
  · cases h; exact ⟨fun _ => ⟨(ws_mem (List.mem_of_getElem? (i := 265) (by decide +kernel)) (by decide +kernel)), (ws_mem (List.mem_of_getElem? (i := 266) (by decide +kernel)) (by decide +kernel)), (ws_mem (List.mem_of_getElem? (i := 62) (by decide +kernel)) (by decide +kernel))⟩, fun q => by revert q; decide, fun q => by revert q; decide, fun q => by revert q; decide⟩
  · cases h; exact ⟨fun _ => ⟨(ws_mem (List.mem_of_getElem? (i := 318) (by decide +kernel)) (by decide +kernel)), (ws_mem (List.mem_of_getElem? (i := 320) (by decide +kernel)) (by decide +kernel)), (ws_mem (List.mem_of_getElem? (i := 63) (by decide +kernel)) (by decide +kernel))⟩, fun q => by revert q; decide, fun q => by revert q; decide, fun q => by revert q; decide⟩
  · cases h; exact ⟨fun q => by revert q; decide, fun q => by revert q; decide, fun _ => (ws_mem (List.mem_of_getElem? (i := 318) (by decide +kernel)) (by decide +kernel)), fun q => by revert q; decide⟩
  · cases h
def fX9 (x : Nat) : Option (Nat × Nat × Nat × Nat) := match x with
  | 7 => some (9, 0, 0, 0)
  | 13 => some (9, 1, 0, 0)
  | 16 => some (9, 2, 0, 0)
  | 19 => some (9, 3, 0, 0)
  | 22 => some (9, 4, 0, 0)
  | 25 => some (9, 5, 0, 0)
  | 28 => some (9, 6, 2, 1)
  | 32 => some (9, 7, 2, 1)
  | 35 => some (9, 8, 2, 1)
  | 38 => some (9, 9, 2, 1)
  | 41 => some (9, 10, 2, 1)
  | 44 => some (9, 11, 2, 1)
  | 47 => some (9, 12, 2, 1)
  | 50 => some (9, 13, 2, 1)
  | 54 => some (9, 14, 2, 1)
  | 58 => some (9, 15, 2, 1)
  | 61 => some (9, 16, 2, 1)
  | 64 => some (9, 17, 2, 1)
  | 67 => some (9, 18, 2, 1)
  | 70 => some (9, 19, 2, 1)
  | 73 => some (9, 20, 2, 1)
  | 76 => some (9, 21, 2, 1)
  | 79 => some (9, 22, 2, 1)
  | 82 => some (9, 23, 2, 1)
  | 85 => some (9, 24, 2, 1)
  | 88 => some (9, 25, 3, 0)
  | 92 => some (9, 26, 2, 1)
  | 95 => some (9, 27, 2, 1)
  | 98 => some (9, 28, 2, 1)
  | 101 => some (9, 29, 2, 1)
  | 104 => some (9, 30, 2, 1)
  | 107 => some (9, 31, 2, 1)
  | 110 => some (9, 32, 2, 1)
  | 113 => some (9, 33, 2, 1)
  | 116 => some (9, 34, 2, 1)
  | 119 => some (9, 35, 2, 1)
  | 122 => some (9, 36, 2, 1)
  | 125 => some (9, 37, 2, 1)
  | _ => none
theorem fokX9 : FOK RX9 fX9 := by
  intro x ci fi cd fw h
  unfold fX9 at h
  split at h
  · cases h; exact ⟨by decide, by decide, by decide +kernel, by decide, (ws_mem (List.mem_of_getElem? (i := 855) (by decide +kernel)) (by decide +kernel)), by decide +kernel, by decide +kernel⟩
  · cases h; exact ⟨by decide, by decide, by decide +kernel, by decide, (ws_mem (List.mem_of_getElem? (i := 856) (by decide +kernel)) (by decide +kernel)), by decide +kernel, by decide +kernel⟩
  · cases h; exact ⟨by decide, by decide, by decide +kernel, by decide, (ws_mem (List.mem_of_getElem? (i := 857) (by decide +kernel)) (by decide +kernel)), by decide +kernel, by decide +kernel⟩
  · cases h; exact ⟨by decide, by decide, by decide +kernel, by decide, (ws_mem (List.mem_of_getElem? (i := 858) (by decide +kernel)) (by decide +kernel)), by decide +kernel, by decide +kernel⟩
  · cases h; exact ⟨by decide, by decide, by decide +kernel, by decide, (ws_mem (List.mem_of_getElem? (i := 859) (by decide +kernel)) (by decide +kernel)), by decide +kernel, by decide +kernel⟩
  · cases h; exact ⟨by decide, by decide, by decide +kernel, by decide, (ws_mem (List.mem_of_getElem? (i := 860) (by decide +kernel)) (by decide +kernel)), by decide +kernel, by decide +kernel⟩
  · cases h; exact ⟨by decide, by decide, by decide +kernel, by decide, (ws_mem (List.mem_of_getElem? (i := 861) (by decide +kernel)) (by decide +kernel)), by decide +kernel, by decide +kernel⟩
  · cases h; exact ⟨by decide, by decide, by decide +kernel, by decide, (ws_mem (List.mem_of_getElem? (i := 862) (by decide +kernel)) (by decide +kernel)), by decide +kernel, by decide +kernel⟩
  · cases h; exact ⟨by decide, by decide, by decide +kernel, by decide, (ws_mem (List.mem_of_getElem? (i := 863) (by decide +kernel)) (by decide +kernel)), by decide +kernel, by decide +kernel⟩
  · cases h; exact ⟨by decide, by decide, by decide +kernel, by decide, (ws_mem (List.mem_of_getElem? (i := 864) (by decide +kernel)) (by decide +kernel)), by decide +kernel, by decide +kernel⟩
  · cases h; exact ⟨by decide, by decide, by decide +kernel, by decide, (ws_mem (List.mem_of_getElem? (i := 865) (by decide +kernel)) (by decide +kernel)), by decide +kernel, by decide +kernel⟩
  · cases h; exact ⟨by decide, by decide, by decide +kernel, by decide, (ws_mem (List.mem_of_getElem? (i := 866) (by decide +kernel)) (by decide +kernel)), by decide +kernel, by decide +kernel⟩
  · cases h; exact ⟨by decide, by decide, by decide +kernel, by decide, (ws_mem (List.mem_of_getElem? (i := 867) (by decide +kernel)) (by decide +kernel)), by decide +kernel, by decide +kernel⟩
  · cases h; exact ⟨by decide, by decide, by decide +kernel, by decide, (ws_mem (List.mem_of_getElem? (i := 868) (by decide +kernel)) (by decide +kernel)), by decide +kernel, by decide +kernel⟩
  · cases h; exact ⟨by decide, by decide, by decide +kernel, by decide, (ws_mem (List.mem_of_getElem? (i := 869) (by decide +kernel)) (by decide +kernel)), by decide +kernel, by decide +kernel⟩
  · cases h; exact ⟨by decide, by decide, by decide +kernel, by decide, (ws_mem (List.mem_of_getElem? (i := 870) (by decide +kernel)) (by decide +kernel)), by decide +kernel, by decide +kernel⟩
  · cases h; exact ⟨by decide, by decide, by decide +kernel, by decide, (ws_mem (List.mem_of_getElem? (i := 871) (by decide +kernel)) (by decide +kernel)), by decide +kernel, by decide +kernel⟩
  · cases h; exact ⟨by decide, by decide, by decide +kernel, by decide, (ws_mem (List.mem_of_getElem? (i := 872) (by decide +kernel)) (by decide +kernel)), by decide +kernel, by decide +kernel⟩
  · cases h; exact ⟨by decide, by decide, by decide +kernel, by decide, (ws_mem (List.mem_of_getElem? (i := 873) (by decide +kernel)) (by decide +kernel)), by decide +kernel, by decide +kernel⟩
  · cases h; exact ⟨by decide, by decide, by decide +kernel, by decide, (ws_mem (List.mem_of_getElem? (i := 874) (by decide +kernel)) (by decide +kernel)), by decide +kernel, by decide +kernel⟩
  · cases h; exact ⟨by decide, by decide, by decide +kernel, by decide, (ws_mem (List.mem_of_getElem? (i := 875) (by decide +kernel)) (by decide +kernel)), by decide +kernel, by decide +kernel⟩
  · cases h; exact ⟨by decide, by decide, by decide +kernel, by decide, (ws_mem (List.mem_of_getElem? (i := 876) (by decide +kernel)) (by decide +kernel)), by decide +kernel, by decide +kernel⟩
  · cases h; exact ⟨by decide, by decide, by decide +kernel, by decide, (ws_mem (List.mem_of_getElem? (i := 877) (by decide +kernel)) (by decide +kernel)), by decide +kernel, by decide +kernel⟩
  · cases h; exact ⟨by decide, by decide, by decide +kernel, by decide, (ws_mem (List.mem_of_getElem? (i := 878) (by decide +kernel)) (by decide +kernel)), by decide +kernel, by decide +kernel⟩
  · cases h; exact ⟨by decide, by decide, by decide +kernel, by decide, (ws_mem (List.mem_of_getElem? (i := 879) (by decide +kernel)) (by decide +kernel)), by decide +kernel, by decide +kernel⟩
  · cases h; exact ⟨by decide, by decide, by decide +kernel, by decide, (ws_mem (List.mem_of_getElem? (i := 880) (by decide +kernel)) (by decide +kernel)), by decide +kernel, by decide +kernel⟩
  · cases h; exact ⟨by decide, by decide, by decide +kernel, by decide, (ws_mem (List.mem_of_getElem? (i := 881) (by decide +kernel)) (by decide +kernel)), by decide +kernel, by decide +kernel⟩
  · cases h; exact ⟨by decide, by decide, by decide +kernel, by decide, (ws_mem (List.mem_of_getElem? (i := 882) (by decide +kernel)) (by decide +kernel)), by decide +kernel, by decide +kernel⟩
  · cases h; exact ⟨by decide, by decide, by decide +kernel, by decide, (ws_mem (List.mem_of_getElem? (i := 883) (by decide +kernel)) (by decide +kernel)), by decide +kernel, by decide +kernel⟩
  · cases h; exact ⟨by decide, by decide, by decide +kernel, by decide, (ws_mem (List.mem_of_getElem? (i := 884) (by decide +kernel)) (by decide +kernel)), by decide +kernel, by decide +kernel⟩
  · cases h; exact ⟨by decide, by decide, by decide +kernel, by decide, (ws_mem (List.mem_of_getElem? (i := 885) (by decide +kernel)) (by decide +kernel)), by decide +kernel, by decide +kernel⟩
  · cases h; exact ⟨by decide, by decide, by decide +kernel, by decide, (ws_mem (List.mem_of_getElem? (i := 886) (by decide +kernel)) (by decide +kernel)), by decide +kernel, by decide +kernel⟩
  · cases h; exact ⟨by decide, by decide, by decide +kernel, by decide, (ws_mem (List.mem_of_getElem? (i := 887) (by decide +kernel)) (by decide +kernel)), by decide +kernel, by decide +kernel⟩
  · cases h; exact ⟨by decide, by decide, by decide +kernel, by decide, (ws_mem (List.mem_of_getElem? (i := 888) (by decide +kernel)) (by decide +kernel)), by decide +kernel, by decide +kernel⟩
  · cases h; exact ⟨by decide, by decide, by decide +kernel, by decide, (ws_mem (List.mem_of_getElem? (i := 889) (by decide +kernel)) (by decide +kernel)), by decide +kernel, by decide +kernel⟩
  · cases h; exact ⟨by decide, by decide, by decide +kernel, by decide, (ws_mem (List.mem_of_getElem? (i := 890) (by decide +kernel)) (by decide +kernel)), by decide +kernel, by decide +kernel⟩
  · cases h; exact ⟨by decide, by decide, by decide +kernel, by decide, (ws_mem (List.mem_of_getElem? (i := 891) (by decide +kernel)) (by decide +kernel)), by decide +kernel, by decide +kernel⟩
  · cases h; exact ⟨by decide, by decide, by decide +kernel, by decide, (ws_mem (List.mem_of_getElem? (i := 892) (by decide +kernel)) (by decide +kernel)), by decide +kernel, by decide +kernel⟩
  · cases h
def zX9 (x : Nat) : Option (Int ⊕ Int) := match x with
  | 139 => some (.inl 100000)
  | 174 => some (.inr 1000000000000)
  | 216 => some (.inl 200000)
  | _ => none
theorem zokX9 : ZOK RX9 zX9 := by
  intro x v
  unfold zX9
  split
  · exact ⟨(fun h => (by cases h; exact (ws_mem (List.mem_of_getElem? (i := 1012) (by decide +kernel)) (by decide +kernel)))), (fun h => (by cases h))⟩
  · exact ⟨(fun h => (by cases h)), (fun h => (by cases h; exact (ws_mem (List.mem_of_getElem? (i := 1077) (by decide +kernel)) (by decide +kernel))))⟩
  · exact ⟨(fun h => (by cases h; exact (ws_mem (List.mem_of_getElem? (i := 1142) (by decide +kernel)) (by decide +kernel)))), (fun h => (by cases h))⟩
  · exact ⟨(fun h => (by cases h)), (fun h => (by cases h))⟩
def uX9 (_ : Nat) : Option Nat := none
theorem uokX9 : UOK RX9 uX9 := fun _ _ h => by cases h
def fL (_ : Nat) : Option (Nat × Nat × Nat × Nat) := none
theorem fokL : FOK RL fL := fun _ _ _ _ _ h => by cases h
def zL (_ : Nat) : Option (Int ⊕ Int) := none
theorem zokL : ZOK RL zL := fun _ _ => ⟨(fun h => (by cases h)), (fun h => (by cases h))⟩
def uL (x : Nat) : Option Nat := match x with
  | 8 => some 8
  | 34 => some 9
  | _ => none
theorem uokL : UOK RL uL := by
  intro x t h
  unfold uL at h
  split at h
  · cases h; exact ⟨fun _ => ⟨(ws_mem (List.mem_of_getElem? (i := 71) (by decide +kernel)) (by decide +kernel)), (ws_mem (List.mem_of_getElem? (i := 72) (by decide +kernel)) (by decide +kernel)), (ws_mem (List.mem_of_getElem? (i := 53) (by decide +kernel)) (by decide +kernel))⟩, fun q => by revert q; decide, fun q => by revert q; decide, fun q => by revert q; decide⟩
  · cases h; exact ⟨fun _ => ⟨(ws_mem (List.mem_of_getElem? (i := 849) (by decide +kernel)) (by decide +kernel)), (ws_mem (List.mem_of_getElem? (i := 850) (by decide +kernel)) (by decide +kernel)), (ws_mem (List.mem_of_getElem? (i := 64) (by decide +kernel)) (by decide +kernel))⟩, fun q => by revert q; decide, fun q => by revert q; decide, fun q => by revert q; decide⟩
  · cases h
def fJ7 (_ : Nat) : Option (Nat × Nat × Nat × Nat) := none
theorem fokJ7 : FOK RJ7 fJ7 := fun _ _ _ _ _ h => by cases h
def zJ7 (_ : Nat) : Option (Int ⊕ Int) := none
theorem zokJ7 : ZOK RJ7 zJ7 := fun _ _ => ⟨(fun h => (by cases h)), (fun h => (by cases h))⟩
def uJ7 (_ : Nat) : Option Nat := none
theorem uokJ7 : UOK RJ7 uJ7 := fun _ _ h => by cases h
