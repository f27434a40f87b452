/-! LapBoardModel: at, areNear, onTo, firstMost, firstOn -/
def spX9_at (As : List MV) (σ : MS) (K : Option MV → MS → Prop) : Prop := pR As fun a r => pI r fun i r => pI r fun l r => pI r fun p r => pN r (K (some (.inl ((3 * i + l) * 61 + p))) σ)
def ciX9_at : CI := (4, 9, 0, 0, spX9_at)
def kX9_at (pc : Nat) : List ME := match pc with
  | 0 => [(.iconst 3, 1, []), (.iload_n 1, 1, []), (.imul, 1, []), (.iload_n 2, 1, []), (.iadd, 1, []), (.bipush 61, 2, []), (.imul, 1, []), (.iload_n 3, 1, []), (.iadd, 1, []), (.ireturn, 1, [])]
  | _ => []
theorem qX9_at : ∀ pc, chk cX9_at pc (kX9_at pc) = true := by
  intro pc
  unfold kX9_at
  split <;> first | decide +kernel | exact chk_nil
abbrev rmX9_at : Room := { frames := 0, cells := 0, slots := 0, locals := 0 }
def aX9_at (_ : Nat) : Option CI := none
theorem aokX9_at : ∀ x ci, aX9_at x = some ci → CalOK RX9 rmX9_at x ci := fun _ _ h => by cases h
theorem mdX9_at : MD RX9 cX9_at rmX9_at kX9_at fX9 aX9_at zX9 uX9 := ⟨fokX9, zokX9, uokX9, aokX9_at, qX9_at⟩
set_option maxRecDepth 100000 in
set_option maxHeartbeats 800000 in
theorem mX9_at : MOK yX9_at cX9_at 4 (some .int) rmX9_at ciX9_at := by
  refine mok_of (ini := false) (by decide +kernel) (by decide) rfl rfl ?_
  intro σ As K hrc hl h
  obtain ⟨N, P, I, L⟩ := σ
  have h9 := pR_iff.mp h
  clear h
  obtain ⟨a, r, e9, h⟩ := h9
  subst e9
  have h9 := pI_iff.mp h
  clear h
  obtain ⟨i, r, e9, h⟩ := h9
  subst e9
  have h9 := pI_iff.mp h
  clear h
  obtain ⟨l, r, e9, h⟩ := h9
  subst e9
  have h9 := pI_iff.mp h
  clear h
  obtain ⟨p, r, e9, h⟩ := h9
  subst e9
  have h9 := pN_iff.mp h
  clear h
  obtain ⟨e9, h⟩ := h9
  subst e9
  try dsimp only at h
  refine ⟨Nat.le_of_ble_eq_true rfl, Ok.seg mdX9_at [] 20 ?_⟩
  simp only [wp_nil, wp_cons, ↓stp, ↓lI, ↓lL, ↓lR, ↓lIn_0, ↓lIn_1, ↓lIn_2, ↓lIn_3, ↓lLn_0, ↓lLn_1, ↓lLn_2, ↓lLn_3, ↓lRn_0, ↓lRn_1, ↓lRn_2, ↓lRn_3, ↓pI, ↓pL, ↓pR, ↓pA, ↓pN, ↓pV, ↓fp, ↓tsw, ↓oS, ↓spMax, ↓spMin, ↓spAbs, ↓spObj, RI, RLg, b2i_lo, b2i_hi, getL, setL, ltL, killL, isLong, inl, cnd, br, tgt, rcv, rpl, mputI, mputL, mputP, fv, fr, mcat, mcs, entL, entA, rfit, nf_0, nf_1, nf_2, nf_3, nf2_0, nf2_1, b2i_0, b2i_1, RI_b2i, b2i_fit, List.append, List.length, List.replicate, List.cons_append, List.nil_append, List.length_cons, List.length_nil, List.replicate_succ, List.replicate_zero, List.tail_cons, reduceIte, if_true, if_false, ite_true, ite_false, Bool.false_eq_true, true_and, and_true, and_self, false_and, and_false, or_self, or_true, true_or, or_false, false_or, not_true_eq_false, not_false_eq_true, ne_eq, forall_const, implies_true, imp_self, true_implies, false_implies, Nat.reduceAdd, Nat.reduceSub, Nat.reduceMul, Nat.reduceDiv, Nat.reduceMod, Nat.reduceEqDiff, Nat.reduceLT, Nat.reduceLeDiff, Nat.reduceBEq, Nat.add_zero, Nat.zero_add, Nat.le_refl, Nat.not_lt_zero, Nat.succ_eq_add_one, Int.reduceNatCast, Int.cast_ofNat_Int, Int.reduceSub, Int.reduceMul, Int.reduceNeg, Int.reduceLE, Int.reduceLT, Int.reduceToNat, Int.reduceEq, Int.reduceNe, Int.reduceAdd, Option.some.injEq, kX9_at, rmX9_at]
  exact h
def spX9_areNear (As : List MV) (σ : MS) (K : Option MV → MS → Prop) : Prop := pR As fun a r => pI r fun l r => pI r fun m r => pN r (0 ≤ l ∧ l ≤ 2 ∧ 0 ≤ m ∧ m ≤ 2 ∧ ∀ v, (v = 0 ∨ v = 1) → (v = 1 ↔ nr l m) → K (some (.inl v)) σ)
def ciX9_areNear : CI := (3, 9, 0, 0, spX9_areNear)
def kX9_areNear (pc : Nat) : List ME := match pc with
  | 0 => [(.iload_n 1, 1, []), (.iload_n 2, 1, []), (.isub, 1, []), (.iconst 2, 1, []), (.if_icmp .ge 14, 3, [18]), (.iload_n 2, 1, []), (.iload_n 1, 1, []), (.isub, 1, []), (.iconst 2, 1, []), (.if_icmp .ge 7, 3, [18]), (.iconst 1, 1, []), (.goto 4, 3, [19])]
  | 18 => [(.iconst 0, 1, [])]
  | 19 => [(.ireturn, 1, [])]
  | _ => []
theorem qX9_areNear : ∀ pc, chk cX9_areNear pc (kX9_areNear pc) = true := by
  intro pc
  unfold kX9_areNear
  split <;> first | decide +kernel | exact chk_nil
abbrev rmX9_areNear : Room := { frames := 0, cells := 0, slots := 0, locals := 0 }
def aX9_areNear (_ : Nat) : Option CI := none
theorem aokX9_areNear : ∀ x ci, aX9_areNear x = some ci → CalOK RX9 rmX9_areNear x ci := fun _ _ h => by cases h
theorem mdX9_areNear : MD RX9 cX9_areNear rmX9_areNear kX9_areNear fX9 aX9_areNear zX9 uX9 := ⟨fokX9, zokX9, uokX9, aokX9_areNear, qX9_areNear⟩
set_option maxRecDepth 100000 in
set_option maxHeartbeats 800000 in
theorem mX9_areNear : MOK yX9_areNear cX9_areNear 3 (some .boolean) rmX9_areNear ciX9_areNear := by
  refine mok_of (ini := false) (by decide +kernel) (by decide) rfl rfl ?_
  intro σ As K hrc hl h
  obtain ⟨N, P, I, L⟩ := σ
  have h9 := pR_iff.mp h
  clear h
  obtain ⟨a, r, e9, h⟩ := h9
  subst e9
  have h9 := pI_iff.mp h
  clear h
  obtain ⟨l, r, e9, h⟩ := h9
  subst e9
  have h9 := pI_iff.mp h
  clear h
  obtain ⟨m, r, e9, h⟩ := h9
  subst e9
  have h9 := pN_iff.mp h
  clear h
  obtain ⟨e9, h⟩ := h9
  subst e9
  try dsimp only at h
  obtain ⟨l0, l1, m0, m1, h⟩ := h
  have h := fun v (p : (v = 0 ∨ v = 1) ∧ (v = 1 ↔ nr l m)) => h v p.1 p.2
  refine ⟨Nat.le_of_ble_eq_true rfl, Ok.seg mdX9_areNear [] 20 ?_⟩
  simp only [wp_nil, wp_cons, ↓stp, ↓lI, ↓lL, ↓lR, ↓lIn_0, ↓lIn_1, ↓lIn_2, ↓lIn_3, ↓lLn_0, ↓lLn_1, ↓lLn_2, ↓lLn_3, ↓lRn_0, ↓lRn_1, ↓lRn_2, ↓lRn_3, ↓pI, ↓pL, ↓pR, ↓pA, ↓pN, ↓pV, ↓fp, ↓tsw, ↓oS, ↓spMax, ↓spMin, ↓spAbs, ↓spObj, RI, RLg, b2i_lo, b2i_hi, getL, setL, ltL, killL, isLong, inl, cnd, br, tgt, rcv, rpl, mputI, mputL, mputP, fv, fr, mcat, mcs, entL, entA, rfit, nf_0, nf_1, nf_2, nf_3, nf2_0, nf2_1, b2i_0, b2i_1, RI_b2i, b2i_fit, List.append, List.length, List.replicate, List.cons_append, List.nil_append, List.length_cons, List.length_nil, List.replicate_succ, List.replicate_zero, List.tail_cons, reduceIte, if_true, if_false, ite_true, ite_false, Bool.false_eq_true, true_and, and_true, and_self, false_and, and_false, or_self, or_true, true_or, or_false, false_or, not_true_eq_false, not_false_eq_true, ne_eq, forall_const, implies_true, imp_self, true_implies, false_implies, Nat.reduceAdd, Nat.reduceSub, Nat.reduceMul, Nat.reduceDiv, Nat.reduceMod, Nat.reduceEqDiff, Nat.reduceLT, Nat.reduceLeDiff, Nat.reduceBEq, Nat.add_zero, Nat.zero_add, Nat.le_refl, Nat.not_lt_zero, Nat.succ_eq_add_one, Int.reduceNatCast, Int.cast_ofNat_Int, Int.reduceSub, Int.reduceMul, Int.reduceNeg, Int.reduceLE, Int.reduceLT, Int.reduceToNat, Int.reduceEq, Int.reduceNe, Int.reduceAdd, Option.some.injEq, kX9_areNear, rmX9_areNear]
  exact ⟨by omega, fun q => h 0 ⟨.inl rfl, by unfold nr; omega⟩, fun q => ⟨by omega, fun q2 => h 0 ⟨.inl rfl, by unfold nr; omega⟩, fun q2 => h 1 ⟨.inr rfl, by unfold nr; omega⟩⟩⟩
/-- times on from pace p on lane l at station i to a pace below x at the next one on lane nx -/
def onS2 (I L : Int → Int → Int) (i l p nx x y : Int) : Prop := ∃ q, 1 ≤ q ∧ q < x ∧ p - I 240 3 ≤ q ∧ q ≤ I 253 p ∧ q ≤ I 254 (3 * (i + 1) + nx) ∧ y = tmv (I 242 (i + 1)) (dif l nx) q + L 252 ((3 * (i + 1) + nx) * 61 + q)
def onV (I L : Int → Int → Int) (i l p nx v : Int) : Prop := Lst (fun y => nr l nx ∧ onS2 I L i l p nx 61 y) 1000000000000 v
theorem onS2_s {I L : Int → Int → Int} {i l p nx x y : Int} (hx : 1 ≤ x) (h1 : p - I 240 3 ≤ x) (h2 : x ≤ I 253 p) (h3 : x ≤ I 254 (3 * (i + 1) + nx)) : onS2 I L i l p nx (x + 1) y ↔ onS2 I L i l p nx x y ∨ y = tmv (I 242 (i + 1)) (dif l nx) x + L 252 ((3 * (i + 1) + nx) * 61 + x) := by
  unfold onS2
  constructor
  · rintro ⟨q, a, b, c, d, e, f⟩
    by_cases z : q = x
    · subst z; exact .inr f
    · exact .inl ⟨q, a, by omega, c, d, e, f⟩
  · rintro (⟨q, a, b, c, d, e, f⟩ | f)
    · exact ⟨q, a, by omega, c, d, e, f⟩
    · exact ⟨x, hx, by omega, h1, h2, h3, f⟩
/-- the rows are within their ranges -/
def rowM (L : Int → Int → Int) (i l : Int) : Prop := ∀ q, 1 ≤ q → q ≤ 60 → 0 ≤ L 252 ((3 * i + l) * 61 + q) ∧ L 252 ((3 * i + l) * 61 + q) ≤ 1000000000000
def spX9_onTo (As : List MV) (σ : MS) (K : Option MV → MS → Prop) : Prop := pR As fun a r => pI r fun i r => pI r fun l r => pI r fun p r => pI r fun nx r => pN r (a = 240 ∧ σ.2.1 = PF ∧ 0 ≤ i ∧ i < 29 ∧ 0 ≤ l ∧ l ≤ 2 ∧ 1 ≤ p ∧ p ≤ 60 ∧ 0 ≤ nx ∧ nx ≤ 2 ∧ (1 ≤ σ.2.2.1 240 3 ∧ σ.2.2.1 240 3 ≤ 30) ∧ (1 ≤ σ.2.2.1 253 p ∧ σ.2.2.1 253 p ≤ 60) ∧ (1 ≤ σ.2.2.1 254 (3 * (i + 1) + nx) ∧ σ.2.2.1 254 (3 * (i + 1) + nx) ≤ 60) ∧ (1 ≤ σ.2.2.1 242 (i + 1) ∧ σ.2.2.1 242 (i + 1) ≤ 99) ∧ rowM σ.2.2.2 (i + 1) nx ∧
  ∀ v, 0 ≤ v → v ≤ 1000000000000 → onV σ.2.2.1 σ.2.2.2 i l p nx v → K (some (.inr (.inl v))) σ)
def ciX9_onTo : CI := (5, 9, 0, 0, spX9_onTo)
def kX9_onTo (pc : Nat) : List ME := match pc with
  | 0 => [(.ldc2_w 174, 3, []), (.lstore 5, 2, []), (.aload_n 0, 1, []), (.iload_n 2, 1, []), (.iload 4, 2, []), (.invokevirtual 176, 3, []), (.ifCond .ne 6, 3, [18]), (.lload 5, 2, []), (.lreturn, 1, [])]
  | 18 => [(.iload_n 3, 1, []), (.aload_n 0, 1, []), (.getfield 19, 3, []), (.isub, 1, []), (.iconst 1, 1, []), (.if_icmp .le 12, 3, [37]), (.iload_n 3, 1, []), (.aload_n 0, 1, []), (.getfield 19, 3, []), (.isub, 1, []), (.goto 4, 3, [38])]
  | 37 => [(.iconst 1, 1, [])]
  | 38 => [(.istore 7, 2, []), (.aload_n 0, 1, []), (.getfield 70, 3, []), (.iconst 3, 1, []), (.iload_n 1, 1, []), (.iconst 1, 1, []), (.iadd, 1, []), (.imul, 1, []), (.iload 4, 2, []), (.iadd, 1, []), (.iaload, 1, []), (.aload_n 0, 1, []), (.getfield 67, 3, []), (.iload_n 3, 1, []), (.iaload, 1, []), (.if_icmp .ge 19, 3, [78]), (.aload_n 0, 1, []), (.getfield 70, 3, []), (.iconst 3, 1, []), (.iload_n 1, 1, []), (.iconst 1, 1, []), (.iadd, 1, []), (.imul, 1, []), (.iload 4, 2, []), (.iadd, 1, []), (.iaload, 1, []), (.goto 9, 3, [84])]
  | 78 => [(.aload_n 0, 1, []), (.getfield 67, 3, []), (.iload_n 3, 1, []), (.iaload, 1, [])]
  | 84 => [(.istore 8, 2, []), (.iload 7, 2, []), (.istore 9, 2, [])]
  | 90 => [(.iload 9, 2, []), (.iload 8, 2, []), (.if_icmp .gt 66, 3, [160]), (.aload_n 0, 1, []), (.iload_n 1, 1, []), (.iconst 1, 1, []), (.iadd, 1, []), (.iload 4, 2, []), (.iload_n 2, 1, []), (.if_icmp .eq 7, 3, [111]), (.iconst 1, 1, []), (.goto 4, 3, [112])]
  | 111 => [(.iconst 0, 1, [])]
  | 112 => [(.iload 9, 2, []), (.invokevirtual 156, 3, []), (.i2l, 1, []), (.aload_n 0, 1, []), (.getfield 64, 3, []), (.aload_n 0, 1, []), (.iload_n 1, 1, []), (.iconst 1, 1, []), (.iadd, 1, []), (.iload 4, 2, []), (.iload 9, 2, []), (.invokevirtual 179, 3, []), (.laload, 1, []), (.ladd, 1, []), (.lstore 10, 2, []), (.lload 10, 2, []), (.lload 5, 2, []), (.lcmp, 1, []), (.ifCond .ge 8, 3, [150]), (.lload 10, 2, []), (.goto 5, 3, [152])]
  | 150 => [(.lload 5, 2, [])]
  | 152 => [(.lstore 5, 2, []), (.iinc 9 1, 3, []), (.goto (-67), 3, [90])]
  | 160 => [(.lload 5, 2, []), (.lreturn, 1, [])]
  | _ => []
theorem qX9_onTo : ∀ pc, chk cX9_onTo pc (kX9_onTo pc) = true := by
  intro pc
  unfold kX9_onTo
  split <;> first | decide +kernel | exact chk_nil
abbrev rmX9_onTo : Room := { frames := 1, cells := 0, slots := 0, locals := 23 }
def aX9_onTo (x : Nat) : Option CI := match x with
  | 176 => some ciX9_areNear
  | 156 => some ciX9_timeOf
  | 179 => some ciX9_at
  | _ => none
theorem aokX9_onTo : ∀ x ci, aX9_onTo x = some ci → CalOK RX9 rmX9_onTo x ci := by
  intro x ci h
  unfold aX9_onTo at h
  split at h
  · cases h; exact cal_V mX9_areNear (by decide) rfl (List.forall_mem_cons.mpr ⟨(ws_mem (List.mem_of_getElem? (i := 1081) (by decide +kernel)) (by decide +kernel)), List.forall_mem_cons.mpr ⟨(ws_mem (List.mem_of_getElem? (i := 1083) (by decide +kernel)) (by decide +kernel)), List.forall_mem_cons.mpr ⟨(ws_mem (List.mem_of_getElem? (i := 35) (by decide +kernel)) (by decide +kernel)), List.forall_mem_cons.mpr ⟨(ws_mem (List.mem_of_getElem? (i := 64) (by decide +kernel)) (by decide +kernel)), List.forall_mem_cons.mpr ⟨(ws_mem (List.mem_of_getElem? (i := 1084) (by decide +kernel)) (by decide +kernel)), fun _ h => absurd h List.not_mem_nil⟩⟩⟩⟩⟩) rfl (by unfold nice; decide +kernel) (by unfold rfits; decide) ⟨rfl, rfl⟩
  · cases h; exact cal_V mX9_timeOf (by decide) rfl (List.forall_mem_cons.mpr ⟨(ws_mem (List.mem_of_getElem? (i := 1060) (by decide +kernel)) (by decide +kernel)), List.forall_mem_cons.mpr ⟨(ws_mem (List.mem_of_getElem? (i := 1062) (by decide +kernel)) (by decide +kernel)), List.forall_mem_cons.mpr ⟨(ws_mem (List.mem_of_getElem? (i := 31) (by decide +kernel)) (by decide +kernel)), List.forall_mem_cons.mpr ⟨(ws_mem (List.mem_of_getElem? (i := 64) (by decide +kernel)) (by decide +kernel)), List.forall_mem_cons.mpr ⟨(ws_mem (List.mem_of_getElem? (i := 1063) (by decide +kernel)) (by decide +kernel)), fun _ h => absurd h List.not_mem_nil⟩⟩⟩⟩⟩) rfl (by unfold nice; decide +kernel) (by unfold rfits; decide) ⟨rfl, rfl⟩
  · cases h; exact cal_V mX9_at (by decide) rfl (List.forall_mem_cons.mpr ⟨(ws_mem (List.mem_of_getElem? (i := 1085) (by decide +kernel)) (by decide +kernel)), List.forall_mem_cons.mpr ⟨(ws_mem (List.mem_of_getElem? (i := 1087) (by decide +kernel)) (by decide +kernel)), List.forall_mem_cons.mpr ⟨(ws_mem (List.mem_of_getElem? (i := 36) (by decide +kernel)) (by decide +kernel)), List.forall_mem_cons.mpr ⟨(ws_mem (List.mem_of_getElem? (i := 64) (by decide +kernel)) (by decide +kernel)), List.forall_mem_cons.mpr ⟨(ws_mem (List.mem_of_getElem? (i := 1088) (by decide +kernel)) (by decide +kernel)), fun _ h => absurd h List.not_mem_nil⟩⟩⟩⟩⟩) rfl (by unfold nice; decide +kernel) (by unfold rfits; decide) ⟨rfl, rfl⟩
  · cases h
theorem ocX9_onTo_176 (f : Nat → Nat → Nat → Nat → (List MV → MS → (Option MV → MS → Prop) → Prop) → Prop) : oC aX9_onTo 176 f = f 3 9 0 0 spX9_areNear := propext Iff.rfl
theorem ocX9_onTo_156 (f : Nat → Nat → Nat → Nat → (List MV → MS → (Option MV → MS → Prop) → Prop) → Prop) : oC aX9_onTo 156 f = f 4 9 0 0 spX9_timeOf := propext Iff.rfl
theorem ocX9_onTo_179 (f : Nat → Nat → Nat → Nat → (List MV → MS → (Option MV → MS → Prop) → Prop) → Prop) : oC aX9_onTo 179 f = f 4 9 0 0 spX9_at := propext Iff.rfl
theorem mdX9_onTo : MD RX9 cX9_onTo rmX9_onTo kX9_onTo fX9 aX9_onTo zX9 uX9 := ⟨fokX9, zokX9, uokX9, aokX9_onTo, qX9_onTo⟩
theorem lcm_v (x y : Int) : (y < x ∧ lcm x y = 1) ∨ (x = y ∧ lcm x y = 0) ∨ (x < y ∧ lcm x y = -1) := by
  unfold lcm
  by_cases a : y < x
  · rw [if_pos a]; exact .inl ⟨a, rfl⟩
  · rw [if_neg a]
    by_cases b : x = y
    · rw [if_pos b]; exact .inr (.inl ⟨b, rfl⟩)
    · rw [if_neg b]; exact .inr (.inr ⟨by omega, rfl⟩)
theorem lcm_lo {x y : Int} : (-2147483648 ≤ lcm x y) = True := eq_true (by have := lcm_v x y; omega)
theorem lcm_hi {x y : Int} : (lcm x y < 2147483648) = True := eq_true (by have := lcm_v x y; omega)
theorem lcm_ge {x y : Int} : (0 ≤ lcm x y) = (y ≤ x) := propext (by have := lcm_v x y; omega)
theorem lcm_gt {x y : Int} : (0 < lcm x y) = (y < x) := propext (by have := lcm_v x y; omega)
theorem lcm_le {x y : Int} : (lcm x y ≤ 0) = (x ≤ y) := propext (by have := lcm_v x y; omega)
theorem lcm_lt {x y : Int} : (lcm x y < 0) = (x < y) := propext (by have := lcm_v x y; omega)
theorem lcm_eq {x y : Int} : (lcm x y = 0) = (x = y) := propext (by have := lcm_v x y; omega)
theorem Lst.jn {S S' : Int → Prop} {F v c m : Int} (h : Lst S F v) (e : ∀ y, S' y ↔ S y ∨ y = c) (h1 : m ≤ v) (h2 : m ≤ c) (h3 : m = v ∨ m = c) : Lst S' F m := by
  obtain ⟨a, b, d⟩ := h
  refine ⟨?_, by omega, fun x hx => ?_⟩
  · rcases h3 with q | q
    · rw [q]; exact a.imp id (fun z => (e _).mpr (.inl z))
    · rw [q]; exact .inr ((e _).mpr (.inr rfl))
  · rcases (e x).mp hx with q | q
    · have := d x q; omega
    · omega
set_option maxHeartbeats 1600000 in
set_option maxRecDepth 100000 in
theorem lpX9_o1 {post : Option MV → MS → Prop} {U : Pt → Prop} {N : Nat} {I L : Int → Int → Int} {i l p nx lo hi : Int} (i0 : 0 ≤ i) (i1 : i < 29) (n0 : 0 ≤ nx) (n1 : nx ≤ 2) (hl : 0 ≤ l ∧ l ≤ 2) (h4 : 1 ≤ I 242 (i + 1) ∧ I 242 (i + 1) ≤ 99) (hr : rowM L (i + 1) nx) (hh : 1 ≤ hi ∧ hi ≤ 60) (hhi : ∀ q, q ≤ hi ↔ q ≤ I 253 p ∧ q ≤ I 254 (3 * (i + 1) + nx))
    (h : ∀ v, 0 ≤ v → v ≤ 1000000000000 → Lst (onS2 I L i l p nx 61) 1000000000000 v → post (some (.inr (.inl v))) (N, PF, I, L)) :
    ∀ (m : Nat) (q v : Int) (ta tb : Option MV), q + m = 61 → 1 ≤ q → p - I 240 3 ≤ q → 0 ≤ v → v ≤ 1000000000000 → Lst (onS2 I L i l p nx q) 1000000000000 v →
    Ok RX9 cX9_onTo 12 rmX9_onTo false none post U (90, [some (.inr (.inr (some 240))), some (.inl i), some (.inl l), some (.inl p), some (.inl nx), some (.inr (.inl v)), none, some (.inl lo), some (.inl hi), some (.inl q), ta, tb], [], (N, PF, I, L), 0, 0)
  | m, q, v, ta, tb, hm, q0, q1, v0, v1, h1 => by
    have fin : hi < q → post (some (.inr (.inl v))) (N, PF, I, L) := fun z => by
      refine h v v0 v1 (h1.cg (fun y => ?_))
      unfold onS2
      constructor
      · rintro ⟨q', a, b, c, d, e, f⟩
        have t : q' ≤ hi := (hhi q').mpr ⟨d, e⟩
        exact ⟨q', a, by omega, c, d, e, f⟩
      · rintro ⟨q', a, b, c, d, e, f⟩
        exact ⟨q', a, by omega, c, d, e, f⟩
    rcases m with _ | m
    · refine Ok.seg mdX9_onTo [90] 12 ?_
      simp only [wp_nil, wp_cons, ↓stp, ↓lI, ↓lL, ↓lR, ↓lIn_0, ↓lIn_1, ↓lIn_2, ↓lIn_3, ↓lLn_0, ↓lLn_1, ↓lLn_2, ↓lLn_3, ↓lRn_0, ↓lRn_1, ↓lRn_2, ↓lRn_3, ↓pI, ↓pL, ↓pR, ↓pA, ↓pN, ↓pV, ↓fp, ↓tsw, ↓oS, ↓spMax, ↓spMin, ↓spAbs, ↓spObj, RI, RLg, b2i_lo, b2i_hi, getL, setL, ltL, killL, isLong, inl, cnd, br, tgt, rcv, rpl, mputI, mputL, mputP, fv, fr, mcat, mcs, entL, entA, rfit, nf_0, nf_1, nf_2, nf_3, nf2_0, nf2_1, b2i_0, b2i_1, RI_b2i, b2i_fit, List.append, List.length, List.replicate, List.cons_append, List.nil_append, List.length_cons, List.length_nil, List.replicate_succ, List.replicate_zero, List.tail_cons, reduceIte, if_true, if_false, ite_true, ite_false, Bool.false_eq_true, true_and, and_true, and_self, false_and, and_false, or_self, or_true, true_or, or_false, false_or, not_true_eq_false, not_false_eq_true, ne_eq, forall_const, implies_true, imp_self, true_implies, false_implies, Nat.reduceAdd, Nat.reduceSub, Nat.reduceMul, Nat.reduceDiv, Nat.reduceMod, Nat.reduceEqDiff, Nat.reduceLT, Nat.reduceLeDiff, Nat.reduceBEq, Nat.add_zero, Nat.zero_add, Nat.le_refl, Nat.not_lt_zero, Nat.succ_eq_add_one, Int.reduceNatCast, Int.cast_ofNat_Int, Int.reduceSub, Int.reduceMul, Int.reduceNeg, Int.reduceLE, Int.reduceLT, Int.reduceToNat, Int.reduceEq, Int.reduceNe, Int.reduceAdd, Option.some.injEq, kX9_onTo, rmX9_onTo, ↓ofX9_19, ↓ofX9_64, ↓ofX9_67, ↓ofX9_70, ↓ozX9_174, ↓ocX9_onTo_176, ↓spX9_areNear, ↓ocX9_onTo_156, ↓spX9_timeOf, ↓ocX9_onTo_179, ↓spX9_at, G_240, G_241, G_242, G_243, G_244, G_245, G_246, G_247, G_248, G_249, G_250, G_251, G_252, G_253, G_254, G_255, G_256, G_257, G_258, G_259, G_260, G_261, G_262, G_263, G_264, G_265, G_266, G_267, G_268, G_269, G_270, G_271, G_272, PF_240_6, PF_240_7, PF_240_8, PF_240_9, PF_240_10, PF_240_11, PF_240_12, PF_240_13, PF_240_14, PF_240_15, PF_240_16, PF_240_17, PF_240_18, PF_240_19, PF_240_20, PF_240_21, PF_240_22, PF_240_23, PF_240_24, PF_240_26, PF_240_27, PF_240_28, PF_240_29, PF_240_30, PF_240_31, PF_240_32, PF_240_33, PF_240_34, PF_240_35, PF_240_36, PF_240_37]
      exact ⟨by omega, by omega, fun z => fin z, fun z => by omega⟩
    · have ih := lpX9_o1 (U := U) (post := post) (lo := lo) i0 i1 n0 n1 hl h4 hr hh hhi h m (q + 1)
      have rq := hr q q0 (by omega)
      have tr := fun c => tmv_rng (ch := c) (p := q) h4.1 h4.2 q0
      have t0 := tr 0
      have t1 := tr 1
      have step : ∀ c w, dif l nx = c → q ≤ hi → w ≤ v → w ≤ tmv (I 242 (i + 1)) c q + L 252 ((3 * (i + 1) + nx) * 61 + q) → (w = v ∨ w = tmv (I 242 (i + 1)) c q + L 252 ((3 * (i + 1) + nx) * 61 + q)) → 0 ≤ w → ∀ ta tb, Ok RX9 cX9_onTo 12 rmX9_onTo false none post U (90, [some (.inr (.inr (some 240))), some (.inl i), some (.inl l), some (.inl p), some (.inl nx), some (.inr (.inl w)), none, some (.inl lo), some (.inl hi), some (.inl (q + 1)), ta, tb], [], (N, PF, I, L), 0, 0) := fun c w e a b d f g ta tb => by
        subst e
        have k := (hhi q).mp a
        exact ih w ta tb (by omega) (by omega) (by omega) g (by omega) (h1.jn (fun y => onS2_s q0 q1 k.1 k.2) b d f)
      have d1 : nx = l → dif l nx = 0 := fun z => if_pos z
      have d2 : ¬ nx = l → dif l nx = 1 := fun z => if_neg z
      refine Ok.seg mdX9_onTo [90] 80 ?_
      simp only [wp_nil, wp_cons, ↓stp, ↓lI, ↓lL, ↓lR, ↓lIn_0, ↓lIn_1, ↓lIn_2, ↓lIn_3, ↓lLn_0, ↓lLn_1, ↓lLn_2, ↓lLn_3, ↓lRn_0, ↓lRn_1, ↓lRn_2, ↓lRn_3, ↓pI, ↓pL, ↓pR, ↓pA, ↓pN, ↓pV, ↓fp, ↓tsw, ↓oS, ↓spMax, ↓spMin, ↓spAbs, ↓spObj, RI, RLg, b2i_lo, b2i_hi, getL, setL, ltL, killL, isLong, inl, cnd, br, tgt, rcv, rpl, mputI, mputL, mputP, fv, fr, mcat, mcs, entL, entA, rfit, nf_0, nf_1, nf_2, nf_3, nf2_0, nf2_1, b2i_0, b2i_1, RI_b2i, b2i_fit, List.append, List.length, List.replicate, List.cons_append, List.nil_append, List.length_cons, List.length_nil, List.replicate_succ, List.replicate_zero, List.tail_cons, reduceIte, if_true, if_false, ite_true, ite_false, Bool.false_eq_true, true_and, and_true, and_self, false_and, and_false, or_self, or_true, true_or, or_false, false_or, not_true_eq_false, not_false_eq_true, ne_eq, forall_const, implies_true, imp_self, true_implies, false_implies, Nat.reduceAdd, Nat.reduceSub, Nat.reduceMul, Nat.reduceDiv, Nat.reduceMod, Nat.reduceEqDiff, Nat.reduceLT, Nat.reduceLeDiff, Nat.reduceBEq, Nat.add_zero, Nat.zero_add, Nat.le_refl, Nat.not_lt_zero, Nat.succ_eq_add_one, Int.reduceNatCast, Int.cast_ofNat_Int, Int.reduceSub, Int.reduceMul, Int.reduceNeg, Int.reduceLE, Int.reduceLT, Int.reduceToNat, Int.reduceEq, Int.reduceNe, Int.reduceAdd, Option.some.injEq, kX9_onTo, rmX9_onTo, ↓ofX9_19, ↓ofX9_64, ↓ofX9_67, ↓ofX9_70, ↓ozX9_174, ↓ocX9_onTo_176, ↓spX9_areNear, ↓ocX9_onTo_156, ↓spX9_timeOf, ↓ocX9_onTo_179, ↓spX9_at, lcm_lo, lcm_hi, lcm_ge, G_240, G_241, G_242, G_243, G_244, G_245, G_246, G_247, G_248, G_249, G_250, G_251, G_252, G_253, G_254, G_255, G_256, G_257, G_258, G_259, G_260, G_261, G_262, G_263, G_264, G_265, G_266, G_267, G_268, G_269, G_270, G_271, G_272, PF_240_6, PF_240_7, PF_240_8, PF_240_9, PF_240_10, PF_240_11, PF_240_12, PF_240_13, PF_240_14, PF_240_15, PF_240_16, PF_240_17, PF_240_18, PF_240_19, PF_240_20, PF_240_21, PF_240_22, PF_240_23, PF_240_24, PF_240_26, PF_240_27, PF_240_28, PF_240_29, PF_240_30, PF_240_31, PF_240_32, PF_240_33, PF_240_34, PF_240_35, PF_240_36, PF_240_37]
      refine ⟨by omega, by omega, fun z => fin z, fun z => ⟨by omega, by omega, fun z2 => ?_, fun z2 => ?_⟩⟩
      · repeat refine ⟨by omega, ?_⟩
        exact ⟨fun z3 => step 0 v (d1 z2) (by omega) (by omega) (by omega) (.inl rfl) v0 _ _, fun z3 => step 0 _ (d1 z2) (by omega) (by omega) (by omega) (.inr rfl) (by omega) _ _⟩
      · repeat refine ⟨by omega, ?_⟩
        exact ⟨fun z3 => step 1 v (d2 z2) (by omega) (by omega) (by omega) (.inl rfl) v0 _ _, fun z3 => step 1 _ (d2 z2) (by omega) (by omega) (by omega) (.inr rfl) (by omega) _ _⟩
set_option maxRecDepth 100000 in
set_option maxHeartbeats 800000 in
theorem mX9_onTo : MOK yX9_onTo cX9_onTo 12 (some .long) rmX9_onTo ciX9_onTo := by
  refine mok_of (ini := false) (by decide +kernel) (by decide) rfl rfl ?_
  intro σ As K hrc hl h
  obtain ⟨N, P, I, L⟩ := σ
  have h9 := pR_iff.mp h
  clear h
  obtain ⟨a, r, e9, h⟩ := h9
  subst e9
  have h9 := pI_iff.mp h
  clear h
  obtain ⟨i, r, e9, h⟩ := h9
  subst e9
  have h9 := pI_iff.mp h
  clear h
  obtain ⟨l, r, e9, h⟩ := h9
  subst e9
  have h9 := pI_iff.mp h
  clear h
  obtain ⟨p, r, e9, h⟩ := h9
  subst e9
  have h9 := pI_iff.mp h
  clear h
  obtain ⟨nx, r, e9, h⟩ := h9
  subst e9
  have h9 := pN_iff.mp h
  clear h
  obtain ⟨e9, h⟩ := h9
  subst e9
  try dsimp only at h
  obtain ⟨rfl, rfl, i0, i1, l0, l1, p0, p1, n0, n1, hb, hrb, hli, hle, hr, h⟩ := h
  refine ⟨Nat.le_of_ble_eq_true rfl, Ok.seg mdX9_onTo [90] 60 ?_⟩
  simp only [wp_nil, wp_cons, ↓stp, ↓lI, ↓lL, ↓lR, ↓lIn_0, ↓lIn_1, ↓lIn_2, ↓lIn_3, ↓lLn_0, ↓lLn_1, ↓lLn_2, ↓lLn_3, ↓lRn_0, ↓lRn_1, ↓lRn_2, ↓lRn_3, ↓pI, ↓pL, ↓pR, ↓pA, ↓pN, ↓pV, ↓fp, ↓tsw, ↓oS, ↓spMax, ↓spMin, ↓spAbs, ↓spObj, RI, RLg, b2i_lo, b2i_hi, getL, setL, ltL, killL, isLong, inl, cnd, br, tgt, rcv, rpl, mputI, mputL, mputP, fv, fr, mcat, mcs, entL, entA, rfit, nf_0, nf_1, nf_2, nf_3, nf2_0, nf2_1, b2i_0, b2i_1, RI_b2i, b2i_fit, List.append, List.length, List.replicate, List.cons_append, List.nil_append, List.length_cons, List.length_nil, List.replicate_succ, List.replicate_zero, List.tail_cons, reduceIte, if_true, if_false, ite_true, ite_false, Bool.false_eq_true, true_and, and_true, and_self, false_and, and_false, or_self, or_true, true_or, or_false, false_or, not_true_eq_false, not_false_eq_true, ne_eq, forall_const, implies_true, imp_self, true_implies, false_implies, Nat.reduceAdd, Nat.reduceSub, Nat.reduceMul, Nat.reduceDiv, Nat.reduceMod, Nat.reduceEqDiff, Nat.reduceLT, Nat.reduceLeDiff, Nat.reduceBEq, Nat.add_zero, Nat.zero_add, Nat.le_refl, Nat.not_lt_zero, Nat.succ_eq_add_one, Int.reduceNatCast, Int.cast_ofNat_Int, Int.reduceSub, Int.reduceMul, Int.reduceNeg, Int.reduceLE, Int.reduceLT, Int.reduceToNat, Int.reduceEq, Int.reduceNe, Int.reduceAdd, Option.some.injEq, kX9_onTo, rmX9_onTo, ↓ofX9_19, ↓ofX9_64, ↓ofX9_67, ↓ofX9_70, ↓ozX9_174, ↓ocX9_onTo_176, ↓spX9_areNear, ↓ocX9_onTo_156, ↓spX9_timeOf, ↓ocX9_onTo_179, ↓spX9_at, G_240, G_241, G_242, G_243, G_244, G_245, G_246, G_247, G_248, G_249, G_250, G_251, G_252, G_253, G_254, G_255, G_256, G_257, G_258, G_259, G_260, G_261, G_262, G_263, G_264, G_265, G_266, G_267, G_268, G_269, G_270, G_271, G_272, PF_240_6, PF_240_7, PF_240_8, PF_240_9, PF_240_10, PF_240_11, PF_240_12, PF_240_13, PF_240_14, PF_240_15, PF_240_16, PF_240_17, PF_240_18, PF_240_19, PF_240_20, PF_240_21, PF_240_22, PF_240_23, PF_240_24, PF_240_26, PF_240_27, PF_240_28, PF_240_29, PF_240_30, PF_240_31, PF_240_32, PF_240_33, PF_240_34, PF_240_35, PF_240_36, PF_240_37]
  refine ⟨l0, l1, n0, n1, fun v hv hv2 => ?_⟩
  rcases hv with rfl | rfl
  · refine ⟨by omega, fun z => by omega, fun _ => h _ (by omega) (by omega) (Lst.none (fun y z => ?_))⟩
    have := hv2.mpr z.1
    omega
  · have hn := hv2.mp rfl
    have go : ∀ lo hi, 1 ≤ lo → p - I 240 3 ≤ lo → (lo = 1 ∨ lo = p - I 240 3) → hi ≤ I 253 p → hi ≤ I 254 (3 * (i + 1) + nx) → (hi = I 253 p ∨ hi = I 254 (3 * (i + 1) + nx)) → Ok RX9 cX9_onTo 12 rmX9_onTo false none (fun r σ' => rfit (some .long) r ∧ K r σ') (fun _ => False) (90, [some (.inr (.inr (some 240))), some (.inl i), some (.inl l), some (.inl p), some (.inl nx), some (.inr (.inl 1000000000000)), none, some (.inl lo), some (.inl hi), some (.inl lo), none, none], [], (N, PF, I, L), 0, 0) := fun lo hi a b c d e f => by
      refine lpX9_o1 i0 i1 n0 n1 ⟨l0, l1⟩ hle hr (by omega) (fun q => by omega) (fun v v0 v1 hv => ⟨trivial, h v v0 v1 (hv.cg (fun y => ⟨fun z => z.2, fun z => ⟨hn, z⟩⟩))⟩) (61 - lo).toNat lo _ none none (by omega) a b (by omega) (by omega) (Lst.none (fun y z => ?_))
      obtain ⟨q, z1, z2, z3, _⟩ := z
      omega
    refine ⟨by omega, fun _ => ⟨by omega, fun q => ?_, fun q => ?_⟩, fun q => by omega⟩
    · refine ⟨by omega, by omega, by omega, by omega, by omega, by omega, fun q2 => ?_, fun q2 => ?_⟩
      · exact ⟨by omega, by omega, go _ _ (by omega) (by omega) (.inl rfl) (by omega) (by omega) (.inl rfl)⟩
      · exact ⟨by omega, by omega, go _ _ (by omega) (by omega) (.inl rfl) (by omega) (by omega) (.inr rfl)⟩
    · refine ⟨by omega, by omega, by omega, by omega, by omega, by omega, fun q2 => ?_, fun q2 => ?_⟩
      · exact ⟨by omega, by omega, go _ _ (by omega) (by omega) (.inr rfl) (by omega) (by omega) (.inl rfl)⟩
      · exact ⟨by omega, by omega, go _ _ (by omega) (by omega) (.inr rfl) (by omega) (by omega) (.inr rfl)⟩
def fmo (I : Int → Int → Int) (l : Int) : Int := mn (I 254 l) (I 240 4)
def spX9_firstMost (As : List MV) (σ : MS) (K : Option MV → MS → Prop) : Prop := pR As fun a r => pI r fun l r => pN r (a = 240 ∧ σ.2.1 = PF ∧ 0 ≤ l ∧ l ≤ 2 ∧ (1 ≤ σ.2.2.1 254 l ∧ σ.2.2.1 254 l ≤ 60) ∧ (1 ≤ σ.2.2.1 240 4 ∧ σ.2.2.1 240 4 ≤ 60) ∧ K (some (.inl (fmo σ.2.2.1 l))) σ)
def ciX9_firstMost : CI := (2, 9, 0, 0, spX9_firstMost)
def kX9_firstMost (pc : Nat) : List ME := match pc with
  | 0 => [(.aload_n 0, 1, []), (.getfield 70, 3, []), (.iload_n 1, 1, []), (.iaload, 1, []), (.aload_n 0, 1, []), (.getfield 22, 3, []), (.if_icmp .ge 12, 3, [22]), (.aload_n 0, 1, []), (.getfield 70, 3, []), (.iload_n 1, 1, []), (.iaload, 1, []), (.goto 7, 3, [26])]
  | 22 => [(.aload_n 0, 1, []), (.getfield 22, 3, [])]
  | 26 => [(.ireturn, 1, [])]
  | _ => []
theorem qX9_firstMost : ∀ pc, chk cX9_firstMost pc (kX9_firstMost pc) = true := by
  intro pc
  unfold kX9_firstMost
  split <;> first | decide +kernel | exact chk_nil
abbrev rmX9_firstMost : Room := { frames := 0, cells := 0, slots := 0, locals := 0 }
def aX9_firstMost (_ : Nat) : Option CI := none
theorem aokX9_firstMost : ∀ x ci, aX9_firstMost x = some ci → CalOK RX9 rmX9_firstMost x ci := fun _ _ h => by cases h
theorem mdX9_firstMost : MD RX9 cX9_firstMost rmX9_firstMost kX9_firstMost fX9 aX9_firstMost zX9 uX9 := ⟨fokX9, zokX9, uokX9, aokX9_firstMost, qX9_firstMost⟩
set_option maxRecDepth 100000 in
set_option maxHeartbeats 800000 in
theorem mX9_firstMost : MOK yX9_firstMost cX9_firstMost 2 (some .int) rmX9_firstMost ciX9_firstMost := by
  refine mok_of (ini := false) (by decide +kernel) (by decide) rfl rfl ?_
  intro σ As K hrc hl h
  obtain ⟨N, P, I, L⟩ := σ
  have h9 := pR_iff.mp h
  clear h
  obtain ⟨a, r, e9, h⟩ := h9
  subst e9
  have h9 := pI_iff.mp h
  clear h
  obtain ⟨l, r, e9, h⟩ := h9
  subst e9
  have h9 := pN_iff.mp h
  clear h
  obtain ⟨e9, h⟩ := h9
  subst e9
  try dsimp only at h
  obtain ⟨rfl, rfl, l0, l1, h1, h2, h⟩ := h
  unfold fmo mn at h
  refine ⟨Nat.le_of_ble_eq_true rfl, Ok.seg mdX9_firstMost [] 20 ?_⟩
  simp only [wp_nil, wp_cons, ↓stp, ↓lI, ↓lL, ↓lR, ↓lIn_0, ↓lIn_1, ↓lIn_2, ↓lIn_3, ↓lLn_0, ↓lLn_1, ↓lLn_2, ↓lLn_3, ↓lRn_0, ↓lRn_1, ↓lRn_2, ↓lRn_3, ↓pI, ↓pL, ↓pR, ↓pA, ↓pN, ↓pV, ↓fp, ↓tsw, ↓oS, ↓spMax, ↓spMin, ↓spAbs, ↓spObj, RI, RLg, b2i_lo, b2i_hi, getL, setL, ltL, killL, isLong, inl, cnd, br, tgt, rcv, rpl, mputI, mputL, mputP, fv, fr, mcat, mcs, entL, entA, rfit, nf_0, nf_1, nf_2, nf_3, nf2_0, nf2_1, b2i_0, b2i_1, RI_b2i, b2i_fit, List.append, List.length, List.replicate, List.cons_append, List.nil_append, List.length_cons, List.length_nil, List.replicate_succ, List.replicate_zero, List.tail_cons, reduceIte, if_true, if_false, ite_true, ite_false, Bool.false_eq_true, true_and, and_true, and_self, false_and, and_false, or_self, or_true, true_or, or_false, false_or, not_true_eq_false, not_false_eq_true, ne_eq, forall_const, implies_true, imp_self, true_implies, false_implies, Nat.reduceAdd, Nat.reduceSub, Nat.reduceMul, Nat.reduceDiv, Nat.reduceMod, Nat.reduceEqDiff, Nat.reduceLT, Nat.reduceLeDiff, Nat.reduceBEq, Nat.add_zero, Nat.zero_add, Nat.le_refl, Nat.not_lt_zero, Nat.succ_eq_add_one, Int.reduceNatCast, Int.cast_ofNat_Int, Int.reduceSub, Int.reduceMul, Int.reduceNeg, Int.reduceLE, Int.reduceLT, Int.reduceToNat, Int.reduceEq, Int.reduceNe, Int.reduceAdd, Option.some.injEq, kX9_firstMost, rmX9_firstMost, ↓ofX9_22, ↓ofX9_70, G_240, G_241, G_242, G_243, G_244, G_245, G_246, G_247, G_248, G_249, G_250, G_251, G_252, G_253, G_254, G_255, G_256, G_257, G_258, G_259, G_260, G_261, G_262, G_263, G_264, G_265, G_266, G_267, G_268, G_269, G_270, G_271, G_272, PF_240_6, PF_240_7, PF_240_8, PF_240_9, PF_240_10, PF_240_11, PF_240_12, PF_240_13, PF_240_14, PF_240_15, PF_240_16, PF_240_17, PF_240_18, PF_240_19, PF_240_20, PF_240_21, PF_240_22, PF_240_23, PF_240_24, PF_240_26, PF_240_27, PF_240_28, PF_240_29, PF_240_30, PF_240_31, PF_240_32, PF_240_33, PF_240_34, PF_240_35, PF_240_36, PF_240_37]
  refine ⟨l0, by omega, by omega, by omega, fun q => ?_, fun q => ⟨l0, by omega, ?_⟩⟩
  · by_cases z : I 254 l = I 240 4
    · rw [if_pos (by omega), z] at h; exact h
    · rwa [if_neg (by omega)] at h
  · rwa [if_pos (by omega)] at h
/-- times of laps that begin on lane l at a pace below x -/
def firS (I L : Int → Int → Int) (l x y : Int) : Prop := ∃ q, 1 ≤ q ∧ q < x ∧ q ≤ I 254 l ∧ q ≤ I 240 4 ∧ y = tmv (I 242 0) 0 q + L 252 (l * 61 + q)
def firV (I L : Int → Int → Int) (l v : Int) : Prop := Lst (firS I L l 61) 1000000000000 v
def spX9_firstOn (As : List MV) (σ : MS) (K : Option MV → MS → Prop) : Prop := pR As fun a r => pI r fun l r => pN r (a = 240 ∧ σ.2.1 = PF ∧ 0 ≤ l ∧ l ≤ 2 ∧ (1 ≤ σ.2.2.1 254 l ∧ σ.2.2.1 254 l ≤ 60) ∧ (1 ≤ σ.2.2.1 240 4 ∧ σ.2.2.1 240 4 ≤ 60) ∧ (1 ≤ σ.2.2.1 242 0 ∧ σ.2.2.1 242 0 ≤ 99) ∧ rowM σ.2.2.2 0 l ∧ ∀ v, 0 ≤ v → v ≤ 1000000000000 → firV σ.2.2.1 σ.2.2.2 l v → K (some (.inr (.inl v))) σ)
def ciX9_firstOn : CI := (2, 9, 0, 0, spX9_firstOn)
def kX9_firstOn (pc : Nat) : List ME := match pc with
  | 0 => [(.ldc2_w 174, 3, []), (.lstore_n 2, 1, []), (.iconst 1, 1, []), (.istore 4, 2, [])]
  | 7 => [(.iload 4, 2, []), (.aload_n 0, 1, []), (.iload_n 1, 1, []), (.invokevirtual 190, 3, []), (.if_icmp .gt 48, 3, [62]), (.aload_n 0, 1, []), (.iconst 0, 1, []), (.iconst 0, 1, []), (.iload 4, 2, []), (.invokevirtual 156, 3, []), (.i2l, 1, []), (.aload_n 0, 1, []), (.getfield 64, 3, []), (.aload_n 0, 1, []), (.iconst 0, 1, []), (.iload_n 1, 1, []), (.iload 4, 2, []), (.invokevirtual 179, 3, []), (.laload, 1, []), (.ladd, 1, []), (.lstore 5, 2, []), (.lload 5, 2, []), (.lload_n 2, 1, []), (.lcmp, 1, []), (.ifCond .ge 8, 3, [54]), (.lload 5, 2, []), (.goto 4, 3, [55])]
  | 54 => [(.lload_n 2, 1, [])]
  | 55 => [(.lstore_n 2, 1, []), (.iinc 4 1, 3, []), (.goto (-52), 3, [7])]
  | 62 => [(.lload_n 2, 1, []), (.lreturn, 1, [])]
  | _ => []
theorem qX9_firstOn : ∀ pc, chk cX9_firstOn pc (kX9_firstOn pc) = true := by
  intro pc
  unfold kX9_firstOn
  split <;> first | decide +kernel | exact chk_nil
abbrev rmX9_firstOn : Room := { frames := 1, cells := 0, slots := 0, locals := 23 }
def aX9_firstOn (x : Nat) : Option CI := match x with
  | 190 => some ciX9_firstMost
  | 156 => some ciX9_timeOf
  | 179 => some ciX9_at
  | _ => none
theorem aokX9_firstOn : ∀ x ci, aX9_firstOn x = some ci → CalOK RX9 rmX9_firstOn x ci := by
  intro x ci h
  unfold aX9_firstOn at h
  split at h
  · cases h; exact cal_V mX9_firstMost (by decide) rfl (List.forall_mem_cons.mpr ⟨(ws_mem (List.mem_of_getElem? (i := 1093) (by decide +kernel)) (by decide +kernel)), List.forall_mem_cons.mpr ⟨(ws_mem (List.mem_of_getElem? (i := 1095) (by decide +kernel)) (by decide +kernel)), List.forall_mem_cons.mpr ⟨(ws_mem (List.mem_of_getElem? (i := 38) (by decide +kernel)) (by decide +kernel)), List.forall_mem_cons.mpr ⟨(ws_mem (List.mem_of_getElem? (i := 64) (by decide +kernel)) (by decide +kernel)), List.forall_mem_cons.mpr ⟨(ws_mem (List.mem_of_getElem? (i := 1096) (by decide +kernel)) (by decide +kernel)), fun _ h => absurd h List.not_mem_nil⟩⟩⟩⟩⟩) rfl (by unfold nice; decide +kernel) (by unfold rfits; decide) ⟨rfl, rfl⟩
  · cases h; exact cal_V mX9_timeOf (by decide) rfl (List.forall_mem_cons.mpr ⟨(ws_mem (List.mem_of_getElem? (i := 1060) (by decide +kernel)) (by decide +kernel)), List.forall_mem_cons.mpr ⟨(ws_mem (List.mem_of_getElem? (i := 1062) (by decide +kernel)) (by decide +kernel)), List.forall_mem_cons.mpr ⟨(ws_mem (List.mem_of_getElem? (i := 31) (by decide +kernel)) (by decide +kernel)), List.forall_mem_cons.mpr ⟨(ws_mem (List.mem_of_getElem? (i := 64) (by decide +kernel)) (by decide +kernel)), List.forall_mem_cons.mpr ⟨(ws_mem (List.mem_of_getElem? (i := 1063) (by decide +kernel)) (by decide +kernel)), fun _ h => absurd h List.not_mem_nil⟩⟩⟩⟩⟩) rfl (by unfold nice; decide +kernel) (by unfold rfits; decide) ⟨rfl, rfl⟩
  · cases h; exact cal_V mX9_at (by decide) rfl (List.forall_mem_cons.mpr ⟨(ws_mem (List.mem_of_getElem? (i := 1085) (by decide +kernel)) (by decide +kernel)), List.forall_mem_cons.mpr ⟨(ws_mem (List.mem_of_getElem? (i := 1087) (by decide +kernel)) (by decide +kernel)), List.forall_mem_cons.mpr ⟨(ws_mem (List.mem_of_getElem? (i := 36) (by decide +kernel)) (by decide +kernel)), List.forall_mem_cons.mpr ⟨(ws_mem (List.mem_of_getElem? (i := 64) (by decide +kernel)) (by decide +kernel)), List.forall_mem_cons.mpr ⟨(ws_mem (List.mem_of_getElem? (i := 1088) (by decide +kernel)) (by decide +kernel)), fun _ h => absurd h List.not_mem_nil⟩⟩⟩⟩⟩) rfl (by unfold nice; decide +kernel) (by unfold rfits; decide) ⟨rfl, rfl⟩
  · cases h
theorem ocX9_firstOn_190 (f : Nat → Nat → Nat → Nat → (List MV → MS → (Option MV → MS → Prop) → Prop) → Prop) : oC aX9_firstOn 190 f = f 2 9 0 0 spX9_firstMost := propext Iff.rfl
theorem ocX9_firstOn_156 (f : Nat → Nat → Nat → Nat → (List MV → MS → (Option MV → MS → Prop) → Prop) → Prop) : oC aX9_firstOn 156 f = f 4 9 0 0 spX9_timeOf := propext Iff.rfl
theorem ocX9_firstOn_179 (f : Nat → Nat → Nat → Nat → (List MV → MS → (Option MV → MS → Prop) → Prop) → Prop) : oC aX9_firstOn 179 f = f 4 9 0 0 spX9_at := propext Iff.rfl
theorem mdX9_firstOn : MD RX9 cX9_firstOn rmX9_firstOn kX9_firstOn fX9 aX9_firstOn zX9 uX9 := ⟨fokX9, zokX9, uokX9, aokX9_firstOn, qX9_firstOn⟩
set_option maxHeartbeats 1600000 in
set_option maxRecDepth 100000 in
theorem lpX9_f1 {post : Option MV → MS → Prop} {U : Pt → Prop} {N : Nat} {I L : Int → Int → Int} {l : Int} (l0 : 0 ≤ l) (l1 : l ≤ 2) (h2 : 1 ≤ I 254 l ∧ I 254 l ≤ 60) (h3 : 1 ≤ I 240 4 ∧ I 240 4 ≤ 60) (h4 : 1 ≤ I 242 0 ∧ I 242 0 ≤ 99) (hr : rowM L 0 l)
    (h : ∀ v, 0 ≤ v → v ≤ 1000000000000 → firV I L l v → post (some (.inr (.inl v))) (N, PF, I, L)) :
    ∀ (m : Nat) (q v : Int) (ta tb : Option MV), q + m = 61 → 1 ≤ q → 0 ≤ v → v ≤ 1000000000000 → Lst (firS I L l q) 1000000000000 v →
    Ok RX9 cX9_firstOn 7 rmX9_firstOn false none post U (7, [some (.inr (.inr (some 240))), some (.inl l), some (.inr (.inl v)), none, some (.inl q), ta, tb], [], (N, PF, I, L), 0, 0)
  | m, q, v, ta, tb, hm, q0, v0, v1, h1 => by
    have hfm := @mn_le (I 254 l) (I 240 4)
    have fin : fmo I l < q → post (some (.inr (.inl v))) (N, PF, I, L) := fun z => by
      unfold fmo at z
      refine h v v0 v1 (h1.cg (fun y => ?_))
      unfold firS
      constructor
      · rintro ⟨q', a, b, c, d, e⟩
        exact ⟨q', a, by omega, c, d, e⟩
      · rintro ⟨q', a, b, c, d, e⟩
        exact ⟨q', a, by omega, c, d, e⟩
    have hfr : 1 ≤ fmo I l ∧ fmo I l ≤ 60 := by unfold fmo; omega
    rcases m with _ | m
    · refine Ok.seg mdX9_firstOn [7] 20 ?_
      simp only [wp_nil, wp_cons, ↓stp, ↓lI, ↓lL, ↓lR, ↓lIn_0, ↓lIn_1, ↓lIn_2, ↓lIn_3, ↓lLn_0, ↓lLn_1, ↓lLn_2, ↓lLn_3, ↓lRn_0, ↓lRn_1, ↓lRn_2, ↓lRn_3, ↓pI, ↓pL, ↓pR, ↓pA, ↓pN, ↓pV, ↓fp, ↓tsw, ↓oS, ↓spMax, ↓spMin, ↓spAbs, ↓spObj, RI, RLg, b2i_lo, b2i_hi, getL, setL, ltL, killL, isLong, inl, cnd, br, tgt, rcv, rpl, mputI, mputL, mputP, fv, fr, mcat, mcs, entL, entA, rfit, nf_0, nf_1, nf_2, nf_3, nf2_0, nf2_1, b2i_0, b2i_1, RI_b2i, b2i_fit, List.append, List.length, List.replicate, List.cons_append, List.nil_append, List.length_cons, List.length_nil, List.replicate_succ, List.replicate_zero, List.tail_cons, reduceIte, if_true, if_false, ite_true, ite_false, Bool.false_eq_true, true_and, and_true, and_self, false_and, and_false, or_self, or_true, true_or, or_false, false_or, not_true_eq_false, not_false_eq_true, ne_eq, forall_const, implies_true, imp_self, true_implies, false_implies, Nat.reduceAdd, Nat.reduceSub, Nat.reduceMul, Nat.reduceDiv, Nat.reduceMod, Nat.reduceEqDiff, Nat.reduceLT, Nat.reduceLeDiff, Nat.reduceBEq, Nat.add_zero, Nat.zero_add, Nat.le_refl, Nat.not_lt_zero, Nat.succ_eq_add_one, Int.reduceNatCast, Int.cast_ofNat_Int, Int.reduceSub, Int.reduceMul, Int.reduceNeg, Int.reduceLE, Int.reduceLT, Int.reduceToNat, Int.reduceEq, Int.reduceNe, Int.reduceAdd, Option.some.injEq, kX9_firstOn, rmX9_firstOn, ↓ofX9_64, ↓ozX9_174, ↓ocX9_firstOn_190, ↓spX9_firstMost, ↓ocX9_firstOn_156, ↓spX9_timeOf, ↓ocX9_firstOn_179, ↓spX9_at, G_240, G_241, G_242, G_243, G_244, G_245, G_246, G_247, G_248, G_249, G_250, G_251, G_252, G_253, G_254, G_255, G_256, G_257, G_258, G_259, G_260, G_261, G_262, G_263, G_264, G_265, G_266, G_267, G_268, G_269, G_270, G_271, G_272, PF_240_6, PF_240_7, PF_240_8, PF_240_9, PF_240_10, PF_240_11, PF_240_12, PF_240_13, PF_240_14, PF_240_15, PF_240_16, PF_240_17, PF_240_18, PF_240_19, PF_240_20, PF_240_21, PF_240_22, PF_240_23, PF_240_24, PF_240_26, PF_240_27, PF_240_28, PF_240_29, PF_240_30, PF_240_31, PF_240_32, PF_240_33, PF_240_34, PF_240_35, PF_240_36, PF_240_37]
      exact ⟨l0, l1, h2, h3, by omega, by omega, fun z => fin z, fun z => by omega⟩
    · have ih := lpX9_f1 (U := U) (post := post) l0 l1 h2 h3 h4 hr h m (q + 1)
      have rq := hr q q0 (by omega)
      rw [show (3 * 0 + l) * 61 + q = l * 61 + q by omega] at rq
      have t0 := tmv_rng (ch := 0) (p := q) h4.1 h4.2 q0
      have step : ∀ w, q ≤ fmo I l → w ≤ v → w ≤ tmv (I 242 0) 0 q + L 252 (l * 61 + q) → (w = v ∨ w = tmv (I 242 0) 0 q + L 252 (l * 61 + q)) → 0 ≤ w → ∀ ta tb, Ok RX9 cX9_firstOn 7 rmX9_firstOn false none post U (7, [some (.inr (.inr (some 240))), some (.inl l), some (.inr (.inl w)), none, some (.inl (q + 1)), ta, tb], [], (N, PF, I, L), 0, 0) := fun w a b d f g ta tb => by
        unfold fmo at a
        refine ih w ta tb (by omega) (by omega) g (by omega) (h1.jn (fun y => ?_) b d f)
        unfold firS
        constructor
        · rintro ⟨q', a, b, c, d, e⟩
          by_cases z : q' = q
          · subst z; exact .inr e
          · exact .inl ⟨q', a, by omega, c, d, e⟩
        · rintro (⟨q', a, b, c, d, e⟩ | e)
          · exact ⟨q', a, by omega, c, d, e⟩
          · exact ⟨q, q0, by omega, by omega, by omega, e⟩
      refine Ok.seg mdX9_firstOn [7] 80 ?_
      simp only [wp_nil, wp_cons, ↓stp, ↓lI, ↓lL, ↓lR, ↓lIn_0, ↓lIn_1, ↓lIn_2, ↓lIn_3, ↓lLn_0, ↓lLn_1, ↓lLn_2, ↓lLn_3, ↓lRn_0, ↓lRn_1, ↓lRn_2, ↓lRn_3, ↓pI, ↓pL, ↓pR, ↓pA, ↓pN, ↓pV, ↓fp, ↓tsw, ↓oS, ↓spMax, ↓spMin, ↓spAbs, ↓spObj, RI, RLg, b2i_lo, b2i_hi, getL, setL, ltL, killL, isLong, inl, cnd, br, tgt, rcv, rpl, mputI, mputL, mputP, fv, fr, mcat, mcs, entL, entA, rfit, nf_0, nf_1, nf_2, nf_3, nf2_0, nf2_1, b2i_0, b2i_1, RI_b2i, b2i_fit, List.append, List.length, List.replicate, List.cons_append, List.nil_append, List.length_cons, List.length_nil, List.replicate_succ, List.replicate_zero, List.tail_cons, reduceIte, if_true, if_false, ite_true, ite_false, Bool.false_eq_true, true_and, and_true, and_self, false_and, and_false, or_self, or_true, true_or, or_false, false_or, not_true_eq_false, not_false_eq_true, ne_eq, forall_const, implies_true, imp_self, true_implies, false_implies, Nat.reduceAdd, Nat.reduceSub, Nat.reduceMul, Nat.reduceDiv, Nat.reduceMod, Nat.reduceEqDiff, Nat.reduceLT, Nat.reduceLeDiff, Nat.reduceBEq, Nat.add_zero, Nat.zero_add, Nat.le_refl, Nat.not_lt_zero, Nat.succ_eq_add_one, Int.reduceNatCast, Int.cast_ofNat_Int, Int.reduceSub, Int.reduceMul, Int.reduceNeg, Int.reduceLE, Int.reduceLT, Int.reduceToNat, Int.reduceEq, Int.reduceNe, Int.reduceAdd, Option.some.injEq, kX9_firstOn, rmX9_firstOn, ↓ofX9_64, ↓ozX9_174, ↓ocX9_firstOn_190, ↓spX9_firstMost, ↓ocX9_firstOn_156, ↓spX9_timeOf, ↓ocX9_firstOn_179, ↓spX9_at, lcm_lo, lcm_hi, lcm_ge, G_240, G_241, G_242, G_243, G_244, G_245, G_246, G_247, G_248, G_249, G_250, G_251, G_252, G_253, G_254, G_255, G_256, G_257, G_258, G_259, G_260, G_261, G_262, G_263, G_264, G_265, G_266, G_267, G_268, G_269, G_270, G_271, G_272, PF_240_6, PF_240_7, PF_240_8, PF_240_9, PF_240_10, PF_240_11, PF_240_12, PF_240_13, PF_240_14, PF_240_15, PF_240_16, PF_240_17, PF_240_18, PF_240_19, PF_240_20, PF_240_21, PF_240_22, PF_240_23, PF_240_24, PF_240_26, PF_240_27, PF_240_28, PF_240_29, PF_240_30, PF_240_31, PF_240_32, PF_240_33, PF_240_34, PF_240_35, PF_240_36, PF_240_37]
      rw [show (0 + l) * 61 + q = l * 61 + q by omega]
      refine ⟨l0, l1, h2, h3, by omega, by omega, fun z => fin z, fun z => ?_⟩
      repeat refine ⟨by omega, ?_⟩
      exact ⟨fun z3 => step v (by omega) (by omega) (by omega) (.inl rfl) v0 _ _, fun z3 => step _ (by omega) (by omega) (by omega) (.inr rfl) (by omega) _ _⟩
set_option maxRecDepth 100000 in
set_option maxHeartbeats 800000 in
theorem mX9_firstOn : MOK yX9_firstOn cX9_firstOn 7 (some .long) rmX9_firstOn ciX9_firstOn := by
  refine mok_of (ini := false) (by decide +kernel) (by decide) rfl rfl ?_
  intro σ As K hrc hl h
  obtain ⟨N, P, I, L⟩ := σ
  have h9 := pR_iff.mp h
  clear h
  obtain ⟨a, r, e9, h⟩ := h9
  subst e9
  have h9 := pI_iff.mp h
  clear h
  obtain ⟨l, r, e9, h⟩ := h9
  subst e9
  have h9 := pN_iff.mp h
  clear h
  obtain ⟨e9, h⟩ := h9
  subst e9
  try dsimp only at h
  obtain ⟨rfl, rfl, l0, l1, h1, h2, h3, hr, h⟩ := h
  refine ⟨Nat.le_of_ble_eq_true rfl, Ok.seg mdX9_firstOn [7] 20 ?_⟩
  simp only [wp_nil, wp_cons, ↓stp, ↓lI, ↓lL, ↓lR, ↓lIn_0, ↓lIn_1, ↓lIn_2, ↓lIn_3, ↓lLn_0, ↓lLn_1, ↓lLn_2, ↓lLn_3, ↓lRn_0, ↓lRn_1, ↓lRn_2, ↓lRn_3, ↓pI, ↓pL, ↓pR, ↓pA, ↓pN, ↓pV, ↓fp, ↓tsw, ↓oS, ↓spMax, ↓spMin, ↓spAbs, ↓spObj, RI, RLg, b2i_lo, b2i_hi, getL, setL, ltL, killL, isLong, inl, cnd, br, tgt, rcv, rpl, mputI, mputL, mputP, fv, fr, mcat, mcs, entL, entA, rfit, nf_0, nf_1, nf_2, nf_3, nf2_0, nf2_1, b2i_0, b2i_1, RI_b2i, b2i_fit, List.append, List.length, List.replicate, List.cons_append, List.nil_append, List.length_cons, List.length_nil, List.replicate_succ, List.replicate_zero, List.tail_cons, reduceIte, if_true, if_false, ite_true, ite_false, Bool.false_eq_true, true_and, and_true, and_self, false_and, and_false, or_self, or_true, true_or, or_false, false_or, not_true_eq_false, not_false_eq_true, ne_eq, forall_const, implies_true, imp_self, true_implies, false_implies, Nat.reduceAdd, Nat.reduceSub, Nat.reduceMul, Nat.reduceDiv, Nat.reduceMod, Nat.reduceEqDiff, Nat.reduceLT, Nat.reduceLeDiff, Nat.reduceBEq, Nat.add_zero, Nat.zero_add, Nat.le_refl, Nat.not_lt_zero, Nat.succ_eq_add_one, Int.reduceNatCast, Int.cast_ofNat_Int, Int.reduceSub, Int.reduceMul, Int.reduceNeg, Int.reduceLE, Int.reduceLT, Int.reduceToNat, Int.reduceEq, Int.reduceNe, Int.reduceAdd, Option.some.injEq, kX9_firstOn, rmX9_firstOn, ↓ofX9_64, ↓ozX9_174, ↓ocX9_firstOn_190, ↓spX9_firstMost, ↓ocX9_firstOn_156, ↓spX9_timeOf, ↓ocX9_firstOn_179, ↓spX9_at, G_240, G_241, G_242, G_243, G_244, G_245, G_246, G_247, G_248, G_249, G_250, G_251, G_252, G_253, G_254, G_255, G_256, G_257, G_258, G_259, G_260, G_261, G_262, G_263, G_264, G_265, G_266, G_267, G_268, G_269, G_270, G_271, G_272, PF_240_6, PF_240_7, PF_240_8, PF_240_9, PF_240_10, PF_240_11, PF_240_12, PF_240_13, PF_240_14, PF_240_15, PF_240_16, PF_240_17, PF_240_18, PF_240_19, PF_240_20, PF_240_21, PF_240_22, PF_240_23, PF_240_24, PF_240_26, PF_240_27, PF_240_28, PF_240_29, PF_240_30, PF_240_31, PF_240_32, PF_240_33, PF_240_34, PF_240_35, PF_240_36, PF_240_37]
  refine lpX9_f1 (post := fun r σ' => rfit (some .long) r ∧ K r σ') l0 l1 h1 h2 h3 hr (fun v a b c => ⟨trivial, h v a b c⟩) 60 1 _ none none (by omega) (by omega) (by omega) (by omega) (Lst.none (fun y z => ?_))
  obtain ⟨q, z1, z2, _⟩ := z
  omega
