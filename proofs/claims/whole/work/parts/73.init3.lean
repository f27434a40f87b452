/-! constructors: Shelf -/
theorem PF_shf {a : Int} (ha : shB a) (k : Int) : PF a k = if k = 2 then some (a + 1) else if k = 3 then some (a + 2) else if k = 4 then some (a + 3) else none := by
  obtain ⟨d, d0, d1, rfl⟩ := ha
  unfold PF
  repeat rw [if_neg (by omega)]
  rw [if_pos (by omega)]
theorem PF_shfr {a b : Int} (ha : shB a) (h0 : a + 1 ≤ b) (h1 : b ≤ a + 3) (k : Int) : PF b k = none := by
  obtain ⟨d, d0, d1, rfl⟩ := ha
  unfold PF
  repeat rw [if_neg (by omega)]
def spX2_init (As : List MV) (σ : MS) (K : Option MV → MS → Prop) : Prop := pR As fun a r => pN r (shB a ∧ (σ.1 : Int) = a + 1 ∧ (∀ k, σ.2.1 a k = none) ∧ (∀ k, σ.2.2.1 a k = 0) ∧ ∀ P' I' L', mkd a (a + 1) (a + 4) σ.2.1 P' σ.2.2.1 I' σ.2.2.2 L' → (∀ b k, a ≤ b → b ≤ a + 3 → I' b k = 0) → K none (σ.1 + 3, P', I', L'))
def ciX2_init : CI := (1, 20, 3, 125, spX2_init)
theorem rcX2_init : ∀ (As : List MV) (σ : MS) (K : Option MV → MS → Prop), ciX2_init.2.2.2.2 As σ K → ∃ a As', As = .inr (.inr (some a)) :: As' := fun _ _ _ h => pR_fst h
def kX2_init (pc : Nat) : List ME := match pc with
  | 0 => [(.aload_n 0, 1, []), (.invokespecial 3, 3, []), (.aload_n 0, 1, []), (.iconst 0, 1, []), (.putfield 9, 3, []), (.aload_n 0, 1, []), (.new 15, 3, []), (.dup, 1, []), (.invokespecial 17, 3, []), (.putfield 18, 3, []), (.aload_n 0, 1, []), (.bipush 60, 2, []), (.newarray .int, 2, []), (.putfield 22, 3, []), (.aload_n 0, 1, []), (.bipush 60, 2, []), (.newarray .byte, 2, []), (.putfield 26, 3, []), (.return_, 1, [])]
  | _ => []
theorem qX2_init : ∀ pc, chk cX2_init pc (kX2_init pc) = true := by
  intro pc
  unfold kX2_init
  split <;> first | decide +kernel | exact chk_nil
abbrev rmX2_init : Room := { frames := 2, cells := 3, slots := 125, locals := 40 }
def aX2_init (x : Nat) : Option CI := match x with
  | 3 => some ciObj
  | 17 => some ciX3_init
  | _ => none
theorem aokX2_init : ∀ x ci, aX2_init x = some ci → CalOK RX2 rmX2_init x ci := by
  intro x ci h
  unfold aX2_init at h
  split at h
  · cases h; exact cal_obj (List.forall_mem_cons.mpr ⟨(ws_mem (List.mem_of_getElem? (i := 323) (by decide +kernel)) (by decide +kernel)), List.forall_mem_cons.mpr ⟨(ws_mem (List.mem_of_getElem? (i := 77) (by decide +kernel)) (by decide +kernel)), List.forall_mem_cons.mpr ⟨(ws_mem (List.mem_of_getElem? (i := 78) (by decide +kernel)) (by decide +kernel)), fun _ h => absurd h List.not_mem_nil⟩⟩⟩) (by decide)
  · cases h; exact cal_I mX3_init (by decide) rfl (List.forall_mem_cons.mpr ⟨(ws_mem (List.mem_of_getElem? (i := 325) (by decide +kernel)) (by decide +kernel)), List.forall_mem_cons.mpr ⟨(ws_mem (List.mem_of_getElem? (i := 95) (by decide +kernel)) (by decide +kernel)), List.forall_mem_cons.mpr ⟨(ws_mem (List.mem_of_getElem? (i := 56) (by decide +kernel)) (by decide +kernel)), List.forall_mem_cons.mpr ⟨(ws_mem (List.mem_of_getElem? (i := 96) (by decide +kernel)) (by decide +kernel)), fun _ h => absurd h List.not_mem_nil⟩⟩⟩⟩) rfl (by unfold nice; decide +kernel) (by unfold rfits; decide) ⟨rfl, rfl⟩ rcX3_init
  · cases h
theorem ocX2_init_3 (f : Nat → Nat → Nat → Nat → (List MV → MS → (Option MV → MS → Prop) → Prop) → Prop) : oC aX2_init 3 f = f 1 20 0 0 spObj := propext Iff.rfl
theorem ocX2_init_17 (f : Nat → Nat → Nat → Nat → (List MV → MS → (Option MV → MS → Prop) → Prop) → Prop) : oC aX2_init 17 f = f 1 20 0 0 spX3_init := propext Iff.rfl
theorem mdX2_init : MD RX2 cX2_init rmX2_init kX2_init fX2 aX2_init zX2 uX2 := ⟨fokX2, zokX2, uokX2, aokX2_init, qX2_init⟩
set_option maxRecDepth 100000 in
set_option maxHeartbeats 800000 in
theorem mX2_init : MOK yX2_init cX2_init 1 none rmX2_init ciX2_init := by
  refine mok_of (ini := true) (by decide +kernel) (by decide) rfl rfl ?_
  intro σ As K hrc hl h
  obtain ⟨N, P, I, L⟩ := σ
  have h9 := pR_iff.mp h
  clear h
  obtain ⟨a, r, e9, h⟩ := h9
  subst e9
  have h9 := pN_iff.mp h
  clear h
  obtain ⟨e9, h⟩ := h9
  subst e9
  try dsimp only at h
  obtain ⟨ha, hN, hp, hi, h⟩ := h
  obtain ⟨g0, g1, g2, g3, p2, p3, p4, a0⟩ := shB_rows ha
  have pw := PF_shf ha
  have pr := fun b => PF_shfr (b := b) ha
  have n1 : (N : Int) = a + 1 := hN
  have n2 : ((N + 1 : Nat) : Int) = a + 2 := by omega
  have n3 : ((N + 1 + 1 : Nat) : Int) = a + 3 := by omega
  have n4 : ((N + 2 : Nat) : Int) = a + 3 := by omega
  have en : nfs 3 = 5 := rfl
  refine ⟨Nat.le_of_ble_eq_true rfl, Ok.seg mdX2_init [] 30 ?_⟩
  simp only [wp_nil, wp_cons, ↓stp, ↓lI, ↓lL, ↓lR, ↓lIn_0, ↓lIn_1, ↓lIn_2, ↓lIn_3, ↓lLn_0, ↓lLn_1, ↓lLn_2, ↓lLn_3, ↓lRn_0, ↓lRn_1, ↓lRn_2, ↓lRn_3, ↓pI, ↓pL, ↓pR, ↓pA, ↓pN, ↓pV, ↓fp, ↓tsw, ↓oS, ↓spMax, ↓spMin, ↓spAbs, ↓spObj, RI, RLg, b2i_lo, b2i_hi, getL, setL, ltL, killL, isLong, inl, cnd, br, tgt, rcv, rpl, mputI, mputL, mputP, fv, fr, mcat, mcs, entL, entA, rfit, nf_0, nf_1, nf_2, nf_3, nf2_0, nf2_1, b2i_0, b2i_1, RI_b2i, b2i_fit, List.append, List.length, List.replicate, List.cons_append, List.nil_append, List.length_cons, List.length_nil, List.replicate_succ, List.replicate_zero, List.tail_cons, reduceIte, if_true, if_false, ite_true, ite_false, Bool.false_eq_true, true_and, and_true, and_self, false_and, and_false, or_self, or_true, true_or, or_false, false_or, not_true_eq_false, not_false_eq_true, ne_eq, forall_const, implies_true, imp_self, true_implies, false_implies, Nat.reduceAdd, Nat.reduceSub, Nat.reduceMul, Nat.reduceDiv, Nat.reduceMod, Nat.reduceEqDiff, Nat.reduceLT, Nat.reduceLeDiff, Nat.reduceBEq, Nat.add_zero, Nat.zero_add, Nat.le_refl, Nat.not_lt_zero, Nat.succ_eq_add_one, Int.reduceNatCast, Int.cast_ofNat_Int, Int.reduceSub, Int.reduceMul, Int.reduceNeg, Int.reduceLE, Int.reduceLT, Int.reduceToNat, Int.reduceEq, Int.reduceNe, Int.reduceAdd, Option.some.injEq, kX2_init, rmX2_init, ↓ofX2_18, ↓ofX2_22, ↓ofX2_26, ↓ofX2_9, ↓onX2_15, ↓ocX2_init_3, ↓ocX2_init_17, ↓spX3_init, mnew, n1, n2, n3, n4, g0, g1, g2, g3, en]
  refine ⟨by omega, by decide, rfl, by decide, rfl, ?_⟩
  refine h _ _ _ ⟨fun b k hb => ?_, fun b k b0 b1 => ?_, fun b k b0 b1 => ?_, fun b k b0 b1 => ?_⟩ (fun b k b0 b1 => ?_)
  · unfold upP
    try dsimp only
    by_cases eb : b = a
    · subst eb
      rw [pw k]
      repeat' split
      all_goals first | omega | rfl | exact hp k
    · rw [pr b (by omega) (by omega)]
      repeat' split
      all_goals first | omega | rfl
  · unfold upP
    try dsimp only
    repeat rw [if_neg (by omega)]
  · try dsimp only
    repeat rw [if_neg (by omega)]
    exact upI_ne b1
  · try dsimp only
    repeat rw [if_neg (by omega)]
  · try dsimp only
    repeat' split
    all_goals first | rfl | skip
    have eb : b = a := by omega
    subst eb
    unfold upI
    split
    · rfl
    · exact hi k
