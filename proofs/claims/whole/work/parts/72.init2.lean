/-! constructors: Way -/
def spX6_init (As : List MV) (σ : MS) (K : Option MV → MS → Prop) : Prop := pR As fun a r => pN r ((a = 40 ∨ a = 44) ∧ (σ.1 : Int) = a + 1 ∧ (∀ k, σ.2.1 a k = none) ∧ (∀ k, σ.2.2.1 a k = 0) ∧ ∀ P' I' L', mkd a (a + 1) (a + 4) σ.2.1 P' σ.2.2.1 I' σ.2.2.2 L' → (∀ b k, a ≤ b → b ≤ a + 3 → I' b k = 0) → K none (σ.1 + 3, P', I', L'))
def ciX6_init : CI := (1, 20, 3, 90, spX6_init)
theorem rcX6_init : ∀ (As : List MV) (σ : MS) (K : Option MV → MS → Prop), ciX6_init.2.2.2.2 As σ K → ∃ a As', As = .inr (.inr (some a)) :: As' := fun _ _ _ h => pR_fst h
def kX6_init (pc : Nat) : List ME := match pc with
  | 0 => [(.aload_n 0, 1, []), (.invokespecial 3, 3, []), (.aload_n 0, 1, []), (.bipush 30, 2, []), (.newarray .int, 2, []), (.putfield 9, 3, []), (.aload_n 0, 1, []), (.bipush 30, 2, []), (.newarray .int, 2, []), (.putfield 15, 3, []), (.aload_n 0, 1, []), (.bipush 30, 2, []), (.newarray .int, 2, []), (.putfield 18, 3, []), (.return_, 1, [])]
  | _ => []
theorem qX6_init : ∀ pc, chk cX6_init pc (kX6_init pc) = true := by
  intro pc
  unfold kX6_init
  split <;> first | decide +kernel | exact chk_nil
abbrev rmX6_init : Room := { frames := 1, cells := 3, slots := 90, locals := 20 }
def aX6_init (x : Nat) : Option CI := match x with
  | 3 => some ciObj
  | _ => none
theorem aokX6_init : ∀ x ci, aX6_init x = some ci → CalOK RX6 rmX6_init x ci := by
  intro x ci h
  unfold aX6_init at h
  split at h
  · cases h; exact cal_obj (List.forall_mem_cons.mpr ⟨(ws_mem (List.mem_of_getElem? (i := 184) (by decide +kernel)) (by decide +kernel)), List.forall_mem_cons.mpr ⟨(ws_mem (List.mem_of_getElem? (i := 77) (by decide +kernel)) (by decide +kernel)), List.forall_mem_cons.mpr ⟨(ws_mem (List.mem_of_getElem? (i := 78) (by decide +kernel)) (by decide +kernel)), fun _ h => absurd h List.not_mem_nil⟩⟩⟩) (by decide)
  · cases h
theorem ocX6_init_3 (f : Nat → Nat → Nat → Nat → (List MV → MS → (Option MV → MS → Prop) → Prop) → Prop) : oC aX6_init 3 f = f 1 20 0 0 spObj := propext Iff.rfl
theorem mdX6_init : MD RX6 cX6_init rmX6_init kX6_init fX6 aX6_init zX6 uX6 := ⟨fokX6, zokX6, uokX6, aokX6_init, qX6_init⟩
theorem PF_way {a : Int} (ha : a = 40 ∨ a = 44) (k : Int) : PF a k = if k = 0 then some (a + 1) else if k = 1 then some (a + 2) else if k = 2 then some (a + 3) else none := by
  rcases ha with rfl | rfl
  all_goals
    unfold PF
    simp
theorem PF_wayr {a b : Int} (ha : a = 40 ∨ a = 44) (h0 : a + 1 ≤ b) (h1 : b ≤ a + 3) (k : Int) : PF b k = none := by
  unfold PF
  repeat rw [if_neg (by omega)]
set_option maxRecDepth 100000 in
set_option maxHeartbeats 800000 in
theorem mX6_init : MOK yX6_init cX6_init 1 none rmX6_init ciX6_init := by
  refine mok_of (ini := true) (by decide +kernel) (by decide) rfl rfl ?_
  intro σ As K hrc hl h
  obtain ⟨N, P, I, L⟩ := σ
  have h9 := pR_iff.mp h
  clear h
  obtain ⟨a, r, e9, h⟩ := h9
  subst e9
  have h9 := pN_iff.mp h
  clear h
  obtain ⟨e9, h⟩ := h9
  subst e9
  try dsimp only at h
  obtain ⟨ha, hN, hp, hi, h⟩ := h
  have e : N = a.toNat + 1 := by omega
  have pw := PF_way ha
  have pr := fun b => PF_wayr (b := b) ha
  rcases ha with rfl | rfl
  all_goals
    subst e
    refine ⟨Nat.le_of_ble_eq_true rfl, Ok.seg mdX6_init [] 30 ?_⟩
    simp only [wp_nil, wp_cons, ↓stp, ↓lI, ↓lL, ↓lR, ↓lIn_0, ↓lIn_1, ↓lIn_2, ↓lIn_3, ↓lLn_0, ↓lLn_1, ↓lLn_2, ↓lLn_3, ↓lRn_0, ↓lRn_1, ↓lRn_2, ↓lRn_3, ↓pI, ↓pL, ↓pR, ↓pA, ↓pN, ↓pV, ↓fp, ↓tsw, ↓oS, ↓spMax, ↓spMin, ↓spAbs, ↓spObj, RI, RLg, b2i_lo, b2i_hi, getL, setL, ltL, killL, isLong, inl, cnd, br, tgt, rcv, rpl, mputI, mputL, mputP, fv, fr, mcat, mcs, entL, entA, rfit, nf_0, nf_1, nf_2, nf_3, nf2_0, nf2_1, b2i_0, b2i_1, RI_b2i, b2i_fit, List.append, List.length, List.replicate, List.cons_append, List.nil_append, List.length_cons, List.length_nil, List.replicate_succ, List.replicate_zero, List.tail_cons, reduceIte, if_true, if_false, ite_true, ite_false, Bool.false_eq_true, true_and, and_true, and_self, false_and, and_false, or_self, or_true, true_or, or_false, false_or, not_true_eq_false, not_false_eq_true, ne_eq, forall_const, implies_true, imp_self, true_implies, false_implies, Nat.reduceAdd, Nat.reduceSub, Nat.reduceMul, Nat.reduceDiv, Nat.reduceMod, Nat.reduceEqDiff, Nat.reduceLT, Nat.reduceLeDiff, Nat.reduceBEq, Nat.add_zero, Nat.zero_add, Nat.le_refl, Nat.not_lt_zero, Nat.succ_eq_add_one, Int.reduceNatCast, Int.cast_ofNat_Int, Int.reduceSub, Int.reduceMul, Int.reduceNeg, Int.reduceLE, Int.reduceLT, Int.reduceToNat, Int.reduceEq, Int.reduceNe, Int.reduceAdd, Option.some.injEq, kX6_init, rmX6_init, ↓ofX6_15, ↓ofX6_18, ↓ofX6_9, ↓ocX6_init_3, mnew, G_40, G_41, G_42, G_43, G_44, G_45, G_46, G_47]
    refine ⟨by decide, rfl, by decide, rfl, by decide, rfl, ?_⟩
    refine h _ _ _ ⟨fun b k hb => ?_, fun b k b0 b1 => ?_, fun b k b0 b1 => ?_, fun b k b0 b1 => ?_⟩ (fun b k b0 b1 => ?_)
    · unfold upP
      try dsimp only
      have hp' := hp k
      repeat' split
      all_goals first | omega
                      | rw [pr b (by omega) (by omega)]
                      | (have eb : b = 40 := (by omega); subst eb; rw [pw k]; first | rw [hp, if_neg (by omega), if_neg (by omega), if_neg (by omega)] | (rw [if_pos (by omega)]; rfl) | (rw [if_neg (by omega), if_pos (by omega)]; rfl) | (rw [if_neg (by omega), if_neg (by omega), if_pos (by omega)]; rfl))
                      | (have eb : b = 44 := (by omega); subst eb; rw [pw k]; first | rw [hp, if_neg (by omega), if_neg (by omega), if_neg (by omega)] | (rw [if_pos (by omega)]; rfl) | (rw [if_neg (by omega), if_pos (by omega)]; rfl) | (rw [if_neg (by omega), if_neg (by omega), if_pos (by omega)]; rfl))
    · unfold upP
      try dsimp only
      repeat rw [if_neg (by omega)]
    · try dsimp only
      repeat rw [if_neg (by omega)]
    · try dsimp only
      repeat rw [if_neg (by omega)]
    · try dsimp only
      repeat' split
      all_goals first | rfl | (have eb : b = 40 := (by omega); subst eb; exact hi k) | (have eb : b = 44 := (by omega); subst eb; exact hi k)
