/-! constructors: Store -/
theorem PF_145 (k : Int) : PF 145 k = if k = 0 then some 146 else if k = 1 then some 178 else none := by
  unfold PF
  simp
theorem PF_146 (k : Int) : PF 146 k = if 0 ≤ k ∧ k < 31 then some (147 + k) else none := by
  unfold PF
  simp
theorem G_mst {a : Int} (h0 : 147 ≤ a) (h1 : a ≤ 177) : G a = (10, 61) :=
  G_rng (fun a => 147 ≤ a ∧ a ≤ 177) (by decide +kernel) (by omega) (by omega) ⟨h0, h1⟩
theorem PF_mst {b : Int} (h0 : 147 ≤ b) (h1 : b ≤ 178) (k : Int) : PF b k = none := by
  unfold PF
  repeat rw [if_neg (by omega)]
/-- behind the cells that are made there is nothing -/
def frsh (N : Int) (P : Int → Int → Option Int) (I L : Int → Int → Int) : Prop := ∀ b k, N ≤ b → P b k = none ∧ I b k = 0 ∧ L b k = 0
theorem frsh_mkd {a N0 N1 : Int} {P P' : Int → Int → Option Int} {I I' L L' : Int → Int → Int} (h : frsh N0 P I L) (ha : a < N0) (h1 : N0 ≤ N1) (hm : mkd a N0 N1 P P' I I' L L') : frsh N1 P' I' L' := fun b k hb => by
  rw [hm.2.1 b k (by omega) (by omega), hm.2.2.1 b k (by omega) (by omega), hm.2.2.2 b k (by omega) (by omega)]
  exact h b k (by omega)
def spX4_init (As : List MV) (σ : MS) (K : Option MV → MS → Prop) : Prop := pR As fun a r => pN r (a = 145 ∧ σ.1 = 146 ∧ frsh 146 σ.2.1 σ.2.2.1 σ.2.2.2 ∧ (∀ k, σ.2.1 a k = none) ∧ (∀ k, σ.2.2.1 a k = 0) ∧ ∀ P' I' L', mkd a 146 179 σ.2.1 P' σ.2.2.1 I' σ.2.2.2 L' → (∀ b k, 145 ≤ b → b ≤ 178 → I' b k = 0) → K none (179, P', I', L'))
def ciX4_init : CI := (1, 20, 33, 1952, spX4_init)
theorem rcX4_init : ∀ (As : List MV) (σ : MS) (K : Option MV → MS → Prop), ciX4_init.2.2.2.2 As σ K → ∃ a As', As = .inr (.inr (some a)) :: As' := fun _ _ _ h => pR_fst h
def kX4_init (pc : Nat) : List ME := match pc with
  | 0 => [(.aload_n 0, 1, []), (.invokespecial 3, 3, []), (.aload_n 0, 1, []), (.bipush 31, 2, []), (.bipush 61, 2, []), (.multianewarray 9 2, 4, []), (.putfield 11, 3, []), (.aload_n 0, 1, []), (.bipush 30, 2, []), (.newarray .int, 2, []), (.putfield 16, 3, []), (.return_, 1, [])]
  | _ => []
theorem qX4_init : ∀ pc, chk cX4_init pc (kX4_init pc) = true := by
  intro pc
  unfold kX4_init
  split <;> first | decide +kernel | exact chk_nil
abbrev rmX4_init : Room := { frames := 1, cells := 33, slots := 1952, locals := 20 }
def aX4_init (x : Nat) : Option CI := match x with
  | 3 => some ciObj
  | _ => none
theorem aokX4_init : ∀ x ci, aX4_init x = some ci → CalOK RX4 rmX4_init x ci := by
  intro x ci h
  unfold aX4_init at h
  split at h
  · cases h; exact cal_obj (List.forall_mem_cons.mpr ⟨(ws_mem (List.mem_of_getElem? (i := 255) (by decide +kernel)) (by decide +kernel)), List.forall_mem_cons.mpr ⟨(ws_mem (List.mem_of_getElem? (i := 77) (by decide +kernel)) (by decide +kernel)), List.forall_mem_cons.mpr ⟨(ws_mem (List.mem_of_getElem? (i := 78) (by decide +kernel)) (by decide +kernel)), fun _ h => absurd h List.not_mem_nil⟩⟩⟩) (by decide)
  · cases h
theorem ocX4_init_3 (f : Nat → Nat → Nat → Nat → (List MV → MS → (Option MV → MS → Prop) → Prop) → Prop) : oC aX4_init 3 f = f 1 20 0 0 spObj := propext Iff.rfl
theorem mdX4_init : MD RX4 cX4_init rmX4_init kX4_init fX4 aX4_init zX4 uX4 := ⟨fokX4, zokX4, uokX4, aokX4_init, qX4_init⟩
set_option maxRecDepth 100000 in
set_option maxHeartbeats 800000 in
theorem mX4_init : MOK yX4_init cX4_init 1 none rmX4_init ciX4_init := by
  refine mok_of (ini := true) (by decide +kernel) (by decide) rfl rfl ?_
  intro σ As K hrc hl h
  obtain ⟨N, P, I, L⟩ := σ
  have h9 := pR_iff.mp h
  clear h
  obtain ⟨a, r, e9, h⟩ := h9
  subst e9
  have h9 := pN_iff.mp h
  clear h
  obtain ⟨e9, h⟩ := h9
  subst e9
  try dsimp only at h
  obtain ⟨rfl, rfl, hf, hp, hi, h⟩ := h
  refine ⟨Nat.le_of_ble_eq_true rfl, Ok.seg mdX4_init [] 30 ?_⟩
  simp only [wp_nil, wp_cons, ↓stp, ↓lI, ↓lL, ↓lR, ↓lIn_0, ↓lIn_1, ↓lIn_2, ↓lIn_3, ↓lLn_0, ↓lLn_1, ↓lLn_2, ↓lLn_3, ↓lRn_0, ↓lRn_1, ↓lRn_2, ↓lRn_3, ↓pI, ↓pL, ↓pR, ↓pA, ↓pN, ↓pV, ↓fp, ↓tsw, ↓oS, ↓spMax, ↓spMin, ↓spAbs, ↓spObj, RI, RLg, b2i_lo, b2i_hi, getL, setL, ltL, killL, isLong, inl, cnd, br, tgt, rcv, rpl, mputI, mputL, mputP, fv, fr, mcat, mcs, entL, entA, rfit, nf_0, nf_1, nf_2, nf_3, nf2_0, nf2_1, b2i_0, b2i_1, RI_b2i, b2i_fit, List.append, List.length, List.replicate, List.cons_append, List.nil_append, List.length_cons, List.length_nil, List.replicate_succ, List.replicate_zero, List.tail_cons, reduceIte, if_true, if_false, ite_true, ite_false, Bool.false_eq_true, true_and, and_true, and_self, false_and, and_false, or_self, or_true, true_or, or_false, false_or, not_true_eq_false, not_false_eq_true, ne_eq, forall_const, implies_true, imp_self, true_implies, false_implies, Nat.reduceAdd, Nat.reduceSub, Nat.reduceMul, Nat.reduceDiv, Nat.reduceMod, Nat.reduceEqDiff, Nat.reduceLT, Nat.reduceLeDiff, Nat.reduceBEq, Nat.add_zero, Nat.zero_add, Nat.le_refl, Nat.not_lt_zero, Nat.succ_eq_add_one, Int.reduceNatCast, Int.cast_ofNat_Int, Int.reduceSub, Int.reduceMul, Int.reduceNeg, Int.reduceLE, Int.reduceLT, Int.reduceToNat, Int.reduceEq, Int.reduceNe, Int.reduceAdd, Option.some.injEq, kX4_init, rmX4_init, ↓ofX4_11, ↓ofX4_16, ↓onX4_9, ↓ocX4_init_3, mnew, mnewM, G_145, G_146, G_178]
  refine ⟨fun i hi => G_mst (by omega) (by omega), by decide, rfl, ?_⟩
  refine h _ _ _ ⟨fun b k hb => ?_, fun b k b0 b1 => ?_, fun b k b0 b1 => ?_, fun b k b0 b1 => ?_⟩ (fun b k b0 b1 => ?_)
  · unfold upP
    try dsimp only
    by_cases eb : b = 145
    · subst eb
      rw [PF_145]
      repeat' split
      all_goals first | omega | rfl | exact hp k
    · by_cases e2 : b = 146
      · subst e2
        rw [PF_146]
        repeat' split
        all_goals first | omega | rfl
      · rw [PF_mst (by omega) (by omega)]
        repeat' split
        all_goals first | omega | rfl
  · unfold upP
    try dsimp only
    by_cases q : 146 ≤ b
    · rw [(hf b k q).1]
      repeat' split
      all_goals first | omega | rfl
    · repeat rw [if_neg (by omega)]
  · try dsimp only
    by_cases q : 146 ≤ b
    · rw [(hf b k q).2.1]
      repeat' split
      all_goals first | omega | rfl
    · repeat rw [if_neg (by omega)]
  · try dsimp only
    by_cases q : 146 ≤ b
    · rw [(hf b k q).2.2]
      repeat' split
      all_goals first | omega | rfl
    · repeat rw [if_neg (by omega)]
  · try dsimp only
    repeat' split
    all_goals first | rfl | skip
    rw [show b = 145 by omega]
    exact hi k
