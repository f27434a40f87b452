/-! constructors: Station, Track -/
theorem pR_fst {As : List MV} {F : Int → List MV → Prop} (h : pR As F) : ∃ a As', As = .inr (.inr (some a)) :: As' := by
  obtain ⟨a, r, e, _⟩ := pR_iff.mp h
  exact ⟨a, r, e⟩
/-- cells N0 .. N1 - 1 and the references of cell a are made; what else there is stays -/
def mkd (a N0 N1 : Int) (P P' : Int → Int → Option Int) (I I' L L' : Int → Int → Int) : Prop := (∀ b k, (N0 ≤ b ∧ b < N1) ∨ b = a → P' b k = PF b k) ∧ (∀ b k, ¬ (N0 ≤ b ∧ b < N1) → b ≠ a → P' b k = P b k) ∧ (∀ b k, ¬ (N0 ≤ b ∧ b < N1) → b ≠ a → I' b k = I b k) ∧ ∀ b k, ¬ (N0 ≤ b ∧ b < N1) → b ≠ a → L' b k = L b k
def spX3_init (As : List MV) (σ : MS) (K : Option MV → MS → Prop) : Prop := pR As fun a r => pN r (0 < a ∧ K none σ)
def ciX3_init : CI := (1, 20, 0, 0, spX3_init)
theorem rcX3_init : ∀ (As : List MV) (σ : MS) (K : Option MV → MS → Prop), ciX3_init.2.2.2.2 As σ K → ∃ a As', As = .inr (.inr (some a)) :: As' := fun _ _ _ h => pR_fst h
def kX3_init (pc : Nat) : List ME := match pc with
  | 0 => [(.aload_n 0, 1, []), (.invokespecial 3, 3, []), (.return_, 1, [])]
  | _ => []
theorem qX3_init : ∀ pc, chk cX3_init pc (kX3_init pc) = true := by
  intro pc
  unfold kX3_init
  split <;> first | decide +kernel | exact chk_nil
abbrev rmX3_init : Room := { frames := 1, cells := 0, slots := 0, locals := 20 }
def aX3_init (x : Nat) : Option CI := match x with
  | 3 => some ciObj
  | _ => none
theorem aokX3_init : ∀ x ci, aX3_init x = some ci → CalOK RX3 rmX3_init x ci := by
  intro x ci h
  unfold aX3_init at h
  split at h
  · cases h; exact cal_obj (List.forall_mem_cons.mpr ⟨(ws_mem (List.mem_of_getElem? (i := 97) (by decide +kernel)) (by decide +kernel)), List.forall_mem_cons.mpr ⟨(ws_mem (List.mem_of_getElem? (i := 77) (by decide +kernel)) (by decide +kernel)), List.forall_mem_cons.mpr ⟨(ws_mem (List.mem_of_getElem? (i := 78) (by decide +kernel)) (by decide +kernel)), fun _ h => absurd h List.not_mem_nil⟩⟩⟩) (by decide)
  · cases h
theorem ocX3_init_3 (f : Nat → Nat → Nat → Nat → (List MV → MS → (Option MV → MS → Prop) → Prop) → Prop) : oC aX3_init 3 f = f 1 20 0 0 spObj := propext Iff.rfl
theorem mdX3_init : MD RX3 cX3_init rmX3_init kX3_init fX3 aX3_init zX3 uX3 := ⟨fokX3, zokX3, uokX3, aokX3_init, qX3_init⟩
set_option maxRecDepth 100000 in
set_option maxHeartbeats 800000 in
theorem mX3_init : MOK yX3_init cX3_init 1 none rmX3_init ciX3_init := by
  refine mok_of (ini := true) (by decide +kernel) (by decide) rfl rfl ?_
  intro σ As K hrc hl h
  obtain ⟨N, P, I, L⟩ := σ
  have h9 := pR_iff.mp h
  clear h
  obtain ⟨a, r, e9, h⟩ := h9
  subst e9
  have h9 := pN_iff.mp h
  clear h
  obtain ⟨e9, h⟩ := h9
  subst e9
  try dsimp only at h
  refine ⟨Nat.le_of_ble_eq_true rfl, Ok.seg mdX3_init [] 20 ?_⟩
  simp only [wp_nil, wp_cons, ↓stp, ↓lI, ↓lL, ↓lR, ↓lIn_0, ↓lIn_1, ↓lIn_2, ↓lIn_3, ↓lLn_0, ↓lLn_1, ↓lLn_2, ↓lLn_3, ↓lRn_0, ↓lRn_1, ↓lRn_2, ↓lRn_3, ↓pI, ↓pL, ↓pR, ↓pA, ↓pN, ↓pV, ↓fp, ↓tsw, ↓oS, ↓spMax, ↓spMin, ↓spAbs, ↓spObj, RI, RLg, b2i_lo, b2i_hi, getL, setL, ltL, killL, isLong, inl, cnd, br, tgt, rcv, rpl, mputI, mputL, mputP, fv, fr, mcat, mcs, entL, entA, rfit, nf_0, nf_1, nf_2, nf_3, nf2_0, nf2_1, b2i_0, b2i_1, RI_b2i, b2i_fit, List.append, List.length, List.replicate, List.cons_append, List.nil_append, List.length_cons, List.length_nil, List.replicate_succ, List.replicate_zero, List.tail_cons, reduceIte, if_true, if_false, ite_true, ite_false, Bool.false_eq_true, true_and, and_true, and_self, false_and, and_false, or_self, or_true, true_or, or_false, false_or, not_true_eq_false, not_false_eq_true, ne_eq, forall_const, implies_true, imp_self, true_implies, false_implies, Nat.reduceAdd, Nat.reduceSub, Nat.reduceMul, Nat.reduceDiv, Nat.reduceMod, Nat.reduceEqDiff, Nat.reduceLT, Nat.reduceLeDiff, Nat.reduceBEq, Nat.add_zero, Nat.zero_add, Nat.le_refl, Nat.not_lt_zero, Nat.succ_eq_add_one, Int.reduceNatCast, Int.cast_ofNat_Int, Int.reduceSub, Int.reduceMul, Int.reduceNeg, Int.reduceLE, Int.reduceLT, Int.reduceToNat, Int.reduceEq, Int.reduceNe, Int.reduceAdd, Option.some.injEq, kX3_init, rmX3_init, ↓ocX3_init_3]
  exact h.2
def spX5_init (As : List MV) (σ : MS) (K : Option MV → MS → Prop) : Prop := pR As fun a r => pN r (a = 3 ∧ σ.1 = 4 ∧ (∀ k, σ.2.1 3 k = none) ∧ (∀ k, σ.2.2.1 3 k = 0) ∧ ∀ P' I' L', mkd 3 4 35 σ.2.1 P' σ.2.2.1 I' σ.2.2.2 L' → (∀ b k, 3 ≤ b → b ≤ 34 → I' b k = 0) → K none (35, P', I', L'))
def ciX5_init : CI := (1, 20, 31, 180, spX5_init)
theorem rcX5_init : ∀ (As : List MV) (σ : MS) (K : Option MV → MS → Prop), ciX5_init.2.2.2.2 As σ K → ∃ a As', As = .inr (.inr (some a)) :: As' := fun _ _ _ h => pR_fst h
def kX5_init (pc : Nat) : List ME := match pc with
  | 0 => [(.aload_n 0, 1, []), (.invokespecial 3, 3, []), (.aload_n 0, 1, []), (.bipush 30, 2, []), (.anewarray 9, 3, []), (.putfield 11, 3, []), (.iconst 0, 1, []), (.istore_n 1, 1, [])]
  | 15 => [(.iload_n 1, 1, []), (.bipush 30, 2, []), (.if_icmp .ge 22, 3, [40]), (.aload_n 0, 1, []), (.getfield 11, 3, []), (.iload_n 1, 1, []), (.new 9, 3, []), (.dup, 1, []), (.invokespecial 17, 3, []), (.aastore, 1, []), (.iinc 1 1, 3, []), (.goto (-22), 3, [15])]
  | 40 => [(.return_, 1, [])]
  | _ => []
theorem qX5_init : ∀ pc, chk cX5_init pc (kX5_init pc) = true := by
  intro pc
  unfold kX5_init
  split <;> first | decide +kernel | exact chk_nil
abbrev rmX5_init : Room := { frames := 2, cells := 31, slots := 180, locals := 40 }
def aX5_init (x : Nat) : Option CI := match x with
  | 3 => some ciObj
  | 17 => some ciX3_init
  | _ => none
theorem aokX5_init : ∀ x ci, aX5_init x = some ci → CalOK RX5 rmX5_init x ci := by
  intro x ci h
  unfold aX5_init at h
  split at h
  · cases h; exact cal_obj (List.forall_mem_cons.mpr ⟨(ws_mem (List.mem_of_getElem? (i := 90) (by decide +kernel)) (by decide +kernel)), List.forall_mem_cons.mpr ⟨(ws_mem (List.mem_of_getElem? (i := 77) (by decide +kernel)) (by decide +kernel)), List.forall_mem_cons.mpr ⟨(ws_mem (List.mem_of_getElem? (i := 78) (by decide +kernel)) (by decide +kernel)), fun _ h => absurd h List.not_mem_nil⟩⟩⟩) (by decide)
  · cases h; exact cal_I mX3_init (by decide) rfl (List.forall_mem_cons.mpr ⟨(ws_mem (List.mem_of_getElem? (i := 94) (by decide +kernel)) (by decide +kernel)), List.forall_mem_cons.mpr ⟨(ws_mem (List.mem_of_getElem? (i := 95) (by decide +kernel)) (by decide +kernel)), List.forall_mem_cons.mpr ⟨(ws_mem (List.mem_of_getElem? (i := 56) (by decide +kernel)) (by decide +kernel)), List.forall_mem_cons.mpr ⟨(ws_mem (List.mem_of_getElem? (i := 96) (by decide +kernel)) (by decide +kernel)), fun _ h => absurd h List.not_mem_nil⟩⟩⟩⟩) rfl (by unfold nice; decide +kernel) (by unfold rfits; decide) ⟨rfl, rfl⟩ rcX3_init
  · cases h
theorem ocX5_init_3 (f : Nat → Nat → Nat → Nat → (List MV → MS → (Option MV → MS → Prop) → Prop) → Prop) : oC aX5_init 3 f = f 1 20 0 0 spObj := propext Iff.rfl
theorem ocX5_init_17 (f : Nat → Nat → Nat → Nat → (List MV → MS → (Option MV → MS → Prop) → Prop) → Prop) : oC aX5_init 17 f = f 1 20 0 0 spX3_init := propext Iff.rfl
theorem mdX5_init : MD RX5 cX5_init rmX5_init kX5_init fX5 aX5_init zX5 uX5 := ⟨fokX5, zokX5, uokX5, aokX5_init, qX5_init⟩
theorem PF_4 (k : Int) : PF 4 k = if 0 ≤ k ∧ k < 30 then some (5 + k) else none := by
  unfold PF
  repeat' split
  all_goals first | rfl | omega
theorem PF_sto {b : Int} (h0 : 5 ≤ b) (h1 : b ≤ 34) (k : Int) : PF b k = none := by
  unfold PF
  repeat rw [if_neg (by omega)]
theorem PF_3' (k : Int) : PF 3 k = if k = 0 then some 4 else none := by
  unfold PF
  repeat' split
  all_goals first | rfl | omega
theorem lpX5_i {post : Option MV → MS → Prop} {U : Pt → Prop} {P0 : Int → Int → Option Int} {I0 L0 : Int → Int → Int}
    (h : ∀ P' I' L', mkd 3 4 35 P0 P' I0 I' L0 L' → (∀ b k, 3 ≤ b → b ≤ 34 → I' b k = 0) → post none (35, P', I', L')) :
    ∀ (m i : Nat) (P : Int → Int → Option Int) (I L : Int → Int → Int), i + m = 30 → (∀ b k : Int, 3 ≤ b → b < 5 + (i : Int) → P b k = if b = 4 ∧ ¬ k < (i : Int) then none else PF b k) → (∀ b k : Int, ¬ (3 ≤ b ∧ b < 5 + (i : Int)) → P b k = P0 b k ∧ I b k = I0 b k ∧ L b k = L0 b k) → (∀ b k : Int, 3 ≤ b → b < 5 + (i : Int) → I b k = 0) →
    Ok RX5 cX5_init 2 rmX5_init true none post U (15, [some (.inr (.inr (some 3))), some (.inl i)], [], (5 + i, P, I, L), 1 + i, 30 + 5 * i)
  | 0, i, P, I, L, hi, h1, h2, h3 => by
    refine Ok.seg mdX5_init [15] 12 ?_
    simp only [wp_nil, wp_cons, ↓stp, ↓lI, ↓lL, ↓lR, ↓lIn_0, ↓lIn_1, ↓lIn_2, ↓lIn_3, ↓lLn_0, ↓lLn_1, ↓lLn_2, ↓lLn_3, ↓lRn_0, ↓lRn_1, ↓lRn_2, ↓lRn_3, ↓pI, ↓pL, ↓pR, ↓pA, ↓pN, ↓pV, ↓fp, ↓tsw, ↓oS, ↓spMax, ↓spMin, ↓spAbs, ↓spObj, RI, RLg, b2i_lo, b2i_hi, getL, setL, ltL, killL, isLong, inl, cnd, br, tgt, rcv, rpl, mputI, mputL, mputP, fv, fr, mcat, mcs, entL, entA, rfit, nf_0, nf_1, nf_2, nf_3, nf2_0, nf2_1, b2i_0, b2i_1, RI_b2i, b2i_fit, List.append, List.length, List.replicate, List.cons_append, List.nil_append, List.length_cons, List.length_nil, List.replicate_succ, List.replicate_zero, List.tail_cons, reduceIte, if_true, if_false, ite_true, ite_false, Bool.false_eq_true, true_and, and_true, and_self, false_and, and_false, or_self, or_true, true_or, or_false, false_or, not_true_eq_false, not_false_eq_true, ne_eq, forall_const, implies_true, imp_self, true_implies, false_implies, Nat.reduceAdd, Nat.reduceSub, Nat.reduceMul, Nat.reduceDiv, Nat.reduceMod, Nat.reduceEqDiff, Nat.reduceLT, Nat.reduceLeDiff, Nat.reduceBEq, Nat.add_zero, Nat.zero_add, Nat.le_refl, Nat.not_lt_zero, Nat.succ_eq_add_one, Int.reduceNatCast, Int.cast_ofNat_Int, Int.reduceSub, Int.reduceMul, Int.reduceNeg, Int.reduceLE, Int.reduceLT, Int.reduceToNat, Int.reduceEq, Int.reduceNe, Int.reduceAdd, Option.some.injEq, kX5_init, rmX5_init, ↓ofX5_11, ↓onX5_100009, ↓onX5_9, ↓ocX5_init_3, ↓ocX5_init_17, ↓spX3_init]
    have e : i = 30 := by omega
    subst e
    refine ⟨by omega, fun _ => ⟨by omega, by omega, h P I L ⟨fun b k hb => ?_, fun b k b0 b1 => (h2 b k (by omega)).1, fun b k b0 b1 => (h2 b k (by omega)).2.1, fun b k b0 b1 => (h2 b k (by omega)).2.2⟩ (fun b k b0 b1 => h3 b k b0 (by omega))⟩, fun q => by omega⟩
    rw [h1 b k (by omega) (by omega)]
    split
    · rename_i z
      rw [z.1, PF_4, if_neg (by omega)]
    · rfl
  | m + 1, i, P, I, L, hi, h1, h2, h3 => by
    have ih := fun P I L => lpX5_i (post := post) (U := U) h m (i + 1) P I L (by omega)
    rw [show ((i + 1 : Nat) : Int) = (i : Int) + 1 by omega, show 5 + (i + 1) = 5 + i + 1 by omega, show 1 + (i + 1) = 1 + i + 1 by omega, show 30 + 5 * (i + 1) = 30 + 5 * i + 5 by omega] at ih
    have eP : P 3 0 = some 4 := by rw [h1 3 0 (by omega) (by omega), if_neg (by omega), PF_3', if_pos rfl]
    have eG : G ((5 + i : Nat) : Int) = (3, 5) := G_st (by omega) (by omega)
    have en : nfs 3 = 5 := rfl
    refine Ok.seg mdX5_init [15] 40 ?_
    simp only [wp_nil, wp_cons, ↓stp, ↓lI, ↓lL, ↓lR, ↓lIn_0, ↓lIn_1, ↓lIn_2, ↓lIn_3, ↓lLn_0, ↓lLn_1, ↓lLn_2, ↓lLn_3, ↓lRn_0, ↓lRn_1, ↓lRn_2, ↓lRn_3, ↓pI, ↓pL, ↓pR, ↓pA, ↓pN, ↓pV, ↓fp, ↓tsw, ↓oS, ↓spMax, ↓spMin, ↓spAbs, ↓spObj, RI, RLg, b2i_lo, b2i_hi, getL, setL, ltL, killL, isLong, inl, cnd, br, tgt, rcv, rpl, mputI, mputL, mputP, fv, fr, mcat, mcs, entL, entA, rfit, nf_0, nf_1, nf_2, nf_3, nf2_0, nf2_1, b2i_0, b2i_1, RI_b2i, b2i_fit, List.append, List.length, List.replicate, List.cons_append, List.nil_append, List.length_cons, List.length_nil, List.replicate_succ, List.replicate_zero, List.tail_cons, reduceIte, if_true, if_false, ite_true, ite_false, Bool.false_eq_true, true_and, and_true, and_self, false_and, and_false, or_self, or_true, true_or, or_false, false_or, not_true_eq_false, not_false_eq_true, ne_eq, forall_const, implies_true, imp_self, true_implies, false_implies, Nat.reduceAdd, Nat.reduceSub, Nat.reduceMul, Nat.reduceDiv, Nat.reduceMod, Nat.reduceEqDiff, Nat.reduceLT, Nat.reduceLeDiff, Nat.reduceBEq, Nat.add_zero, Nat.zero_add, Nat.le_refl, Nat.not_lt_zero, Nat.succ_eq_add_one, Int.reduceNatCast, Int.cast_ofNat_Int, Int.reduceSub, Int.reduceMul, Int.reduceNeg, Int.reduceLE, Int.reduceLT, Int.reduceToNat, Int.reduceEq, Int.reduceNe, Int.reduceAdd, Option.some.injEq, kX5_init, rmX5_init, ↓ofX5_11, ↓onX5_100009, ↓onX5_9, ↓ocX5_init_3, ↓ocX5_init_17, ↓spX3_init, mnew, eP, eG, en, G_3, G_4]
    refine ⟨by omega, fun q => by omega, fun _ => ⟨by omega, by omega, by omega, by omega, by omega, by omega, by omega, ?_⟩⟩
    refine ih _ _ _ (fun b k b0 b1 => ?_) (fun b k hb => ?_) (fun b k b0 b1 => ?_)
    · unfold upP
      try dsimp only
      by_cases z : b = 4 ∧ k = i
      · rw [if_pos z, if_neg (by omega), z.1, z.2, PF_4, if_pos (by omega), show ((5 + i : Nat) : Int) = 5 + (i : Int) by omega]
      · rw [if_neg z]
        by_cases z2 : b = ((5 + i : Nat) : Int)
        · rw [if_pos z2, if_neg (by omega), PF_sto (by omega) (by omega)]
        · rw [if_neg z2, h1 b k b0 (by omega)]
          by_cases z3 : b = 4 ∧ ¬ k < i
          · rw [if_pos z3, if_pos (by omega)]
          · rw [if_neg z3, if_neg (by omega)]
    · obtain ⟨a1, a2, a3⟩ := h2 b k (by omega)
      unfold upP
      try dsimp only
      rw [if_neg (by omega), if_neg (by omega), if_neg (by omega), if_neg (by omega)]
      exact ⟨a1, a2, a3⟩
    · try dsimp only
      by_cases z2 : b = ((5 + i : Nat) : Int)
      · rw [if_pos z2]
      · rw [if_neg z2]; exact h3 b k b0 (by omega)
set_option maxRecDepth 100000 in
set_option maxHeartbeats 800000 in
theorem mX5_init : MOK yX5_init cX5_init 2 none rmX5_init ciX5_init := by
  refine mok_of (ini := true) (by decide +kernel) (by decide) rfl rfl ?_
  intro σ As K hrc hl h
  obtain ⟨N, P, I, L⟩ := σ
  have h9 := pR_iff.mp h
  clear h
  obtain ⟨a, r, e9, h⟩ := h9
  subst e9
  have h9 := pN_iff.mp h
  clear h
  obtain ⟨e9, h⟩ := h9
  subst e9
  try dsimp only at h
  obtain ⟨rfl, rfl, hp, hi, h⟩ := h
  refine ⟨Nat.le_of_ble_eq_true rfl, Ok.seg mdX5_init [15] 20 ?_⟩
  simp only [wp_nil, wp_cons, ↓stp, ↓lI, ↓lL, ↓lR, ↓lIn_0, ↓lIn_1, ↓lIn_2, ↓lIn_3, ↓lLn_0, ↓lLn_1, ↓lLn_2, ↓lLn_3, ↓lRn_0, ↓lRn_1, ↓lRn_2, ↓lRn_3, ↓pI, ↓pL, ↓pR, ↓pA, ↓pN, ↓pV, ↓fp, ↓tsw, ↓oS, ↓spMax, ↓spMin, ↓spAbs, ↓spObj, RI, RLg, b2i_lo, b2i_hi, getL, setL, ltL, killL, isLong, inl, cnd, br, tgt, rcv, rpl, mputI, mputL, mputP, fv, fr, mcat, mcs, entL, entA, rfit, nf_0, nf_1, nf_2, nf_3, nf2_0, nf2_1, b2i_0, b2i_1, RI_b2i, b2i_fit, List.append, List.length, List.replicate, List.cons_append, List.nil_append, List.length_cons, List.length_nil, List.replicate_succ, List.replicate_zero, List.tail_cons, reduceIte, if_true, if_false, ite_true, ite_false, Bool.false_eq_true, true_and, and_true, and_self, false_and, and_false, or_self, or_true, true_or, or_false, false_or, not_true_eq_false, not_false_eq_true, ne_eq, forall_const, implies_true, imp_self, true_implies, false_implies, Nat.reduceAdd, Nat.reduceSub, Nat.reduceMul, Nat.reduceDiv, Nat.reduceMod, Nat.reduceEqDiff, Nat.reduceLT, Nat.reduceLeDiff, Nat.reduceBEq, Nat.add_zero, Nat.zero_add, Nat.le_refl, Nat.not_lt_zero, Nat.succ_eq_add_one, Int.reduceNatCast, Int.cast_ofNat_Int, Int.reduceSub, Int.reduceMul, Int.reduceNeg, Int.reduceLE, Int.reduceLT, Int.reduceToNat, Int.reduceEq, Int.reduceNe, Int.reduceAdd, Option.some.injEq, kX5_init, rmX5_init, ↓ofX5_11, ↓onX5_100009, ↓onX5_9, ↓ocX5_init_3, ↓ocX5_init_17, ↓spX3_init, mnew, G_3, G_4]
  refine lpX5_i (post := fun r σ' => rfit none r ∧ K r σ') (P0 := P) (I0 := I) (L0 := L) (fun P' I' L' a b => ⟨trivial, h P' I' L' a b⟩) 30 0 _ _ _ (by omega) (fun b k b0 b1 => ?_) (fun b k hb => ?_) (fun b k b0 b1 => ?_)
  · unfold upP
    try dsimp only
    by_cases z : b = 3 ∧ k = 0
    · rw [if_pos z, if_neg (by omega), z.1, z.2, PF_3', if_pos rfl]
    · rw [if_neg z]
      by_cases z2 : b = 4
      · rw [if_pos z2, z2]
        by_cases z3 : k < 0
        · rw [if_neg (by omega), PF_4, if_neg (by omega)]
        · rw [if_pos (by omega)]
      · have e3 : b = 3 := by omega
        rw [if_neg z2, if_neg (by omega), e3, hp, PF_3', if_neg (by omega)]
  · unfold upP
    try dsimp only
    rw [if_neg (by omega), if_neg (by omega), if_neg (by omega), if_neg (by omega)]
    exact ⟨rfl, rfl, rfl⟩
  · try dsimp only
    by_cases z2 : b = 4
    · rw [if_pos z2]
    · have e3 : b = 3 := by omega
      rw [if_neg z2, e3, hi]
