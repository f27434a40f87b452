/-! constructors: Car -/
theorem PF_35 (k : Int) : PF 35 k = if k = 0 then some 36 else if k = 1 then some 37 else if k = 2 then some 38 else if k = 3 then some 39 else none := by
  unfold PF
  simp
theorem PF_car {b : Int} (h0 : 36 ≤ b) (h1 : b ≤ 39) (k : Int) : PF b k = none := by
  unfold PF
  repeat rw [if_neg (by omega)]
/-- the numbers of a new car -/
def car0 (I : Int → Int → Int) : Prop := I 36 0 = 0 ∧ I 36 1 = 6 ∧ I 36 2 = 20 ∧ (∀ k, 1 ≤ k → k ≤ 6 → I 38 k = 10 * k ∧ I 39 k = 8 - k) ∧ (∀ k, ¬ (1 ≤ k ∧ k ≤ 6) → I 38 k = 0 ∧ I 39 k = 0) ∧ ∀ p, 1 ≤ p → p ≤ 60 → I 37 p = rch (I 38) (I 39) p
def spX0_init (As : List MV) (σ : MS) (K : Option MV → MS → Prop) : Prop := pR As fun a r => pN r (a = 35 ∧ σ.1 = 36 ∧ (∀ k, σ.2.1 a k = none) ∧ ∀ P' I' L', mkd a 36 40 σ.2.1 P' σ.2.2.1 I' σ.2.2.2 L' → car0 I' → K none (40, P', I', L'))
def ciX0_init : CI := (1, 20, 4, 78, spX0_init)
theorem rcX0_init : ∀ (As : List MV) (σ : MS) (K : Option MV → MS → Prop), ciX0_init.2.2.2.2 As σ K → ∃ a As', As = .inr (.inr (some a)) :: As' := fun _ _ _ h => pR_fst h
def kX0_init (pc : Nat) : List ME := match pc with
  | 0 => [(.aload_n 0, 1, []), (.invokespecial 3, 3, []), (.aload_n 0, 1, []), (.iconst 3, 1, []), (.newarray .int, 2, []), (.putfield 9, 3, []), (.aload_n 0, 1, []), (.bipush 61, 2, []), (.newarray .int, 2, []), (.putfield 15, 3, []), (.aload_n 0, 1, []), (.bipush 7, 2, []), (.newarray .int, 2, []), (.putfield 18, 3, []), (.aload_n 0, 1, []), (.bipush 7, 2, []), (.newarray .int, 2, []), (.putfield 21, 3, [])]
  | 35 => [(.aload_n 0, 1, []), (.getfield 9, 3, []), (.iconst 1, 1, []), (.bipush 6, 2, []), (.iastore, 1, []), (.aload_n 0, 1, []), (.getfield 9, 3, []), (.iconst 2, 1, []), (.bipush 20, 2, []), (.iastore, 1, []), (.iconst 1, 1, []), (.istore_n 1, 1, [])]
  | 53 => [(.iload_n 1, 1, []), (.bipush 6, 2, []), (.if_icmp .gt 29, 3, [85]), (.aload_n 0, 1, []), (.getfield 18, 3, []), (.iload_n 1, 1, []), (.bipush 10, 2, []), (.iload_n 1, 1, []), (.imul, 1, []), (.iastore, 1, []), (.aload_n 0, 1, []), (.getfield 21, 3, []), (.iload_n 1, 1, []), (.bipush 8, 2, []), (.iload_n 1, 1, []), (.isub, 1, []), (.iastore, 1, []), (.iinc 1 1, 3, []), (.goto (-29), 3, [53])]
  | 85 => [(.aload_n 0, 1, []), (.invokevirtual 24, 3, []), (.return_, 1, [])]
  | _ => []
theorem qX0_init : ∀ pc, chk cX0_init pc (kX0_init pc) = true := by
  intro pc
  unfold kX0_init
  split <;> first | decide +kernel | exact chk_nil
abbrev rmX0_init : Room := { frames := 3, cells := 4, slots := 78, locals := 66 }
def aX0_init (x : Nat) : Option CI := match x with
  | 3 => some ciObj
  | 24 => some ciX0_fillReaches
  | _ => none
theorem aokX0_init : ∀ x ci, aX0_init x = some ci → CalOK RX0 rmX0_init x ci := by
  intro x ci h
  unfold aX0_init at h
  split at h
  · cases h; exact cal_obj (List.forall_mem_cons.mpr ⟨(ws_mem (List.mem_of_getElem? (i := 144) (by decide +kernel)) (by decide +kernel)), List.forall_mem_cons.mpr ⟨(ws_mem (List.mem_of_getElem? (i := 77) (by decide +kernel)) (by decide +kernel)), List.forall_mem_cons.mpr ⟨(ws_mem (List.mem_of_getElem? (i := 78) (by decide +kernel)) (by decide +kernel)), fun _ h => absurd h List.not_mem_nil⟩⟩⟩) (by decide)
  · cases h; exact cal_V mX0_fillReaches (by decide) rfl (List.forall_mem_cons.mpr ⟨(ws_mem (List.mem_of_getElem? (i := 145) (by decide +kernel)) (by decide +kernel)), List.forall_mem_cons.mpr ⟨(ws_mem (List.mem_of_getElem? (i := 147) (by decide +kernel)) (by decide +kernel)), List.forall_mem_cons.mpr ⟨(ws_mem (List.mem_of_getElem? (i := 0) (by decide +kernel)) (by decide +kernel)), List.forall_mem_cons.mpr ⟨(ws_mem (List.mem_of_getElem? (i := 57) (by decide +kernel)) (by decide +kernel)), List.forall_mem_cons.mpr ⟨(ws_mem (List.mem_of_getElem? (i := 148) (by decide +kernel)) (by decide +kernel)), fun _ h => absurd h List.not_mem_nil⟩⟩⟩⟩⟩) rfl (by unfold nice; decide +kernel) (by unfold rfits; decide) ⟨rfl, rfl⟩
  · cases h
theorem ocX0_init_3 (f : Nat → Nat → Nat → Nat → (List MV → MS → (Option MV → MS → Prop) → Prop) → Prop) : oC aX0_init 3 f = f 1 20 0 0 spObj := propext Iff.rfl
theorem ocX0_init_24 (f : Nat → Nat → Nat → Nat → (List MV → MS → (Option MV → MS → Prop) → Prop) → Prop) : oC aX0_init 24 f = f 1 0 0 0 spX0_fillReaches := propext Iff.rfl
theorem mdX0_init : MD RX0 cX0_init rmX0_init kX0_init fX0 aX0_init zX0 uX0 := ⟨fokX0, zokX0, uokX0, aokX0_init, qX0_init⟩
theorem lpX0_i {post : Option MV → MS → Prop} {U : Pt → Prop} {P : Int → Int → Option Int} {I L : Int → Int → Int} (hP : ∀ k, P 35 k = PF 35 k) (e0 : I 36 0 = 0) (e1 : I 36 1 = 6) (e2 : I 36 2 = 20)
    (h : ∀ I', (∀ b k, b ≠ 37 → b ≠ 38 → b ≠ 39 → I' b k = I b k) → car0 I' → post none (40, P, I', L)) :
    ∀ (m : Nat) (i : Int) (J : Int → Int → Int), i + m = 7 → 1 ≤ i → (∀ b k, b ≠ 38 → b ≠ 39 → J b k = I b k) → (∀ k, 1 ≤ k → k < i → J 38 k = 10 * k ∧ J 39 k = 8 - k) → (∀ k, ¬ (1 ≤ k ∧ k < i) → J 38 k = 0 ∧ J 39 k = 0) →
    Ok RX0 cX0_init 2 rmX0_init true none post U (53, [some (.inr (.inr (some 35))), some (.inl i)], [], (40, P, J, L), 4, 78)
  | 0, i, J, hi, i1, h1, h2, h3 => by
    have hcp : cP P := by
      unfold cP
      rw [hP, hP, hP, hP, PF_35, PF_35, PF_35, PF_35]
      exact ⟨rfl, rfl, rfl, rfl⟩
    have hg : gOK (J 38) (J 39) := fun k k0 k1 => by have := h2 k k0 (by omega); omega
    refine Ok.seg mdX0_init [53] 20 ?_
    simp only [wp_nil, wp_cons, ↓stp, ↓lI, ↓lL, ↓lR, ↓lIn_0, ↓lIn_1, ↓lIn_2, ↓lIn_3, ↓lLn_0, ↓lLn_1, ↓lLn_2, ↓lLn_3, ↓lRn_0, ↓lRn_1, ↓lRn_2, ↓lRn_3, ↓pI, ↓pL, ↓pR, ↓pA, ↓pN, ↓pV, ↓fp, ↓tsw, ↓oS, ↓spMax, ↓spMin, ↓spAbs, ↓spObj, RI, RLg, b2i_lo, b2i_hi, getL, setL, ltL, killL, isLong, inl, cnd, br, tgt, rcv, rpl, mputI, mputL, mputP, fv, fr, mcat, mcs, entL, entA, rfit, nf_0, nf_1, nf_2, nf_3, nf2_0, nf2_1, b2i_0, b2i_1, RI_b2i, b2i_fit, List.append, List.length, List.replicate, List.cons_append, List.nil_append, List.length_cons, List.length_nil, List.replicate_succ, List.replicate_zero, List.tail_cons, reduceIte, if_true, if_false, ite_true, ite_false, Bool.false_eq_true, true_and, and_true, and_self, false_and, and_false, or_self, or_true, true_or, or_false, false_or, not_true_eq_false, not_false_eq_true, ne_eq, forall_const, implies_true, imp_self, true_implies, false_implies, Nat.reduceAdd, Nat.reduceSub, Nat.reduceMul, Nat.reduceDiv, Nat.reduceMod, Nat.reduceEqDiff, Nat.reduceLT, Nat.reduceLeDiff, Nat.reduceBEq, Nat.add_zero, Nat.zero_add, Nat.le_refl, Nat.not_lt_zero, Nat.succ_eq_add_one, Int.reduceNatCast, Int.cast_ofNat_Int, Int.reduceSub, Int.reduceMul, Int.reduceNeg, Int.reduceLE, Int.reduceLT, Int.reduceToNat, Int.reduceEq, Int.reduceNe, Int.reduceAdd, Option.some.injEq, kX0_init, rmX0_init, ↓ofX0_15, ↓ofX0_18, ↓ofX0_21, ↓ofX0_9, ↓ocX0_init_3, ↓ocX0_init_24, ↓spX0_fillReaches, G_35, hcp, hg]
    refine ⟨by omega, fun _ I' k1 k2 => ?_, fun q => by omega⟩
    have e8 : I' 38 = J 38 := funext fun k => k1 38 k (by omega)
    have e9 : I' 39 = J 39 := funext fun k => k1 39 k (by omega)
    have lo : ∀ b k, b ≠ 37 → b ≠ 38 → b ≠ 39 → I' b k = I b k := fun b k b0 b1 b2 => (k1 b k b0).trans (h1 b k b1 b2)
    refine h I' lo ⟨(lo _ _ (by omega) (by omega) (by omega)).trans e0, (lo _ _ (by omega) (by omega) (by omega)).trans e1, (lo _ _ (by omega) (by omega) (by omega)).trans e2, fun k k0 k1 => ?_, fun k hk => ?_, fun p p0 p1 => ?_⟩
    · rw [e8, e9]; exact h2 k k0 (by omega)
    · rw [e8, e9]; exact h3 k (by omega)
    · rw [e8, e9]; exact k2 p p0 p1
  | m + 1, i, J, hi, i1, h1, h2, h3 => by
    have ih := fun J => lpX0_i (post := post) (U := U) hP e0 e1 e2 h m (i + 1) J (by omega) (by omega)
    have p2 : P 35 2 = some 38 := by rw [hP, PF_35]; rfl
    have p3 : P 35 3 = some 39 := by rw [hP, PF_35]; rfl
    refine Ok.seg mdX0_init [53] 40 ?_
    simp only [wp_nil, wp_cons, ↓stp, ↓lI, ↓lL, ↓lR, ↓lIn_0, ↓lIn_1, ↓lIn_2, ↓lIn_3, ↓lLn_0, ↓lLn_1, ↓lLn_2, ↓lLn_3, ↓lRn_0, ↓lRn_1, ↓lRn_2, ↓lRn_3, ↓pI, ↓pL, ↓pR, ↓pA, ↓pN, ↓pV, ↓fp, ↓tsw, ↓oS, ↓spMax, ↓spMin, ↓spAbs, ↓spObj, RI, RLg, b2i_lo, b2i_hi, getL, setL, ltL, killL, isLong, inl, cnd, br, tgt, rcv, rpl, mputI, mputL, mputP, fv, fr, mcat, mcs, entL, entA, rfit, nf_0, nf_1, nf_2, nf_3, nf2_0, nf2_1, b2i_0, b2i_1, RI_b2i, b2i_fit, List.append, List.length, List.replicate, List.cons_append, List.nil_append, List.length_cons, List.length_nil, List.replicate_succ, List.replicate_zero, List.tail_cons, reduceIte, if_true, if_false, ite_true, ite_false, Bool.false_eq_true, true_and, and_true, and_self, false_and, and_false, or_self, or_true, true_or, or_false, false_or, not_true_eq_false, not_false_eq_true, ne_eq, forall_const, implies_true, imp_self, true_implies, false_implies, Nat.reduceAdd, Nat.reduceSub, Nat.reduceMul, Nat.reduceDiv, Nat.reduceMod, Nat.reduceEqDiff, Nat.reduceLT, Nat.reduceLeDiff, Nat.reduceBEq, Nat.add_zero, Nat.zero_add, Nat.le_refl, Nat.not_lt_zero, Nat.succ_eq_add_one, Int.reduceNatCast, Int.cast_ofNat_Int, Int.reduceSub, Int.reduceMul, Int.reduceNeg, Int.reduceLE, Int.reduceLT, Int.reduceToNat, Int.reduceEq, Int.reduceNe, Int.reduceAdd, Option.some.injEq, kX0_init, rmX0_init, ↓ofX0_15, ↓ofX0_18, ↓ofX0_21, ↓ofX0_9, ↓ocX0_init_3, ↓ocX0_init_24, ↓spX0_fillReaches, p2, p3, G_35, G_38, G_39]
    refine ⟨by omega, fun q => by omega, fun _ => ⟨by omega, by omega, by omega, by omega, ih _ (fun b k b0 b1 => (upI_ne b1).trans ((upI_ne b0).trans (h1 b k b0 b1))) (fun k k0 k1 => ?_) (fun k hk => ?_)⟩⟩
    · by_cases z : k = i
      · subst z
        exact ⟨(upI_ne (by omega)).trans upI_same, upI_same⟩
      · have q := h2 k k0 (by omega)
        exact ⟨(upI_nj z).trans ((upI_nj z).trans q.1), (upI_nj z).trans ((upI_nj z).trans q.2)⟩
    · have q := h3 k (by omega)
      exact ⟨(upI_nj (by omega)).trans ((upI_nj (by omega)).trans q.1), (upI_nj (by omega)).trans ((upI_nj (by omega)).trans q.2)⟩
theorem X0_35 {post : Option MV → MS → Prop} {U : Pt → Prop} {P : Int → Int → Option Int} {I L : Int → Int → Int} (hP : ∀ k, P 35 k = PF 35 k) (e0 : ∀ k, I 36 k = 0) (e38 : ∀ k, I 38 k = 0 ∧ I 39 k = 0)
    (h : ∀ I', (∀ b k, ¬ (36 ≤ b ∧ b ≤ 39) → I' b k = I b k) → car0 I' → post none (40, P, I', L)) : Ok RX0 cX0_init 2 rmX0_init true none post U (35, [some (.inr (.inr (some 35))), none], [], (40, P, I, L), 4, 78) := by
  have p0 : P 35 0 = some 36 := by rw [hP, PF_35]; rfl
  refine Ok.seg mdX0_init [53] 50 ?_
  simp only [wp_nil, wp_cons, ↓stp, ↓lI, ↓lL, ↓lR, ↓lIn_0, ↓lIn_1, ↓lIn_2, ↓lIn_3, ↓lLn_0, ↓lLn_1, ↓lLn_2, ↓lLn_3, ↓lRn_0, ↓lRn_1, ↓lRn_2, ↓lRn_3, ↓pI, ↓pL, ↓pR, ↓pA, ↓pN, ↓pV, ↓fp, ↓tsw, ↓oS, ↓spMax, ↓spMin, ↓spAbs, ↓spObj, RI, RLg, b2i_lo, b2i_hi, getL, setL, ltL, killL, isLong, inl, cnd, br, tgt, rcv, rpl, mputI, mputL, mputP, fv, fr, mcat, mcs, entL, entA, rfit, nf_0, nf_1, nf_2, nf_3, nf2_0, nf2_1, b2i_0, b2i_1, RI_b2i, b2i_fit, List.append, List.length, List.replicate, List.cons_append, List.nil_append, List.length_cons, List.length_nil, List.replicate_succ, List.replicate_zero, List.tail_cons, reduceIte, if_true, if_false, ite_true, ite_false, Bool.false_eq_true, true_and, and_true, and_self, false_and, and_false, or_self, or_true, true_or, or_false, false_or, not_true_eq_false, not_false_eq_true, ne_eq, forall_const, implies_true, imp_self, true_implies, false_implies, Nat.reduceAdd, Nat.reduceSub, Nat.reduceMul, Nat.reduceDiv, Nat.reduceMod, Nat.reduceEqDiff, Nat.reduceLT, Nat.reduceLeDiff, Nat.reduceBEq, Nat.add_zero, Nat.zero_add, Nat.le_refl, Nat.not_lt_zero, Nat.succ_eq_add_one, Int.reduceNatCast, Int.cast_ofNat_Int, Int.reduceSub, Int.reduceMul, Int.reduceNeg, Int.reduceLE, Int.reduceLT, Int.reduceToNat, Int.reduceEq, Int.reduceNe, Int.reduceAdd, Option.some.injEq, kX0_init, rmX0_init, ↓ofX0_15, ↓ofX0_18, ↓ofX0_21, ↓ofX0_9, ↓ocX0_init_3, ↓ocX0_init_24, ↓spX0_fillReaches, p0, G_35, G_36]
  refine lpX0_i hP ?_ ?_ ?_ (fun I' k1 k2 => h I' (fun b k hb => (k1 b k (by omega) (by omega) (by omega)).trans ((upI_ne (by omega)).trans (upI_ne (by omega)))) k2) 6 1 _ (by omega) (by omega) (fun _ _ _ _ => rfl) (fun k a b => by omega) (fun k _ => ⟨(upI_ne (by omega)).trans ((upI_ne (by omega)).trans (e38 k).1), (upI_ne (by omega)).trans ((upI_ne (by omega)).trans (e38 k).2)⟩)
  · rw [upI_nj (by omega), upI_nj (by omega)]; exact e0 0
  · rw [upI_nj (by omega), upI_same]
  · exact upI_same
set_option maxRecDepth 100000 in
set_option maxHeartbeats 800000 in
theorem mX0_init : MOK yX0_init cX0_init 2 none rmX0_init ciX0_init := by
  refine mok_of (ini := true) (by decide +kernel) (by decide) rfl rfl ?_
  intro σ As K hrc hl h
  obtain ⟨N, P, I, L⟩ := σ
  have h9 := pR_iff.mp h
  clear h
  obtain ⟨a, r, e9, h⟩ := h9
  subst e9
  have h9 := pN_iff.mp h
  clear h
  obtain ⟨e9, h⟩ := h9
  subst e9
  try dsimp only at h
  obtain ⟨rfl, rfl, hp, h⟩ := h
  refine ⟨Nat.le_of_ble_eq_true rfl, Ok.seg mdX0_init [35] 50 ?_⟩
  simp only [wp_nil, wp_cons, ↓stp, ↓lI, ↓lL, ↓lR, ↓lIn_0, ↓lIn_1, ↓lIn_2, ↓lIn_3, ↓lLn_0, ↓lLn_1, ↓lLn_2, ↓lLn_3, ↓lRn_0, ↓lRn_1, ↓lRn_2, ↓lRn_3, ↓pI, ↓pL, ↓pR, ↓pA, ↓pN, ↓pV, ↓fp, ↓tsw, ↓oS, ↓spMax, ↓spMin, ↓spAbs, ↓spObj, RI, RLg, b2i_lo, b2i_hi, getL, setL, ltL, killL, isLong, inl, cnd, br, tgt, rcv, rpl, mputI, mputL, mputP, fv, fr, mcat, mcs, entL, entA, rfit, nf_0, nf_1, nf_2, nf_3, nf2_0, nf2_1, b2i_0, b2i_1, RI_b2i, b2i_fit, List.append, List.length, List.replicate, List.cons_append, List.nil_append, List.length_cons, List.length_nil, List.replicate_succ, List.replicate_zero, List.tail_cons, reduceIte, if_true, if_false, ite_true, ite_false, Bool.false_eq_true, true_and, and_true, and_self, false_and, and_false, or_self, or_true, true_or, or_false, false_or, not_true_eq_false, not_false_eq_true, ne_eq, forall_const, implies_true, imp_self, true_implies, false_implies, Nat.reduceAdd, Nat.reduceSub, Nat.reduceMul, Nat.reduceDiv, Nat.reduceMod, Nat.reduceEqDiff, Nat.reduceLT, Nat.reduceLeDiff, Nat.reduceBEq, Nat.add_zero, Nat.zero_add, Nat.le_refl, Nat.not_lt_zero, Nat.succ_eq_add_one, Int.reduceNatCast, Int.cast_ofNat_Int, Int.reduceSub, Int.reduceMul, Int.reduceNeg, Int.reduceLE, Int.reduceLT, Int.reduceToNat, Int.reduceEq, Int.reduceNe, Int.reduceAdd, Option.some.injEq, kX0_init, rmX0_init, ↓ofX0_15, ↓ofX0_18, ↓ofX0_21, ↓ofX0_9, ↓ocX0_init_3, ↓ocX0_init_24, ↓spX0_fillReaches, mnew, G_35, G_36, G_37, G_38, G_39]
  refine ⟨by decide, rfl, by decide, rfl, by decide, rfl, by decide, rfl, ?_⟩
  have key : ∀ b k, (36 ≤ b ∧ b < 40) ∨ b = 35 → upP (fun b i => if b = 39 then none else upP (fun b i => if b = 38 then none else upP (fun b i => if b = 37 then none else upP (fun b i => if b = 36 then none else P b i) 35 0 (some 36) b i) 35 1 (some 37) b i) 35 2 (some 38) b i) 35 3 (some 39) b k = PF b k := fun b k hb => by
    unfold upP
    try dsimp only
    by_cases eb : b = 35
    · subst eb
      rw [PF_35]
      repeat' split
      all_goals first | omega | rfl | exact hp k
    · rw [PF_car (by omega) (by omega)]
      repeat' split
      all_goals first | omega | rfl
  refine X0_35 (post := fun r σ' => rfit none r ∧ K r σ') (fun k => key 35 k (.inr rfl)) (fun k => ?_) (fun k => ?_) (fun I' k1 k2 => ⟨trivial, h _ I' _ ⟨key, fun b k b0 b1 => ?_, fun b k b0 b1 => ?_, fun b k b0 b1 => ?_⟩ k2⟩)
  · simp
  · simp
  · unfold upP
    try dsimp only
    repeat rw [if_neg (by omega)]
  · rw [k1 b k (by omega)]
    try dsimp only
    repeat rw [if_neg (by omega)]
  · try dsimp only
    repeat rw [if_neg (by omega)]
