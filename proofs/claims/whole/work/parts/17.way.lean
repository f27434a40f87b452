/-! LapBoard$Way -/
def wP (w : Int) : Prop := G w = (6, 4) ∧ G (w + 1) = (10, 30) ∧ G (w + 2) = (10, 30) ∧ G (w + 3) = (10, 30) ∧ PF w 0 = some (w + 1) ∧ PF w 1 = some (w + 2) ∧ PF w 2 = some (w + 3)
theorem wP_of {w : Int} (h : w = 40 ∨ w = 44) : wP w := by
  rcases h with rfl | rfl <;> exact ⟨by decide, by decide, by decide, by decide, by decide, by decide, by decide⟩
theorem upI_tw {I : Int → Int → Int} {a i x y : Int} : upI (upI I a i x) a i y = upI I a i y := funext fun b => funext fun j => by
  unfold upI
  by_cases h : b = a ∧ j = i
  · rw [if_pos h, if_pos h]
  · rw [if_neg h, if_neg h, if_neg h]
def laneOK (I : Int → Int → Int) (w n : Int) : Prop := ∀ i, 0 ≤ i → i < n → 0 ≤ I (w + 1) i ∧ I (w + 1) i ≤ 2
def chg (I : Int → Int → Int) (w i : Int) : Prop := 0 < i ∧ ¬ I (w + 1) i = I (w + 1) (i - 1)
def chgI (I : Int → Int → Int) (w i : Int) : Int := if 0 < i ∧ ¬ I (w + 1) i = I (w + 1) (i - 1) then 1 else 0
def spX6_changesAt (As : List MV) (σ : MS) (K : Option MV → MS → Prop) : Prop := pR As fun w r => pI r fun i r => pN r ((w = 40 ∨ w = 44) ∧ σ.2.1 = PF ∧ laneOK σ.2.2.1 w (i + 1) ∧ 0 ≤ i ∧ i < 30 ∧ K (some (.inl (chgI σ.2.2.1 w i))) σ)
def ciX6_changesAt : CI := (2, 6, 0, 0, spX6_changesAt)
def kX6_changesAt (pc : Nat) : List ME := match pc with
  | 0 => [(.iload_n 1, 1, []), (.ifCond .le 24, 3, [25]), (.aload_n 0, 1, []), (.getfield 9, 3, []), (.iload_n 1, 1, []), (.iaload, 1, []), (.aload_n 0, 1, []), (.getfield 9, 3, []), (.iload_n 1, 1, []), (.iconst 1, 1, []), (.isub, 1, []), (.iaload, 1, []), (.if_icmp .eq 7, 3, [25]), (.iconst 1, 1, []), (.goto 4, 3, [26])]
  | 25 => [(.iconst 0, 1, [])]
  | 26 => [(.ireturn, 1, [])]
  | _ => []
theorem qX6_changesAt : ∀ pc, chk cX6_changesAt pc (kX6_changesAt pc) = true := by
  intro pc
  unfold kX6_changesAt
  split <;> first | decide +kernel | exact chk_nil
abbrev rmX6_changesAt : Room := { frames := 0, cells := 0, slots := 0, locals := 0 }
def aX6_changesAt (_ : Nat) : Option CI := none
theorem aokX6_changesAt : ∀ x ci, aX6_changesAt x = some ci → CalOK RX6 rmX6_changesAt x ci := fun _ _ h => by cases h
theorem mdX6_changesAt : MD RX6 cX6_changesAt rmX6_changesAt kX6_changesAt fX6 aX6_changesAt zX6 uX6 := ⟨fokX6, zokX6, uokX6, aokX6_changesAt, qX6_changesAt⟩
set_option maxRecDepth 100000 in
set_option maxHeartbeats 800000 in
theorem mX6_changesAt : MOK yX6_changesAt cX6_changesAt 2 (some .boolean) rmX6_changesAt ciX6_changesAt := by
  refine mok_of (ini := false) (by decide +kernel) (by decide) rfl rfl ?_
  intro σ As K hrc hl h
  obtain ⟨N, P, I, L⟩ := σ
  have h9 := pR_iff.mp h
  clear h
  obtain ⟨w, r, e9, h⟩ := h9
  subst e9
  have h9 := pI_iff.mp h
  clear h
  obtain ⟨i, r, e9, h⟩ := h9
  subst e9
  have h9 := pN_iff.mp h
  clear h
  obtain ⟨e9, h⟩ := h9
  subst e9
  dsimp only at h
  obtain ⟨hw, rfl, hl9, i0, i1, h⟩ := h
  obtain ⟨g0, g1, g2, g3, p0, p1, p2⟩ := wP_of hw
  have q1 := hl9 i i0 (by omega)
  have q2 : 0 < i → 0 ≤ I (w + 1) (i - 1) ∧ I (w + 1) (i - 1) ≤ 2 := fun z => hl9 (i - 1) (by omega) (by omega)
  unfold chgI at h
  refine ⟨Nat.le_of_ble_eq_true rfl, Ok.seg mdX6_changesAt [] 40 ?_⟩
  simp only [wp_nil, wp_cons, ↓stp, ↓lI, ↓lL, ↓lR, ↓lIn_0, ↓lIn_1, ↓lIn_2, ↓lIn_3, ↓lLn_0, ↓lLn_1, ↓lLn_2, ↓lLn_3, ↓lRn_0, ↓lRn_1, ↓lRn_2, ↓lRn_3, ↓pI, ↓pL, ↓pR, ↓pA, ↓pN, ↓pV, ↓fp, ↓tsw, ↓oS, ↓spMax, ↓spMin, ↓spAbs, ↓spObj, RI, RLg, b2i_lo, b2i_hi, getL, setL, ltL, killL, isLong, inl, cnd, br, tgt, rcv, rpl, mputI, mputL, mputP, fv, fr, mcat, mcs, entL, entA, rfit, nf_0, nf_1, nf_2, nf_3, nf2_0, nf2_1, b2i_0, b2i_1, RI_b2i, b2i_fit, List.append, List.length, List.replicate, List.cons_append, List.nil_append, List.length_cons, List.length_nil, List.replicate_succ, List.replicate_zero, List.tail_cons, reduceIte, if_true, if_false, ite_true, ite_false, Bool.false_eq_true, true_and, and_true, and_self, false_and, and_false, or_self, or_true, true_or, or_false, false_or, not_true_eq_false, not_false_eq_true, ne_eq, forall_const, implies_true, imp_self, true_implies, false_implies, Nat.reduceAdd, Nat.reduceSub, Nat.reduceMul, Nat.reduceDiv, Nat.reduceMod, Nat.reduceEqDiff, Nat.reduceLT, Nat.reduceLeDiff, Nat.reduceBEq, Nat.add_zero, Nat.zero_add, Nat.le_refl, Nat.not_lt_zero, Nat.succ_eq_add_one, Int.reduceNatCast, Int.cast_ofNat_Int, Int.reduceSub, Int.reduceMul, Int.reduceNeg, Int.reduceLE, Int.reduceLT, Int.reduceToNat, Int.reduceEq, Int.reduceNe, Int.reduceAdd, Option.some.injEq, kX6_changesAt, rmX6_changesAt, ↓ofX6_9, g0, g1, p0]
  refine ⟨by omega, fun z => ?_, fun z => ⟨by omega, by omega, by omega, by omega, by omega, by have := q2 (by omega); omega, fun y => ?_, fun y => ?_⟩⟩
  · rw [if_neg (by omega)] at h; exact h
  · rw [if_neg (fun x => x.2 y)] at h; exact h
  · rw [if_pos ⟨by omega, y⟩] at h; exact h
def spX6_changes (As : List MV) (σ : MS) (K : Option MV → MS → Prop) : Prop := pR As fun w r => pI r fun n r => pN r ((w = 40 ∨ w = 44) ∧ σ.2.1 = PF ∧ laneOK σ.2.2.1 w n ∧ 0 ≤ n ∧ n ≤ 30 ∧ K (some (.inl (sumI (fun i => chgI σ.2.2.1 w i) n.toNat))) σ)
def ciX6_changes : CI := (2, 6, 0, 0, spX6_changes)
def kX6_changes (pc : Nat) : List ME := match pc with
  | 0 => [(.iconst 0, 1, []), (.istore_n 2, 1, []), (.iconst 1, 1, []), (.istore_n 3, 1, [])]
  | 4 => [(.iload_n 3, 1, []), (.iload_n 1, 1, []), (.if_icmp .ge 20, 3, [26]), (.aload_n 0, 1, []), (.iload_n 3, 1, []), (.invokevirtual 21, 3, []), (.ifCond .eq 6, 3, [20]), (.iinc 2 1, 3, [])]
  | 20 => [(.iinc 3 1, 3, []), (.goto (-19), 3, [4])]
  | 26 => [(.iload_n 2, 1, []), (.ireturn, 1, [])]
  | _ => []
theorem qX6_changes : ∀ pc, chk cX6_changes pc (kX6_changes pc) = true := by
  intro pc
  unfold kX6_changes
  split <;> first | decide +kernel | exact chk_nil
abbrev rmX6_changes : Room := { frames := 1, cells := 0, slots := 0, locals := 21 }
def aX6_changes (x : Nat) : Option CI := match x with
  | 21 => some ciX6_changesAt
  | _ => none
theorem aokX6_changes : ∀ x ci, aX6_changes x = some ci → CalOK RX6 rmX6_changes x ci := by
  intro x ci h
  unfold aX6_changes at h
  split at h
  · cases h; exact cal_V mX6_changesAt (by decide) rfl (List.forall_mem_cons.mpr ⟨(ws_mem (List.mem_of_getElem? (i := 453) (by decide +kernel)) (by decide +kernel)), List.forall_mem_cons.mpr ⟨(ws_mem (List.mem_of_getElem? (i := 454) (by decide +kernel)) (by decide +kernel)), List.forall_mem_cons.mpr ⟨(ws_mem (List.mem_of_getElem? (i := 455) (by decide +kernel)) (by decide +kernel)), List.forall_mem_cons.mpr ⟨(ws_mem (List.mem_of_getElem? (i := 59) (by decide +kernel)) (by decide +kernel)), List.forall_mem_cons.mpr ⟨(ws_mem (List.mem_of_getElem? (i := 456) (by decide +kernel)) (by decide +kernel)), fun _ h => absurd h List.not_mem_nil⟩⟩⟩⟩⟩) rfl (by unfold nice; decide +kernel) (by unfold rfits; decide) ⟨rfl, rfl⟩
  · cases h
theorem ocX6_changes_21 (f : Nat → Nat → Nat → Nat → (List MV → MS → (Option MV → MS → Prop) → Prop) → Prop) : oC aX6_changes 21 f = f 2 6 0 0 spX6_changesAt := propext Iff.rfl
theorem mdX6_changes : MD RX6 cX6_changes rmX6_changes kX6_changes fX6 aX6_changes zX6 uX6 := ⟨fokX6, zokX6, uokX6, aokX6_changes, qX6_changes⟩
theorem chgI_b (I : Int → Int → Int) (w i : Int) : chgI I w i = 0 ∨ chgI I w i = 1 := by
  unfold chgI; split <;> simp
set_option maxHeartbeats 800000 in
theorem lpX6_chg {K : Option MV → MS → Prop} {U : Pt → Prop} {N : Nat} {I L : Int → Int → Int} {w : Int} (n : Nat) (hw : w = 40 ∨ w = 44) (hl : laneOK I w n) (hn : n ≤ 30) (h : K (some (.inl (sumI (fun i => chgI I w i) n))) (N, PF, I, L)) : ∀ (m i : Nat), i + m = n → 1 ≤ i →
    Ok RX6 cX6_changes 4 rmX6_changes false none (fun r σ' => rfit (some .int) r ∧ K r σ') U (4, [some (.inr (.inr (some w))), some (.inl n), some (.inl (sumI (fun i => chgI I w i) i)), some (.inl i)], [], (N, PF, I, L), 0, 0)
  | 0, i, hi, h1 => by
    have e : i = n := by omega
    subst e
    refine Ok.seg mdX6_changes [4] 20 ?_
    simp only [wp_nil, wp_cons, ↓stp, ↓lI, ↓lL, ↓lR, ↓lIn_0, ↓lIn_1, ↓lIn_2, ↓lIn_3, ↓lLn_0, ↓lLn_1, ↓lLn_2, ↓lLn_3, ↓lRn_0, ↓lRn_1, ↓lRn_2, ↓lRn_3, ↓pI, ↓pL, ↓pR, ↓pA, ↓pN, ↓pV, ↓fp, ↓tsw, ↓oS, ↓spMax, ↓spMin, ↓spAbs, ↓spObj, RI, RLg, b2i_lo, b2i_hi, getL, setL, ltL, killL, isLong, inl, cnd, br, tgt, rcv, rpl, mputI, mputL, mputP, fv, fr, mcat, mcs, entL, entA, rfit, nf_0, nf_1, nf_2, nf_3, nf2_0, nf2_1, b2i_0, b2i_1, RI_b2i, b2i_fit, List.append, List.length, List.replicate, List.cons_append, List.nil_append, List.length_cons, List.length_nil, List.replicate_succ, List.replicate_zero, List.tail_cons, reduceIte, if_true, if_false, ite_true, ite_false, Bool.false_eq_true, true_and, and_true, and_self, false_and, and_false, or_self, or_true, true_or, or_false, false_or, not_true_eq_false, not_false_eq_true, ne_eq, forall_const, implies_true, imp_self, true_implies, false_implies, Nat.reduceAdd, Nat.reduceSub, Nat.reduceMul, Nat.reduceDiv, Nat.reduceMod, Nat.reduceEqDiff, Nat.reduceLT, Nat.reduceLeDiff, Nat.reduceBEq, Nat.add_zero, Nat.zero_add, Nat.le_refl, Nat.not_lt_zero, Nat.succ_eq_add_one, Int.reduceNatCast, Int.cast_ofNat_Int, Int.reduceSub, Int.reduceMul, Int.reduceNeg, Int.reduceLE, Int.reduceLT, Int.reduceToNat, Int.reduceEq, Int.reduceNe, Int.reduceAdd, Option.some.injEq, kX6_changes, rmX6_changes, ↓ocX6_changes_21, ↓spX6_changesAt]
    repeat' (first | apply And.intro | intro _)
    all_goals first | omega | exact h
  | m + 1, i, hi, h1 => by
    obtain ⟨g0, g1, g2, g3, p0, p1, p2⟩ := wP_of hw
    have ih := lpX6_chg (U := U) n hw hl hn h m (i + 1) (by omega) (by omega)
    have e : sumI (fun i => chgI I w i) (i + 1) = sumI (fun i => chgI I w i) i + chgI I w i := rfl
    rw [e] at ih
    have hb := chgI_b I w i
    have hli : laneOK I w (i + 1) := fun j j0 j1 => hl j j0 (by omega)
    refine Ok.seg mdX6_changes [4] 30 ?_
    simp only [wp_nil, wp_cons, ↓stp, ↓lI, ↓lL, ↓lR, ↓lIn_0, ↓lIn_1, ↓lIn_2, ↓lIn_3, ↓lLn_0, ↓lLn_1, ↓lLn_2, ↓lLn_3, ↓lRn_0, ↓lRn_1, ↓lRn_2, ↓lRn_3, ↓pI, ↓pL, ↓pR, ↓pA, ↓pN, ↓pV, ↓fp, ↓tsw, ↓oS, ↓spMax, ↓spMin, ↓spAbs, ↓spObj, RI, RLg, b2i_lo, b2i_hi, getL, setL, ltL, killL, isLong, inl, cnd, br, tgt, rcv, rpl, mputI, mputL, mputP, fv, fr, mcat, mcs, entL, entA, rfit, nf_0, nf_1, nf_2, nf_3, nf2_0, nf2_1, b2i_0, b2i_1, RI_b2i, b2i_fit, List.append, List.length, List.replicate, List.cons_append, List.nil_append, List.length_cons, List.length_nil, List.replicate_succ, List.replicate_zero, List.tail_cons, reduceIte, if_true, if_false, ite_true, ite_false, Bool.false_eq_true, true_and, and_true, and_self, false_and, and_false, or_self, or_true, true_or, or_false, false_or, not_true_eq_false, not_false_eq_true, ne_eq, forall_const, implies_true, imp_self, true_implies, false_implies, Nat.reduceAdd, Nat.reduceSub, Nat.reduceMul, Nat.reduceDiv, Nat.reduceMod, Nat.reduceEqDiff, Nat.reduceLT, Nat.reduceLeDiff, Nat.reduceBEq, Nat.add_zero, Nat.zero_add, Nat.le_refl, Nat.not_lt_zero, Nat.succ_eq_add_one, Int.reduceNatCast, Int.cast_ofNat_Int, Int.reduceSub, Int.reduceMul, Int.reduceNeg, Int.reduceLE, Int.reduceLT, Int.reduceToNat, Int.reduceEq, Int.reduceNe, Int.reduceAdd, Option.some.injEq, kX6_changes, rmX6_changes, ↓ocX6_changes_21, ↓spX6_changesAt, hw, hli, g0]
    refine ⟨by omega, by omega, fun _ => by omega, fun _ => ⟨by omega, by omega, by omega, by omega, fun q => ?_, fun q => ?_⟩⟩
    · rw [q, Int.add_zero] at ih; exact ih
    · rw [show chgI I w i = 1 by omega] at ih; exact ih
set_option maxRecDepth 100000 in
set_option maxHeartbeats 800000 in
theorem mX6_changes : MOK yX6_changes cX6_changes 4 (some .int) rmX6_changes ciX6_changes := by
  refine mok_of (ini := false) (by decide +kernel) (by decide) rfl rfl ?_
  intro σ As K hrc hl h
  obtain ⟨N, P, I, L⟩ := σ
  have h9 := pR_iff.mp h
  clear h
  obtain ⟨w, r, e9, h⟩ := h9
  subst e9
  have h9 := pI_iff.mp h
  clear h
  obtain ⟨n, r, e9, h⟩ := h9
  subst e9
  have h9 := pN_iff.mp h
  clear h
  obtain ⟨e9, h⟩ := h9
  subst e9
  dsimp only at h
  obtain ⟨hw, rfl, hl9, n0, n1, h⟩ := h
  obtain ⟨k, rfl⟩ : ∃ k : Nat, n = (k : Int) := ⟨n.toNat, by omega⟩
  rw [Int.toNat_natCast] at h
  refine ⟨Nat.le_of_ble_eq_true rfl, Ok.seg mdX6_changes [4] 20 ?_⟩
  simp only [wp_nil, wp_cons, ↓stp, ↓lI, ↓lL, ↓lR, ↓lIn_0, ↓lIn_1, ↓lIn_2, ↓lIn_3, ↓lLn_0, ↓lLn_1, ↓lLn_2, ↓lLn_3, ↓lRn_0, ↓lRn_1, ↓lRn_2, ↓lRn_3, ↓pI, ↓pL, ↓pR, ↓pA, ↓pN, ↓pV, ↓fp, ↓tsw, ↓oS, ↓spMax, ↓spMin, ↓spAbs, ↓spObj, RI, RLg, b2i_lo, b2i_hi, getL, setL, ltL, killL, isLong, inl, cnd, br, tgt, rcv, rpl, mputI, mputL, mputP, fv, fr, mcat, mcs, entL, entA, rfit, nf_0, nf_1, nf_2, nf_3, nf2_0, nf2_1, b2i_0, b2i_1, RI_b2i, b2i_fit, List.append, List.length, List.replicate, List.cons_append, List.nil_append, List.length_cons, List.length_nil, List.replicate_succ, List.replicate_zero, List.tail_cons, reduceIte, if_true, if_false, ite_true, ite_false, Bool.false_eq_true, true_and, and_true, and_self, false_and, and_false, or_self, or_true, true_or, or_false, false_or, not_true_eq_false, not_false_eq_true, ne_eq, forall_const, implies_true, imp_self, true_implies, false_implies, Nat.reduceAdd, Nat.reduceSub, Nat.reduceMul, Nat.reduceDiv, Nat.reduceMod, Nat.reduceEqDiff, Nat.reduceLT, Nat.reduceLeDiff, Nat.reduceBEq, Nat.add_zero, Nat.zero_add, Nat.le_refl, Nat.not_lt_zero, Nat.succ_eq_add_one, Int.reduceNatCast, Int.cast_ofNat_Int, Int.reduceSub, Int.reduceMul, Int.reduceNeg, Int.reduceLE, Int.reduceLT, Int.reduceToNat, Int.reduceEq, Int.reduceNe, Int.reduceAdd, Option.some.injEq, kX6_changes, rmX6_changes, ↓ocX6_changes_21, ↓spX6_changesAt]
  rcases Nat.eq_zero_or_pos k with e | e
  · subst e
    refine Ok.seg mdX6_changes [] 20 ?_
    simp only [wp_nil, wp_cons, ↓stp, ↓lI, ↓lL, ↓lR, ↓lIn_0, ↓lIn_1, ↓lIn_2, ↓lIn_3, ↓lLn_0, ↓lLn_1, ↓lLn_2, ↓lLn_3, ↓lRn_0, ↓lRn_1, ↓lRn_2, ↓lRn_3, ↓pI, ↓pL, ↓pR, ↓pA, ↓pN, ↓pV, ↓fp, ↓tsw, ↓oS, ↓spMax, ↓spMin, ↓spAbs, ↓spObj, RI, RLg, b2i_lo, b2i_hi, getL, setL, ltL, killL, isLong, inl, cnd, br, tgt, rcv, rpl, mputI, mputL, mputP, fv, fr, mcat, mcs, entL, entA, rfit, nf_0, nf_1, nf_2, nf_3, nf2_0, nf2_1, b2i_0, b2i_1, RI_b2i, b2i_fit, List.append, List.length, List.replicate, List.cons_append, List.nil_append, List.length_cons, List.length_nil, List.replicate_succ, List.replicate_zero, List.tail_cons, reduceIte, if_true, if_false, ite_true, ite_false, Bool.false_eq_true, true_and, and_true, and_self, false_and, and_false, or_self, or_true, true_or, or_false, false_or, not_true_eq_false, not_false_eq_true, ne_eq, forall_const, implies_true, imp_self, true_implies, false_implies, Nat.reduceAdd, Nat.reduceSub, Nat.reduceMul, Nat.reduceDiv, Nat.reduceMod, Nat.reduceEqDiff, Nat.reduceLT, Nat.reduceLeDiff, Nat.reduceBEq, Nat.add_zero, Nat.zero_add, Nat.le_refl, Nat.not_lt_zero, Nat.succ_eq_add_one, Int.reduceNatCast, Int.cast_ofNat_Int, Int.reduceSub, Int.reduceMul, Int.reduceNeg, Int.reduceLE, Int.reduceLT, Int.reduceToNat, Int.reduceEq, Int.reduceNe, Int.reduceAdd, Option.some.injEq, kX6_changes, rmX6_changes, ↓ocX6_changes_21, ↓spX6_changesAt]
    exact h
  · have := lpX6_chg (U := fun _ => False) k hw hl9 (by omega) h (k - 1) 1 (by omega) (by omega)
    have e2 : sumI (fun i => chgI I w i) 1 = 0 := by
      show 0 + chgI I w 0 = 0
      unfold chgI; simp
    rw [e2] at this
    exact this
