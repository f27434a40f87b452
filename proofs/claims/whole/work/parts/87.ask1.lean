/-! the law, case by case: what is asked -/
set_option maxRecDepth 100000 in
set_option maxHeartbeats 1600000 in
theorem lw_5 {post : Option MV → MS → Prop} {T : Pt → Prop} {n : Nat} {xs : Int → Int} (hxs : ∀ j, RI (xs j)) {i : Int} (i0 : 0 ≤ i) (i1 : i + 6 ≤ n) {I L : Int → Int → Int} (hr : REL I L) {t5 t6 t7 : Option MV} {k j : Nat} (hk : k ≤ 601000) (hj : j ≤ 7290000) (h : ∀ (I' L' : Int → Int → Int) (u5 u6 u7 : Option MV), REL I' L' → Ok RL cL_law 8 rmL_law false (some (n, xs)) post T (1433, [some (.inr (.inr (some 0))), some (.inr (.inr (some 1))), some (.inr (.inr (some 240))), some (.inr (.inr (some 272))), some (.inl i), u5, u6, u7], [], (273, PF, I', L'), k, j)) : Ok RL cL_law 8 rmL_law false (some (n, xs)) post T (369, [some (.inr (.inr (some 0))), some (.inr (.inr (some 1))), some (.inr (.inr (some 240))), some (.inr (.inr (some 272))), some (.inl i), t5, t6, t7], [], (273, PF, I, L), k, j) := by
  have q1 := hxs (i + 1)
  have q2 := hxs (i + 2)
  have q3 := hxs (i + 3)
  have q4 := hxs (i + 4)
  have q5 := hxs (i + 5)
  unfold RI at q1 q2 q3 q4 q5
  have c1 : 0 ≤ i + 1 := by omega
  have d1 : i + 1 < (n : Int) := by omega
  have c2 : 0 ≤ i + 2 := by omega
  have d2 : i + 2 < (n : Int) := by omega
  have c3 : 0 ≤ i + 3 := by omega
  have d3 : i + 3 < (n : Int) := by omega
  have c4 : 0 ≤ i + 4 := by omega
  have d4 : i + 4 < (n : Int) := by omega
  have c5 : 0 ≤ i + 5 := by omega
  have d5 : i + 5 < (n : Int) := by omega
  have hk2 : k ≤ 601024 := by omega
  have hj2 : j ≤ 7293034 := by omega
  obtain ⟨hx, hm, ht, hc, hn, hq, hs⟩ := id hr
  by_cases q : 0 ≤ xs (i + 1) ∧ xs (i + 1) < I 3 1 ∧ 0 ≤ xs (i + 2) ∧ xs (i + 2) ≤ 2
  · skip
    refine Ok.seg mdL_law [1433] 90 ?_
    simp only [wp_nil, wp_cons, ↓stp, ↓lI, ↓lL, ↓lR, ↓lIn_0, ↓lIn_1, ↓lIn_2, ↓lIn_3, ↓lLn_0, ↓lLn_1, ↓lLn_2, ↓lLn_3, ↓lRn_0, ↓lRn_1, ↓lRn_2, ↓lRn_3, ↓pI, ↓pL, ↓pR, ↓pA, ↓pN, ↓pV, ↓fp, ↓tsw, ↓oS, ↓spMax, ↓spMin, ↓spAbs, ↓spObj, RI, RLg, b2i_lo, b2i_hi, getL, setL, ltL, killL, isLong, inl, cnd, br, tgt, rcv, rpl, mputI, mputL, mputP, fv, fr, mcat, mcs, entL, entA, rfit, nf_0, nf_1, nf_2, nf_3, nf2_0, nf2_1, b2i_0, b2i_1, RI_b2i, b2i_fit, List.append, List.length, List.replicate, List.cons_append, List.nil_append, List.length_cons, List.length_nil, List.replicate_succ, List.replicate_zero, List.tail_cons, reduceIte, if_true, if_false, ite_true, ite_false, Bool.false_eq_true, true_and, and_true, and_self, false_and, and_false, or_self, or_true, true_or, or_false, false_or, not_true_eq_false, not_false_eq_true, ne_eq, forall_const, implies_true, imp_self, true_implies, false_implies, Nat.reduceAdd, Nat.reduceSub, Nat.reduceMul, Nat.reduceDiv, Nat.reduceMod, Nat.reduceEqDiff, Nat.reduceLT, Nat.reduceLeDiff, Nat.reduceBEq, Nat.add_zero, Nat.zero_add, Nat.le_refl, Nat.not_lt_zero, Nat.succ_eq_add_one, Int.reduceNatCast, Int.cast_ofNat_Int, Int.reduceSub, Int.reduceMul, Int.reduceNeg, Int.reduceLE, Int.reduceLT, Int.reduceToNat, Int.reduceEq, Int.reduceNe, Int.reduceAdd, Option.some.injEq, ↓kb_369, rmL_law, G_0, G_1, G_240, G_272, c1, c2, c3, c4, c5, d1, d2, d3, d4, d5, q1, q2, q3, q4, q5, hk2, hj2, ↓ocL_law_60, ↓spX8_limit, ↓ocL_law_63, ↓spX9_limit, q, hx, hm, ← ht.1, ← hn.1, hr.lmvE (g := I 36 0) (l := xs (i + 2)) q.1 q.2.1]
    have r : 1 ≤ lmv I (I 36 0) (xs (i + 1)) (xs (i + 2)) ∧ lmv I (I 36 0) (xs (i + 1)) (xs (i + 2)) ≤ 60 := lim_rng _ _ _ _ _
    exact ⟨by omega, by omega, h _ _ _ _ _ hr⟩
  · skip
    refine Ok.seg mdL_law [1433] 90 ?_
    simp only [wp_nil, wp_cons, ↓stp, ↓lI, ↓lL, ↓lR, ↓lIn_0, ↓lIn_1, ↓lIn_2, ↓lIn_3, ↓lLn_0, ↓lLn_1, ↓lLn_2, ↓lLn_3, ↓lRn_0, ↓lRn_1, ↓lRn_2, ↓lRn_3, ↓pI, ↓pL, ↓pR, ↓pA, ↓pN, ↓pV, ↓fp, ↓tsw, ↓oS, ↓spMax, ↓spMin, ↓spAbs, ↓spObj, RI, RLg, b2i_lo, b2i_hi, getL, setL, ltL, killL, isLong, inl, cnd, br, tgt, rcv, rpl, mputI, mputL, mputP, fv, fr, mcat, mcs, entL, entA, rfit, nf_0, nf_1, nf_2, nf_3, nf2_0, nf2_1, b2i_0, b2i_1, RI_b2i, b2i_fit, List.append, List.length, List.replicate, List.cons_append, List.nil_append, List.length_cons, List.length_nil, List.replicate_succ, List.replicate_zero, List.tail_cons, reduceIte, if_true, if_false, ite_true, ite_false, Bool.false_eq_true, true_and, and_true, and_self, false_and, and_false, or_self, or_true, true_or, or_false, false_or, not_true_eq_false, not_false_eq_true, ne_eq, forall_const, implies_true, imp_self, true_implies, false_implies, Nat.reduceAdd, Nat.reduceSub, Nat.reduceMul, Nat.reduceDiv, Nat.reduceMod, Nat.reduceEqDiff, Nat.reduceLT, Nat.reduceLeDiff, Nat.reduceBEq, Nat.add_zero, Nat.zero_add, Nat.le_refl, Nat.not_lt_zero, Nat.succ_eq_add_one, Int.reduceNatCast, Int.cast_ofNat_Int, Int.reduceSub, Int.reduceMul, Int.reduceNeg, Int.reduceLE, Int.reduceLT, Int.reduceToNat, Int.reduceEq, Int.reduceNe, Int.reduceAdd, Option.some.injEq, ↓kb_369, rmL_law, G_0, G_1, G_240, G_272, c1, c2, c3, c4, c5, d1, d2, d3, d4, d5, q1, q2, q3, q4, q5, hk2, hj2, ↓ocL_law_60, ↓spX8_limit, ↓ocL_law_63, ↓spX9_limit, q, hx, hm, ← ht.1]
    exact h _ _ _ _ _ hr
set_option maxRecDepth 100000 in
set_option maxHeartbeats 1600000 in
theorem lw_6 {post : Option MV → MS → Prop} {T : Pt → Prop} {n : Nat} {xs : Int → Int} (hxs : ∀ j, RI (xs j)) {i : Int} (i0 : 0 ≤ i) (i1 : i + 6 ≤ n) {I L : Int → Int → Int} (hr : REL I L) {t5 t6 t7 : Option MV} {k j : Nat} (hk : k ≤ 601000) (hj : j ≤ 7290000) (h : ∀ (I' L' : Int → Int → Int) (u5 u6 u7 : Option MV), REL I' L' → Ok RL cL_law 8 rmL_law false (some (n, xs)) post T (1433, [some (.inr (.inr (some 0))), some (.inr (.inr (some 1))), some (.inr (.inr (some 240))), some (.inr (.inr (some 272))), some (.inl i), u5, u6, u7], [], (273, PF, I', L'), k, j)) : Ok RL cL_law 8 rmL_law false (some (n, xs)) post T (406, [some (.inr (.inr (some 0))), some (.inr (.inr (some 1))), some (.inr (.inr (some 240))), some (.inr (.inr (some 272))), some (.inl i), t5, t6, t7], [], (273, PF, I, L), k, j) := by
  have q1 := hxs (i + 1)
  have q2 := hxs (i + 2)
  have q3 := hxs (i + 3)
  have q4 := hxs (i + 4)
  have q5 := hxs (i + 5)
  unfold RI at q1 q2 q3 q4 q5
  have c1 : 0 ≤ i + 1 := by omega
  have d1 : i + 1 < (n : Int) := by omega
  have c2 : 0 ≤ i + 2 := by omega
  have d2 : i + 2 < (n : Int) := by omega
  have c3 : 0 ≤ i + 3 := by omega
  have d3 : i + 3 < (n : Int) := by omega
  have c4 : 0 ≤ i + 4 := by omega
  have d4 : i + 4 < (n : Int) := by omega
  have c5 : 0 ≤ i + 5 := by omega
  have d5 : i + 5 < (n : Int) := by omega
  have hk2 : k ≤ 601024 := by omega
  have hj2 : j ≤ 7293034 := by omega
  obtain ⟨hx, hm, ht, hc, hn, hq, hs⟩ := id hr
  by_cases q : 1 ≤ xs (i + 1) ∧ xs (i + 1) ≤ 60
  · skip
    refine Ok.seg mdL_law [1433] 90 ?_
    simp only [wp_nil, wp_cons, ↓stp, ↓lI, ↓lL, ↓lR, ↓lIn_0, ↓lIn_1, ↓lIn_2, ↓lIn_3, ↓lLn_0, ↓lLn_1, ↓lLn_2, ↓lLn_3, ↓lRn_0, ↓lRn_1, ↓lRn_2, ↓lRn_3, ↓pI, ↓pL, ↓pR, ↓pA, ↓pN, ↓pV, ↓fp, ↓tsw, ↓oS, ↓spMax, ↓spMin, ↓spAbs, ↓spObj, RI, RLg, b2i_lo, b2i_hi, getL, setL, ltL, killL, isLong, inl, cnd, br, tgt, rcv, rpl, mputI, mputL, mputP, fv, fr, mcat, mcs, entL, entA, rfit, nf_0, nf_1, nf_2, nf_3, nf2_0, nf2_1, b2i_0, b2i_1, RI_b2i, b2i_fit, List.append, List.length, List.replicate, List.cons_append, List.nil_append, List.length_cons, List.length_nil, List.replicate_succ, List.replicate_zero, List.tail_cons, reduceIte, if_true, if_false, ite_true, ite_false, Bool.false_eq_true, true_and, and_true, and_self, false_and, and_false, or_self, or_true, true_or, or_false, false_or, not_true_eq_false, not_false_eq_true, ne_eq, forall_const, implies_true, imp_self, true_implies, false_implies, Nat.reduceAdd, Nat.reduceSub, Nat.reduceMul, Nat.reduceDiv, Nat.reduceMod, Nat.reduceEqDiff, Nat.reduceLT, Nat.reduceLeDiff, Nat.reduceBEq, Nat.add_zero, Nat.zero_add, Nat.le_refl, Nat.not_lt_zero, Nat.succ_eq_add_one, Int.reduceNatCast, Int.cast_ofNat_Int, Int.reduceSub, Int.reduceMul, Int.reduceNeg, Int.reduceLE, Int.reduceLT, Int.reduceToNat, Int.reduceEq, Int.reduceNe, Int.reduceAdd, Option.some.injEq, ↓kb_406, rmL_law, G_0, G_1, G_240, G_272, c1, c2, c3, c4, c5, d1, d2, d3, d4, d5, q1, q2, q3, q4, q5, hk2, hj2, ↓ocL_law_64, ↓spX8_reach, ↓ocL_law_68, ↓spX9_reach, q, hx, hm, ← hr.e38, ← hr.e39]
    have r := rch_rng (p := xs (i + 1)) hx.2.1.1.1 q.2
    exact ⟨by omega, by omega, h _ _ _ _ _ hr⟩
  · skip
    refine Ok.seg mdL_law [1433] 90 ?_
    simp only [wp_nil, wp_cons, ↓stp, ↓lI, ↓lL, ↓lR, ↓lIn_0, ↓lIn_1, ↓lIn_2, ↓lIn_3, ↓lLn_0, ↓lLn_1, ↓lLn_2, ↓lLn_3, ↓lRn_0, ↓lRn_1, ↓lRn_2, ↓lRn_3, ↓pI, ↓pL, ↓pR, ↓pA, ↓pN, ↓pV, ↓fp, ↓tsw, ↓oS, ↓spMax, ↓spMin, ↓spAbs, ↓spObj, RI, RLg, b2i_lo, b2i_hi, getL, setL, ltL, killL, isLong, inl, cnd, br, tgt, rcv, rpl, mputI, mputL, mputP, fv, fr, mcat, mcs, entL, entA, rfit, nf_0, nf_1, nf_2, nf_3, nf2_0, nf2_1, b2i_0, b2i_1, RI_b2i, b2i_fit, List.append, List.length, List.replicate, List.cons_append, List.nil_append, List.length_cons, List.length_nil, List.replicate_succ, List.replicate_zero, List.tail_cons, reduceIte, if_true, if_false, ite_true, ite_false, Bool.false_eq_true, true_and, and_true, and_self, false_and, and_false, or_self, or_true, true_or, or_false, false_or, not_true_eq_false, not_false_eq_true, ne_eq, forall_const, implies_true, imp_self, true_implies, false_implies, Nat.reduceAdd, Nat.reduceSub, Nat.reduceMul, Nat.reduceDiv, Nat.reduceMod, Nat.reduceEqDiff, Nat.reduceLT, Nat.reduceLeDiff, Nat.reduceBEq, Nat.add_zero, Nat.zero_add, Nat.le_refl, Nat.not_lt_zero, Nat.succ_eq_add_one, Int.reduceNatCast, Int.cast_ofNat_Int, Int.reduceSub, Int.reduceMul, Int.reduceNeg, Int.reduceLE, Int.reduceLT, Int.reduceToNat, Int.reduceEq, Int.reduceNe, Int.reduceAdd, Option.some.injEq, ↓kb_406, rmL_law, G_0, G_1, G_240, G_272, c1, c2, c3, c4, c5, d1, d2, d3, d4, d5, q1, q2, q3, q4, q5, hk2, hj2, ↓ocL_law_64, ↓spX8_reach, ↓ocL_law_68, ↓spX9_reach, q, hx, hm]
    exact h _ _ _ _ _ hr
set_option maxRecDepth 100000 in
set_option maxHeartbeats 1600000 in
theorem lw_7 {post : Option MV → MS → Prop} {T : Pt → Prop} {n : Nat} {xs : Int → Int} (hxs : ∀ j, RI (xs j)) {i : Int} (i0 : 0 ≤ i) (i1 : i + 6 ≤ n) {I L : Int → Int → Int} (hr : REL I L) {t5 t6 t7 : Option MV} {k j : Nat} (hk : k ≤ 601000) (hj : j ≤ 7290000) (h : ∀ (I' L' : Int → Int → Int) (u5 u6 u7 : Option MV), REL I' L' → Ok RL cL_law 8 rmL_law false (some (n, xs)) post T (1433, [some (.inr (.inr (some 0))), some (.inr (.inr (some 1))), some (.inr (.inr (some 240))), some (.inr (.inr (some 272))), some (.inl i), u5, u6, u7], [], (273, PF, I', L'), k, j)) : Ok RL cL_law 8 rmL_law false (some (n, xs)) post T (431, [some (.inr (.inr (some 0))), some (.inr (.inr (some 1))), some (.inr (.inr (some 240))), some (.inr (.inr (some 272))), some (.inl i), t5, t6, t7], [], (273, PF, I, L), k, j) := by
  have q1 := hxs (i + 1)
  have q2 := hxs (i + 2)
  have q3 := hxs (i + 3)
  have q4 := hxs (i + 4)
  have q5 := hxs (i + 5)
  unfold RI at q1 q2 q3 q4 q5
  have c1 : 0 ≤ i + 1 := by omega
  have d1 : i + 1 < (n : Int) := by omega
  have c2 : 0 ≤ i + 2 := by omega
  have d2 : i + 2 < (n : Int) := by omega
  have c3 : 0 ≤ i + 3 := by omega
  have d3 : i + 3 < (n : Int) := by omega
  have c4 : 0 ≤ i + 4 := by omega
  have d4 : i + 4 < (n : Int) := by omega
  have c5 : 0 ≤ i + 5 := by omega
  have d5 : i + 5 < (n : Int) := by omega
  have hk2 : k ≤ 601024 := by omega
  have hj2 : j ≤ 7293034 := by omega
  obtain ⟨hx, hm, ht, hc, hn, hq, hs⟩ := id hr
  by_cases q : 1 ≤ xs (i + 1) ∧ xs (i + 1) ≤ 60
  · skip
    refine Ok.seg mdL_law [1433] 90 ?_
    simp only [wp_nil, wp_cons, ↓stp, ↓lI, ↓lL, ↓lR, ↓lIn_0, ↓lIn_1, ↓lIn_2, ↓lIn_3, ↓lLn_0, ↓lLn_1, ↓lLn_2, ↓lLn_3, ↓lRn_0, ↓lRn_1, ↓lRn_2, ↓lRn_3, ↓pI, ↓pL, ↓pR, ↓pA, ↓pN, ↓pV, ↓fp, ↓tsw, ↓oS, ↓spMax, ↓spMin, ↓spAbs, ↓spObj, RI, RLg, b2i_lo, b2i_hi, getL, setL, ltL, killL, isLong, inl, cnd, br, tgt, rcv, rpl, mputI, mputL, mputP, fv, fr, mcat, mcs, entL, entA, rfit, nf_0, nf_1, nf_2, nf_3, nf2_0, nf2_1, b2i_0, b2i_1, RI_b2i, b2i_fit, List.append, List.length, List.replicate, List.cons_append, List.nil_append, List.length_cons, List.length_nil, List.replicate_succ, List.replicate_zero, List.tail_cons, reduceIte, if_true, if_false, ite_true, ite_false, Bool.false_eq_true, true_and, and_true, and_self, false_and, and_false, or_self, or_true, true_or, or_false, false_or, not_true_eq_false, not_false_eq_true, ne_eq, forall_const, implies_true, imp_self, true_implies, false_implies, Nat.reduceAdd, Nat.reduceSub, Nat.reduceMul, Nat.reduceDiv, Nat.reduceMod, Nat.reduceEqDiff, Nat.reduceLT, Nat.reduceLeDiff, Nat.reduceBEq, Nat.add_zero, Nat.zero_add, Nat.le_refl, Nat.not_lt_zero, Nat.succ_eq_add_one, Int.reduceNatCast, Int.cast_ofNat_Int, Int.reduceSub, Int.reduceMul, Int.reduceNeg, Int.reduceLE, Int.reduceLT, Int.reduceToNat, Int.reduceEq, Int.reduceNe, Int.reduceAdd, Option.some.injEq, ↓kb_431, rmL_law, G_0, G_1, G_240, G_272, c1, c2, c3, c4, c5, d1, d2, d3, d4, d5, q1, q2, q3, q4, q5, hk2, hj2, ↓ocL_law_69, ↓spX8_shift, ↓ocL_law_72, ↓spX9_shift, q, hx, hm, ← hr.e38, ← hr.e39]
    have r := gear_rng (I 38) (I 39) (xs (i + 1))
    exact ⟨by omega, by omega, h _ _ _ _ _ hr⟩
  · skip
    refine Ok.seg mdL_law [1433] 90 ?_
    simp only [wp_nil, wp_cons, ↓stp, ↓lI, ↓lL, ↓lR, ↓lIn_0, ↓lIn_1, ↓lIn_2, ↓lIn_3, ↓lLn_0, ↓lLn_1, ↓lLn_2, ↓lLn_3, ↓lRn_0, ↓lRn_1, ↓lRn_2, ↓lRn_3, ↓pI, ↓pL, ↓pR, ↓pA, ↓pN, ↓pV, ↓fp, ↓tsw, ↓oS, ↓spMax, ↓spMin, ↓spAbs, ↓spObj, RI, RLg, b2i_lo, b2i_hi, getL, setL, ltL, killL, isLong, inl, cnd, br, tgt, rcv, rpl, mputI, mputL, mputP, fv, fr, mcat, mcs, entL, entA, rfit, nf_0, nf_1, nf_2, nf_3, nf2_0, nf2_1, b2i_0, b2i_1, RI_b2i, b2i_fit, List.append, List.length, List.replicate, List.cons_append, List.nil_append, List.length_cons, List.length_nil, List.replicate_succ, List.replicate_zero, List.tail_cons, reduceIte, if_true, if_false, ite_true, ite_false, Bool.false_eq_true, true_and, and_true, and_self, false_and, and_false, or_self, or_true, true_or, or_false, false_or, not_true_eq_false, not_false_eq_true, ne_eq, forall_const, implies_true, imp_self, true_implies, false_implies, Nat.reduceAdd, Nat.reduceSub, Nat.reduceMul, Nat.reduceDiv, Nat.reduceMod, Nat.reduceEqDiff, Nat.reduceLT, Nat.reduceLeDiff, Nat.reduceBEq, Nat.add_zero, Nat.zero_add, Nat.le_refl, Nat.not_lt_zero, Nat.succ_eq_add_one, Int.reduceNatCast, Int.cast_ofNat_Int, Int.reduceSub, Int.reduceMul, Int.reduceNeg, Int.reduceLE, Int.reduceLT, Int.reduceToNat, Int.reduceEq, Int.reduceNe, Int.reduceAdd, Option.some.injEq, ↓kb_431, rmL_law, G_0, G_1, G_240, G_272, c1, c2, c3, c4, c5, d1, d2, d3, d4, d5, q1, q2, q3, q4, q5, hk2, hj2, ↓ocL_law_69, ↓spX8_shift, ↓ocL_law_72, ↓spX9_shift, q, hx, hm]
    exact h _ _ _ _ _ hr
set_option maxRecDepth 100000 in
set_option maxHeartbeats 1600000 in
theorem lw_8 {post : Option MV → MS → Prop} {T : Pt → Prop} {n : Nat} {xs : Int → Int} (hxs : ∀ j, RI (xs j)) {i : Int} (i0 : 0 ≤ i) (i1 : i + 6 ≤ n) {I L : Int → Int → Int} (hr : REL I L) {t5 t6 t7 : Option MV} {k j : Nat} (hk : k ≤ 601000) (hj : j ≤ 7290000) (h : ∀ (I' L' : Int → Int → Int) (u5 u6 u7 : Option MV), REL I' L' → Ok RL cL_law 8 rmL_law false (some (n, xs)) post T (1433, [some (.inr (.inr (some 0))), some (.inr (.inr (some 1))), some (.inr (.inr (some 240))), some (.inr (.inr (some 272))), some (.inl i), u5, u6, u7], [], (273, PF, I', L'), k, j)) : Ok RL cL_law 8 rmL_law false (some (n, xs)) post T (456, [some (.inr (.inr (some 0))), some (.inr (.inr (some 1))), some (.inr (.inr (some 240))), some (.inr (.inr (some 272))), some (.inl i), t5, t6, t7], [], (273, PF, I, L), k, j) := by
  have q1 := hxs (i + 1)
  have q2 := hxs (i + 2)
  have q3 := hxs (i + 3)
  have q4 := hxs (i + 4)
  have q5 := hxs (i + 5)
  unfold RI at q1 q2 q3 q4 q5
  have c1 : 0 ≤ i + 1 := by omega
  have d1 : i + 1 < (n : Int) := by omega
  have c2 : 0 ≤ i + 2 := by omega
  have d2 : i + 2 < (n : Int) := by omega
  have c3 : 0 ≤ i + 3 := by omega
  have d3 : i + 3 < (n : Int) := by omega
  have c4 : 0 ≤ i + 4 := by omega
  have d4 : i + 4 < (n : Int) := by omega
  have c5 : 0 ≤ i + 5 := by omega
  have d5 : i + 5 < (n : Int) := by omega
  have hk2 : k ≤ 601024 := by omega
  have hj2 : j ≤ 7293034 := by omega
  obtain ⟨hx, hm, ht, hc, hn, hq, hs⟩ := id hr
  by_cases q : 0 ≤ xs (i + 2) ∧ xs (i + 2) < I 3 1 ∧ 0 ≤ xs (i + 1) ∧ xs (i + 1) ≤ 2
  · skip
    refine Ok.seg mdL_law [1433] 90 ?_
    simp only [wp_nil, wp_cons, ↓stp, ↓lI, ↓lL, ↓lR, ↓lIn_0, ↓lIn_1, ↓lIn_2, ↓lIn_3, ↓lLn_0, ↓lLn_1, ↓lLn_2, ↓lLn_3, ↓lRn_0, ↓lRn_1, ↓lRn_2, ↓lRn_3, ↓pI, ↓pL, ↓pR, ↓pA, ↓pN, ↓pV, ↓fp, ↓tsw, ↓oS, ↓spMax, ↓spMin, ↓spAbs, ↓spObj, RI, RLg, b2i_lo, b2i_hi, getL, setL, ltL, killL, isLong, inl, cnd, br, tgt, rcv, rpl, mputI, mputL, mputP, fv, fr, mcat, mcs, entL, entA, rfit, nf_0, nf_1, nf_2, nf_3, nf2_0, nf2_1, b2i_0, b2i_1, RI_b2i, b2i_fit, List.append, List.length, List.replicate, List.cons_append, List.nil_append, List.length_cons, List.length_nil, List.replicate_succ, List.replicate_zero, List.tail_cons, reduceIte, if_true, if_false, ite_true, ite_false, Bool.false_eq_true, true_and, and_true, and_self, false_and, and_false, or_self, or_true, true_or, or_false, false_or, not_true_eq_false, not_false_eq_true, ne_eq, forall_const, implies_true, imp_self, true_implies, false_implies, Nat.reduceAdd, Nat.reduceSub, Nat.reduceMul, Nat.reduceDiv, Nat.reduceMod, Nat.reduceEqDiff, Nat.reduceLT, Nat.reduceLeDiff, Nat.reduceBEq, Nat.add_zero, Nat.zero_add, Nat.le_refl, Nat.not_lt_zero, Nat.succ_eq_add_one, Int.reduceNatCast, Int.cast_ofNat_Int, Int.reduceSub, Int.reduceMul, Int.reduceNeg, Int.reduceLE, Int.reduceLT, Int.reduceToNat, Int.reduceEq, Int.reduceNe, Int.reduceAdd, Option.some.injEq, ↓kb_456, rmL_law, G_0, G_1, G_240, G_272, c1, c2, c3, c4, c5, d1, d2, d3, d4, d5, q1, q2, q3, q4, q5, hk2, hj2, ↓ocL_law_73, ↓spX8_quickest, ↓ocL_law_76, ↓spX9_quickest, q, hx]
    intro I1 qq f x a
    have e1 : I1 240 1 = I 3 1 := (f.hi _ _ (by omega)).trans ht.1.symm
    have rr := a.1.2.1 (xs (i + 2)) q.1 q.2.1
    have r : 1 ≤ lmv I (I 36 0) (xs (i + 2)) (xs (i + 1)) ∧ lmv I (I 36 0) (xs (i + 2)) (xs (i + 1)) ≤ 60 := lim_rng _ _ _ _ _
    try dsimp only at rr
    refine ⟨mOK_hi f.hi hm, fun z => by omega, fun _ I2 q' g m b => ?_⟩
    rw [f.V] at b
    have e := hr.stay a b (xs (i + 2)) q.1 q.2.1
    rw [← e]
    exact ⟨by omega, by omega, fun _ => h _ _ _ _ _ (hr.q f x g m), fun z => (z rfl).elim⟩
  · skip
    refine Ok.seg mdL_law [1433] 90 ?_
    simp only [wp_nil, wp_cons, ↓stp, ↓lI, ↓lL, ↓lR, ↓lIn_0, ↓lIn_1, ↓lIn_2, ↓lIn_3, ↓lLn_0, ↓lLn_1, ↓lLn_2, ↓lLn_3, ↓lRn_0, ↓lRn_1, ↓lRn_2, ↓lRn_3, ↓pI, ↓pL, ↓pR, ↓pA, ↓pN, ↓pV, ↓fp, ↓tsw, ↓oS, ↓spMax, ↓spMin, ↓spAbs, ↓spObj, RI, RLg, b2i_lo, b2i_hi, getL, setL, ltL, killL, isLong, inl, cnd, br, tgt, rcv, rpl, mputI, mputL, mputP, fv, fr, mcat, mcs, entL, entA, rfit, nf_0, nf_1, nf_2, nf_3, nf2_0, nf2_1, b2i_0, b2i_1, RI_b2i, b2i_fit, List.append, List.length, List.replicate, List.cons_append, List.nil_append, List.length_cons, List.length_nil, List.replicate_succ, List.replicate_zero, List.tail_cons, reduceIte, if_true, if_false, ite_true, ite_false, Bool.false_eq_true, true_and, and_true, and_self, false_and, and_false, or_self, or_true, true_or, or_false, false_or, not_true_eq_false, not_false_eq_true, ne_eq, forall_const, implies_true, imp_self, true_implies, false_implies, Nat.reduceAdd, Nat.reduceSub, Nat.reduceMul, Nat.reduceDiv, Nat.reduceMod, Nat.reduceEqDiff, Nat.reduceLT, Nat.reduceLeDiff, Nat.reduceBEq, Nat.add_zero, Nat.zero_add, Nat.le_refl, Nat.not_lt_zero, Nat.succ_eq_add_one, Int.reduceNatCast, Int.cast_ofNat_Int, Int.reduceSub, Int.reduceMul, Int.reduceNeg, Int.reduceLE, Int.reduceLT, Int.reduceToNat, Int.reduceEq, Int.reduceNe, Int.reduceAdd, Option.some.injEq, ↓kb_456, rmL_law, G_0, G_1, G_240, G_272, c1, c2, c3, c4, c5, d1, d2, d3, d4, d5, q1, q2, q3, q4, q5, hk2, hj2, ↓ocL_law_73, ↓spX8_quickest, ↓ocL_law_76, ↓spX9_quickest, q, hx, hm, ← ht.1]
    exact h _ _ _ _ _ hr
set_option maxRecDepth 100000 in
set_option maxHeartbeats 1600000 in
theorem lw_10 {post : Option MV → MS → Prop} {T : Pt → Prop} {n : Nat} {xs : Int → Int} (hxs : ∀ j, RI (xs j)) {i : Int} (i0 : 0 ≤ i) (i1 : i + 6 ≤ n) {I L : Int → Int → Int} (hr : REL I L) {t5 t6 t7 : Option MV} {k j : Nat} (hk : k ≤ 601000) (hj : j ≤ 7290000) (h : ∀ (I' L' : Int → Int → Int) (u5 u6 u7 : Option MV), REL I' L' → Ok RL cL_law 8 rmL_law false (some (n, xs)) post T (1433, [some (.inr (.inr (some 0))), some (.inr (.inr (some 1))), some (.inr (.inr (some 240))), some (.inr (.inr (some 272))), some (.inl i), u5, u6, u7], [], (273, PF, I', L'), k, j)) : Ok RL cL_law 8 rmL_law false (some (n, xs)) post T (548, [some (.inr (.inr (some 0))), some (.inr (.inr (some 1))), some (.inr (.inr (some 240))), some (.inr (.inr (some 272))), some (.inl i), t5, t6, t7], [], (273, PF, I, L), k, j) := by
  have q1 := hxs (i + 1)
  have q2 := hxs (i + 2)
  have q3 := hxs (i + 3)
  have q4 := hxs (i + 4)
  have q5 := hxs (i + 5)
  unfold RI at q1 q2 q3 q4 q5
  have c1 : 0 ≤ i + 1 := by omega
  have d1 : i + 1 < (n : Int) := by omega
  have c2 : 0 ≤ i + 2 := by omega
  have d2 : i + 2 < (n : Int) := by omega
  have c3 : 0 ≤ i + 3 := by omega
  have d3 : i + 3 < (n : Int) := by omega
  have c4 : 0 ≤ i + 4 := by omega
  have d4 : i + 4 < (n : Int) := by omega
  have c5 : 0 ≤ i + 5 := by omega
  have d5 : i + 5 < (n : Int) := by omega
  have hk2 : k ≤ 601024 := by omega
  have hj2 : j ≤ 7293034 := by omega
  obtain ⟨hx, hm, ht, hc, hn, hq, hs⟩ := id hr
  by_cases q : 0 ≤ xs (i + 1) ∧ xs (i + 1) < I 3 1 ∧ 0 ≤ xs (i + 2) ∧ xs (i + 2) ≤ 2
  · skip
    refine Ok.seg mdL_law [1433] 90 ?_
    simp only [wp_nil, wp_cons, ↓stp, ↓lI, ↓lL, ↓lR, ↓lIn_0, ↓lIn_1, ↓lIn_2, ↓lIn_3, ↓lLn_0, ↓lLn_1, ↓lLn_2, ↓lLn_3, ↓lRn_0, ↓lRn_1, ↓lRn_2, ↓lRn_3, ↓pI, ↓pL, ↓pR, ↓pA, ↓pN, ↓pV, ↓fp, ↓tsw, ↓oS, ↓spMax, ↓spMin, ↓spAbs, ↓spObj, RI, RLg, b2i_lo, b2i_hi, getL, setL, ltL, killL, isLong, inl, cnd, br, tgt, rcv, rpl, mputI, mputL, mputP, fv, fr, mcat, mcs, entL, entA, rfit, nf_0, nf_1, nf_2, nf_3, nf2_0, nf2_1, b2i_0, b2i_1, RI_b2i, b2i_fit, List.append, List.length, List.replicate, List.cons_append, List.nil_append, List.length_cons, List.length_nil, List.replicate_succ, List.replicate_zero, List.tail_cons, reduceIte, if_true, if_false, ite_true, ite_false, Bool.false_eq_true, true_and, and_true, and_self, false_and, and_false, or_self, or_true, true_or, or_false, false_or, not_true_eq_false, not_false_eq_true, ne_eq, forall_const, implies_true, imp_self, true_implies, false_implies, Nat.reduceAdd, Nat.reduceSub, Nat.reduceMul, Nat.reduceDiv, Nat.reduceMod, Nat.reduceEqDiff, Nat.reduceLT, Nat.reduceLeDiff, Nat.reduceBEq, Nat.add_zero, Nat.zero_add, Nat.le_refl, Nat.not_lt_zero, Nat.succ_eq_add_one, Int.reduceNatCast, Int.cast_ofNat_Int, Int.reduceSub, Int.reduceMul, Int.reduceNeg, Int.reduceLE, Int.reduceLT, Int.reduceToNat, Int.reduceEq, Int.reduceNe, Int.reduceAdd, Option.some.injEq, ↓kb_548, rmL_law, G_0, G_1, G_240, G_272, c1, c2, c3, c4, c5, d1, d2, d3, d4, d5, q1, q2, q3, q4, q5, hk2, hj2, ↓ocL_law_86, ↓spX8_best, ↓ocL_law_89, ↓spX9_best, q, hx]
    intro I1 f x a
    have e1 : I1 240 1 = I 3 1 := (f.hi _ _ (by omega)).trans ht.1.symm
    have e2 : I1 3 1 = I 3 1 := f.c3 _ _ (by omega) (by omega)
    have rr := best_rng x.1 a q.1 (by omega)
    refine ⟨mOK_hi f.hi hm, fun z => by omega, fun _ I2 L2 g gl m b => ?_⟩
    obtain ⟨e3, e4, e5⟩ := hr.bq f x g m a b (xs (i + 1)) q.1 q.2.1
    rw [← e3, ← e4, ← e5]
    have rv : 0 ≤ (if xs (i + 2) = 0 then I1 41 (xs (i + 1)) else if xs (i + 2) = 1 then I1 42 (xs (i + 1)) else I1 43 (xs (i + 1))) ∧ (if xs (i + 2) = 0 then I1 41 (xs (i + 1)) else if xs (i + 2) = 1 then I1 42 (xs (i + 1)) else I1 43 (xs (i + 1))) ≤ 101000 := by
      repeat' split
      all_goals omega
    exact ⟨by omega, by omega, fun _ => h _ _ _ _ _ (hr.q f x g m), fun z => (z rfl).elim⟩
  · skip
    refine Ok.seg mdL_law [1433] 90 ?_
    simp only [wp_nil, wp_cons, ↓stp, ↓lI, ↓lL, ↓lR, ↓lIn_0, ↓lIn_1, ↓lIn_2, ↓lIn_3, ↓lLn_0, ↓lLn_1, ↓lLn_2, ↓lLn_3, ↓lRn_0, ↓lRn_1, ↓lRn_2, ↓lRn_3, ↓pI, ↓pL, ↓pR, ↓pA, ↓pN, ↓pV, ↓fp, ↓tsw, ↓oS, ↓spMax, ↓spMin, ↓spAbs, ↓spObj, RI, RLg, b2i_lo, b2i_hi, getL, setL, ltL, killL, isLong, inl, cnd, br, tgt, rcv, rpl, mputI, mputL, mputP, fv, fr, mcat, mcs, entL, entA, rfit, nf_0, nf_1, nf_2, nf_3, nf2_0, nf2_1, b2i_0, b2i_1, RI_b2i, b2i_fit, List.append, List.length, List.replicate, List.cons_append, List.nil_append, List.length_cons, List.length_nil, List.replicate_succ, List.replicate_zero, List.tail_cons, reduceIte, if_true, if_false, ite_true, ite_false, Bool.false_eq_true, true_and, and_true, and_self, false_and, and_false, or_self, or_true, true_or, or_false, false_or, not_true_eq_false, not_false_eq_true, ne_eq, forall_const, implies_true, imp_self, true_implies, false_implies, Nat.reduceAdd, Nat.reduceSub, Nat.reduceMul, Nat.reduceDiv, Nat.reduceMod, Nat.reduceEqDiff, Nat.reduceLT, Nat.reduceLeDiff, Nat.reduceBEq, Nat.add_zero, Nat.zero_add, Nat.le_refl, Nat.not_lt_zero, Nat.succ_eq_add_one, Int.reduceNatCast, Int.cast_ofNat_Int, Int.reduceSub, Int.reduceMul, Int.reduceNeg, Int.reduceLE, Int.reduceLT, Int.reduceToNat, Int.reduceEq, Int.reduceNe, Int.reduceAdd, Option.some.injEq, ↓kb_548, rmL_law, G_0, G_1, G_240, G_272, c1, c2, c3, c4, c5, d1, d2, d3, d4, d5, q1, q2, q3, q4, q5, hk2, hj2, ↓ocL_law_86, ↓spX8_best, ↓ocL_law_89, ↓spX9_best, q, hx, hm, ← ht.1]
    exact h _ _ _ _ _ hr
set_option maxRecDepth 100000 in
set_option maxHeartbeats 1600000 in
theorem lw_11 {post : Option MV → MS → Prop} {T : Pt → Prop} {n : Nat} {xs : Int → Int} (hxs : ∀ j, RI (xs j)) {i : Int} (i0 : 0 ≤ i) (i1 : i + 6 ≤ n) {I L : Int → Int → Int} (hr : REL I L) {t5 t6 t7 : Option MV} {k j : Nat} (hk : k ≤ 601000) (hj : j ≤ 7290000) (h : ∀ (I' L' : Int → Int → Int) (u5 u6 u7 : Option MV), REL I' L' → Ok RL cL_law 8 rmL_law false (some (n, xs)) post T (1433, [some (.inr (.inr (some 0))), some (.inr (.inr (some 1))), some (.inr (.inr (some 240))), some (.inr (.inr (some 272))), some (.inl i), u5, u6, u7], [], (273, PF, I', L'), k, j)) : Ok RL cL_law 8 rmL_law false (some (n, xs)) post T (585, [some (.inr (.inr (some 0))), some (.inr (.inr (some 1))), some (.inr (.inr (some 240))), some (.inr (.inr (some 272))), some (.inl i), t5, t6, t7], [], (273, PF, I, L), k, j) := by
  have q1 := hxs (i + 1)
  have q2 := hxs (i + 2)
  have q3 := hxs (i + 3)
  have q4 := hxs (i + 4)
  have q5 := hxs (i + 5)
  unfold RI at q1 q2 q3 q4 q5
  have c1 : 0 ≤ i + 1 := by omega
  have d1 : i + 1 < (n : Int) := by omega
  have c2 : 0 ≤ i + 2 := by omega
  have d2 : i + 2 < (n : Int) := by omega
  have c3 : 0 ≤ i + 3 := by omega
  have d3 : i + 3 < (n : Int) := by omega
  have c4 : 0 ≤ i + 4 := by omega
  have d4 : i + 4 < (n : Int) := by omega
  have c5 : 0 ≤ i + 5 := by omega
  have d5 : i + 5 < (n : Int) := by omega
  have hk2 : k ≤ 601024 := by omega
  have hj2 : j ≤ 7293034 := by omega
  obtain ⟨hx, hm, ht, hc, hn, hq, hs⟩ := id hr
  refine Ok.seg mdL_law [1433] 90 ?_
  simp only [wp_nil, wp_cons, ↓stp, ↓lI, ↓lL, ↓lR, ↓lIn_0, ↓lIn_1, ↓lIn_2, ↓lIn_3, ↓lLn_0, ↓lLn_1, ↓lLn_2, ↓lLn_3, ↓lRn_0, ↓lRn_1, ↓lRn_2, ↓lRn_3, ↓pI, ↓pL, ↓pR, ↓pA, ↓pN, ↓pV, ↓fp, ↓tsw, ↓oS, ↓spMax, ↓spMin, ↓spAbs, ↓spObj, RI, RLg, b2i_lo, b2i_hi, getL, setL, ltL, killL, isLong, inl, cnd, br, tgt, rcv, rpl, mputI, mputL, mputP, fv, fr, mcat, mcs, entL, entA, rfit, nf_0, nf_1, nf_2, nf_3, nf2_0, nf2_1, b2i_0, b2i_1, RI_b2i, b2i_fit, List.append, List.length, List.replicate, List.cons_append, List.nil_append, List.length_cons, List.length_nil, List.replicate_succ, List.replicate_zero, List.tail_cons, reduceIte, if_true, if_false, ite_true, ite_false, Bool.false_eq_true, true_and, and_true, and_self, false_and, and_false, or_self, or_true, true_or, or_false, false_or, not_true_eq_false, not_false_eq_true, ne_eq, forall_const, implies_true, imp_self, true_implies, false_implies, Nat.reduceAdd, Nat.reduceSub, Nat.reduceMul, Nat.reduceDiv, Nat.reduceMod, Nat.reduceEqDiff, Nat.reduceLT, Nat.reduceLeDiff, Nat.reduceBEq, Nat.add_zero, Nat.zero_add, Nat.le_refl, Nat.not_lt_zero, Nat.succ_eq_add_one, Int.reduceNatCast, Int.cast_ofNat_Int, Int.reduceSub, Int.reduceMul, Int.reduceNeg, Int.reduceLE, Int.reduceLT, Int.reduceToNat, Int.reduceEq, Int.reduceNe, Int.reduceAdd, Option.some.injEq, ↓kb_585, rmL_law, G_0, G_1, G_240, G_272, c1, c2, c3, c4, c5, d1, d2, d3, d4, d5, q1, q2, q3, q4, q5, hk2, hj2, ↓ocL_law_90, ↓spX8_lap, ↓ocL_law_94, ↓spX9_lap, hx]
  intro I1 B f x a1
  refine ⟨mOK_hi f.hi hm, fun I2 L2 v g gl m a2 => ?_⟩
  rw [f.V, f.hi 240 2 (by omega), f.hi 240 3 (by omega), f.hi 240 4 (by omega), ← hn.1, ← hn.2.1, ← hn.2.2] at a2
  have e := hr.lap a1 a2
  have r := lapT_rng hx.1 a1
  rw [← e, lcm_self]
  exact ⟨by omega, by omega, by omega, fun _ => h _ _ _ _ _ (hr.q f x g m), fun z => (z rfl).elim⟩
set_option maxRecDepth 100000 in
set_option maxHeartbeats 1600000 in
theorem lw_13 {post : Option MV → MS → Prop} {T : Pt → Prop} {n : Nat} {xs : Int → Int} (hxs : ∀ j, RI (xs j)) {i : Int} (i0 : 0 ≤ i) (i1 : i + 6 ≤ n) {I L : Int → Int → Int} (hr : REL I L) {t5 t6 t7 : Option MV} {k j : Nat} (hk : k ≤ 601000) (hj : j ≤ 7290000) (h : ∀ (I' L' : Int → Int → Int) (u5 u6 u7 : Option MV), REL I' L' → Ok RL cL_law 8 rmL_law false (some (n, xs)) post T (1433, [some (.inr (.inr (some 0))), some (.inr (.inr (some 1))), some (.inr (.inr (some 240))), some (.inr (.inr (some 272))), some (.inl i), u5, u6, u7], [], (273, PF, I', L'), k, j)) : Ok RL cL_law 8 rmL_law false (some (n, xs)) post T (666, [some (.inr (.inr (some 0))), some (.inr (.inr (some 1))), some (.inr (.inr (some 240))), some (.inr (.inr (some 272))), some (.inl i), t5, t6, t7], [], (273, PF, I, L), k, j) := by
  have q1 := hxs (i + 1)
  have q2 := hxs (i + 2)
  have q3 := hxs (i + 3)
  have q4 := hxs (i + 4)
  have q5 := hxs (i + 5)
  unfold RI at q1 q2 q3 q4 q5
  have c1 : 0 ≤ i + 1 := by omega
  have d1 : i + 1 < (n : Int) := by omega
  have c2 : 0 ≤ i + 2 := by omega
  have d2 : i + 2 < (n : Int) := by omega
  have c3 : 0 ≤ i + 3 := by omega
  have d3 : i + 3 < (n : Int) := by omega
  have c4 : 0 ≤ i + 4 := by omega
  have d4 : i + 4 < (n : Int) := by omega
  have c5 : 0 ≤ i + 5 := by omega
  have d5 : i + 5 < (n : Int) := by omega
  have hk2 : k ≤ 601024 := by omega
  have hj2 : j ≤ 7293034 := by omega
  obtain ⟨hx, hm, ht, hc, hn, hq, hs⟩ := id hr
  refine Ok.seg mdL_law [1433] 90 ?_
  simp only [wp_nil, wp_cons, ↓stp, ↓lI, ↓lL, ↓lR, ↓lIn_0, ↓lIn_1, ↓lIn_2, ↓lIn_3, ↓lLn_0, ↓lLn_1, ↓lLn_2, ↓lLn_3, ↓lRn_0, ↓lRn_1, ↓lRn_2, ↓lRn_3, ↓pI, ↓pL, ↓pR, ↓pA, ↓pN, ↓pV, ↓fp, ↓tsw, ↓oS, ↓spMax, ↓spMin, ↓spAbs, ↓spObj, RI, RLg, b2i_lo, b2i_hi, getL, setL, ltL, killL, isLong, inl, cnd, br, tgt, rcv, rpl, mputI, mputL, mputP, fv, fr, mcat, mcs, entL, entA, rfit, nf_0, nf_1, nf_2, nf_3, nf2_0, nf2_1, b2i_0, b2i_1, RI_b2i, b2i_fit, List.append, List.length, List.replicate, List.cons_append, List.nil_append, List.length_cons, List.length_nil, List.replicate_succ, List.replicate_zero, List.tail_cons, reduceIte, if_true, if_false, ite_true, ite_false, Bool.false_eq_true, true_and, and_true, and_self, false_and, and_false, or_self, or_true, true_or, or_false, false_or, not_true_eq_false, not_false_eq_true, ne_eq, forall_const, implies_true, imp_self, true_implies, false_implies, Nat.reduceAdd, Nat.reduceSub, Nat.reduceMul, Nat.reduceDiv, Nat.reduceMod, Nat.reduceEqDiff, Nat.reduceLT, Nat.reduceLeDiff, Nat.reduceBEq, Nat.add_zero, Nat.zero_add, Nat.le_refl, Nat.not_lt_zero, Nat.succ_eq_add_one, Int.reduceNatCast, Int.cast_ofNat_Int, Int.reduceSub, Int.reduceMul, Int.reduceNeg, Int.reduceLE, Int.reduceLT, Int.reduceToNat, Int.reduceEq, Int.reduceNe, Int.reduceAdd, Option.some.injEq, ↓kb_666, rmL_law, G_0, G_1, G_240, G_272, c1, c2, c3, c4, c5, d1, d2, d3, d4, d5, q1, q2, q3, q4, q5, hk2, hj2, ↓ocL_law_99, ↓spX8_wants, ↓ocL_law_102, ↓spX9_wants, hx]
  intro I1 v f x a1
  refine ⟨mOK_hi f.hi hm, fun I2 L2 w g gl m a2 => ?_⟩
  rw [f.V] at a2
  have e := hr.wants a1 a2
  have r : -2 ≤ v ∧ (v < I 3 1 ∨ v = -2) := by obtain ⟨T, R, _, _, c⟩ := a1; exact wnt_v c
  have r2 := hx.1.2.1
  rw [← e]
  exact ⟨by omega, by omega, fun _ => h _ _ _ _ _ (hr.q f x g m), fun z => (z rfl).elim⟩
set_option maxRecDepth 100000 in
set_option maxHeartbeats 1600000 in
theorem lw_14 {post : Option MV → MS → Prop} {T : Pt → Prop} {n : Nat} {xs : Int → Int} (hxs : ∀ j, RI (xs j)) {i : Int} (i0 : 0 ≤ i) (i1 : i + 6 ≤ n) {I L : Int → Int → Int} (hr : REL I L) {t5 t6 t7 : Option MV} {k j : Nat} (hk : k ≤ 601000) (hj : j ≤ 7290000) (h : ∀ (I' L' : Int → Int → Int) (u5 u6 u7 : Option MV), REL I' L' → Ok RL cL_law 8 rmL_law false (some (n, xs)) post T (1433, [some (.inr (.inr (some 0))), some (.inr (.inr (some 1))), some (.inr (.inr (some 240))), some (.inr (.inr (some 272))), some (.inl i), u5, u6, u7], [], (273, PF, I', L'), k, j)) : Ok RL cL_law 8 rmL_law false (some (n, xs)) post T (679, [some (.inr (.inr (some 0))), some (.inr (.inr (some 1))), some (.inr (.inr (some 240))), some (.inr (.inr (some 272))), some (.inl i), t5, t6, t7], [], (273, PF, I, L), k, j) := by
  have q1 := hxs (i + 1)
  have q2 := hxs (i + 2)
  have q3 := hxs (i + 3)
  have q4 := hxs (i + 4)
  have q5 := hxs (i + 5)
  unfold RI at q1 q2 q3 q4 q5
  have c1 : 0 ≤ i + 1 := by omega
  have d1 : i + 1 < (n : Int) := by omega
  have c2 : 0 ≤ i + 2 := by omega
  have d2 : i + 2 < (n : Int) := by omega
  have c3 : 0 ≤ i + 3 := by omega
  have d3 : i + 3 < (n : Int) := by omega
  have c4 : 0 ≤ i + 4 := by omega
  have d4 : i + 4 < (n : Int) := by omega
  have c5 : 0 ≤ i + 5 := by omega
  have d5 : i + 5 < (n : Int) := by omega
  have hk2 : k ≤ 601024 := by omega
  have hj2 : j ≤ 7293034 := by omega
  obtain ⟨hx, hm, ht, hc, hn, hq, hs⟩ := id hr
  by_cases q : 0 ≤ xs (i + 1) ∧ xs (i + 1) ≤ 60
  · skip
    refine Ok.seg mdL_law [1433] 90 ?_
    simp only [wp_nil, wp_cons, ↓stp, ↓lI, ↓lL, ↓lR, ↓lIn_0, ↓lIn_1, ↓lIn_2, ↓lIn_3, ↓lLn_0, ↓lLn_1, ↓lLn_2, ↓lLn_3, ↓lRn_0, ↓lRn_1, ↓lRn_2, ↓lRn_3, ↓pI, ↓pL, ↓pR, ↓pA, ↓pN, ↓pV, ↓fp, ↓tsw, ↓oS, ↓spMax, ↓spMin, ↓spAbs, ↓spObj, RI, RLg, b2i_lo, b2i_hi, getL, setL, ltL, killL, isLong, inl, cnd, br, tgt, rcv, rpl, mputI, mputL, mputP, fv, fr, mcat, mcs, entL, entA, rfit, nf_0, nf_1, nf_2, nf_3, nf2_0, nf2_1, b2i_0, b2i_1, RI_b2i, b2i_fit, List.append, List.length, List.replicate, List.cons_append, List.nil_append, List.length_cons, List.length_nil, List.replicate_succ, List.replicate_zero, List.tail_cons, reduceIte, if_true, if_false, ite_true, ite_false, Bool.false_eq_true, true_and, and_true, and_self, false_and, and_false, or_self, or_true, true_or, or_false, false_or, not_true_eq_false, not_false_eq_true, ne_eq, forall_const, implies_true, imp_self, true_implies, false_implies, Nat.reduceAdd, Nat.reduceSub, Nat.reduceMul, Nat.reduceDiv, Nat.reduceMod, Nat.reduceEqDiff, Nat.reduceLT, Nat.reduceLeDiff, Nat.reduceBEq, Nat.add_zero, Nat.zero_add, Nat.le_refl, Nat.not_lt_zero, Nat.succ_eq_add_one, Int.reduceNatCast, Int.cast_ofNat_Int, Int.reduceSub, Int.reduceMul, Int.reduceNeg, Int.reduceLE, Int.reduceLT, Int.reduceToNat, Int.reduceEq, Int.reduceNe, Int.reduceAdd, Option.some.injEq, ↓kb_679, rmL_law, G_0, G_1, G_240, G_272, c1, c2, c3, c4, c5, d1, d2, d3, d4, d5, q1, q2, q3, q4, q5, hk2, hj2, ↓ocL_law_103, ↓spX8_spend, ↓ocL_law_106, ↓spX9_spend, q, hx]
    intro I1 f x a
    refine ⟨mOK_hi f.hi hm, fun I2 L2 g gl m b => ?_⟩
    have e1 : I2 240 1 = I1 3 1 := by rw [g.r 240 1 (by unfold rlv; omega), f.hi _ _ (by omega), ← ht.1]; exact (f.c3 _ _ (by omega) (by omega)).symm
    have e2 : I1 3 1 = I 3 1 := f.c3 _ _ (by omega) (by omega)
    have be := hr.bq f x g m a b
    have h2 := hr.q f x g m
    have r := gv_rng (c := stC I1) (g := stG I1) (n := (I1 3 1).toNat) (M := 10100) (fun i _ i1 => stG_rng (bestOK_r x.1 a) (by omega) (by omega)) (I1 3 1).toNat (xs (i + 1)) (Nat.le_refl _)
    have r0 := x.1.2.1
    have e : gv (mC I2) (mG I2) (I1 3 1).toNat (xs (i + 1)) = gv (stC I1) (stG I1) (I1 3 1).toNat (xs (i + 1)) := by
      refine gv_cg _ _ (fun j j0 j1 => ?_) (fun j j0 j1 => ?_)
      · have := (h2.2.2.1.2 j (by omega) (by rw [g.lo 3 1 (by omega)]; omega)).2.1
        unfold mC stC
        rw [← this, g.lo (5 + (j : Int)) 1 (by omega)]
      · unfold mG stG
        rw [← (be j (by omega) (by omega)).2.2]
    rw [e1, e]
    exact ⟨by omega, by omega, fun _ => h _ _ _ _ _ h2, fun z => (z rfl).elim⟩
  · skip
    refine Ok.seg mdL_law [1433] 90 ?_
    simp only [wp_nil, wp_cons, ↓stp, ↓lI, ↓lL, ↓lR, ↓lIn_0, ↓lIn_1, ↓lIn_2, ↓lIn_3, ↓lLn_0, ↓lLn_1, ↓lLn_2, ↓lLn_3, ↓lRn_0, ↓lRn_1, ↓lRn_2, ↓lRn_3, ↓pI, ↓pL, ↓pR, ↓pA, ↓pN, ↓pV, ↓fp, ↓tsw, ↓oS, ↓spMax, ↓spMin, ↓spAbs, ↓spObj, RI, RLg, b2i_lo, b2i_hi, getL, setL, ltL, killL, isLong, inl, cnd, br, tgt, rcv, rpl, mputI, mputL, mputP, fv, fr, mcat, mcs, entL, entA, rfit, nf_0, nf_1, nf_2, nf_3, nf2_0, nf2_1, b2i_0, b2i_1, RI_b2i, b2i_fit, List.append, List.length, List.replicate, List.cons_append, List.nil_append, List.length_cons, List.length_nil, List.replicate_succ, List.replicate_zero, List.tail_cons, reduceIte, if_true, if_false, ite_true, ite_false, Bool.false_eq_true, true_and, and_true, and_self, false_and, and_false, or_self, or_true, true_or, or_false, false_or, not_true_eq_false, not_false_eq_true, ne_eq, forall_const, implies_true, imp_self, true_implies, false_implies, Nat.reduceAdd, Nat.reduceSub, Nat.reduceMul, Nat.reduceDiv, Nat.reduceMod, Nat.reduceEqDiff, Nat.reduceLT, Nat.reduceLeDiff, Nat.reduceBEq, Nat.add_zero, Nat.zero_add, Nat.le_refl, Nat.not_lt_zero, Nat.succ_eq_add_one, Int.reduceNatCast, Int.cast_ofNat_Int, Int.reduceSub, Int.reduceMul, Int.reduceNeg, Int.reduceLE, Int.reduceLT, Int.reduceToNat, Int.reduceEq, Int.reduceNe, Int.reduceAdd, Option.some.injEq, ↓kb_679, rmL_law, G_0, G_1, G_240, G_272, c1, c2, c3, c4, c5, d1, d2, d3, d4, d5, q1, q2, q3, q4, q5, hk2, hj2, ↓ocL_law_103, ↓spX8_spend, ↓ocL_law_106, ↓spX9_spend, q, hx, hm]
    exact h _ _ _ _ _ hr
set_option maxRecDepth 100000 in
set_option maxHeartbeats 1600000 in
theorem lw_15 {post : Option MV → MS → Prop} {T : Pt → Prop} {n : Nat} {xs : Int → Int} (hxs : ∀ j, RI (xs j)) {i : Int} (i0 : 0 ≤ i) (i1 : i + 6 ≤ n) {I L : Int → Int → Int} (hr : REL I L) {t5 t6 t7 : Option MV} {k j : Nat} (hk : k ≤ 601000) (hj : j ≤ 7290000) (h : ∀ (I' L' : Int → Int → Int) (u5 u6 u7 : Option MV), REL I' L' → Ok RL cL_law 8 rmL_law false (some (n, xs)) post T (1433, [some (.inr (.inr (some 0))), some (.inr (.inr (some 1))), some (.inr (.inr (some 240))), some (.inr (.inr (some 272))), some (.inl i), u5, u6, u7], [], (273, PF, I', L'), k, j)) : Ok RL cL_law 8 rmL_law false (some (n, xs)) post T (704, [some (.inr (.inr (some 0))), some (.inr (.inr (some 1))), some (.inr (.inr (some 240))), some (.inr (.inr (some 272))), some (.inl i), t5, t6, t7], [], (273, PF, I, L), k, j) := by
  have q1 := hxs (i + 1)
  have q2 := hxs (i + 2)
  have q3 := hxs (i + 3)
  have q4 := hxs (i + 4)
  have q5 := hxs (i + 5)
  unfold RI at q1 q2 q3 q4 q5
  have c1 : 0 ≤ i + 1 := by omega
  have d1 : i + 1 < (n : Int) := by omega
  have c2 : 0 ≤ i + 2 := by omega
  have d2 : i + 2 < (n : Int) := by omega
  have c3 : 0 ≤ i + 3 := by omega
  have d3 : i + 3 < (n : Int) := by omega
  have c4 : 0 ≤ i + 4 := by omega
  have d4 : i + 4 < (n : Int) := by omega
  have c5 : 0 ≤ i + 5 := by omega
  have d5 : i + 5 < (n : Int) := by omega
  have hk2 : k ≤ 601024 := by omega
  have hj2 : j ≤ 7293034 := by omega
  obtain ⟨hx, hm, ht, hc, hn, hq, hs⟩ := id hr
  by_cases q : 0 ≤ xs (i + 1) ∧ xs (i + 1) ≤ 60
  · skip
    refine Ok.seg mdL_law [1433] 90 ?_
    simp only [wp_nil, wp_cons, ↓stp, ↓lI, ↓lL, ↓lR, ↓lIn_0, ↓lIn_1, ↓lIn_2, ↓lIn_3, ↓lLn_0, ↓lLn_1, ↓lLn_2, ↓lLn_3, ↓lRn_0, ↓lRn_1, ↓lRn_2, ↓lRn_3, ↓pI, ↓pL, ↓pR, ↓pA, ↓pN, ↓pV, ↓fp, ↓tsw, ↓oS, ↓spMax, ↓spMin, ↓spAbs, ↓spObj, RI, RLg, b2i_lo, b2i_hi, getL, setL, ltL, killL, isLong, inl, cnd, br, tgt, rcv, rpl, mputI, mputL, mputP, fv, fr, mcat, mcs, entL, entA, rfit, nf_0, nf_1, nf_2, nf_3, nf2_0, nf2_1, b2i_0, b2i_1, RI_b2i, b2i_fit, List.append, List.length, List.replicate, List.cons_append, List.nil_append, List.length_cons, List.length_nil, List.replicate_succ, List.replicate_zero, List.tail_cons, reduceIte, if_true, if_false, ite_true, ite_false, Bool.false_eq_true, true_and, and_true, and_self, false_and, and_false, or_self, or_true, true_or, or_false, false_or, not_true_eq_false, not_false_eq_true, ne_eq, forall_const, implies_true, imp_self, true_implies, false_implies, Nat.reduceAdd, Nat.reduceSub, Nat.reduceMul, Nat.reduceDiv, Nat.reduceMod, Nat.reduceEqDiff, Nat.reduceLT, Nat.reduceLeDiff, Nat.reduceBEq, Nat.add_zero, Nat.zero_add, Nat.le_refl, Nat.not_lt_zero, Nat.succ_eq_add_one, Int.reduceNatCast, Int.cast_ofNat_Int, Int.reduceSub, Int.reduceMul, Int.reduceNeg, Int.reduceLE, Int.reduceLT, Int.reduceToNat, Int.reduceEq, Int.reduceNe, Int.reduceAdd, Option.some.injEq, ↓kb_704, rmL_law, G_0, G_1, G_240, G_272, c1, c2, c3, c4, c5, d1, d2, d3, d4, d5, q1, q2, q3, q4, q5, hk2, hj2, ↓ocL_law_107, ↓spX8_where, ↓ocL_law_110, ↓spX9_where, q, hx]
    intro I1 f x a
    refine ⟨mOK_hi f.hi hm, fun I2 L2 g gl m b => ?_⟩
    have e1 : I2 240 1 = I1 3 1 := by rw [g.r 240 1 (by unfold rlv; omega), f.hi _ _ (by omega), ← ht.1]; exact (f.c3 _ _ (by omega) (by omega)).symm
    have e2 : I1 3 1 = I 3 1 := f.c3 _ _ (by omega) (by omega)
    have be := hr.bq f x g m a b
    have h2 := hr.q f x g m
    have r := wst_rng (c := stC I1) (g := stG I1) (I1 3 1).toNat 0 (xs (i + 1)) (by unfold RI; omega)
    unfold RI at r
    have r0 := x.1.2.1
    have e : wst (mC I2) (mG I2) (I1 3 1).toNat 0 (xs (i + 1)) = wst (stC I1) (stG I1) (I1 3 1).toNat 0 (xs (i + 1)) := by
      refine wst_cg _ _ _ (fun j j0 j1 => ?_) (fun j j0 j1 => ?_)
      · have := (h2.2.2.1.2 j (by omega) (by rw [g.lo 3 1 (by omega)]; omega)).2.1
        unfold mC stC
        rw [← this, g.lo (5 + (j : Int)) 1 (by omega)]
      · unfold mG stG
        rw [← (be j (by omega) (by omega)).2.2]
    rw [e1, e]
    exact ⟨by omega, by omega, fun _ => h _ _ _ _ _ h2, fun z => (z rfl).elim⟩
  · skip
    refine Ok.seg mdL_law [1433] 90 ?_
    simp only [wp_nil, wp_cons, ↓stp, ↓lI, ↓lL, ↓lR, ↓lIn_0, ↓lIn_1, ↓lIn_2, ↓lIn_3, ↓lLn_0, ↓lLn_1, ↓lLn_2, ↓lLn_3, ↓lRn_0, ↓lRn_1, ↓lRn_2, ↓lRn_3, ↓pI, ↓pL, ↓pR, ↓pA, ↓pN, ↓pV, ↓fp, ↓tsw, ↓oS, ↓spMax, ↓spMin, ↓spAbs, ↓spObj, RI, RLg, b2i_lo, b2i_hi, getL, setL, ltL, killL, isLong, inl, cnd, br, tgt, rcv, rpl, mputI, mputL, mputP, fv, fr, mcat, mcs, entL, entA, rfit, nf_0, nf_1, nf_2, nf_3, nf2_0, nf2_1, b2i_0, b2i_1, RI_b2i, b2i_fit, List.append, List.length, List.replicate, List.cons_append, List.nil_append, List.length_cons, List.length_nil, List.replicate_succ, List.replicate_zero, List.tail_cons, reduceIte, if_true, if_false, ite_true, ite_false, Bool.false_eq_true, true_and, and_true, and_self, false_and, and_false, or_self, or_true, true_or, or_false, false_or, not_true_eq_false, not_false_eq_true, ne_eq, forall_const, implies_true, imp_self, true_implies, false_implies, Nat.reduceAdd, Nat.reduceSub, Nat.reduceMul, Nat.reduceDiv, Nat.reduceMod, Nat.reduceEqDiff, Nat.reduceLT, Nat.reduceLeDiff, Nat.reduceBEq, Nat.add_zero, Nat.zero_add, Nat.le_refl, Nat.not_lt_zero, Nat.succ_eq_add_one, Int.reduceNatCast, Int.cast_ofNat_Int, Int.reduceSub, Int.reduceMul, Int.reduceNeg, Int.reduceLE, Int.reduceLT, Int.reduceToNat, Int.reduceEq, Int.reduceNe, Int.reduceAdd, Option.some.injEq, ↓kb_704, rmL_law, G_0, G_1, G_240, G_272, c1, c2, c3, c4, c5, d1, d2, d3, d4, d5, q1, q2, q3, q4, q5, hk2, hj2, ↓ocL_law_107, ↓spX8_where, ↓ocL_law_110, ↓spX9_where, q, hx, hm]
    exact h _ _ _ _ _ hr
set_option maxRecDepth 100000 in
set_option maxHeartbeats 1600000 in
theorem lw_18 {post : Option MV → MS → Prop} {T : Pt → Prop} {n : Nat} {xs : Int → Int} (hxs : ∀ j, RI (xs j)) {i : Int} (i0 : 0 ≤ i) (i1 : i + 6 ≤ n) {I L : Int → Int → Int} (hr : REL I L) {t5 t6 t7 : Option MV} {k j : Nat} (hk : k ≤ 601000) (hj : j ≤ 7290000) (h : ∀ (I' L' : Int → Int → Int) (u5 u6 u7 : Option MV), REL I' L' → Ok RL cL_law 8 rmL_law false (some (n, xs)) post T (1433, [some (.inr (.inr (some 0))), some (.inr (.inr (some 1))), some (.inr (.inr (some 240))), some (.inr (.inr (some 272))), some (.inl i), u5, u6, u7], [], (273, PF, I', L'), k, j)) : Ok RL cL_law 8 rmL_law false (some (n, xs)) post T (821, [some (.inr (.inr (some 0))), some (.inr (.inr (some 1))), some (.inr (.inr (some 240))), some (.inr (.inr (some 272))), some (.inl i), t5, t6, t7], [], (273, PF, I, L), k, j) := by
  have q1 := hxs (i + 1)
  have q2 := hxs (i + 2)
  have q3 := hxs (i + 3)
  have q4 := hxs (i + 4)
  have q5 := hxs (i + 5)
  unfold RI at q1 q2 q3 q4 q5
  have c1 : 0 ≤ i + 1 := by omega
  have d1 : i + 1 < (n : Int) := by omega
  have c2 : 0 ≤ i + 2 := by omega
  have d2 : i + 2 < (n : Int) := by omega
  have c3 : 0 ≤ i + 3 := by omega
  have d3 : i + 3 < (n : Int) := by omega
  have c4 : 0 ≤ i + 4 := by omega
  have d4 : i + 4 < (n : Int) := by omega
  have c5 : 0 ≤ i + 5 := by omega
  have d5 : i + 5 < (n : Int) := by omega
  have hk2 : k ≤ 601024 := by omega
  have hj2 : j ≤ 7293034 := by omega
  obtain ⟨hx, hm, ht, hc, hn, hq, hs⟩ := id hr
  refine Ok.seg mdL_law [1433] 90 ?_
  simp only [wp_nil, wp_cons, ↓stp, ↓lI, ↓lL, ↓lR, ↓lIn_0, ↓lIn_1, ↓lIn_2, ↓lIn_3, ↓lLn_0, ↓lLn_1, ↓lLn_2, ↓lLn_3, ↓lRn_0, ↓lRn_1, ↓lRn_2, ↓lRn_3, ↓pI, ↓pL, ↓pR, ↓pA, ↓pN, ↓pV, ↓fp, ↓tsw, ↓oS, ↓spMax, ↓spMin, ↓spAbs, ↓spObj, RI, RLg, b2i_lo, b2i_hi, getL, setL, ltL, killL, isLong, inl, cnd, br, tgt, rcv, rpl, mputI, mputL, mputP, fv, fr, mcat, mcs, entL, entA, rfit, nf_0, nf_1, nf_2, nf_3, nf2_0, nf2_1, b2i_0, b2i_1, RI_b2i, b2i_fit, List.append, List.length, List.replicate, List.cons_append, List.nil_append, List.length_cons, List.length_nil, List.replicate_succ, List.replicate_zero, List.tail_cons, reduceIte, if_true, if_false, ite_true, ite_false, Bool.false_eq_true, true_and, and_true, and_self, false_and, and_false, or_self, or_true, true_or, or_false, false_or, not_true_eq_false, not_false_eq_true, ne_eq, forall_const, implies_true, imp_self, true_implies, false_implies, Nat.reduceAdd, Nat.reduceSub, Nat.reduceMul, Nat.reduceDiv, Nat.reduceMod, Nat.reduceEqDiff, Nat.reduceLT, Nat.reduceLeDiff, Nat.reduceBEq, Nat.add_zero, Nat.zero_add, Nat.le_refl, Nat.not_lt_zero, Nat.succ_eq_add_one, Int.reduceNatCast, Int.cast_ofNat_Int, Int.reduceSub, Int.reduceMul, Int.reduceNeg, Int.reduceLE, Int.reduceLT, Int.reduceToNat, Int.reduceEq, Int.reduceNe, Int.reduceAdd, Option.some.injEq, ↓kb_821, rmL_law, G_0, G_1, G_240, G_272, c1, c2, c3, c4, c5, d1, d2, d3, d4, d5, q1, q2, q3, q4, q5, hk2, hj2, ↓ocL_law_118, ↓spX8_lost, ↓ocL_law_121, ↓spX9_lost, hx]
  intro I1 v f x a1 a2
  refine ⟨mOK_hi f.hi hm, fun I2 L2 w g gl m b a3 => ?_⟩
  have e1 : I1 240 1 = I 3 1 := (f.hi _ _ (by omega)).trans ht.1.symm
  rw [e1] at a3
  have e := (lostV_cg2 (T' := I1 245) (D' := tmM I2) (fun i i0 i1 => by rw [f.hi _ _ (by omega)]; exact (ht.2 i i0 i1).2.2.2.2) (fun i i0 i1 z => (hr.bq f x g m (a1 ⟨i, i0, i1, z⟩) b i i0 i1).2.2) a2).uniq a3
  have r := lostV_rng a2
  have r2 := hx.1.2.1
  rw [← e]
  exact ⟨by omega, by omega, fun _ => h _ _ _ _ _ (hr.q f x g m), fun z => (z rfl).elim⟩
