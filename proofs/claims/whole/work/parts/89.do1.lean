/-! the law, case by case: station, undo, base, gear, set, tyre -/
set_option maxRecDepth 100000 in
set_option maxHeartbeats 1600000 in
theorem lw_0 {post : Option MV → MS → Prop} {T : Pt → Prop} {n : Nat} {xs : Int → Int} (hxs : ∀ j, RI (xs j)) {i : Int} (i0 : 0 ≤ i) (i1 : i + 6 ≤ n) {I L : Int → Int → Int} (hr : REL I L) {t5 t6 t7 : Option MV} {k j : Nat} (hk : k ≤ 601000) (hj : j ≤ 7290000) (h : ∀ (I' L' : Int → Int → Int) (u5 u6 u7 : Option MV), REL I' L' → Ok RL cL_law 8 rmL_law false (some (n, xs)) post T (1433, [some (.inr (.inr (some 0))), some (.inr (.inr (some 1))), some (.inr (.inr (some 240))), some (.inr (.inr (some 272))), some (.inl i), u5, u6, u7], [], (273, PF, I', L'), k, j)) : Ok RL cL_law 8 rmL_law false (some (n, xs)) post T (184, [some (.inr (.inr (some 0))), some (.inr (.inr (some 1))), some (.inr (.inr (some 240))), some (.inr (.inr (some 272))), some (.inl i), t5, t6, t7], [], (273, PF, I, L), k, j) := by
  have q1 := hxs (i + 1)
  have q2 := hxs (i + 2)
  have q3 := hxs (i + 3)
  have q4 := hxs (i + 4)
  have q5 := hxs (i + 5)
  unfold RI at q1 q2 q3 q4 q5
  have c1 : 0 ≤ i + 1 := by omega
  have d1 : i + 1 < (n : Int) := by omega
  have c2 : 0 ≤ i + 2 := by omega
  have d2 : i + 2 < (n : Int) := by omega
  have c3 : 0 ≤ i + 3 := by omega
  have d3 : i + 3 < (n : Int) := by omega
  have c4 : 0 ≤ i + 4 := by omega
  have d4 : i + 4 < (n : Int) := by omega
  have c5 : 0 ≤ i + 5 := by omega
  have d5 : i + 5 < (n : Int) := by omega
  have hk2 : k ≤ 601024 := by omega
  have hj2 : j ≤ 7293034 := by omega
  obtain ⟨hx, hm, ht, hc, hn, hq, hs⟩ := id hr
  have h30 := hx.1.2.1
  have h31 := hx.1.1
  by_cases q : badS (xs (i + 1)) (xs (i + 2)) (xs (i + 3))
  · skip
    refine Ok.seg mdL_law [1433] 90 ?_
    simp only [wp_nil, wp_cons, ↓stp, ↓lI, ↓lL, ↓lR, ↓lIn_0, ↓lIn_1, ↓lIn_2, ↓lIn_3, ↓lLn_0, ↓lLn_1, ↓lLn_2, ↓lLn_3, ↓lRn_0, ↓lRn_1, ↓lRn_2, ↓lRn_3, ↓pI, ↓pL, ↓pR, ↓pA, ↓pN, ↓pV, ↓fp, ↓tsw, ↓oS, ↓spMax, ↓spMin, ↓spAbs, ↓spObj, RI, RLg, b2i_lo, b2i_hi, getL, setL, ltL, killL, isLong, inl, cnd, br, tgt, rcv, rpl, mputI, mputL, mputP, fv, fr, mcat, mcs, entL, entA, rfit, nf_0, nf_1, nf_2, nf_3, nf2_0, nf2_1, b2i_0, b2i_1, RI_b2i, b2i_fit, List.append, List.length, List.replicate, List.cons_append, List.nil_append, List.length_cons, List.length_nil, List.replicate_succ, List.replicate_zero, List.tail_cons, reduceIte, if_true, if_false, ite_true, ite_false, Bool.false_eq_true, true_and, and_true, and_self, false_and, and_false, or_self, or_true, true_or, or_false, false_or, not_true_eq_false, not_false_eq_true, ne_eq, forall_const, implies_true, imp_self, true_implies, false_implies, Nat.reduceAdd, Nat.reduceSub, Nat.reduceMul, Nat.reduceDiv, Nat.reduceMod, Nat.reduceEqDiff, Nat.reduceLT, Nat.reduceLeDiff, Nat.reduceBEq, Nat.add_zero, Nat.zero_add, Nat.le_refl, Nat.not_lt_zero, Nat.succ_eq_add_one, Int.reduceNatCast, Int.cast_ofNat_Int, Int.reduceSub, Int.reduceMul, Int.reduceNeg, Int.reduceLE, Int.reduceLT, Int.reduceToNat, Int.reduceEq, Int.reduceNe, Int.reduceAdd, Option.some.injEq, ↓kb_184, rmL_law, G_0, G_1, G_240, G_272, c1, c2, c3, c4, c5, d1, d2, d3, d4, d5, q1, q2, q3, q4, q5, hk2, hj2, ↓ocL_law_37, ↓spX8_station, ↓ocL_law_41, ↓spX9_station, q, hx, hm]
    exact h _ _ _ _ _ hr
  by_cases q6 : I 3 1 = 30
  · skip
    refine Ok.seg mdL_law [1433] 90 ?_
    simp only [wp_nil, wp_cons, ↓stp, ↓lI, ↓lL, ↓lR, ↓lIn_0, ↓lIn_1, ↓lIn_2, ↓lIn_3, ↓lLn_0, ↓lLn_1, ↓lLn_2, ↓lLn_3, ↓lRn_0, ↓lRn_1, ↓lRn_2, ↓lRn_3, ↓pI, ↓pL, ↓pR, ↓pA, ↓pN, ↓pV, ↓fp, ↓tsw, ↓oS, ↓spMax, ↓spMin, ↓spAbs, ↓spObj, RI, RLg, b2i_lo, b2i_hi, getL, setL, ltL, killL, isLong, inl, cnd, br, tgt, rcv, rpl, mputI, mputL, mputP, fv, fr, mcat, mcs, entL, entA, rfit, nf_0, nf_1, nf_2, nf_3, nf2_0, nf2_1, b2i_0, b2i_1, RI_b2i, b2i_fit, List.append, List.length, List.replicate, List.cons_append, List.nil_append, List.length_cons, List.length_nil, List.replicate_succ, List.replicate_zero, List.tail_cons, reduceIte, if_true, if_false, ite_true, ite_false, Bool.false_eq_true, true_and, and_true, and_self, false_and, and_false, or_self, or_true, true_or, or_false, false_or, not_true_eq_false, not_false_eq_true, ne_eq, forall_const, implies_true, imp_self, true_implies, false_implies, Nat.reduceAdd, Nat.reduceSub, Nat.reduceMul, Nat.reduceDiv, Nat.reduceMod, Nat.reduceEqDiff, Nat.reduceLT, Nat.reduceLeDiff, Nat.reduceBEq, Nat.add_zero, Nat.zero_add, Nat.le_refl, Nat.not_lt_zero, Nat.succ_eq_add_one, Int.reduceNatCast, Int.cast_ofNat_Int, Int.reduceSub, Int.reduceMul, Int.reduceNeg, Int.reduceLE, Int.reduceLT, Int.reduceToNat, Int.reduceEq, Int.reduceNe, Int.reduceAdd, Option.some.injEq, ↓kb_184, rmL_law, G_0, G_1, G_240, G_272, c1, c2, c3, c4, c5, d1, d2, d3, d4, d5, q1, q2, q3, q4, q5, hk2, hj2, ↓ocL_law_37, ↓spX8_station, ↓ocL_law_41, ↓spX9_station, q, q6, hx, hm, ← ht.1]
    exact h _ _ _ _ _ hr
  · have q7 : I 3 1 < 30 := by omega
    refine Ok.seg mdL_law [1433] 90 ?_
    simp only [wp_nil, wp_cons, ↓stp, ↓lI, ↓lL, ↓lR, ↓lIn_0, ↓lIn_1, ↓lIn_2, ↓lIn_3, ↓lLn_0, ↓lLn_1, ↓lLn_2, ↓lLn_3, ↓lRn_0, ↓lRn_1, ↓lRn_2, ↓lRn_3, ↓pI, ↓pL, ↓pR, ↓pA, ↓pN, ↓pV, ↓fp, ↓tsw, ↓oS, ↓spMax, ↓spMin, ↓spAbs, ↓spObj, RI, RLg, b2i_lo, b2i_hi, getL, setL, ltL, killL, isLong, inl, cnd, br, tgt, rcv, rpl, mputI, mputL, mputP, fv, fr, mcat, mcs, entL, entA, rfit, nf_0, nf_1, nf_2, nf_3, nf2_0, nf2_1, b2i_0, b2i_1, RI_b2i, b2i_fit, List.append, List.length, List.replicate, List.cons_append, List.nil_append, List.length_cons, List.length_nil, List.replicate_succ, List.replicate_zero, List.tail_cons, reduceIte, if_true, if_false, ite_true, ite_false, Bool.false_eq_true, true_and, and_true, and_self, false_and, and_false, or_self, or_true, true_or, or_false, false_or, not_true_eq_false, not_false_eq_true, ne_eq, forall_const, implies_true, imp_self, true_implies, false_implies, Nat.reduceAdd, Nat.reduceSub, Nat.reduceMul, Nat.reduceDiv, Nat.reduceMod, Nat.reduceEqDiff, Nat.reduceLT, Nat.reduceLeDiff, Nat.reduceBEq, Nat.add_zero, Nat.zero_add, Nat.le_refl, Nat.not_lt_zero, Nat.succ_eq_add_one, Int.reduceNatCast, Int.cast_ofNat_Int, Int.reduceSub, Int.reduceMul, Int.reduceNeg, Int.reduceLE, Int.reduceLT, Int.reduceToNat, Int.reduceEq, Int.reduceNe, Int.reduceAdd, Option.some.injEq, ↓kb_184, rmL_law, G_0, G_1, G_240, G_272, c1, c2, c3, c4, c5, d1, d2, d3, d4, d5, q1, q2, q3, q4, q5, hk2, hj2, ↓ocL_law_37, ↓spX8_station, ↓ocL_law_41, ↓spX9_station, q, q6, q7, hx]
    intro I1 f x e0 e1 e2 e3 e4 e5
    have n1 : I1 240 1 = I 3 1 := (f _ _ (by omega) (by omega) (by omega) (by omega) (by omega) (by omega)).trans ht.1.symm
    refine ⟨mOK_hi (fun b k b0 => f b k (by omega) (by omega) (by omega) (by omega) (by omega) (by omega)) hm, fun z => by omega, fun _ I2 g m g0 g1 g2 g3 g4 g5 => ?_⟩
    rw [n1] at g g0 g1 g2 g3 g4 g5 ⊢
    have lo : ∀ b k, b < 240 → I2 b k = I1 b k := fun b k b0 => g b k (by omega) (by omega) (by omega)
    have G : ∀ c k, rlv c k → c ≠ 5 + I 3 1 → ¬ (c = 3 ∧ k = 1) → ¬ (c = 240 ∧ k = 1) → ¬ (241 ≤ c ∧ c ≤ 245 ∧ k = I 3 1) → I2 c k = I c k := fun c k r z1 z2 z3 z4 => by
      unfold rlv at r
      exact (g c k (by omega) (by omega) (by omega)).trans (f c k (by omega) (by omega) (by omega) (by omega) (by omega) (by omega))
    unfold rlv at G
    refine ⟨by omega, by omega, fun _ => h _ _ _ _ _ ⟨xOK_lo lo x, m, ⟨?_, fun s s0 s1 => ?_⟩, hc.cg (fun b k _ _ => G b k (by omega) (by omega) (by omega) (by omega) (by omega)) (fun b k _ _ => G b k (by omega) (by omega) (by omega) (by omega) (by omega)), hn.cg (fun k _ _ => G _ _ (by omega) (by omega) (by omega) (by omega) (by omega)) (fun k _ _ => G _ _ (by omega) (by omega) (by omega) (by omega) (by omega)), hq.cg (fun k _ _ => G _ _ (by omega) (by omega) (by omega) (by omega) (by omega)) (fun b k _ _ => G _ _ (by omega) (by omega) (by omega) (by omega) (by omega)) (fun k _ => G _ _ (by omega) (by omega) (by omega) (by omega) (by omega)) (fun b k _ _ => G _ _ (by omega) (by omega) (by omega) (by omega) (by omega)), fun d d0 d1 => (hs d d0 d1).cg (fun b k _ _ => G _ _ (by omega) (by omega) (by omega) (by omega) (by omega)) (fun b _ _ => G _ _ (by omega) (by omega) (by omega) (by omega) (by omega)) (fun i _ _ => G _ _ (by omega) (by omega) (by omega) (by omega) (by omega)) (fun _ => (hm.2.2.2.2 d d0 d1).2.1.2)⟩, fun z => (z rfl).elim⟩
    · rw [lo 3 1 (by omega), e5, g5]
    · rw [lo 3 1 (by omega), e5] at s1
      by_cases y : s = I 3 1
      · subst y
        rw [lo _ 0 (by omega), lo _ 1 (by omega), lo _ 2 (by omega), lo _ 3 (by omega), lo _ 4 (by omega), e0, e1, e2, e3, e4, g0, g1, g2, g3, g4]
        exact ⟨rfl, rfl, rfl, rfl, rfl⟩
      · have u := ht.2 s s0 (by omega)
        rw [G (5 + s) 0 (by omega) (by omega) (by omega) (by omega) (by omega), G (5 + s) 1 (by omega) (by omega) (by omega) (by omega) (by omega), G (5 + s) 2 (by omega) (by omega) (by omega) (by omega) (by omega), G (5 + s) 3 (by omega) (by omega) (by omega) (by omega) (by omega), G (5 + s) 4 (by omega) (by omega) (by omega) (by omega) (by omega), G 241 s (by omega) (by omega) (by omega) (by omega) (by omega), G 242 s (by omega) (by omega) (by omega) (by omega) (by omega), G 243 s (by omega) (by omega) (by omega) (by omega) (by omega), G 244 s (by omega) (by omega) (by omega) (by omega) (by omega), G 245 s (by omega) (by omega) (by omega) (by omega) (by omega)]
        exact u
set_option maxRecDepth 100000 in
set_option maxHeartbeats 1600000 in
theorem lw_1 {post : Option MV → MS → Prop} {T : Pt → Prop} {n : Nat} {xs : Int → Int} (hxs : ∀ j, RI (xs j)) {i : Int} (i0 : 0 ≤ i) (i1 : i + 6 ≤ n) {I L : Int → Int → Int} (hr : REL I L) {t5 t6 t7 : Option MV} {k j : Nat} (hk : k ≤ 601000) (hj : j ≤ 7290000) (h : ∀ (I' L' : Int → Int → Int) (u5 u6 u7 : Option MV), REL I' L' → Ok RL cL_law 8 rmL_law false (some (n, xs)) post T (1433, [some (.inr (.inr (some 0))), some (.inr (.inr (some 1))), some (.inr (.inr (some 240))), some (.inr (.inr (some 272))), some (.inl i), u5, u6, u7], [], (273, PF, I', L'), k, j)) : Ok RL cL_law 8 rmL_law false (some (n, xs)) post T (233, [some (.inr (.inr (some 0))), some (.inr (.inr (some 1))), some (.inr (.inr (some 240))), some (.inr (.inr (some 272))), some (.inl i), t5, t6, t7], [], (273, PF, I, L), k, j) := by
  have q1 := hxs (i + 1)
  have q2 := hxs (i + 2)
  have q3 := hxs (i + 3)
  have q4 := hxs (i + 4)
  have q5 := hxs (i + 5)
  unfold RI at q1 q2 q3 q4 q5
  have c1 : 0 ≤ i + 1 := by omega
  have d1 : i + 1 < (n : Int) := by omega
  have c2 : 0 ≤ i + 2 := by omega
  have d2 : i + 2 < (n : Int) := by omega
  have c3 : 0 ≤ i + 3 := by omega
  have d3 : i + 3 < (n : Int) := by omega
  have c4 : 0 ≤ i + 4 := by omega
  have d4 : i + 4 < (n : Int) := by omega
  have c5 : 0 ≤ i + 5 := by omega
  have d5 : i + 5 < (n : Int) := by omega
  have hk2 : k ≤ 601024 := by omega
  have hj2 : j ≤ 7293034 := by omega
  obtain ⟨hx, hm, ht, hc, hn, hq, hs⟩ := id hr
  have h30 := hx.1.2.1
  have h31 := hx.1.1
  by_cases q : I 3 1 = 0
  · skip
    refine Ok.seg mdL_law [1433] 90 ?_
    simp only [wp_nil, wp_cons, ↓stp, ↓lI, ↓lL, ↓lR, ↓lIn_0, ↓lIn_1, ↓lIn_2, ↓lIn_3, ↓lLn_0, ↓lLn_1, ↓lLn_2, ↓lLn_3, ↓lRn_0, ↓lRn_1, ↓lRn_2, ↓lRn_3, ↓pI, ↓pL, ↓pR, ↓pA, ↓pN, ↓pV, ↓fp, ↓tsw, ↓oS, ↓spMax, ↓spMin, ↓spAbs, ↓spObj, RI, RLg, b2i_lo, b2i_hi, getL, setL, ltL, killL, isLong, inl, cnd, br, tgt, rcv, rpl, mputI, mputL, mputP, fv, fr, mcat, mcs, entL, entA, rfit, nf_0, nf_1, nf_2, nf_3, nf2_0, nf2_1, b2i_0, b2i_1, RI_b2i, b2i_fit, List.append, List.length, List.replicate, List.cons_append, List.nil_append, List.length_cons, List.length_nil, List.replicate_succ, List.replicate_zero, List.tail_cons, reduceIte, if_true, if_false, ite_true, ite_false, Bool.false_eq_true, true_and, and_true, and_self, false_and, and_false, or_self, or_true, true_or, or_false, false_or, not_true_eq_false, not_false_eq_true, ne_eq, forall_const, implies_true, imp_self, true_implies, false_implies, Nat.reduceAdd, Nat.reduceSub, Nat.reduceMul, Nat.reduceDiv, Nat.reduceMod, Nat.reduceEqDiff, Nat.reduceLT, Nat.reduceLeDiff, Nat.reduceBEq, Nat.add_zero, Nat.zero_add, Nat.le_refl, Nat.not_lt_zero, Nat.succ_eq_add_one, Int.reduceNatCast, Int.cast_ofNat_Int, Int.reduceSub, Int.reduceMul, Int.reduceNeg, Int.reduceLE, Int.reduceLT, Int.reduceToNat, Int.reduceEq, Int.reduceNe, Int.reduceAdd, Option.some.injEq, ↓kb_233, rmL_law, G_0, G_1, G_240, G_272, c1, c2, c3, c4, c5, d1, d2, d3, d4, d5, q1, q2, q3, q4, q5, hk2, hj2, ↓ocL_law_42, ↓spX8_undo, ↓ocL_law_46, ↓spX9_undo, q, hx, hm, ← ht.1]
    exact h _ _ _ _ _ hr
  · have q7 : 0 < I 3 1 := by omega
    refine Ok.seg mdL_law [1433] 90 ?_
    simp only [wp_nil, wp_cons, ↓stp, ↓lI, ↓lL, ↓lR, ↓lIn_0, ↓lIn_1, ↓lIn_2, ↓lIn_3, ↓lLn_0, ↓lLn_1, ↓lLn_2, ↓lLn_3, ↓lRn_0, ↓lRn_1, ↓lRn_2, ↓lRn_3, ↓pI, ↓pL, ↓pR, ↓pA, ↓pN, ↓pV, ↓fp, ↓tsw, ↓oS, ↓spMax, ↓spMin, ↓spAbs, ↓spObj, RI, RLg, b2i_lo, b2i_hi, getL, setL, ltL, killL, isLong, inl, cnd, br, tgt, rcv, rpl, mputI, mputL, mputP, fv, fr, mcat, mcs, entL, entA, rfit, nf_0, nf_1, nf_2, nf_3, nf2_0, nf2_1, b2i_0, b2i_1, RI_b2i, b2i_fit, List.append, List.length, List.replicate, List.cons_append, List.nil_append, List.length_cons, List.length_nil, List.replicate_succ, List.replicate_zero, List.tail_cons, reduceIte, if_true, if_false, ite_true, ite_false, Bool.false_eq_true, true_and, and_true, and_self, false_and, and_false, or_self, or_true, true_or, or_false, false_or, not_true_eq_false, not_false_eq_true, ne_eq, forall_const, implies_true, imp_self, true_implies, false_implies, Nat.reduceAdd, Nat.reduceSub, Nat.reduceMul, Nat.reduceDiv, Nat.reduceMod, Nat.reduceEqDiff, Nat.reduceLT, Nat.reduceLeDiff, Nat.reduceBEq, Nat.add_zero, Nat.zero_add, Nat.le_refl, Nat.not_lt_zero, Nat.succ_eq_add_one, Int.reduceNatCast, Int.cast_ofNat_Int, Int.reduceSub, Int.reduceMul, Int.reduceNeg, Int.reduceLE, Int.reduceLT, Int.reduceToNat, Int.reduceEq, Int.reduceNe, Int.reduceAdd, Option.some.injEq, ↓kb_233, rmL_law, G_0, G_1, G_240, G_272, c1, c2, c3, c4, c5, d1, d2, d3, d4, d5, q1, q2, q3, q4, q5, hk2, hj2, ↓ocL_law_42, ↓spX8_undo, ↓ocL_law_46, ↓spX9_undo, q, q7, hx]
    intro I1 f x e5
    have n1 : I1 240 1 = I 3 1 := (f _ _ (by omega) (by omega) (by omega) (by omega) (by omega)).trans ht.1.symm
    refine ⟨mOK_hi (fun b k b0 => f b k (by omega) (by omega) (by omega) (by omega) (by omega)) hm, fun z => by omega, fun _ I2 g m g5 => ?_⟩
    rw [n1] at g5 ⊢
    have lo : ∀ b k, b < 240 → I2 b k = I1 b k := fun b k b0 => g b k (by omega) (by omega)
    have G : ∀ c k, rlv c k → ¬ (c = 3 ∧ k = 1) → ¬ (c = 240 ∧ k = 1) → I2 c k = I c k := fun c k r z2 z3 => by
      unfold rlv at r
      exact (g c k (by omega) (by omega)).trans (f c k (by omega) (by omega) (by omega) (by omega) (by omega))
    unfold rlv at G
    refine ⟨by omega, by omega, fun _ => h _ _ _ _ _ ⟨xOK_lo lo x, m, ⟨?_, fun s s0 s1 => ?_⟩, hc.cg (fun b k _ _ => G b k (by omega) (by omega) (by omega)) (fun b k _ _ => G b k (by omega) (by omega) (by omega)), hn.cg (fun k _ _ => G _ _ (by omega) (by omega) (by omega)) (fun k _ _ => G _ _ (by omega) (by omega) (by omega)), hq.cg (fun k _ _ => G _ _ (by omega) (by omega) (by omega)) (fun b k _ _ => G _ _ (by omega) (by omega) (by omega)) (fun k _ => G _ _ (by omega) (by omega) (by omega)) (fun b k _ _ => G _ _ (by omega) (by omega) (by omega)), fun d d0 d1 => (hs d d0 d1).cg (fun b k _ _ => G _ _ (by omega) (by omega) (by omega)) (fun b _ _ => G _ _ (by omega) (by omega) (by omega)) (fun i _ _ => G _ _ (by omega) (by omega) (by omega)) (fun _ => (hm.2.2.2.2 d d0 d1).2.1.2)⟩, fun z => (z rfl).elim⟩
    · rw [lo 3 1 (by omega), e5, g5]
    · rw [lo 3 1 (by omega), e5] at s1
      have u := ht.2 s s0 (by omega)
      rw [G (5 + s) 0 (by omega) (by omega) (by omega), G (5 + s) 1 (by omega) (by omega) (by omega), G (5 + s) 2 (by omega) (by omega) (by omega), G (5 + s) 3 (by omega) (by omega) (by omega), G (5 + s) 4 (by omega) (by omega) (by omega), G 241 s (by omega) (by omega) (by omega), G 242 s (by omega) (by omega) (by omega), G 243 s (by omega) (by omega) (by omega), G 244 s (by omega) (by omega) (by omega), G 245 s (by omega) (by omega) (by omega)]
      exact u
set_option maxRecDepth 100000 in
set_option maxHeartbeats 1600000 in
theorem lw_2 {post : Option MV → MS → Prop} {T : Pt → Prop} {n : Nat} {xs : Int → Int} (hxs : ∀ j, RI (xs j)) {i : Int} (i0 : 0 ≤ i) (i1 : i + 6 ≤ n) {I L : Int → Int → Int} (hr : REL I L) {t5 t6 t7 : Option MV} {k j : Nat} (hk : k ≤ 601000) (hj : j ≤ 7290000) (h : ∀ (I' L' : Int → Int → Int) (u5 u6 u7 : Option MV), REL I' L' → Ok RL cL_law 8 rmL_law false (some (n, xs)) post T (1433, [some (.inr (.inr (some 0))), some (.inr (.inr (some 1))), some (.inr (.inr (some 240))), some (.inr (.inr (some 272))), some (.inl i), u5, u6, u7], [], (273, PF, I', L'), k, j)) : Ok RL cL_law 8 rmL_law false (some (n, xs)) post T (246, [some (.inr (.inr (some 0))), some (.inr (.inr (some 1))), some (.inr (.inr (some 240))), some (.inr (.inr (some 272))), some (.inl i), t5, t6, t7], [], (273, PF, I, L), k, j) := by
  have q1 := hxs (i + 1)
  have q2 := hxs (i + 2)
  have q3 := hxs (i + 3)
  have q4 := hxs (i + 4)
  have q5 := hxs (i + 5)
  unfold RI at q1 q2 q3 q4 q5
  have c1 : 0 ≤ i + 1 := by omega
  have d1 : i + 1 < (n : Int) := by omega
  have c2 : 0 ≤ i + 2 := by omega
  have d2 : i + 2 < (n : Int) := by omega
  have c3 : 0 ≤ i + 3 := by omega
  have d3 : i + 3 < (n : Int) := by omega
  have c4 : 0 ≤ i + 4 := by omega
  have d4 : i + 4 < (n : Int) := by omega
  have c5 : 0 ≤ i + 5 := by omega
  have d5 : i + 5 < (n : Int) := by omega
  have hk2 : k ≤ 601024 := by omega
  have hj2 : j ≤ 7293034 := by omega
  obtain ⟨hx, hm, ht, hc, hn, hq, hs⟩ := id hr
  have h30 := hx.1.2.1
  by_cases q : 0 ≤ xs (i + 1) ∧ xs (i + 1) < I 3 1 ∧ 1 ≤ xs (i + 2) ∧ xs (i + 2) ≤ 60
  · skip
    refine Ok.seg mdL_law [1433] 90 ?_
    simp only [wp_nil, wp_cons, ↓stp, ↓lI, ↓lL, ↓lR, ↓lIn_0, ↓lIn_1, ↓lIn_2, ↓lIn_3, ↓lLn_0, ↓lLn_1, ↓lLn_2, ↓lLn_3, ↓lRn_0, ↓lRn_1, ↓lRn_2, ↓lRn_3, ↓pI, ↓pL, ↓pR, ↓pA, ↓pN, ↓pV, ↓fp, ↓tsw, ↓oS, ↓spMax, ↓spMin, ↓spAbs, ↓spObj, RI, RLg, b2i_lo, b2i_hi, getL, setL, ltL, killL, isLong, inl, cnd, br, tgt, rcv, rpl, mputI, mputL, mputP, fv, fr, mcat, mcs, entL, entA, rfit, nf_0, nf_1, nf_2, nf_3, nf2_0, nf2_1, b2i_0, b2i_1, RI_b2i, b2i_fit, List.append, List.length, List.replicate, List.cons_append, List.nil_append, List.length_cons, List.length_nil, List.replicate_succ, List.replicate_zero, List.tail_cons, reduceIte, if_true, if_false, ite_true, ite_false, Bool.false_eq_true, true_and, and_true, and_self, false_and, and_false, or_self, or_true, true_or, or_false, false_or, not_true_eq_false, not_false_eq_true, ne_eq, forall_const, implies_true, imp_self, true_implies, false_implies, Nat.reduceAdd, Nat.reduceSub, Nat.reduceMul, Nat.reduceDiv, Nat.reduceMod, Nat.reduceEqDiff, Nat.reduceLT, Nat.reduceLeDiff, Nat.reduceBEq, Nat.add_zero, Nat.zero_add, Nat.le_refl, Nat.not_lt_zero, Nat.succ_eq_add_one, Int.reduceNatCast, Int.cast_ofNat_Int, Int.reduceSub, Int.reduceMul, Int.reduceNeg, Int.reduceLE, Int.reduceLT, Int.reduceToNat, Int.reduceEq, Int.reduceNe, Int.reduceAdd, Option.some.injEq, ↓kb_246, rmL_law, G_0, G_1, G_240, G_272, c1, c2, c3, c4, c5, d1, d2, d3, d4, d5, q1, q2, q3, q4, q5, hk2, hj2, ↓ocL_law_47, ↓spX8_base, ↓ocL_law_51, ↓spX9_base, q, hx]
    intro I1 f x e5
    have n1 : I1 240 1 = I 3 1 := (f _ _ (by omega) (by omega) (by omega) (by omega) (by omega)).trans ht.1.symm
    refine ⟨mOK_hi (fun b k b0 => f b k (by omega) (by omega) (by omega) (by omega) (by omega)) hm, fun z => by omega, fun _ I2 g m g5 => ?_⟩
    have lo : ∀ b k, b < 240 → I2 b k = I1 b k := fun b k b0 => g b k (by omega) (by omega)
    have G : ∀ c k, rlv c k → ¬ (c = 5 + xs (i + 1) ∧ k = 2) → ¬ (c = 243 ∧ k = xs (i + 1)) → I2 c k = I c k := fun c k r z2 z3 => by
      unfold rlv at r
      exact (g c k (by omega) (by omega)).trans (f c k (by omega) (by omega) (by omega) (by omega) (by omega))
    unfold rlv at G
    have e3 : I1 243 (xs (i + 1)) = I (5 + xs (i + 1)) 2 := (f _ _ (by omega) (by omega) (by omega) (by omega) (by omega)).trans (ht.2 _ q.1 q.2.1).2.2.1.symm
    have r := hx.1.2.2 _ q.1 q.2.1
    unfold stOK at r
    rw [e3]
    refine ⟨by omega, by omega, fun _ => h _ _ _ _ _ ⟨xOK_lo lo x, m, ⟨?_, fun s s0 s1 => ?_⟩, hc.cg (fun b k _ _ => G b k (by omega) (by omega) (by omega)) (fun b k _ _ => G b k (by omega) (by omega) (by omega)), hn.cg (fun k _ _ => G _ _ (by omega) (by omega) (by omega)) (fun k _ _ => G _ _ (by omega) (by omega) (by omega)), hq.cg (fun k _ _ => G _ _ (by omega) (by omega) (by omega)) (fun b k _ _ => G _ _ (by omega) (by omega) (by omega)) (fun k _ => G _ _ (by omega) (by omega) (by omega)) (fun b k _ _ => G _ _ (by omega) (by omega) (by omega)), fun d d0 d1 => (hs d d0 d1).cg (fun b k _ _ => G _ _ (by omega) (by omega) (by omega)) (fun b _ _ => G _ _ (by omega) (by omega) (by omega)) (fun i _ _ => G _ _ (by omega) (by omega) (by omega)) (fun _ => (hm.2.2.2.2 d d0 d1).2.1.2)⟩, fun z => (z rfl).elim⟩
    · rw [G 3 1 (by omega) (by omega) (by omega), G 240 1 (by omega) (by omega) (by omega)]; exact ht.1
    · rw [G 3 1 (by omega) (by omega) (by omega)] at s1
      have u := ht.2 s s0 s1
      rw [G (5 + s) 0 (by omega) (by omega) (by omega), G (5 + s) 1 (by omega) (by omega) (by omega), G (5 + s) 3 (by omega) (by omega) (by omega), G (5 + s) 4 (by omega) (by omega) (by omega), G 241 s (by omega) (by omega) (by omega), G 242 s (by omega) (by omega) (by omega), G 244 s (by omega) (by omega) (by omega), G 245 s (by omega) (by omega) (by omega)]
      refine ⟨u.1, u.2.1, ?_, u.2.2.2.1, u.2.2.2.2⟩
      by_cases y : s = xs (i + 1)
      · rw [y, g5, lo _ _ (by omega), e5]
      · rw [G (5 + s) 2 (by omega) (by omega) (by omega), G 243 s (by omega) (by omega) (by omega)]; exact u.2.2.1
  · skip
    refine Ok.seg mdL_law [1433] 90 ?_
    simp only [wp_nil, wp_cons, ↓stp, ↓lI, ↓lL, ↓lR, ↓lIn_0, ↓lIn_1, ↓lIn_2, ↓lIn_3, ↓lLn_0, ↓lLn_1, ↓lLn_2, ↓lLn_3, ↓lRn_0, ↓lRn_1, ↓lRn_2, ↓lRn_3, ↓pI, ↓pL, ↓pR, ↓pA, ↓pN, ↓pV, ↓fp, ↓tsw, ↓oS, ↓spMax, ↓spMin, ↓spAbs, ↓spObj, RI, RLg, b2i_lo, b2i_hi, getL, setL, ltL, killL, isLong, inl, cnd, br, tgt, rcv, rpl, mputI, mputL, mputP, fv, fr, mcat, mcs, entL, entA, rfit, nf_0, nf_1, nf_2, nf_3, nf2_0, nf2_1, b2i_0, b2i_1, RI_b2i, b2i_fit, List.append, List.length, List.replicate, List.cons_append, List.nil_append, List.length_cons, List.length_nil, List.replicate_succ, List.replicate_zero, List.tail_cons, reduceIte, if_true, if_false, ite_true, ite_false, Bool.false_eq_true, true_and, and_true, and_self, false_and, and_false, or_self, or_true, true_or, or_false, false_or, not_true_eq_false, not_false_eq_true, ne_eq, forall_const, implies_true, imp_self, true_implies, false_implies, Nat.reduceAdd, Nat.reduceSub, Nat.reduceMul, Nat.reduceDiv, Nat.reduceMod, Nat.reduceEqDiff, Nat.reduceLT, Nat.reduceLeDiff, Nat.reduceBEq, Nat.add_zero, Nat.zero_add, Nat.le_refl, Nat.not_lt_zero, Nat.succ_eq_add_one, Int.reduceNatCast, Int.cast_ofNat_Int, Int.reduceSub, Int.reduceMul, Int.reduceNeg, Int.reduceLE, Int.reduceLT, Int.reduceToNat, Int.reduceEq, Int.reduceNe, Int.reduceAdd, Option.some.injEq, ↓kb_246, rmL_law, G_0, G_1, G_240, G_272, c1, c2, c3, c4, c5, d1, d2, d3, d4, d5, q1, q2, q3, q4, q5, hk2, hj2, ↓ocL_law_47, ↓spX8_base, ↓ocL_law_51, ↓spX9_base, q, hx, hm, ← ht.1]
    exact h _ _ _ _ _ hr
set_option maxRecDepth 100000 in
set_option maxHeartbeats 1600000 in
theorem lw_3 {post : Option MV → MS → Prop} {T : Pt → Prop} {n : Nat} {xs : Int → Int} (hxs : ∀ j, RI (xs j)) {i : Int} (i0 : 0 ≤ i) (i1 : i + 6 ≤ n) {I L : Int → Int → Int} (hr : REL I L) {t5 t6 t7 : Option MV} {k j : Nat} (hk : k ≤ 601000) (hj : j ≤ 7290000) (h : ∀ (I' L' : Int → Int → Int) (u5 u6 u7 : Option MV), REL I' L' → Ok RL cL_law 8 rmL_law false (some (n, xs)) post T (1433, [some (.inr (.inr (some 0))), some (.inr (.inr (some 1))), some (.inr (.inr (some 240))), some (.inr (.inr (some 272))), some (.inl i), u5, u6, u7], [], (273, PF, I', L'), k, j)) : Ok RL cL_law 8 rmL_law false (some (n, xs)) post T (283, [some (.inr (.inr (some 0))), some (.inr (.inr (some 1))), some (.inr (.inr (some 240))), some (.inr (.inr (some 272))), some (.inl i), t5, t6, t7], [], (273, PF, I, L), k, j) := by
  have q1 := hxs (i + 1)
  have q2 := hxs (i + 2)
  have q3 := hxs (i + 3)
  have q4 := hxs (i + 4)
  have q5 := hxs (i + 5)
  unfold RI at q1 q2 q3 q4 q5
  have c1 : 0 ≤ i + 1 := by omega
  have d1 : i + 1 < (n : Int) := by omega
  have c2 : 0 ≤ i + 2 := by omega
  have d2 : i + 2 < (n : Int) := by omega
  have c3 : 0 ≤ i + 3 := by omega
  have d3 : i + 3 < (n : Int) := by omega
  have c4 : 0 ≤ i + 4 := by omega
  have d4 : i + 4 < (n : Int) := by omega
  have c5 : 0 ≤ i + 5 := by omega
  have d5 : i + 5 < (n : Int) := by omega
  have hk2 : k ≤ 601024 := by omega
  have hj2 : j ≤ 7293034 := by omega
  obtain ⟨hx, hm, ht, hc, hn, hq, hs⟩ := id hr
  have h30 := hx.1.2.1
  by_cases q : 1 ≤ xs (i + 1) ∧ xs (i + 1) ≤ 6 ∧ 1 ≤ xs (i + 2) ∧ xs (i + 2) ≤ 60 ∧ 1 ≤ xs (i + 3) ∧ xs (i + 3) ≤ 20
  · by_cases q6 : I 38 (xs (i + 1)) = xs (i + 2) ∧ I 39 (xs (i + 1)) = xs (i + 3)
    · skip
      refine Ok.seg mdL_law [1433] 90 ?_
      simp only [wp_nil, wp_cons, ↓stp, ↓lI, ↓lL, ↓lR, ↓lIn_0, ↓lIn_1, ↓lIn_2, ↓lIn_3, ↓lLn_0, ↓lLn_1, ↓lLn_2, ↓lLn_3, ↓lRn_0, ↓lRn_1, ↓lRn_2, ↓lRn_3, ↓pI, ↓pL, ↓pR, ↓pA, ↓pN, ↓pV, ↓fp, ↓tsw, ↓oS, ↓spMax, ↓spMin, ↓spAbs, ↓spObj, RI, RLg, b2i_lo, b2i_hi, getL, setL, ltL, killL, isLong, inl, cnd, br, tgt, rcv, rpl, mputI, mputL, mputP, fv, fr, mcat, mcs, entL, entA, rfit, nf_0, nf_1, nf_2, nf_3, nf2_0, nf2_1, b2i_0, b2i_1, RI_b2i, b2i_fit, List.append, List.length, List.replicate, List.cons_append, List.nil_append, List.length_cons, List.length_nil, List.replicate_succ, List.replicate_zero, List.tail_cons, reduceIte, if_true, if_false, ite_true, ite_false, Bool.false_eq_true, true_and, and_true, and_self, false_and, and_false, or_self, or_true, true_or, or_false, false_or, not_true_eq_false, not_false_eq_true, ne_eq, forall_const, implies_true, imp_self, true_implies, false_implies, Nat.reduceAdd, Nat.reduceSub, Nat.reduceMul, Nat.reduceDiv, Nat.reduceMod, Nat.reduceEqDiff, Nat.reduceLT, Nat.reduceLeDiff, Nat.reduceBEq, Nat.add_zero, Nat.zero_add, Nat.le_refl, Nat.not_lt_zero, Nat.succ_eq_add_one, Int.reduceNatCast, Int.cast_ofNat_Int, Int.reduceSub, Int.reduceMul, Int.reduceNeg, Int.reduceLE, Int.reduceLT, Int.reduceToNat, Int.reduceEq, Int.reduceNe, Int.reduceAdd, Option.some.injEq, ↓kb_283, rmL_law, G_0, G_1, G_240, G_272, c1, c2, c3, c4, c5, d1, d2, d3, d4, d5, q1, q2, q3, q4, q5, hk2, hj2, ↓ocL_law_52, ↓spX8_gear, ↓ocL_law_55, ↓spX9_gear, q, q6, hx, hm]
      intro I2 v g m g3 g4 g5
      have x := hx
      obtain ⟨I1, e1⟩ : ∃ I1, I1 = I := ⟨I, rfl⟩
      have y6 : I 246 (xs (i + 1)) = xs (i + 2) ∧ I 247 (xs (i + 1)) = xs (i + 3) := by rw [← (hc _).1, ← (hc _).2]; exact q6
      rw [if_pos y6] at g5
      subst g5
      have lo : ∀ b k, b < 240 → I2 b k = I b k := fun b k b0 => g b k (by omega) (by omega) (by omega)
      have G : ∀ c k, rlv c k → c ≠ 37 → c ≠ 38 → c ≠ 39 → c ≠ 246 → c ≠ 247 → I2 c k = I c k := fun c k r z1 z2 z3 z4 z5 => by
        unfold rlv at r
        exact (g c k (by omega) (by omega) (by omega)).trans (rfl)
      unfold rlv at G
      refine ⟨by omega, fun _ => h _ _ _ _ _ ⟨xOK_lo lo x, m, ⟨?_, fun s s0 s1 => ?_⟩, fun k => ?_, hn.cg (fun k _ _ => G _ _ (by omega) (by omega) (by omega) (by omega) (by omega) (by omega)) (fun k _ _ => G _ _ (by omega) (by omega) (by omega) (by omega) (by omega) (by omega)), hq.cg (fun k _ _ => G _ _ (by omega) (by omega) (by omega) (by omega) (by omega) (by omega)) (fun b k _ _ => G _ _ (by omega) (by omega) (by omega) (by omega) (by omega) (by omega)) (fun k _ => G _ _ (by omega) (by omega) (by omega) (by omega) (by omega) (by omega)) (fun b k _ _ => G _ _ (by omega) (by omega) (by omega) (by omega) (by omega) (by omega)), fun d d0 d1 => (hs d d0 d1).cg (fun b k _ _ => G _ _ (by omega) (by omega) (by omega) (by omega) (by omega) (by omega)) (fun b _ _ => G _ _ (by omega) (by omega) (by omega) (by omega) (by omega) (by omega)) (fun i _ _ => G _ _ (by omega) (by omega) (by omega) (by omega) (by omega) (by omega)) (fun _ => (hm.2.2.2.2 d d0 d1).2.1.2)⟩, fun z => (z rfl).elim⟩
      · rw [G 3 1 (by omega) (by omega) (by omega) (by omega) (by omega) (by omega), G 240 1 (by omega) (by omega) (by omega) (by omega) (by omega) (by omega)]; exact ht.1
      · rw [G 3 1 (by omega) (by omega) (by omega) (by omega) (by omega) (by omega)] at s1
        have u := ht.2 s s0 s1
        rw [G (5 + s) 0 (by omega) (by omega) (by omega) (by omega) (by omega) (by omega), G (5 + s) 1 (by omega) (by omega) (by omega) (by omega) (by omega) (by omega), G (5 + s) 2 (by omega) (by omega) (by omega) (by omega) (by omega) (by omega), G (5 + s) 3 (by omega) (by omega) (by omega) (by omega) (by omega) (by omega), G (5 + s) 4 (by omega) (by omega) (by omega) (by omega) (by omega) (by omega), G 241 s (by omega) (by omega) (by omega) (by omega) (by omega) (by omega), G 242 s (by omega) (by omega) (by omega) (by omega) (by omega) (by omega), G 243 s (by omega) (by omega) (by omega) (by omega) (by omega) (by omega), G 244 s (by omega) (by omega) (by omega) (by omega) (by omega) (by omega), G 245 s (by omega) (by omega) (by omega) (by omega) (by omega) (by omega)]
        exact u
      · rw [lo 38 k (by omega), lo 39 k (by omega), g3, g4, (hc k).1, (hc k).2]
        by_cases y : k = xs (i + 1)
        · rw [if_pos y, if_pos y, y, ← (hc _).1, ← (hc _).2]; exact q6
        · rw [if_neg y, if_neg y]; exact ⟨rfl, rfl⟩
    · skip
      refine Ok.seg mdL_law [1433] 90 ?_
      simp only [wp_nil, wp_cons, ↓stp, ↓lI, ↓lL, ↓lR, ↓lIn_0, ↓lIn_1, ↓lIn_2, ↓lIn_3, ↓lLn_0, ↓lLn_1, ↓lLn_2, ↓lLn_3, ↓lRn_0, ↓lRn_1, ↓lRn_2, ↓lRn_3, ↓pI, ↓pL, ↓pR, ↓pA, ↓pN, ↓pV, ↓fp, ↓tsw, ↓oS, ↓spMax, ↓spMin, ↓spAbs, ↓spObj, RI, RLg, b2i_lo, b2i_hi, getL, setL, ltL, killL, isLong, inl, cnd, br, tgt, rcv, rpl, mputI, mputL, mputP, fv, fr, mcat, mcs, entL, entA, rfit, nf_0, nf_1, nf_2, nf_3, nf2_0, nf2_1, b2i_0, b2i_1, RI_b2i, b2i_fit, List.append, List.length, List.replicate, List.cons_append, List.nil_append, List.length_cons, List.length_nil, List.replicate_succ, List.replicate_zero, List.tail_cons, reduceIte, if_true, if_false, ite_true, ite_false, Bool.false_eq_true, true_and, and_true, and_self, false_and, and_false, or_self, or_true, true_or, or_false, false_or, not_true_eq_false, not_false_eq_true, ne_eq, forall_const, implies_true, imp_self, true_implies, false_implies, Nat.reduceAdd, Nat.reduceSub, Nat.reduceMul, Nat.reduceDiv, Nat.reduceMod, Nat.reduceEqDiff, Nat.reduceLT, Nat.reduceLeDiff, Nat.reduceBEq, Nat.add_zero, Nat.zero_add, Nat.le_refl, Nat.not_lt_zero, Nat.succ_eq_add_one, Int.reduceNatCast, Int.cast_ofNat_Int, Int.reduceSub, Int.reduceMul, Int.reduceNeg, Int.reduceLE, Int.reduceLT, Int.reduceToNat, Int.reduceEq, Int.reduceNe, Int.reduceAdd, Option.some.injEq, ↓kb_283, rmL_law, G_0, G_1, G_240, G_272, c1, c2, c3, c4, c5, d1, d2, d3, d4, d5, q1, q2, q3, q4, q5, hk2, hj2, ↓ocL_law_52, ↓spX8_gear, ↓ocL_law_55, ↓spX9_gear, q, q6, hx]
      intro I1 f x e3 e4
      refine ⟨mOK_hi (fun b k b0 => f b k (by omega) (by omega) (by omega) (by omega) (by omega) (by omega) (by omega)) hm, fun I2 v g m g3 g4 g5 => ?_⟩
      have y6 : ¬ (I1 246 (xs (i + 1)) = xs (i + 2) ∧ I1 247 (xs (i + 1)) = xs (i + 3)) := by rw [f 246 _ (by omega) (by omega) (by omega) (by omega) (by omega) (by omega) (by omega), f 247 _ (by omega) (by omega) (by omega) (by omega) (by omega) (by omega) (by omega), ← (hc _).1, ← (hc _).2]; exact q6
      rw [if_neg y6] at g5
      subst g5
      have lo : ∀ b k, b < 240 → I2 b k = I1 b k := fun b k b0 => g b k (by omega) (by omega) (by omega)
      have G : ∀ c k, rlv c k → c ≠ 37 → c ≠ 38 → c ≠ 39 → c ≠ 246 → c ≠ 247 → I2 c k = I c k := fun c k r z1 z2 z3 z4 z5 => by
        unfold rlv at r
        exact (g c k (by omega) (by omega) (by omega)).trans (f c k (by omega) (by omega) (by omega) (by omega) (by omega) (by omega) (by omega))
      unfold rlv at G
      refine ⟨by omega, fun _ => h _ _ _ _ _ ⟨xOK_lo lo x, m, ⟨?_, fun s s0 s1 => ?_⟩, fun k => ?_, hn.cg (fun k _ _ => G _ _ (by omega) (by omega) (by omega) (by omega) (by omega) (by omega)) (fun k _ _ => G _ _ (by omega) (by omega) (by omega) (by omega) (by omega) (by omega)), hq.cg (fun k _ _ => G _ _ (by omega) (by omega) (by omega) (by omega) (by omega) (by omega)) (fun b k _ _ => G _ _ (by omega) (by omega) (by omega) (by omega) (by omega) (by omega)) (fun k _ => G _ _ (by omega) (by omega) (by omega) (by omega) (by omega) (by omega)) (fun b k _ _ => G _ _ (by omega) (by omega) (by omega) (by omega) (by omega) (by omega)), fun d d0 d1 => (hs d d0 d1).cg (fun b k _ _ => G _ _ (by omega) (by omega) (by omega) (by omega) (by omega) (by omega)) (fun b _ _ => G _ _ (by omega) (by omega) (by omega) (by omega) (by omega) (by omega)) (fun i _ _ => G _ _ (by omega) (by omega) (by omega) (by omega) (by omega) (by omega)) (fun _ => (hm.2.2.2.2 d d0 d1).2.1.2)⟩, fun z => (z rfl).elim⟩
      · rw [G 3 1 (by omega) (by omega) (by omega) (by omega) (by omega) (by omega), G 240 1 (by omega) (by omega) (by omega) (by omega) (by omega) (by omega)]; exact ht.1
      · rw [G 3 1 (by omega) (by omega) (by omega) (by omega) (by omega) (by omega)] at s1
        have u := ht.2 s s0 s1
        rw [G (5 + s) 0 (by omega) (by omega) (by omega) (by omega) (by omega) (by omega), G (5 + s) 1 (by omega) (by omega) (by omega) (by omega) (by omega) (by omega), G (5 + s) 2 (by omega) (by omega) (by omega) (by omega) (by omega) (by omega), G (5 + s) 3 (by omega) (by omega) (by omega) (by omega) (by omega) (by omega), G (5 + s) 4 (by omega) (by omega) (by omega) (by omega) (by omega) (by omega), G 241 s (by omega) (by omega) (by omega) (by omega) (by omega) (by omega), G 242 s (by omega) (by omega) (by omega) (by omega) (by omega) (by omega), G 243 s (by omega) (by omega) (by omega) (by omega) (by omega) (by omega), G 244 s (by omega) (by omega) (by omega) (by omega) (by omega) (by omega), G 245 s (by omega) (by omega) (by omega) (by omega) (by omega) (by omega)]
        exact u
      · rw [lo 38 k (by omega), lo 39 k (by omega), g3, g4, e3, e4, f 246 _ (by omega) (by omega) (by omega) (by omega) (by omega) (by omega) (by omega), f 247 _ (by omega) (by omega) (by omega) (by omega) (by omega) (by omega) (by omega), (hc k).1, (hc k).2]
        exact ⟨rfl, rfl⟩
  · skip
    refine Ok.seg mdL_law [1433] 90 ?_
    simp only [wp_nil, wp_cons, ↓stp, ↓lI, ↓lL, ↓lR, ↓lIn_0, ↓lIn_1, ↓lIn_2, ↓lIn_3, ↓lLn_0, ↓lLn_1, ↓lLn_2, ↓lLn_3, ↓lRn_0, ↓lRn_1, ↓lRn_2, ↓lRn_3, ↓pI, ↓pL, ↓pR, ↓pA, ↓pN, ↓pV, ↓fp, ↓tsw, ↓oS, ↓spMax, ↓spMin, ↓spAbs, ↓spObj, RI, RLg, b2i_lo, b2i_hi, getL, setL, ltL, killL, isLong, inl, cnd, br, tgt, rcv, rpl, mputI, mputL, mputP, fv, fr, mcat, mcs, entL, entA, rfit, nf_0, nf_1, nf_2, nf_3, nf2_0, nf2_1, b2i_0, b2i_1, RI_b2i, b2i_fit, List.append, List.length, List.replicate, List.cons_append, List.nil_append, List.length_cons, List.length_nil, List.replicate_succ, List.replicate_zero, List.tail_cons, reduceIte, if_true, if_false, ite_true, ite_false, Bool.false_eq_true, true_and, and_true, and_self, false_and, and_false, or_self, or_true, true_or, or_false, false_or, not_true_eq_false, not_false_eq_true, ne_eq, forall_const, implies_true, imp_self, true_implies, false_implies, Nat.reduceAdd, Nat.reduceSub, Nat.reduceMul, Nat.reduceDiv, Nat.reduceMod, Nat.reduceEqDiff, Nat.reduceLT, Nat.reduceLeDiff, Nat.reduceBEq, Nat.add_zero, Nat.zero_add, Nat.le_refl, Nat.not_lt_zero, Nat.succ_eq_add_one, Int.reduceNatCast, Int.cast_ofNat_Int, Int.reduceSub, Int.reduceMul, Int.reduceNeg, Int.reduceLE, Int.reduceLT, Int.reduceToNat, Int.reduceEq, Int.reduceNe, Int.reduceAdd, Option.some.injEq, ↓kb_283, rmL_law, G_0, G_1, G_240, G_272, c1, c2, c3, c4, c5, d1, d2, d3, d4, d5, q1, q2, q3, q4, q5, hk2, hj2, ↓ocL_law_52, ↓spX8_gear, ↓ocL_law_55, ↓spX9_gear, q, hx, hm]
    exact h _ _ _ _ _ hr
set_option maxRecDepth 100000 in
set_option maxHeartbeats 1600000 in
theorem lw_19 {post : Option MV → MS → Prop} {T : Pt → Prop} {n : Nat} {xs : Int → Int} (hxs : ∀ j, RI (xs j)) {i : Int} (i0 : 0 ≤ i) (i1 : i + 6 ≤ n) {I L : Int → Int → Int} (hr : REL I L) {t5 t6 t7 : Option MV} {k j : Nat} (hk : k ≤ 601000) (hj : j ≤ 7290000) (h : ∀ (I' L' : Int → Int → Int) (u5 u6 u7 : Option MV), REL I' L' → Ok RL cL_law 8 rmL_law false (some (n, xs)) post T (1433, [some (.inr (.inr (some 0))), some (.inr (.inr (some 1))), some (.inr (.inr (some 240))), some (.inr (.inr (some 272))), some (.inl i), u5, u6, u7], [], (273, PF, I', L'), k, j)) : Ok RL cL_law 8 rmL_law false (some (n, xs)) post T (834, [some (.inr (.inr (some 0))), some (.inr (.inr (some 1))), some (.inr (.inr (some 240))), some (.inr (.inr (some 272))), some (.inl i), t5, t6, t7], [], (273, PF, I, L), k, j) := by
  have q1 := hxs (i + 1)
  have q2 := hxs (i + 2)
  have q3 := hxs (i + 3)
  have q4 := hxs (i + 4)
  have q5 := hxs (i + 5)
  unfold RI at q1 q2 q3 q4 q5
  have c1 : 0 ≤ i + 1 := by omega
  have d1 : i + 1 < (n : Int) := by omega
  have c2 : 0 ≤ i + 2 := by omega
  have d2 : i + 2 < (n : Int) := by omega
  have c3 : 0 ≤ i + 3 := by omega
  have d3 : i + 3 < (n : Int) := by omega
  have c4 : 0 ≤ i + 4 := by omega
  have d4 : i + 4 < (n : Int) := by omega
  have c5 : 0 ≤ i + 5 := by omega
  have d5 : i + 5 < (n : Int) := by omega
  have hk2 : k ≤ 601024 := by omega
  have hj2 : j ≤ 7293034 := by omega
  obtain ⟨hx, hm, ht, hc, hn, hq, hs⟩ := id hr
  have h30 := hx.1.2.1
  by_cases q : 0 ≤ xs (i + 1) ∧ xs (i + 1) ≤ 3 ∧ -20 ≤ xs (i + 2) ∧ xs (i + 2) ≤ 20 ∧ 1 ≤ xs (i + 3) ∧ xs (i + 3) ≤ 20
  · by_cases q6 : I 180 (xs (i + 1)) = xs (i + 2) ∧ I 181 (xs (i + 1)) = xs (i + 3)
    · skip
      refine Ok.seg mdL_law [1433] 90 ?_
      simp only [wp_nil, wp_cons, ↓stp, ↓lI, ↓lL, ↓lR, ↓lIn_0, ↓lIn_1, ↓lIn_2, ↓lIn_3, ↓lLn_0, ↓lLn_1, ↓lLn_2, ↓lLn_3, ↓lRn_0, ↓lRn_1, ↓lRn_2, ↓lRn_3, ↓pI, ↓pL, ↓pR, ↓pA, ↓pN, ↓pV, ↓fp, ↓tsw, ↓oS, ↓spMax, ↓spMin, ↓spAbs, ↓spObj, RI, RLg, b2i_lo, b2i_hi, getL, setL, ltL, killL, isLong, inl, cnd, br, tgt, rcv, rpl, mputI, mputL, mputP, fv, fr, mcat, mcs, entL, entA, rfit, nf_0, nf_1, nf_2, nf_3, nf2_0, nf2_1, b2i_0, b2i_1, RI_b2i, b2i_fit, List.append, List.length, List.replicate, List.cons_append, List.nil_append, List.length_cons, List.length_nil, List.replicate_succ, List.replicate_zero, List.tail_cons, reduceIte, if_true, if_false, ite_true, ite_false, Bool.false_eq_true, true_and, and_true, and_self, false_and, and_false, or_self, or_true, true_or, or_false, false_or, not_true_eq_false, not_false_eq_true, ne_eq, forall_const, implies_true, imp_self, true_implies, false_implies, Nat.reduceAdd, Nat.reduceSub, Nat.reduceMul, Nat.reduceDiv, Nat.reduceMod, Nat.reduceEqDiff, Nat.reduceLT, Nat.reduceLeDiff, Nat.reduceBEq, Nat.add_zero, Nat.zero_add, Nat.le_refl, Nat.not_lt_zero, Nat.succ_eq_add_one, Int.reduceNatCast, Int.cast_ofNat_Int, Int.reduceSub, Int.reduceMul, Int.reduceNeg, Int.reduceLE, Int.reduceLT, Int.reduceToNat, Int.reduceEq, Int.reduceNe, Int.reduceAdd, Option.some.injEq, ↓kb_834, rmL_law, G_0, G_1, G_240, G_272, c1, c2, c3, c4, c5, d1, d2, d3, d4, d5, q1, q2, q3, q4, q5, hk2, hj2, ↓ocL_law_122, ↓spX8_tyre, ↓ocL_law_125, ↓spX9_tyre, q, q6, hx, hm]
      intro I2 v g m g3 g4 g5
      have x := hx
      have y6 : I 258 (xs (i + 1)) = xs (i + 2) ∧ I 259 (xs (i + 1)) = xs (i + 3) := by rw [← (hq.2.2 _).1, ← (hq.2.2 _).2]; exact q6
      rw [if_pos y6] at g5
      subst g5
      have lo : ∀ b k, b < 240 → I2 b k = I b k := fun b k b0 => g b k (by omega) (by omega)
      have G : ∀ c k, rlv c k → ¬ (180 ≤ c ∧ c ≤ 181 ∧ k = xs (i + 1)) → ¬ (258 ≤ c ∧ c ≤ 259 ∧ k = xs (i + 1)) → I2 c k = I c k := fun c k r z1 z2 => by
        unfold rlv at r
        exact (g c k (by omega) (by omega)).trans (rfl)
      unfold rlv at G
      refine ⟨by omega, fun _ => h _ _ _ _ _ ⟨xOK_lo lo x, m, ht.cg hx.1.2.1 (fun b k _ _ => G b k (by omega) (by omega) (by omega)) (G _ _ (by omega) (by omega) (by omega)) (fun b k _ _ => G b k (by omega) (by omega) (by omega)), hc.cg (fun b k _ _ => G b k (by omega) (by omega) (by omega)) (fun b k _ _ => G b k (by omega) (by omega) (by omega)), hn.cg (fun k _ _ => G _ _ (by omega) (by omega) (by omega)) (fun k _ _ => G _ _ (by omega) (by omega) (by omega)), ⟨?_, ?_, fun k => ?_⟩, fun d d0 d1 => (hs d d0 d1).cg (fun b k _ _ => G _ _ (by omega) (by omega) (by omega)) (fun b _ _ => G _ _ (by omega) (by omega) (by omega)) (fun i _ _ => G _ _ (by omega) (by omega) (by omega)) (fun _ => (hm.2.2.2.2 d d0 d1).2.1.2)⟩, fun z => (z rfl).elim⟩
      · rw [G 179 4 (by omega) (by omega) (by omega), G 240 5 (by omega) (by omega) (by omega)]; exact hq.1
      · rw [G 179 5 (by omega) (by omega) (by omega), G 240 25 (by omega) (by omega) (by omega)]; exact hq.2.1
      · by_cases y : k = xs (i + 1)
        · rw [y, lo 180 _ (by omega), lo 181 _ (by omega), g3, g4, q6.1, q6.2]; exact ⟨rfl, rfl⟩
        · rw [G 180 k (by omega) (by omega) (by omega), G 181 k (by omega) (by omega) (by omega), G 258 k (by omega) (by omega) (by omega), G 259 k (by omega) (by omega) (by omega)]; exact hq.2.2 k
    · skip
      refine Ok.seg mdL_law [1433] 90 ?_
      simp only [wp_nil, wp_cons, ↓stp, ↓lI, ↓lL, ↓lR, ↓lIn_0, ↓lIn_1, ↓lIn_2, ↓lIn_3, ↓lLn_0, ↓lLn_1, ↓lLn_2, ↓lLn_3, ↓lRn_0, ↓lRn_1, ↓lRn_2, ↓lRn_3, ↓pI, ↓pL, ↓pR, ↓pA, ↓pN, ↓pV, ↓fp, ↓tsw, ↓oS, ↓spMax, ↓spMin, ↓spAbs, ↓spObj, RI, RLg, b2i_lo, b2i_hi, getL, setL, ltL, killL, isLong, inl, cnd, br, tgt, rcv, rpl, mputI, mputL, mputP, fv, fr, mcat, mcs, entL, entA, rfit, nf_0, nf_1, nf_2, nf_3, nf2_0, nf2_1, b2i_0, b2i_1, RI_b2i, b2i_fit, List.append, List.length, List.replicate, List.cons_append, List.nil_append, List.length_cons, List.length_nil, List.replicate_succ, List.replicate_zero, List.tail_cons, reduceIte, if_true, if_false, ite_true, ite_false, Bool.false_eq_true, true_and, and_true, and_self, false_and, and_false, or_self, or_true, true_or, or_false, false_or, not_true_eq_false, not_false_eq_true, ne_eq, forall_const, implies_true, imp_self, true_implies, false_implies, Nat.reduceAdd, Nat.reduceSub, Nat.reduceMul, Nat.reduceDiv, Nat.reduceMod, Nat.reduceEqDiff, Nat.reduceLT, Nat.reduceLeDiff, Nat.reduceBEq, Nat.add_zero, Nat.zero_add, Nat.le_refl, Nat.not_lt_zero, Nat.succ_eq_add_one, Int.reduceNatCast, Int.cast_ofNat_Int, Int.reduceSub, Int.reduceMul, Int.reduceNeg, Int.reduceLE, Int.reduceLT, Int.reduceToNat, Int.reduceEq, Int.reduceNe, Int.reduceAdd, Option.some.injEq, ↓kb_834, rmL_law, G_0, G_1, G_240, G_272, c1, c2, c3, c4, c5, d1, d2, d3, d4, d5, q1, q2, q3, q4, q5, hk2, hj2, ↓ocL_law_122, ↓spX8_tyre, ↓ocL_law_125, ↓spX9_tyre, q, q6, hx]
      intro I1 f x e3 e4
      refine ⟨mOK_hi (fun b k b0 => f b k (by omega) (by omega) (by omega)) hm, fun I2 v g m g3 g4 g5 => ?_⟩
      have y6 : ¬ (I1 258 (xs (i + 1)) = xs (i + 2) ∧ I1 259 (xs (i + 1)) = xs (i + 3)) := by rw [f 258 _ (by omega) (by omega) (by omega), f 259 _ (by omega) (by omega) (by omega), ← (hq.2.2 _).1, ← (hq.2.2 _).2]; exact q6
      rw [if_neg y6] at g5
      subst g5
      have lo : ∀ b k, b < 240 → I2 b k = I1 b k := fun b k b0 => g b k (by omega) (by omega)
      have G : ∀ c k, rlv c k → ¬ (180 ≤ c ∧ c ≤ 181 ∧ k = xs (i + 1)) → ¬ (258 ≤ c ∧ c ≤ 259 ∧ k = xs (i + 1)) → I2 c k = I c k := fun c k r z1 z2 => by
        unfold rlv at r
        exact (g c k (by omega) (by omega)).trans (f c k (by omega) (by omega) (by omega))
      unfold rlv at G
      refine ⟨by omega, fun _ => h _ _ _ _ _ ⟨xOK_lo lo x, m, ht.cg hx.1.2.1 (fun b k _ _ => G b k (by omega) (by omega) (by omega)) (G _ _ (by omega) (by omega) (by omega)) (fun b k _ _ => G b k (by omega) (by omega) (by omega)), hc.cg (fun b k _ _ => G b k (by omega) (by omega) (by omega)) (fun b k _ _ => G b k (by omega) (by omega) (by omega)), hn.cg (fun k _ _ => G _ _ (by omega) (by omega) (by omega)) (fun k _ _ => G _ _ (by omega) (by omega) (by omega)), ⟨?_, ?_, fun k => ?_⟩, fun d d0 d1 => (hs d d0 d1).cg (fun b k _ _ => G _ _ (by omega) (by omega) (by omega)) (fun b _ _ => G _ _ (by omega) (by omega) (by omega)) (fun i _ _ => G _ _ (by omega) (by omega) (by omega)) (fun _ => (hm.2.2.2.2 d d0 d1).2.1.2)⟩, fun z => (z rfl).elim⟩
      · rw [G 179 4 (by omega) (by omega) (by omega), G 240 5 (by omega) (by omega) (by omega)]; exact hq.1
      · rw [G 179 5 (by omega) (by omega) (by omega), G 240 25 (by omega) (by omega) (by omega)]; exact hq.2.1
      · by_cases y : k = xs (i + 1)
        · rw [y, lo 180 _ (by omega), lo 181 _ (by omega), g3, g4, e3, e4]; exact ⟨rfl, rfl⟩
        · rw [G 180 k (by omega) (by omega) (by omega), G 181 k (by omega) (by omega) (by omega), G 258 k (by omega) (by omega) (by omega), G 259 k (by omega) (by omega) (by omega)]; exact hq.2.2 k
  · skip
    refine Ok.seg mdL_law [1433] 90 ?_
    simp only [wp_nil, wp_cons, ↓stp, ↓lI, ↓lL, ↓lR, ↓lIn_0, ↓lIn_1, ↓lIn_2, ↓lIn_3, ↓lLn_0, ↓lLn_1, ↓lLn_2, ↓lLn_3, ↓lRn_0, ↓lRn_1, ↓lRn_2, ↓lRn_3, ↓pI, ↓pL, ↓pR, ↓pA, ↓pN, ↓pV, ↓fp, ↓tsw, ↓oS, ↓spMax, ↓spMin, ↓spAbs, ↓spObj, RI, RLg, b2i_lo, b2i_hi, getL, setL, ltL, killL, isLong, inl, cnd, br, tgt, rcv, rpl, mputI, mputL, mputP, fv, fr, mcat, mcs, entL, entA, rfit, nf_0, nf_1, nf_2, nf_3, nf2_0, nf2_1, b2i_0, b2i_1, RI_b2i, b2i_fit, List.append, List.length, List.replicate, List.cons_append, List.nil_append, List.length_cons, List.length_nil, List.replicate_succ, List.replicate_zero, List.tail_cons, reduceIte, if_true, if_false, ite_true, ite_false, Bool.false_eq_true, true_and, and_true, and_self, false_and, and_false, or_self, or_true, true_or, or_false, false_or, not_true_eq_false, not_false_eq_true, ne_eq, forall_const, implies_true, imp_self, true_implies, false_implies, Nat.reduceAdd, Nat.reduceSub, Nat.reduceMul, Nat.reduceDiv, Nat.reduceMod, Nat.reduceEqDiff, Nat.reduceLT, Nat.reduceLeDiff, Nat.reduceBEq, Nat.add_zero, Nat.zero_add, Nat.le_refl, Nat.not_lt_zero, Nat.succ_eq_add_one, Int.reduceNatCast, Int.cast_ofNat_Int, Int.reduceSub, Int.reduceMul, Int.reduceNeg, Int.reduceLE, Int.reduceLT, Int.reduceToNat, Int.reduceEq, Int.reduceNe, Int.reduceAdd, Option.some.injEq, ↓kb_834, rmL_law, G_0, G_1, G_240, G_272, c1, c2, c3, c4, c5, d1, d2, d3, d4, d5, q1, q2, q3, q4, q5, hk2, hj2, ↓ocL_law_122, ↓spX8_tyre, ↓ocL_law_125, ↓spX9_tyre, q, hx, hm]
    exact h _ _ _ _ _ hr
set_option maxRecDepth 100000 in
set_option maxHeartbeats 1600000 in
theorem lw_4 {post : Option MV → MS → Prop} {T : Pt → Prop} {n : Nat} {xs : Int → Int} (hxs : ∀ j, RI (xs j)) {i : Int} (i0 : 0 ≤ i) (i1 : i + 6 ≤ n) {I L : Int → Int → Int} (hr : REL I L) {t5 t6 t7 : Option MV} {k j : Nat} (hk : k ≤ 601000) (hj : j ≤ 7290000) (h : ∀ (I' L' : Int → Int → Int) (u5 u6 u7 : Option MV), REL I' L' → Ok RL cL_law 8 rmL_law false (some (n, xs)) post T (1433, [some (.inr (.inr (some 0))), some (.inr (.inr (some 1))), some (.inr (.inr (some 240))), some (.inr (.inr (some 272))), some (.inl i), u5, u6, u7], [], (273, PF, I', L'), k, j)) : Ok RL cL_law 8 rmL_law false (some (n, xs)) post T (332, [some (.inr (.inr (some 0))), some (.inr (.inr (some 1))), some (.inr (.inr (some 240))), some (.inr (.inr (some 272))), some (.inl i), t5, t6, t7], [], (273, PF, I, L), k, j) := by
  have q1 := hxs (i + 1)
  have q2 := hxs (i + 2)
  have q3 := hxs (i + 3)
  have q4 := hxs (i + 4)
  have q5 := hxs (i + 5)
  unfold RI at q1 q2 q3 q4 q5
  have c1 : 0 ≤ i + 1 := by omega
  have d1 : i + 1 < (n : Int) := by omega
  have c2 : 0 ≤ i + 2 := by omega
  have d2 : i + 2 < (n : Int) := by omega
  have c3 : 0 ≤ i + 3 := by omega
  have d3 : i + 3 < (n : Int) := by omega
  have c4 : 0 ≤ i + 4 := by omega
  have d4 : i + 4 < (n : Int) := by omega
  have c5 : 0 ≤ i + 5 := by omega
  have d5 : i + 5 < (n : Int) := by omega
  have hk2 : k ≤ 601024 := by omega
  have hj2 : j ≤ 7293034 := by omega
  obtain ⟨hx, hm, ht, hc, hn, hq, hs⟩ := id hr
  have h30 := hx.1.2.1
  by_cases q : setP (xs (i + 1)) (xs (i + 2))
  · by_cases z3 : xs (i + 1) = 3
    · have q' : setP 3 (xs (i + 2)) := by rw [← z3]; exact q
      refine Ok.seg mdL_law [1433] 90 ?_
      simp only [wp_nil, wp_cons, ↓stp, ↓lI, ↓lL, ↓lR, ↓lIn_0, ↓lIn_1, ↓lIn_2, ↓lIn_3, ↓lLn_0, ↓lLn_1, ↓lLn_2, ↓lLn_3, ↓lRn_0, ↓lRn_1, ↓lRn_2, ↓lRn_3, ↓pI, ↓pL, ↓pR, ↓pA, ↓pN, ↓pV, ↓fp, ↓tsw, ↓oS, ↓spMax, ↓spMin, ↓spAbs, ↓spObj, RI, RLg, b2i_lo, b2i_hi, getL, setL, ltL, killL, isLong, inl, cnd, br, tgt, rcv, rpl, mputI, mputL, mputP, fv, fr, mcat, mcs, entL, entA, rfit, nf_0, nf_1, nf_2, nf_3, nf2_0, nf2_1, b2i_0, b2i_1, RI_b2i, b2i_fit, List.append, List.length, List.replicate, List.cons_append, List.nil_append, List.length_cons, List.length_nil, List.replicate_succ, List.replicate_zero, List.tail_cons, reduceIte, if_true, if_false, ite_true, ite_false, Bool.false_eq_true, true_and, and_true, and_self, false_and, and_false, or_self, or_true, true_or, or_false, false_or, not_true_eq_false, not_false_eq_true, ne_eq, forall_const, implies_true, imp_self, true_implies, false_implies, Nat.reduceAdd, Nat.reduceSub, Nat.reduceMul, Nat.reduceDiv, Nat.reduceMod, Nat.reduceEqDiff, Nat.reduceLT, Nat.reduceLeDiff, Nat.reduceBEq, Nat.add_zero, Nat.zero_add, Nat.le_refl, Nat.not_lt_zero, Nat.succ_eq_add_one, Int.reduceNatCast, Int.cast_ofNat_Int, Int.reduceSub, Int.reduceMul, Int.reduceNeg, Int.reduceLE, Int.reduceLT, Int.reduceToNat, Int.reduceEq, Int.reduceNe, Int.reduceAdd, Option.some.injEq, ↓kb_332, rmL_law, G_0, G_1, G_240, G_272, c1, c2, c3, c4, c5, d1, d2, d3, d4, d5, q1, q2, q3, q4, q5, hk2, hj2, ↓ocL_law_56, ↓spX8_set, ↓ocL_law_59, ↓spX9_set, q', z3, hx]
      intro I1 f x e5
      refine ⟨mOK_hi (fun b k b0 => f b k (by omega) (by omega) (by omega) (by omega) (by omega)) hm, fun I2 g m g5 => ?_⟩
      have lo : ∀ b k, b < 240 → I2 b k = I1 b k := fun b k b0 => g b k (by omega) (by omega)
      have G : ∀ c k, rlv c k → ¬ (c = 179 ∧ k = 4) → ¬ (c = 240 ∧ k = 5) → I2 c k = I c k := fun c k r z1 z2 => by
        unfold rlv at r
        exact (g c k (by omega) (by omega)).trans (f c k (by omega) (by omega) (by omega) (by omega) (by omega))
      unfold rlv at G
      rw [f 240 5 (by omega) (by omega) (by omega) (by omega) (by omega), ← hq.1]
      have r := hx.2.2.2.2.1.1.2.1
      refine ⟨by omega, by omega, fun _ => h _ _ _ _ _ ⟨xOK_lo lo x, m, ht.cg hx.1.2.1 (fun b k _ _ => G b k (by omega) (by omega) (by omega)) (G _ _ (by omega) (by omega) (by omega)) (fun b k _ _ => G b k (by omega) (by omega) (by omega)), hc.cg (fun b k _ _ => G b k (by omega) (by omega) (by omega)) (fun b k _ _ => G b k (by omega) (by omega) (by omega)), hn.cg (fun k _ _ => G _ _ (by omega) (by omega) (by omega)) (fun k _ _ => G _ _ (by omega) (by omega) (by omega)), ⟨?_, ?_, fun k => ?_⟩, fun d d0 d1 => (hs d d0 d1).cg (fun b k _ _ => G _ _ (by omega) (by omega) (by omega)) (fun b _ _ => G _ _ (by omega) (by omega) (by omega)) (fun i _ _ => G _ _ (by omega) (by omega) (by omega)) (fun _ => (hm.2.2.2.2 d d0 d1).2.1.2)⟩, fun z => (z rfl).elim⟩
      · rw [lo 179 4 (by omega), e5, g5]
      · rw [G 179 5 (by omega) (by omega) (by omega), G 240 25 (by omega) (by omega) (by omega)]; exact hq.2.1
      · rw [G 180 k (by omega) (by omega) (by omega), G 181 k (by omega) (by omega) (by omega), G 258 k (by omega) (by omega) (by omega), G 259 k (by omega) (by omega) (by omega)]; exact hq.2.2 k
    · have q' := q
      unfold setP at q'
      have zw : xs (i + 1) = 0 ∨ xs (i + 1) = 1 ∨ xs (i + 1) = 2 := by omega
      refine Ok.seg mdL_law [1433] 90 ?_
      simp only [wp_nil, wp_cons, ↓stp, ↓lI, ↓lL, ↓lR, ↓lIn_0, ↓lIn_1, ↓lIn_2, ↓lIn_3, ↓lLn_0, ↓lLn_1, ↓lLn_2, ↓lLn_3, ↓lRn_0, ↓lRn_1, ↓lRn_2, ↓lRn_3, ↓pI, ↓pL, ↓pR, ↓pA, ↓pN, ↓pV, ↓fp, ↓tsw, ↓oS, ↓spMax, ↓spMin, ↓spAbs, ↓spObj, RI, RLg, b2i_lo, b2i_hi, getL, setL, ltL, killL, isLong, inl, cnd, br, tgt, rcv, rpl, mputI, mputL, mputP, fv, fr, mcat, mcs, entL, entA, rfit, nf_0, nf_1, nf_2, nf_3, nf2_0, nf2_1, b2i_0, b2i_1, RI_b2i, b2i_fit, List.append, List.length, List.replicate, List.cons_append, List.nil_append, List.length_cons, List.length_nil, List.replicate_succ, List.replicate_zero, List.tail_cons, reduceIte, if_true, if_false, ite_true, ite_false, Bool.false_eq_true, true_and, and_true, and_self, false_and, and_false, or_self, or_true, true_or, or_false, false_or, not_true_eq_false, not_false_eq_true, ne_eq, forall_const, implies_true, imp_self, true_implies, false_implies, Nat.reduceAdd, Nat.reduceSub, Nat.reduceMul, Nat.reduceDiv, Nat.reduceMod, Nat.reduceEqDiff, Nat.reduceLT, Nat.reduceLeDiff, Nat.reduceBEq, Nat.add_zero, Nat.zero_add, Nat.le_refl, Nat.not_lt_zero, Nat.succ_eq_add_one, Int.reduceNatCast, Int.cast_ofNat_Int, Int.reduceSub, Int.reduceMul, Int.reduceNeg, Int.reduceLE, Int.reduceLT, Int.reduceToNat, Int.reduceEq, Int.reduceNe, Int.reduceAdd, Option.some.injEq, ↓kb_332, rmL_law, G_0, G_1, G_240, G_272, c1, c2, c3, c4, c5, d1, d2, d3, d4, d5, q1, q2, q3, q4, q5, hk2, hj2, ↓ocL_law_56, ↓spX8_set, ↓ocL_law_59, ↓spX9_set, q, z3, hx]
      intro I1 f x e5
      refine ⟨mOK_hi (fun b k b0 => f b k (by omega) (by omega) (by omega) (by omega) (by omega)) hm, fun I2 g m g5 => ?_⟩
      have lo : ∀ b k, b < 240 → I2 b k = I1 b k := fun b k b0 => g b k (by omega) (by omega)
      have G : ∀ c k, rlv c k → ¬ (c = 36 ∧ k = xs (i + 1)) → ¬ (c = 240 ∧ k = 2 + xs (i + 1)) → I2 c k = I c k := fun c k r z1 z2 => by
        unfold rlv at r
        exact (g c k (by omega) (by omega)).trans (f c k (by omega) (by omega) (by omega) (by omega) (by omega))
      unfold rlv at G
      have ev : I1 240 (2 + xs (i + 1)) = I 36 (xs (i + 1)) := by
        rw [f 240 _ (by omega) (by omega) (by omega) (by omega) (by omega)]
        rcases zw with z | z | z
        · rw [z]; exact hn.1.symm
        · rw [z]; exact hn.2.1.symm
        · rw [z]; exact hn.2.2.symm
      have r : -20 ≤ I 36 (xs (i + 1)) ∧ I 36 (xs (i + 1)) ≤ 60 := by
        have u := hx.2.1.2
        unfold nOK at u
        rcases zw with z | z | z
        · rw [z]; omega
        · rw [z]; omega
        · rw [z]; omega
      rw [ev]
      have eq : I2 36 (xs (i + 1)) = I2 240 (2 + xs (i + 1)) := by rw [lo 36 _ (by omega), e5, g5]
      refine ⟨by omega, by omega, fun _ => h _ _ _ _ _ ⟨xOK_lo lo x, m, ht.cg hx.1.2.1 (fun b k _ _ => G b k (by omega) (by omega) (by omega)) (G _ _ (by omega) (by omega) (by omega)) (fun b k _ _ => G b k (by omega) (by omega) (by omega)), hc.cg (fun b k _ _ => G b k (by omega) (by omega) (by omega)) (fun b k _ _ => G b k (by omega) (by omega) (by omega)), ?_, hq.cg (fun k _ _ => G _ _ (by omega) (by omega) (by omega)) (fun b k _ _ => G _ _ (by omega) (by omega) (by omega)) (fun k _ => G _ _ (by omega) (by omega) (by omega)) (fun b k _ _ => G _ _ (by omega) (by omega) (by omega)), fun d d0 d1 => (hs d d0 d1).cg (fun b k _ _ => G _ _ (by omega) (by omega) (by omega)) (fun b _ _ => G _ _ (by omega) (by omega) (by omega)) (fun i _ _ => G _ _ (by omega) (by omega) (by omega)) (fun _ => (hm.2.2.2.2 d d0 d1).2.1.2)⟩, fun z => (z rfl).elim⟩
      rcases zw with z | z | z
      · rw [z] at eq
        exact ⟨eq, by rw [G 36 1 (by omega) (by omega) (by omega), G 240 3 (by omega) (by omega) (by omega)]; exact hn.2.1, by rw [G 36 2 (by omega) (by omega) (by omega), G 240 4 (by omega) (by omega) (by omega)]; exact hn.2.2⟩
      · rw [z] at eq
        exact ⟨by rw [G 36 0 (by omega) (by omega) (by omega), G 240 2 (by omega) (by omega) (by omega)]; exact hn.1, eq, by rw [G 36 2 (by omega) (by omega) (by omega), G 240 4 (by omega) (by omega) (by omega)]; exact hn.2.2⟩
      · rw [z] at eq
        exact ⟨by rw [G 36 0 (by omega) (by omega) (by omega), G 240 2 (by omega) (by omega) (by omega)]; exact hn.1, by rw [G 36 1 (by omega) (by omega) (by omega), G 240 3 (by omega) (by omega) (by omega)]; exact hn.2.1, eq⟩
  · skip
    refine Ok.seg mdL_law [1433] 90 ?_
    simp only [wp_nil, wp_cons, ↓stp, ↓lI, ↓lL, ↓lR, ↓lIn_0, ↓lIn_1, ↓lIn_2, ↓lIn_3, ↓lLn_0, ↓lLn_1, ↓lLn_2, ↓lLn_3, ↓lRn_0, ↓lRn_1, ↓lRn_2, ↓lRn_3, ↓pI, ↓pL, ↓pR, ↓pA, ↓pN, ↓pV, ↓fp, ↓tsw, ↓oS, ↓spMax, ↓spMin, ↓spAbs, ↓spObj, RI, RLg, b2i_lo, b2i_hi, getL, setL, ltL, killL, isLong, inl, cnd, br, tgt, rcv, rpl, mputI, mputL, mputP, fv, fr, mcat, mcs, entL, entA, rfit, nf_0, nf_1, nf_2, nf_3, nf2_0, nf2_1, b2i_0, b2i_1, RI_b2i, b2i_fit, List.append, List.length, List.replicate, List.cons_append, List.nil_append, List.length_cons, List.length_nil, List.replicate_succ, List.replicate_zero, List.tail_cons, reduceIte, if_true, if_false, ite_true, ite_false, Bool.false_eq_true, true_and, and_true, and_self, false_and, and_false, or_self, or_true, true_or, or_false, false_or, not_true_eq_false, not_false_eq_true, ne_eq, forall_const, implies_true, imp_self, true_implies, false_implies, Nat.reduceAdd, Nat.reduceSub, Nat.reduceMul, Nat.reduceDiv, Nat.reduceMod, Nat.reduceEqDiff, Nat.reduceLT, Nat.reduceLeDiff, Nat.reduceBEq, Nat.add_zero, Nat.zero_add, Nat.le_refl, Nat.not_lt_zero, Nat.succ_eq_add_one, Int.reduceNatCast, Int.cast_ofNat_Int, Int.reduceSub, Int.reduceMul, Int.reduceNeg, Int.reduceLE, Int.reduceLT, Int.reduceToNat, Int.reduceEq, Int.reduceNe, Int.reduceAdd, Option.some.injEq, ↓kb_332, rmL_law, G_0, G_1, G_240, G_272, c1, c2, c3, c4, c5, d1, d2, d3, d4, d5, q1, q2, q3, q4, q5, hk2, hj2, ↓ocL_law_56, ↓spX8_set, ↓ocL_law_59, ↓spX9_set, q, hx, hm]
    exact h _ _ _ _ _ hr
