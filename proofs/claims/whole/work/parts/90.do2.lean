/-! the law, case by case: keep, make, copy -/
theorem ts0 {I : Int → Int → Int} (hn : I 3 1 ≤ 30) (t : RT I) (c : RC I) : tsame I (VM I) := by
  refine ⟨t.1.symm, fun i k i0 i1 k0 k1 => ?_, fun k => ?_, fun k => ?_⟩
  · obtain ⟨e0, e1, e2, e3, e4⟩ := VM_st (I := I) i0 (by omega)
    obtain ⟨f0, f1, f2, f3, f4⟩ := t.2 i i0 i1
    rcases (show k = 0 ∨ k = 1 ∨ k = 2 ∨ k = 3 by omega) with rfl | rfl | rfl | rfl
    · rw [e0, f0]
    · rw [e1, f1]
    · rw [e2, f2]
    · rw [e3, f3]
  · rw [VM_38]; exact (c k).1.symm
  · rw [VM_39]; exact (c k).2.symm
/-- best ways, without a word on shelves -/
theorem best0 {I : Int → Int → Int} (hn : I 3 1 ≤ 30) (t : RT I) (c : RC I) (n : RN I) (a : bestOK I) (b : bestM I) : ∀ i, 0 ≤ i → i < I 3 1 → I 42 i = I 251 i := by
  have ts := ts0 hn t c
  have e38 : I 38 = I 246 := funext fun k => (c k).1
  have e39 : I 39 = I 247 := funext fun k => (c k).2
  obtain ⟨B, a1, a2, a3, a4⟩ := a
  obtain ⟨B', b1, b2, b3⟩ := b
  rw [← n.1, ← n.2.1, ← n.2.2] at b1 b2
  have e := (lapT_cg ts a1).uniq b1
  subst e
  have hl := (LexB_ts ts a2).uniq b2
  have hl : ∀ j, 0 ≤ j → j < I 3 1 → I 41 j = I 250 j := fun j j0 j1 => hl (j.toNat + 1) j j0 (by omega) (by rw [VM_31, ← t.1]; exact j1)
  obtain ⟨c1, c2⟩ := a3
  unfold mMx at b3
  rw [← e38, ← e39, ← n.2.1, ← n.2.2, ← t.1] at b3
  refine c1.uniq (b3.cg (lm' := fun j => lmv I (I 36 0) j (I 41 j)) (fun i i0 i1 => ?_) (fun _ _ _ => rfl))
  show mlm I i = lmv I (I 36 0) i (I 41 i)
  unfold mlm lmv
  rw [ts.2.1 i 0 i0 i1 (by omega) (by omega), ts.2.1 i 2 i0 i1 (by omega) (by omega), ts.2.1 i 3 i0 i1 (by omega) (by omega), ← n.1, hl i i0 i1]
/-- a call on shelf d: what it leaves of all else, and shelf d anew -/
theorem REL.sh {I K L L' : Int → Int → Int} {d : Int} (h : REL I L) (d0 : 0 ≤ d) (d1 : d ≤ 7) (r : ∀ b k, rlv b k → ¬ (208 + 4 * d ≤ b ∧ b ≤ 208 + 4 * d + 3) → ¬ (264 ≤ b ∧ b ≤ 269 ∧ k = d) → ¬ (b = 270 ∧ 60 * d ≤ k ∧ k < 60 * d + 60) → K b k = I b k) (x : xOK K) (m : mOK K L') (hs : RT K → RC K → RN K → shR K d) : REL K L' := by
  obtain ⟨x0, m0, t, c, n, q, s⟩ := h
  unfold rlv at r
  have t' : RT K := t.cg x0.1.2.1 (fun b k _ _ => r b k (by omega) (by omega) (by omega) (by omega)) (r _ _ (by omega) (by omega) (by omega) (by omega)) (fun b k _ _ => r b k (by omega) (by omega) (by omega) (by omega))
  have c' : RC K := c.cg (fun b k _ _ => r b k (by omega) (by omega) (by omega) (by omega)) (fun b k _ _ => r b k (by omega) (by omega) (by omega) (by omega))
  have n' : RN K := n.cg (fun k _ _ => r _ _ (by omega) (by omega) (by omega) (by omega)) (fun k _ _ => r _ _ (by omega) (by omega) (by omega) (by omega))
  refine ⟨x, m, t', c', n', q.cg (fun k _ _ => r _ _ (by omega) (by omega) (by omega) (by omega)) (fun b k _ _ => r _ _ (by omega) (by omega) (by omega) (by omega)) (fun k _ => r _ _ (by omega) (by omega) (by omega) (by omega)) (fun b k _ _ => r _ _ (by omega) (by omega) (by omega) (by omega)), fun e e0 e1 => ?_⟩
  by_cases z : e = d
  · rw [z]; exact hs t' c' n'
  · exact (s e e0 e1).cg (fun b k _ _ => r b k (by omega) (by omega) (by omega) (by omega)) (fun b _ _ => r b _ (by omega) (by omega) (by omega) (by omega)) (fun i _ _ => r _ _ (by omega) (by omega) (by omega) (by omega)) (fun _ => (m0.2.2.2.2 e e0 e1).2.1.2)
set_option maxRecDepth 100000 in
set_option maxHeartbeats 1600000 in
theorem lw_27 {post : Option MV → MS → Prop} {T : Pt → Prop} {n : Nat} {xs : Int → Int} (hxs : ∀ j, RI (xs j)) {i : Int} (i0 : 0 ≤ i) (i1 : i + 6 ≤ n) {I L : Int → Int → Int} (hr : REL I L) {t5 t6 t7 : Option MV} {k j : Nat} (hk : k ≤ 601000) (hj : j ≤ 7290000) (h : ∀ (I' L' : Int → Int → Int) (u5 u6 u7 : Option MV), REL I' L' → Ok RL cL_law 8 rmL_law false (some (n, xs)) post T (1433, [some (.inr (.inr (some 0))), some (.inr (.inr (some 1))), some (.inr (.inr (some 240))), some (.inr (.inr (some 272))), some (.inl i), u5, u6, u7], [], (273, PF, I', L'), k, j)) : Ok RL cL_law 8 rmL_law false (some (n, xs)) post T (1194, [some (.inr (.inr (some 0))), some (.inr (.inr (some 1))), some (.inr (.inr (some 240))), some (.inr (.inr (some 272))), some (.inl i), t5, t6, t7], [], (273, PF, I, L), k, j) := by
  have q1 := hxs (i + 1)
  have q2 := hxs (i + 2)
  have q3 := hxs (i + 3)
  have q4 := hxs (i + 4)
  have q5 := hxs (i + 5)
  unfold RI at q1 q2 q3 q4 q5
  have c1 : 0 ≤ i + 1 := by omega
  have d1 : i + 1 < (n : Int) := by omega
  have c2 : 0 ≤ i + 2 := by omega
  have d2 : i + 2 < (n : Int) := by omega
  have c3 : 0 ≤ i + 3 := by omega
  have d3 : i + 3 < (n : Int) := by omega
  have c4 : 0 ≤ i + 4 := by omega
  have d4 : i + 4 < (n : Int) := by omega
  have c5 : 0 ≤ i + 5 := by omega
  have d5 : i + 5 < (n : Int) := by omega
  have hk2 : k ≤ 601024 := by omega
  have hj2 : j ≤ 7293034 := by omega
  obtain ⟨hx, hm, ht, hc, hn, hq, hs⟩ := id hr
  by_cases q : 0 ≤ xs (i + 1) ∧ xs (i + 1) ≤ 7 ∧ 3 ≤ xs (i + 2) ∧ xs (i + 2) ≤ 4 ∧ xs (i + 3) ≤ 60
  · by_cases z : xs (i + 3) < 0
    · have z' : ¬ 0 ≤ xs (i + 3) := by omega
      refine Ok.seg mdL_law [1433] 90 ?_
      simp only [wp_nil, wp_cons, ↓stp, ↓lI, ↓lL, ↓lR, ↓lIn_0, ↓lIn_1, ↓lIn_2, ↓lIn_3, ↓lLn_0, ↓lLn_1, ↓lLn_2, ↓lLn_3, ↓lRn_0, ↓lRn_1, ↓lRn_2, ↓lRn_3, ↓pI, ↓pL, ↓pR, ↓pA, ↓pN, ↓pV, ↓fp, ↓tsw, ↓oS, ↓spMax, ↓spMin, ↓spAbs, ↓spObj, RI, RLg, b2i_lo, b2i_hi, getL, setL, ltL, killL, isLong, inl, cnd, br, tgt, rcv, rpl, mputI, mputL, mputP, fv, fr, mcat, mcs, entL, entA, rfit, nf_0, nf_1, nf_2, nf_3, nf2_0, nf2_1, b2i_0, b2i_1, RI_b2i, b2i_fit, List.append, List.length, List.replicate, List.cons_append, List.nil_append, List.length_cons, List.length_nil, List.replicate_succ, List.replicate_zero, List.tail_cons, reduceIte, if_true, if_false, ite_true, ite_false, Bool.false_eq_true, true_and, and_true, and_self, false_and, and_false, or_self, or_true, true_or, or_false, false_or, not_true_eq_false, not_false_eq_true, ne_eq, forall_const, implies_true, imp_self, true_implies, false_implies, Nat.reduceAdd, Nat.reduceSub, Nat.reduceMul, Nat.reduceDiv, Nat.reduceMod, Nat.reduceEqDiff, Nat.reduceLT, Nat.reduceLeDiff, Nat.reduceBEq, Nat.add_zero, Nat.zero_add, Nat.le_refl, Nat.not_lt_zero, Nat.succ_eq_add_one, Int.reduceNatCast, Int.cast_ofNat_Int, Int.reduceSub, Int.reduceMul, Int.reduceNeg, Int.reduceLE, Int.reduceLT, Int.reduceToNat, Int.reduceEq, Int.reduceNe, Int.reduceAdd, Option.some.injEq, ↓kb_1194, rmL_law, G_0, G_1, G_240, G_272, c1, c2, c3, c4, c5, d1, d2, d3, d4, d5, q1, q2, q3, q4, q5, hk2, hj2, ↓ocL_law_153, ↓spX8_make, ↓ocL_law_156, ↓spX9_make, q, z, z', hx, hm]
      exact h _ _ _ _ _ hr
    · have z' : 0 ≤ xs (i + 3) := by omega
      refine Ok.seg mdL_law [1433] 90 ?_
      simp only [wp_nil, wp_cons, ↓stp, ↓lI, ↓lL, ↓lR, ↓lIn_0, ↓lIn_1, ↓lIn_2, ↓lIn_3, ↓lLn_0, ↓lLn_1, ↓lLn_2, ↓lLn_3, ↓lRn_0, ↓lRn_1, ↓lRn_2, ↓lRn_3, ↓pI, ↓pL, ↓pR, ↓pA, ↓pN, ↓pV, ↓fp, ↓tsw, ↓oS, ↓spMax, ↓spMin, ↓spAbs, ↓spObj, RI, RLg, b2i_lo, b2i_hi, getL, setL, ltL, killL, isLong, inl, cnd, br, tgt, rcv, rpl, mputI, mputL, mputP, fv, fr, mcat, mcs, entL, entA, rfit, nf_0, nf_1, nf_2, nf_3, nf2_0, nf2_1, b2i_0, b2i_1, RI_b2i, b2i_fit, List.append, List.length, List.replicate, List.cons_append, List.nil_append, List.length_cons, List.length_nil, List.replicate_succ, List.replicate_zero, List.tail_cons, reduceIte, if_true, if_false, ite_true, ite_false, Bool.false_eq_true, true_and, and_true, and_self, false_and, and_false, or_self, or_true, true_or, or_false, false_or, not_true_eq_false, not_false_eq_true, ne_eq, forall_const, implies_true, imp_self, true_implies, false_implies, Nat.reduceAdd, Nat.reduceSub, Nat.reduceMul, Nat.reduceDiv, Nat.reduceMod, Nat.reduceEqDiff, Nat.reduceLT, Nat.reduceLeDiff, Nat.reduceBEq, Nat.add_zero, Nat.zero_add, Nat.le_refl, Nat.not_lt_zero, Nat.succ_eq_add_one, Int.reduceNatCast, Int.cast_ofNat_Int, Int.reduceSub, Int.reduceMul, Int.reduceNeg, Int.reduceLE, Int.reduceLT, Int.reduceToNat, Int.reduceEq, Int.reduceNe, Int.reduceAdd, Option.some.injEq, ↓kb_1194, rmL_law, G_0, G_1, G_240, G_272, c1, c2, c3, c4, c5, d1, d2, d3, d4, d5, q1, q2, q3, q4, q5, hk2, hj2, ↓ocL_law_153, ↓spX8_make, ↓ocL_law_156, ↓spX9_make, q, z, z', hx]
      intro I1 f x e0 e1 e2
      refine ⟨mOK_hi (fun b k b0 => f b k (by omega) (by omega) (by omega) (by omega) (by omega)) hm, fun I2 g m g0 g1 g2 => h _ _ _ _ _ (hr.sh (d := xs (i + 1)) q.1 q.2.1 (fun b k r z1 z2 z3 => ?_) (xOK_lo (fun b k b0 => g b k (by omega) (by omega) (by omega)) x) m (fun _ _ _ => ?_))⟩
      · unfold rlv at r
        exact (g b k (by omega) (by omega) (by omega)).trans (f b k (by omega) (by omega) (by omega) (by omega) (by omega))
      · unfold shR
        rw [g _ 0 (by omega) (by omega) (by omega), g (208 + 4 * xs (i + 1)) 1 (by omega) (by omega) (by omega), e0, e1, g0, g1]
        exact ⟨rfl, fun _ => ⟨rfl, fun s s0 s1 => by rw [itm_cg (I := I1) (fun c k _ _ => g c k (by omega) (by omega) (by omega)), e2 s s0 (by omega), g2 s s0 (by omega)]⟩, fun y => by omega⟩
  · skip
    refine Ok.seg mdL_law [1433] 90 ?_
    simp only [wp_nil, wp_cons, ↓stp, ↓lI, ↓lL, ↓lR, ↓lIn_0, ↓lIn_1, ↓lIn_2, ↓lIn_3, ↓lLn_0, ↓lLn_1, ↓lLn_2, ↓lLn_3, ↓lRn_0, ↓lRn_1, ↓lRn_2, ↓lRn_3, ↓pI, ↓pL, ↓pR, ↓pA, ↓pN, ↓pV, ↓fp, ↓tsw, ↓oS, ↓spMax, ↓spMin, ↓spAbs, ↓spObj, RI, RLg, b2i_lo, b2i_hi, getL, setL, ltL, killL, isLong, inl, cnd, br, tgt, rcv, rpl, mputI, mputL, mputP, fv, fr, mcat, mcs, entL, entA, rfit, nf_0, nf_1, nf_2, nf_3, nf2_0, nf2_1, b2i_0, b2i_1, RI_b2i, b2i_fit, List.append, List.length, List.replicate, List.cons_append, List.nil_append, List.length_cons, List.length_nil, List.replicate_succ, List.replicate_zero, List.tail_cons, reduceIte, if_true, if_false, ite_true, ite_false, Bool.false_eq_true, true_and, and_true, and_self, false_and, and_false, or_self, or_true, true_or, or_false, false_or, not_true_eq_false, not_false_eq_true, ne_eq, forall_const, implies_true, imp_self, true_implies, false_implies, Nat.reduceAdd, Nat.reduceSub, Nat.reduceMul, Nat.reduceDiv, Nat.reduceMod, Nat.reduceEqDiff, Nat.reduceLT, Nat.reduceLeDiff, Nat.reduceBEq, Nat.add_zero, Nat.zero_add, Nat.le_refl, Nat.not_lt_zero, Nat.succ_eq_add_one, Int.reduceNatCast, Int.cast_ofNat_Int, Int.reduceSub, Int.reduceMul, Int.reduceNeg, Int.reduceLE, Int.reduceLT, Int.reduceToNat, Int.reduceEq, Int.reduceNe, Int.reduceAdd, Option.some.injEq, ↓kb_1194, rmL_law, G_0, G_1, G_240, G_272, c1, c2, c3, c4, c5, d1, d2, d3, d4, d5, q1, q2, q3, q4, q5, hk2, hj2, ↓ocL_law_153, ↓spX8_make, ↓ocL_law_156, ↓spX9_make, q, hx, hm]
    exact h _ _ _ _ _ hr
set_option maxRecDepth 100000 in
set_option maxHeartbeats 1600000 in
theorem lw_26 {post : Option MV → MS → Prop} {T : Pt → Prop} {n : Nat} {xs : Int → Int} (hxs : ∀ j, RI (xs j)) {i : Int} (i0 : 0 ≤ i) (i1 : i + 6 ≤ n) {I L : Int → Int → Int} (hr : REL I L) {t5 t6 t7 : Option MV} {k j : Nat} (hk : k ≤ 601000) (hj : j ≤ 7290000) (h : ∀ (I' L' : Int → Int → Int) (u5 u6 u7 : Option MV), REL I' L' → Ok RL cL_law 8 rmL_law false (some (n, xs)) post T (1433, [some (.inr (.inr (some 0))), some (.inr (.inr (some 1))), some (.inr (.inr (some 240))), some (.inr (.inr (some 272))), some (.inl i), u5, u6, u7], [], (273, PF, I', L'), k, j)) : Ok RL cL_law 8 rmL_law false (some (n, xs)) post T (1145, [some (.inr (.inr (some 0))), some (.inr (.inr (some 1))), some (.inr (.inr (some 240))), some (.inr (.inr (some 272))), some (.inl i), t5, t6, t7], [], (273, PF, I, L), k, j) := by
  have q1 := hxs (i + 1)
  have q2 := hxs (i + 2)
  have q3 := hxs (i + 3)
  have q4 := hxs (i + 4)
  have q5 := hxs (i + 5)
  unfold RI at q1 q2 q3 q4 q5
  have c1 : 0 ≤ i + 1 := by omega
  have d1 : i + 1 < (n : Int) := by omega
  have c2 : 0 ≤ i + 2 := by omega
  have d2 : i + 2 < (n : Int) := by omega
  have c3 : 0 ≤ i + 3 := by omega
  have d3 : i + 3 < (n : Int) := by omega
  have c4 : 0 ≤ i + 4 := by omega
  have d4 : i + 4 < (n : Int) := by omega
  have c5 : 0 ≤ i + 5 := by omega
  have d5 : i + 5 < (n : Int) := by omega
  have hk2 : k ≤ 601024 := by omega
  have hj2 : j ≤ 7293034 := by omega
  obtain ⟨hx, hm, ht, hc, hn, hq, hs⟩ := id hr
  have hn30 := hx.1.2.1
  by_cases q : goodK I (xs (i + 1)) (xs (i + 2)) (xs (i + 3))
  · skip
    refine Ok.seg mdL_law [1433] 90 ?_
    simp only [wp_nil, wp_cons, ↓stp, ↓lI, ↓lL, ↓lR, ↓lIn_0, ↓lIn_1, ↓lIn_2, ↓lIn_3, ↓lLn_0, ↓lLn_1, ↓lLn_2, ↓lLn_3, ↓lRn_0, ↓lRn_1, ↓lRn_2, ↓lRn_3, ↓pI, ↓pL, ↓pR, ↓pA, ↓pN, ↓pV, ↓fp, ↓tsw, ↓oS, ↓spMax, ↓spMin, ↓spAbs, ↓spObj, RI, RLg, b2i_lo, b2i_hi, getL, setL, ltL, killL, isLong, inl, cnd, br, tgt, rcv, rpl, mputI, mputL, mputP, fv, fr, mcat, mcs, entL, entA, rfit, nf_0, nf_1, nf_2, nf_3, nf2_0, nf2_1, b2i_0, b2i_1, RI_b2i, b2i_fit, List.append, List.length, List.replicate, List.cons_append, List.nil_append, List.length_cons, List.length_nil, List.replicate_succ, List.replicate_zero, List.tail_cons, reduceIte, if_true, if_false, ite_true, ite_false, Bool.false_eq_true, true_and, and_true, and_self, false_and, and_false, or_self, or_true, true_or, or_false, false_or, not_true_eq_false, not_false_eq_true, ne_eq, forall_const, implies_true, imp_self, true_implies, false_implies, Nat.reduceAdd, Nat.reduceSub, Nat.reduceMul, Nat.reduceDiv, Nat.reduceMod, Nat.reduceEqDiff, Nat.reduceLT, Nat.reduceLeDiff, Nat.reduceBEq, Nat.add_zero, Nat.zero_add, Nat.le_refl, Nat.not_lt_zero, Nat.succ_eq_add_one, Int.reduceNatCast, Int.cast_ofNat_Int, Int.reduceSub, Int.reduceMul, Int.reduceNeg, Int.reduceLE, Int.reduceLT, Int.reduceToNat, Int.reduceEq, Int.reduceNe, Int.reduceAdd, Option.some.injEq, ↓kb_1145, rmL_law, G_0, G_1, G_240, G_272, c1, c2, c3, c4, c5, d1, d2, d3, d4, d5, q1, q2, q3, q4, q5, hk2, hj2, ↓ocL_law_149, ↓spX8_keep, ↓ocL_law_152, ↓spX9_keep, q, hx]
    intro I1 f x kp
    have hd : 0 ≤ xs (i + 1) ∧ xs (i + 1) ≤ 7 := q.1
    have hi : ∀ b k, 240 ≤ b → I1 b k = I b k := fun b k b0 => f b k (by omega) (by omega) (by omega) (by omega) (by omega)
    have n1 : I1 240 1 = I 3 1 := (hi _ _ (by omega)).trans ht.1.symm
    have q' : goodM I1 (xs (i + 1)) (xs (i + 2)) (xs (i + 3)) := by unfold goodM; rw [n1]; exact q
    have V : VM I1 = VM I := VM_cg (fun k _ => hi _ _ (by omega)) (fun b k b0 _ => hi _ _ (by omega)) (fun b k b0 _ => hi _ _ (by omega))
    refine ⟨mOK_hi hi hm, fun z => (z q').elim, fun _ I2 L2 g gl m km => h _ _ _ _ _ (hr.sh (d := xs (i + 1)) hd.1 hd.2 (fun b k r y1 y2 y3 => ?_) (xOK_lo (fun b k b0 => g b k (by omega) (by omega) (by omega) (by omega) (by omega) (by omega)) x) m (fun t2 c2 n2 => ?_))⟩
    · unfold rlv at r
      exact (g b k (by omega) (by omega) (by omega) (by omega) (by omega) (by omega)).trans (f b k (by omega) (by omega) (by omega) (by omega) (by omega))
    · have lo : ∀ b k, b < 240 → I2 b k = I1 b k := fun b k b0 => g b k (by omega) (by omega) (by omega) (by omega) (by omega) (by omega)
      have m31 : I2 3 1 = I 3 1 := (lo _ _ (by omega)).trans (f _ _ (by omega) (by omega) (by omega) (by omega) (by omega))
      obtain ⟨p0, p1, p3, p4⟩ := kp
      obtain ⟨r0, r1, r3, r4⟩ := km
      unfold shR
      rw [lo _ 0 (by omega), p0, r0]
      refine ⟨rfl, fun y => ?_, fun y => ?_⟩
      · have ex : ∀ s, itm I2 (208 + 4 * xs (i + 1)) s = itm I1 (208 + 4 * xs (i + 1)) s := fun s => itm_cg (fun c k _ _ => lo c k (by omega))
        have hb : xs (i + 2) = 3 ∨ xs (i + 2) = 4 := by
          have := q.2
          omega
        rcases hb with hb | hb
        · obtain ⟨s1, s2, s3⟩ := p3 hb
          obtain ⟨v1, v2, v3⟩ := r3 hb
          rw [n1] at v1 v3
          rw [lo _ 1 (by omega), s1, v1]
          refine ⟨rfl, fun s s0 sn => ?_⟩
          rw [ex, s3 s s0 sn, v3 s s0 sn, ← best0 (by omega) t2 c2 n2 (bestOK_lo x.1.2.1 lo s2) v2 s s0 (by omega), lo _ _ (by omega)]
        · obtain ⟨s1, w, s2, s3⟩ := p4 hb
          obtain ⟨v1, w', v2, v3⟩ := r4 hb
          rw [n1] at v1 v3
          rw [V] at v2
          rw [lo _ 1 (by omega), s1, v1]
          refine ⟨rfl, fun s s0 sn => ?_⟩
          rw [ex, s3 s s0 sn, v3 s s0 sn]
          exact hr.stay s2 v2 s s0 sn
      · have pk := p1 y
        obtain ⟨v0, v1, v2, v3⟩ := r1 y
        have hk : 0 ≤ xs (i + 3) ∧ xs (i + 3) < I 3 1 := by
          have := q.2
          omega
        have u := ht.2 (xs (i + 3)) hk.1 hk.2
        rw [lo _ 0 (by omega), lo _ 1 (by omega), lo _ 2 (by omega), lo _ 3 (by omega), pk 0 (by omega) (by omega), pk 1 (by omega) (by omega), pk 2 (by omega) (by omega), pk 3 (by omega) (by omega), v0, v1, v2, v3, hi 241 _ (by omega), hi 242 _ (by omega), hi 243 _ (by omega), hi 244 _ (by omega)]
        exact ⟨u.1, u.2.1, u.2.2.1, u.2.2.2.1⟩
  · have q' : ¬ goodM I (xs (i + 1)) (xs (i + 2)) (xs (i + 3)) := by unfold goodM; rw [← ht.1]; exact q
    refine Ok.seg mdL_law [1433] 90 ?_
    simp only [wp_nil, wp_cons, ↓stp, ↓lI, ↓lL, ↓lR, ↓lIn_0, ↓lIn_1, ↓lIn_2, ↓lIn_3, ↓lLn_0, ↓lLn_1, ↓lLn_2, ↓lLn_3, ↓lRn_0, ↓lRn_1, ↓lRn_2, ↓lRn_3, ↓pI, ↓pL, ↓pR, ↓pA, ↓pN, ↓pV, ↓fp, ↓tsw, ↓oS, ↓spMax, ↓spMin, ↓spAbs, ↓spObj, RI, RLg, b2i_lo, b2i_hi, getL, setL, ltL, killL, isLong, inl, cnd, br, tgt, rcv, rpl, mputI, mputL, mputP, fv, fr, mcat, mcs, entL, entA, rfit, nf_0, nf_1, nf_2, nf_3, nf2_0, nf2_1, b2i_0, b2i_1, RI_b2i, b2i_fit, List.append, List.length, List.replicate, List.cons_append, List.nil_append, List.length_cons, List.length_nil, List.replicate_succ, List.replicate_zero, List.tail_cons, reduceIte, if_true, if_false, ite_true, ite_false, Bool.false_eq_true, true_and, and_true, and_self, false_and, and_false, or_self, or_true, true_or, or_false, false_or, not_true_eq_false, not_false_eq_true, ne_eq, forall_const, implies_true, imp_self, true_implies, false_implies, Nat.reduceAdd, Nat.reduceSub, Nat.reduceMul, Nat.reduceDiv, Nat.reduceMod, Nat.reduceEqDiff, Nat.reduceLT, Nat.reduceLeDiff, Nat.reduceBEq, Nat.add_zero, Nat.zero_add, Nat.le_refl, Nat.not_lt_zero, Nat.succ_eq_add_one, Int.reduceNatCast, Int.cast_ofNat_Int, Int.reduceSub, Int.reduceMul, Int.reduceNeg, Int.reduceLE, Int.reduceLT, Int.reduceToNat, Int.reduceEq, Int.reduceNe, Int.reduceAdd, Option.some.injEq, ↓kb_1145, rmL_law, G_0, G_1, G_240, G_272, c1, c2, c3, c4, c5, d1, d2, d3, d4, d5, q1, q2, q3, q4, q5, hk2, hj2, ↓ocL_law_149, ↓spX8_keep, ↓ocL_law_152, ↓spX9_keep, q, q', hx, hm]
    exact h _ _ _ _ _ hr
