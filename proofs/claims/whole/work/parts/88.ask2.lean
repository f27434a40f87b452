/-! the law, case by case: drive, two, plan, stops, count, weight -/
theorem REL.planK {I L : Int → Int → Int} (h : REL I L) {n x : Int} {K D : Int → Int} (a : planI I n) (b : PlanOK (lpf (VM I)) (I 240 5) (mus (VM I) n) n K D x) : I 179 7 = x ∧ ∀ j, 0 ≤ j → j < n → I 182 j = K j ∧ I 183 j = D j := by
  have q := h.2.2.2.2.2.1
  unfold mus at b
  rw [h.lpfE, VM_179_5, ← q.1, ← q.2.1] at b
  exact PlanOK.uniq a b
theorem heft_rng {k len b ln : Int} (h1 : 1 ≤ len ∧ len ≤ 99) (h2 : 1 ≤ b ∧ b ≤ 60) (h3 : 0 ≤ ln ∧ ln ≤ 2) : 0 ≤ heft k len b ln ∧ heft k len b ln ≤ 1000 := by
  unfold heft
  repeat' split
  all_goals omega
theorem lch_rng (ln : Int → Int) (i : Int) : 0 ≤ lch ln i ∧ lch ln i ≤ 1 := by
  unfold lch
  split <;> omega
set_option maxRecDepth 100000 in
set_option maxHeartbeats 1600000 in
theorem lw_16 {post : Option MV → MS → Prop} {T : Pt → Prop} {n : Nat} {xs : Int → Int} (hxs : ∀ j, RI (xs j)) {i : Int} (i0 : 0 ≤ i) (i1 : i + 6 ≤ n) {I L : Int → Int → Int} (hr : REL I L) {t5 t6 t7 : Option MV} {k j : Nat} (hk : k ≤ 601000) (hj : j ≤ 7290000) (h : ∀ (I' L' : Int → Int → Int) (u5 u6 u7 : Option MV), REL I' L' → Ok RL cL_law 8 rmL_law false (some (n, xs)) post T (1433, [some (.inr (.inr (some 0))), some (.inr (.inr (some 1))), some (.inr (.inr (some 240))), some (.inr (.inr (some 272))), some (.inl i), u5, u6, u7], [], (273, PF, I', L'), k, j)) : Ok RL cL_law 8 rmL_law false (some (n, xs)) post T (729, [some (.inr (.inr (some 0))), some (.inr (.inr (some 1))), some (.inr (.inr (some 240))), some (.inr (.inr (some 272))), some (.inl i), t5, t6, t7], [], (273, PF, I, L), k, j) := by
  have q1 := hxs (i + 1)
  have q2 := hxs (i + 2)
  have q3 := hxs (i + 3)
  have q4 := hxs (i + 4)
  have q5 := hxs (i + 5)
  unfold RI at q1 q2 q3 q4 q5
  have c1 : 0 ≤ i + 1 := by omega
  have d1 : i + 1 < (n : Int) := by omega
  have c2 : 0 ≤ i + 2 := by omega
  have d2 : i + 2 < (n : Int) := by omega
  have c3 : 0 ≤ i + 3 := by omega
  have d3 : i + 3 < (n : Int) := by omega
  have c4 : 0 ≤ i + 4 := by omega
  have d4 : i + 4 < (n : Int) := by omega
  have c5 : 0 ≤ i + 5 := by omega
  have d5 : i + 5 < (n : Int) := by omega
  have hk2 : k ≤ 601024 := by omega
  have hj2 : j ≤ 7293034 := by omega
  obtain ⟨hx, hm, ht, hc, hn, hq, hs⟩ := id hr
  by_cases q : 0 ≤ xs (i + 1) ∧ xs (i + 1) < I 3 1 ∧ 0 ≤ xs (i + 2) ∧ xs (i + 2) ≤ 200000
  · skip
    refine Ok.seg mdL_law [1433] 90 ?_
    simp only [wp_nil, wp_cons, ↓stp, ↓lI, ↓lL, ↓lR, ↓lIn_0, ↓lIn_1, ↓lIn_2, ↓lIn_3, ↓lLn_0, ↓lLn_1, ↓lLn_2, ↓lLn_3, ↓lRn_0, ↓lRn_1, ↓lRn_2, ↓lRn_3, ↓pI, ↓pL, ↓pR, ↓pA, ↓pN, ↓pV, ↓fp, ↓tsw, ↓oS, ↓spMax, ↓spMin, ↓spAbs, ↓spObj, RI, RLg, b2i_lo, b2i_hi, getL, setL, ltL, killL, isLong, inl, cnd, br, tgt, rcv, rpl, mputI, mputL, mputP, fv, fr, mcat, mcs, entL, entA, rfit, nf_0, nf_1, nf_2, nf_3, nf2_0, nf2_1, b2i_0, b2i_1, RI_b2i, b2i_fit, List.append, List.length, List.replicate, List.cons_append, List.nil_append, List.length_cons, List.length_nil, List.replicate_succ, List.replicate_zero, List.tail_cons, reduceIte, if_true, if_false, ite_true, ite_false, Bool.false_eq_true, true_and, and_true, and_self, false_and, and_false, or_self, or_true, true_or, or_false, false_or, not_true_eq_false, not_false_eq_true, ne_eq, forall_const, implies_true, imp_self, true_implies, false_implies, Nat.reduceAdd, Nat.reduceSub, Nat.reduceMul, Nat.reduceDiv, Nat.reduceMod, Nat.reduceEqDiff, Nat.reduceLT, Nat.reduceLeDiff, Nat.reduceBEq, Nat.add_zero, Nat.zero_add, Nat.le_refl, Nat.not_lt_zero, Nat.succ_eq_add_one, Int.reduceNatCast, Int.cast_ofNat_Int, Int.reduceSub, Int.reduceMul, Int.reduceNeg, Int.reduceLE, Int.reduceLT, Int.reduceToNat, Int.reduceEq, Int.reduceNe, Int.reduceAdd, Option.some.injEq, ↓kb_729, rmL_law, G_0, G_1, G_240, G_272, c1, c2, c3, c4, c5, d1, d2, d3, d4, d5, q1, q2, q3, q4, q5, hk2, hj2, ↓ocL_law_111, ↓spX8_drive, ↓ocL_law_114, ↓spX9_drive, q, hx]
    intro I1 f x e
    have e1 : I1 240 1 = I 3 1 := (f _ _ (by omega)).trans ht.1.symm
    have hn1 := hx.1.2.1
    refine ⟨mOK_hi (fun b k b0 => f b k (by omega)) hm, fun z => by omega, fun _ I2 g m e2 => ?_⟩
    have F : ∀ c k, ¬ (c = 5 + xs (i + 1) ∧ k = 4) → ¬ (c = 245 ∧ k = xs (i + 1)) → I2 c k = I c k := fun c k z1 z2 => (g c k z2).trans (f c k z1)
    have e3 : I1 245 (xs (i + 1)) = I (5 + xs (i + 1)) 4 := (f _ _ (by omega)).trans (ht.2 _ q.1 q.2.1).2.2.2.2.symm
    have r := hx.1.2.2 _ q.1 q.2.1
    unfold stOK at r
    rw [e3]
    refine ⟨by omega, by omega, fun _ => h _ _ _ _ _ ⟨xOK_lo (fun b k b0 => g b k (by omega)) x, m, ⟨?_, fun s s0 s1 => ?_⟩, hc.cg (fun b k _ _ => F b k (by omega) (by omega)) (fun b k _ _ => F b k (by omega) (by omega)), hn.cg (fun k _ _ => F _ _ (by omega) (by omega)) (fun k _ _ => F _ _ (by omega) (by omega)), hq.cg (fun k _ _ => F _ _ (by omega) (by omega)) (fun b k _ _ => F _ _ (by omega) (by omega)) (fun k _ => F _ _ (by omega) (by omega)) (fun b k _ _ => F _ _ (by omega) (by omega)), fun d d0 d1 => (hs d d0 d1).cg (fun b k _ _ => F _ _ (by omega) (by omega)) (fun b _ _ => F _ _ (by omega) (by omega)) (fun i _ _ => F _ _ (by omega) (by omega)) (fun _ => (hm.2.2.2.2 d d0 d1).2.1.2)⟩, fun z => (z rfl).elim⟩
    · rw [F 3 1 (by omega) (by omega), F 240 1 (by omega) (by omega)]; exact ht.1
    · rw [F 3 1 (by omega) (by omega)] at s1
      have u := ht.2 s s0 s1
      rw [F (5 + s) 0 (by omega) (by omega), F (5 + s) 1 (by omega) (by omega), F (5 + s) 2 (by omega) (by omega), F (5 + s) 3 (by omega) (by omega), F 241 s (by omega) (by omega), F 242 s (by omega) (by omega), F 243 s (by omega) (by omega), F 244 s (by omega) (by omega)]
      refine ⟨u.1, u.2.1, u.2.2.1, u.2.2.2.1, ?_⟩
      by_cases y : s = xs (i + 1)
      · rw [y, e2, g _ _ (by omega), e]
      · rw [F (5 + s) 4 (by omega) (by omega), F 245 s (by omega) (by omega)]; exact u.2.2.2.2
  · skip
    refine Ok.seg mdL_law [1433] 90 ?_
    simp only [wp_nil, wp_cons, ↓stp, ↓lI, ↓lL, ↓lR, ↓lIn_0, ↓lIn_1, ↓lIn_2, ↓lIn_3, ↓lLn_0, ↓lLn_1, ↓lLn_2, ↓lLn_3, ↓lRn_0, ↓lRn_1, ↓lRn_2, ↓lRn_3, ↓pI, ↓pL, ↓pR, ↓pA, ↓pN, ↓pV, ↓fp, ↓tsw, ↓oS, ↓spMax, ↓spMin, ↓spAbs, ↓spObj, RI, RLg, b2i_lo, b2i_hi, getL, setL, ltL, killL, isLong, inl, cnd, br, tgt, rcv, rpl, mputI, mputL, mputP, fv, fr, mcat, mcs, entL, entA, rfit, nf_0, nf_1, nf_2, nf_3, nf2_0, nf2_1, b2i_0, b2i_1, RI_b2i, b2i_fit, List.append, List.length, List.replicate, List.cons_append, List.nil_append, List.length_cons, List.length_nil, List.replicate_succ, List.replicate_zero, List.tail_cons, reduceIte, if_true, if_false, ite_true, ite_false, Bool.false_eq_true, true_and, and_true, and_self, false_and, and_false, or_self, or_true, true_or, or_false, false_or, not_true_eq_false, not_false_eq_true, ne_eq, forall_const, implies_true, imp_self, true_implies, false_implies, Nat.reduceAdd, Nat.reduceSub, Nat.reduceMul, Nat.reduceDiv, Nat.reduceMod, Nat.reduceEqDiff, Nat.reduceLT, Nat.reduceLeDiff, Nat.reduceBEq, Nat.add_zero, Nat.zero_add, Nat.le_refl, Nat.not_lt_zero, Nat.succ_eq_add_one, Int.reduceNatCast, Int.cast_ofNat_Int, Int.reduceSub, Int.reduceMul, Int.reduceNeg, Int.reduceLE, Int.reduceLT, Int.reduceToNat, Int.reduceEq, Int.reduceNe, Int.reduceAdd, Option.some.injEq, ↓kb_729, rmL_law, G_0, G_1, G_240, G_272, c1, c2, c3, c4, c5, d1, d2, d3, d4, d5, q1, q2, q3, q4, q5, hk2, hj2, ↓ocL_law_111, ↓spX8_drive, ↓ocL_law_114, ↓spX9_drive, q, hx, hm, ← ht.1]
    exact h _ _ _ _ _ hr
set_option maxRecDepth 100000 in
set_option maxHeartbeats 1600000 in
theorem lw_20 {post : Option MV → MS → Prop} {T : Pt → Prop} {n : Nat} {xs : Int → Int} (hxs : ∀ j, RI (xs j)) {i : Int} (i0 : 0 ≤ i) (i1 : i + 6 ≤ n) {I L : Int → Int → Int} (hr : REL I L) {t5 t6 t7 : Option MV} {k j : Nat} (hk : k ≤ 601000) (hj : j ≤ 7290000) (h : ∀ (I' L' : Int → Int → Int) (u5 u6 u7 : Option MV), REL I' L' → Ok RL cL_law 8 rmL_law false (some (n, xs)) post T (1433, [some (.inr (.inr (some 0))), some (.inr (.inr (some 1))), some (.inr (.inr (some 240))), some (.inr (.inr (some 272))), some (.inl i), u5, u6, u7], [], (273, PF, I', L'), k, j)) : Ok RL cL_law 8 rmL_law false (some (n, xs)) post T (883, [some (.inr (.inr (some 0))), some (.inr (.inr (some 1))), some (.inr (.inr (some 240))), some (.inr (.inr (some 272))), some (.inl i), t5, t6, t7], [], (273, PF, I, L), k, j) := by
  have q1 := hxs (i + 1)
  have q2 := hxs (i + 2)
  have q3 := hxs (i + 3)
  have q4 := hxs (i + 4)
  have q5 := hxs (i + 5)
  unfold RI at q1 q2 q3 q4 q5
  have c1 : 0 ≤ i + 1 := by omega
  have d1 : i + 1 < (n : Int) := by omega
  have c2 : 0 ≤ i + 2 := by omega
  have d2 : i + 2 < (n : Int) := by omega
  have c3 : 0 ≤ i + 3 := by omega
  have d3 : i + 3 < (n : Int) := by omega
  have c4 : 0 ≤ i + 4 := by omega
  have d4 : i + 4 < (n : Int) := by omega
  have c5 : 0 ≤ i + 5 := by omega
  have d5 : i + 5 < (n : Int) := by omega
  have hk2 : k ≤ 601024 := by omega
  have hj2 : j ≤ 7293034 := by omega
  obtain ⟨hx, hm, ht, hc, hn, hq, hs⟩ := id hr
  by_cases q : xs (i + 1) = 0
  · skip
    refine Ok.seg mdL_law [1433] 90 ?_
    simp only [wp_nil, wp_cons, ↓stp, ↓lI, ↓lL, ↓lR, ↓lIn_0, ↓lIn_1, ↓lIn_2, ↓lIn_3, ↓lLn_0, ↓lLn_1, ↓lLn_2, ↓lLn_3, ↓lRn_0, ↓lRn_1, ↓lRn_2, ↓lRn_3, ↓pI, ↓pL, ↓pR, ↓pA, ↓pN, ↓pV, ↓fp, ↓tsw, ↓oS, ↓spMax, ↓spMin, ↓spAbs, ↓spObj, RI, RLg, b2i_lo, b2i_hi, getL, setL, ltL, killL, isLong, inl, cnd, br, tgt, rcv, rpl, mputI, mputL, mputP, fv, fr, mcat, mcs, entL, entA, rfit, nf_0, nf_1, nf_2, nf_3, nf2_0, nf2_1, b2i_0, b2i_1, RI_b2i, b2i_fit, List.append, List.length, List.replicate, List.cons_append, List.nil_append, List.length_cons, List.length_nil, List.replicate_succ, List.replicate_zero, List.tail_cons, reduceIte, if_true, if_false, ite_true, ite_false, Bool.false_eq_true, true_and, and_true, and_self, false_and, and_false, or_self, or_true, true_or, or_false, false_or, not_true_eq_false, not_false_eq_true, ne_eq, forall_const, implies_true, imp_self, true_implies, false_implies, Nat.reduceAdd, Nat.reduceSub, Nat.reduceMul, Nat.reduceDiv, Nat.reduceMod, Nat.reduceEqDiff, Nat.reduceLT, Nat.reduceLeDiff, Nat.reduceBEq, Nat.add_zero, Nat.zero_add, Nat.le_refl, Nat.not_lt_zero, Nat.succ_eq_add_one, Int.reduceNatCast, Int.cast_ofNat_Int, Int.reduceSub, Int.reduceMul, Int.reduceNeg, Int.reduceLE, Int.reduceLT, Int.reduceToNat, Int.reduceEq, Int.reduceNe, Int.reduceAdd, Option.some.injEq, ↓kb_883, ↓kb_897, ↓kb_898, ↓kb_915, ↓kb_916, rmL_law, G_0, G_1, G_240, G_272, c1, c2, c3, c4, c5, d1, d2, d3, d4, d5, q1, q2, q3, q4, q5, hk2, hj2, ↓ocL_law_126, ↓spX8_two, ↓ocL_law_130, ↓spX9_two, q, hx]
    intro I1 f x e
    refine ⟨mOK_hi (fun b k b0 => f b k (by omega) (by omega)) hm, fun I2 g m e2 => ?_⟩
    have F : ∀ c k, ¬ (c = 179 ∧ k = 5) → ¬ (c = 179 ∧ k = 6) → ¬ (c = 240 ∧ k = 25) → I2 c k = I c k := fun c k z1 z2 z3 => (g c k z3).trans (f c k z1 z2)
    have e3 : I1 240 25 = I 179 5 := (f _ _ (by omega) (by omega)).trans hq.2.1.symm
    have r := hx.2.2.2.2.1.1.2.2
    rw [e3]
    refine ⟨by omega, by omega, fun _ => h _ _ _ _ _ ⟨xOK_lo (fun b k b0 => g b k (by omega)) x, m, ht.cg hx.1.2.1 (fun b k _ _ => F _ _ (by omega) (by omega) (by omega)) (F _ _ (by omega) (by omega) (by omega)) (fun b k _ _ => F _ _ (by omega) (by omega) (by omega)), hc.cg (fun b k _ _ => F b k (by omega) (by omega) (by omega)) (fun b k _ _ => F b k (by omega) (by omega) (by omega)), hn.cg (fun k _ _ => F _ _ (by omega) (by omega) (by omega)) (fun k _ _ => F _ _ (by omega) (by omega) (by omega)), ⟨?_, ?_, fun k => ?_⟩, fun d d0 d1 => (hs d d0 d1).cg (fun b k _ _ => F _ _ (by omega) (by omega) (by omega)) (fun b _ _ => F _ _ (by omega) (by omega) (by omega)) (fun i _ _ => F _ _ (by omega) (by omega) (by omega)) (fun _ => (hm.2.2.2.2 d d0 d1).2.1.2)⟩, fun z => (z rfl).elim⟩
    · rw [F 179 4 (by omega) (by omega) (by omega), F 240 5 (by omega) (by omega) (by omega)]; exact hq.1
    · rw [e2, g _ _ (by omega), e]
    · rw [F 180 k (by omega) (by omega) (by omega), F 181 k (by omega) (by omega) (by omega), F 258 k (by omega) (by omega) (by omega), F 259 k (by omega) (by omega) (by omega)]; exact hq.2.2 k
  · skip
    refine Ok.seg mdL_law [1433] 90 ?_
    simp only [wp_nil, wp_cons, ↓stp, ↓lI, ↓lL, ↓lR, ↓lIn_0, ↓lIn_1, ↓lIn_2, ↓lIn_3, ↓lLn_0, ↓lLn_1, ↓lLn_2, ↓lLn_3, ↓lRn_0, ↓lRn_1, ↓lRn_2, ↓lRn_3, ↓pI, ↓pL, ↓pR, ↓pA, ↓pN, ↓pV, ↓fp, ↓tsw, ↓oS, ↓spMax, ↓spMin, ↓spAbs, ↓spObj, RI, RLg, b2i_lo, b2i_hi, getL, setL, ltL, killL, isLong, inl, cnd, br, tgt, rcv, rpl, mputI, mputL, mputP, fv, fr, mcat, mcs, entL, entA, rfit, nf_0, nf_1, nf_2, nf_3, nf2_0, nf2_1, b2i_0, b2i_1, RI_b2i, b2i_fit, List.append, List.length, List.replicate, List.cons_append, List.nil_append, List.length_cons, List.length_nil, List.replicate_succ, List.replicate_zero, List.tail_cons, reduceIte, if_true, if_false, ite_true, ite_false, Bool.false_eq_true, true_and, and_true, and_self, false_and, and_false, or_self, or_true, true_or, or_false, false_or, not_true_eq_false, not_false_eq_true, ne_eq, forall_const, implies_true, imp_self, true_implies, false_implies, Nat.reduceAdd, Nat.reduceSub, Nat.reduceMul, Nat.reduceDiv, Nat.reduceMod, Nat.reduceEqDiff, Nat.reduceLT, Nat.reduceLeDiff, Nat.reduceBEq, Nat.add_zero, Nat.zero_add, Nat.le_refl, Nat.not_lt_zero, Nat.succ_eq_add_one, Int.reduceNatCast, Int.cast_ofNat_Int, Int.reduceSub, Int.reduceMul, Int.reduceNeg, Int.reduceLE, Int.reduceLT, Int.reduceToNat, Int.reduceEq, Int.reduceNe, Int.reduceAdd, Option.some.injEq, ↓kb_883, ↓kb_897, ↓kb_898, ↓kb_915, ↓kb_916, rmL_law, G_0, G_1, G_240, G_272, c1, c2, c3, c4, c5, d1, d2, d3, d4, d5, q1, q2, q3, q4, q5, hk2, hj2, ↓ocL_law_126, ↓spX8_two, ↓ocL_law_130, ↓spX9_two, q, hx]
    intro I1 f x e
    refine ⟨mOK_hi (fun b k b0 => f b k (by omega) (by omega)) hm, fun I2 g m e2 => ?_⟩
    have F : ∀ c k, ¬ (c = 179 ∧ k = 5) → ¬ (c = 179 ∧ k = 6) → ¬ (c = 240 ∧ k = 25) → I2 c k = I c k := fun c k z1 z2 z3 => (g c k z3).trans (f c k z1 z2)
    have e3 : I1 240 25 = I 179 5 := (f _ _ (by omega) (by omega)).trans hq.2.1.symm
    have r := hx.2.2.2.2.1.1.2.2
    rw [e3]
    refine ⟨by omega, by omega, fun _ => h _ _ _ _ _ ⟨xOK_lo (fun b k b0 => g b k (by omega)) x, m, ht.cg hx.1.2.1 (fun b k _ _ => F _ _ (by omega) (by omega) (by omega)) (F _ _ (by omega) (by omega) (by omega)) (fun b k _ _ => F _ _ (by omega) (by omega) (by omega)), hc.cg (fun b k _ _ => F b k (by omega) (by omega) (by omega)) (fun b k _ _ => F b k (by omega) (by omega) (by omega)), hn.cg (fun k _ _ => F _ _ (by omega) (by omega) (by omega)) (fun k _ _ => F _ _ (by omega) (by omega) (by omega)), ⟨?_, ?_, fun k => ?_⟩, fun d d0 d1 => (hs d d0 d1).cg (fun b k _ _ => F _ _ (by omega) (by omega) (by omega)) (fun b _ _ => F _ _ (by omega) (by omega) (by omega)) (fun i _ _ => F _ _ (by omega) (by omega) (by omega)) (fun _ => (hm.2.2.2.2 d d0 d1).2.1.2)⟩, fun z => (z rfl).elim⟩
    · rw [F 179 4 (by omega) (by omega) (by omega), F 240 5 (by omega) (by omega) (by omega)]; exact hq.1
    · rw [e2, g _ _ (by omega), e]
    · rw [F 180 k (by omega) (by omega) (by omega), F 181 k (by omega) (by omega) (by omega), F 258 k (by omega) (by omega) (by omega), F 259 k (by omega) (by omega) (by omega)]; exact hq.2.2 k
set_option maxRecDepth 100000 in
set_option maxHeartbeats 1600000 in
theorem lw_23 {post : Option MV → MS → Prop} {T : Pt → Prop} {n : Nat} {xs : Int → Int} (hxs : ∀ j, RI (xs j)) {i : Int} (i0 : 0 ≤ i) (i1 : i + 6 ≤ n) {I L : Int → Int → Int} (hr : REL I L) {t5 t6 t7 : Option MV} {k j : Nat} (hk : k ≤ 601000) (hj : j ≤ 7290000) (h : ∀ (I' L' : Int → Int → Int) (u5 u6 u7 : Option MV), REL I' L' → Ok RL cL_law 8 rmL_law false (some (n, xs)) post T (1433, [some (.inr (.inr (some 0))), some (.inr (.inr (some 1))), some (.inr (.inr (some 240))), some (.inr (.inr (some 272))), some (.inl i), u5, u6, u7], [], (273, PF, I', L'), k, j)) : Ok RL cL_law 8 rmL_law false (some (n, xs)) post T (1046, [some (.inr (.inr (some 0))), some (.inr (.inr (some 1))), some (.inr (.inr (some 240))), some (.inr (.inr (some 272))), some (.inl i), t5, t6, t7], [], (273, PF, I, L), k, j) := by
  have q1 := hxs (i + 1)
  have q2 := hxs (i + 2)
  have q3 := hxs (i + 3)
  have q4 := hxs (i + 4)
  have q5 := hxs (i + 5)
  unfold RI at q1 q2 q3 q4 q5
  have c1 : 0 ≤ i + 1 := by omega
  have d1 : i + 1 < (n : Int) := by omega
  have c2 : 0 ≤ i + 2 := by omega
  have d2 : i + 2 < (n : Int) := by omega
  have c3 : 0 ≤ i + 3 := by omega
  have d3 : i + 3 < (n : Int) := by omega
  have c4 : 0 ≤ i + 4 := by omega
  have d4 : i + 4 < (n : Int) := by omega
  have c5 : 0 ≤ i + 5 := by omega
  have d5 : i + 5 < (n : Int) := by omega
  have hk2 : k ≤ 601024 := by omega
  have hj2 : j ≤ 7293034 := by omega
  obtain ⟨hx, hm, ht, hc, hn, hq, hs⟩ := id hr
  by_cases q : 1 ≤ xs (i + 1) ∧ xs (i + 1) ≤ 40 ∧ 0 ≤ xs (i + 2) ∧ xs (i + 2) < xs (i + 1) ∧ 0 ≤ xs (i + 3) ∧ xs (i + 3) ≤ 2
  · skip
    refine Ok.seg mdL_law [1433] 90 ?_
    simp only [wp_nil, wp_cons, ↓stp, ↓lI, ↓lL, ↓lR, ↓lIn_0, ↓lIn_1, ↓lIn_2, ↓lIn_3, ↓lLn_0, ↓lLn_1, ↓lLn_2, ↓lLn_3, ↓lRn_0, ↓lRn_1, ↓lRn_2, ↓lRn_3, ↓pI, ↓pL, ↓pR, ↓pA, ↓pN, ↓pV, ↓fp, ↓tsw, ↓oS, ↓spMax, ↓spMin, ↓spAbs, ↓spObj, RI, RLg, b2i_lo, b2i_hi, getL, setL, ltL, killL, isLong, inl, cnd, br, tgt, rcv, rpl, mputI, mputL, mputP, fv, fr, mcat, mcs, entL, entA, rfit, nf_0, nf_1, nf_2, nf_3, nf2_0, nf2_1, b2i_0, b2i_1, RI_b2i, b2i_fit, List.append, List.length, List.replicate, List.cons_append, List.nil_append, List.length_cons, List.length_nil, List.replicate_succ, List.replicate_zero, List.tail_cons, reduceIte, if_true, if_false, ite_true, ite_false, Bool.false_eq_true, true_and, and_true, and_self, false_and, and_false, or_self, or_true, true_or, or_false, false_or, not_true_eq_false, not_false_eq_true, ne_eq, forall_const, implies_true, imp_self, true_implies, false_implies, Nat.reduceAdd, Nat.reduceSub, Nat.reduceMul, Nat.reduceDiv, Nat.reduceMod, Nat.reduceEqDiff, Nat.reduceLT, Nat.reduceLeDiff, Nat.reduceBEq, Nat.add_zero, Nat.zero_add, Nat.le_refl, Nat.not_lt_zero, Nat.succ_eq_add_one, Int.reduceNatCast, Int.cast_ofNat_Int, Int.reduceSub, Int.reduceMul, Int.reduceNeg, Int.reduceLE, Int.reduceLT, Int.reduceToNat, Int.reduceEq, Int.reduceNe, Int.reduceAdd, Option.some.injEq, ↓kb_1046, rmL_law, G_0, G_1, G_240, G_272, c1, c2, c3, c4, c5, d1, d2, d3, d4, d5, q1, q2, q3, q4, q5, hk2, hj2, ↓ocL_law_137, ↓spX8_plan, ↓ocL_law_140, ↓spX9_plan, q, hx]
    intro I1 f x a
    refine ⟨mOK_hi f.hi hm, fun I2 L2 y g gl m b => ?_⟩
    obtain ⟨e3, e4⟩ := ((hr.q1 f x).planK a b).2 (xs (i + 2)) q.2.2.1 q.2.2.2.1
    have rr := PlanOK_rng a (xs (i + 2)) q.2.2.1 q.2.2.2.1
    rw [← e3, ← e4]
    have rv : 0 ≤ (if xs (i + 3) = 0 then I1 182 (xs (i + 2)) else if xs (i + 3) = 1 then (if 0 < xs (i + 2) ∧ I1 183 (xs (i + 2)) = 0 then 1 else 0) else I1 183 (xs (i + 2))) ∧ (if xs (i + 3) = 0 then I1 182 (xs (i + 2)) else if xs (i + 3) = 1 then (if 0 < xs (i + 2) ∧ I1 183 (xs (i + 2)) = 0 then 1 else 0) else I1 183 (xs (i + 2))) ≤ 40 := by
      repeat' split
      all_goals omega
    exact ⟨by omega, by omega, fun _ => h _ _ _ _ _ (hr.q f x g m), fun z => (z rfl).elim⟩
  · skip
    refine Ok.seg mdL_law [1433] 90 ?_
    simp only [wp_nil, wp_cons, ↓stp, ↓lI, ↓lL, ↓lR, ↓lIn_0, ↓lIn_1, ↓lIn_2, ↓lIn_3, ↓lLn_0, ↓lLn_1, ↓lLn_2, ↓lLn_3, ↓lRn_0, ↓lRn_1, ↓lRn_2, ↓lRn_3, ↓pI, ↓pL, ↓pR, ↓pA, ↓pN, ↓pV, ↓fp, ↓tsw, ↓oS, ↓spMax, ↓spMin, ↓spAbs, ↓spObj, RI, RLg, b2i_lo, b2i_hi, getL, setL, ltL, killL, isLong, inl, cnd, br, tgt, rcv, rpl, mputI, mputL, mputP, fv, fr, mcat, mcs, entL, entA, rfit, nf_0, nf_1, nf_2, nf_3, nf2_0, nf2_1, b2i_0, b2i_1, RI_b2i, b2i_fit, List.append, List.length, List.replicate, List.cons_append, List.nil_append, List.length_cons, List.length_nil, List.replicate_succ, List.replicate_zero, List.tail_cons, reduceIte, if_true, if_false, ite_true, ite_false, Bool.false_eq_true, true_and, and_true, and_self, false_and, and_false, or_self, or_true, true_or, or_false, false_or, not_true_eq_false, not_false_eq_true, ne_eq, forall_const, implies_true, imp_self, true_implies, false_implies, Nat.reduceAdd, Nat.reduceSub, Nat.reduceMul, Nat.reduceDiv, Nat.reduceMod, Nat.reduceEqDiff, Nat.reduceLT, Nat.reduceLeDiff, Nat.reduceBEq, Nat.add_zero, Nat.zero_add, Nat.le_refl, Nat.not_lt_zero, Nat.succ_eq_add_one, Int.reduceNatCast, Int.cast_ofNat_Int, Int.reduceSub, Int.reduceMul, Int.reduceNeg, Int.reduceLE, Int.reduceLT, Int.reduceToNat, Int.reduceEq, Int.reduceNe, Int.reduceAdd, Option.some.injEq, ↓kb_1046, rmL_law, G_0, G_1, G_240, G_272, c1, c2, c3, c4, c5, d1, d2, d3, d4, d5, q1, q2, q3, q4, q5, hk2, hj2, ↓ocL_law_137, ↓spX8_plan, ↓ocL_law_140, ↓spX9_plan, q, hx, hm]
    exact h _ _ _ _ _ hr
set_option maxRecDepth 100000 in
set_option maxHeartbeats 1600000 in
theorem lw_24 {post : Option MV → MS → Prop} {T : Pt → Prop} {n : Nat} {xs : Int → Int} (hxs : ∀ j, RI (xs j)) {i : Int} (i0 : 0 ≤ i) (i1 : i + 6 ≤ n) {I L : Int → Int → Int} (hr : REL I L) {t5 t6 t7 : Option MV} {k j : Nat} (hk : k ≤ 601000) (hj : j ≤ 7290000) (h : ∀ (I' L' : Int → Int → Int) (u5 u6 u7 : Option MV), REL I' L' → Ok RL cL_law 8 rmL_law false (some (n, xs)) post T (1433, [some (.inr (.inr (some 0))), some (.inr (.inr (some 1))), some (.inr (.inr (some 240))), some (.inr (.inr (some 272))), some (.inl i), u5, u6, u7], [], (273, PF, I', L'), k, j)) : Ok RL cL_law 8 rmL_law false (some (n, xs)) post T (1095, [some (.inr (.inr (some 0))), some (.inr (.inr (some 1))), some (.inr (.inr (some 240))), some (.inr (.inr (some 272))), some (.inl i), t5, t6, t7], [], (273, PF, I, L), k, j) := by
  have q1 := hxs (i + 1)
  have q2 := hxs (i + 2)
  have q3 := hxs (i + 3)
  have q4 := hxs (i + 4)
  have q5 := hxs (i + 5)
  unfold RI at q1 q2 q3 q4 q5
  have c1 : 0 ≤ i + 1 := by omega
  have d1 : i + 1 < (n : Int) := by omega
  have c2 : 0 ≤ i + 2 := by omega
  have d2 : i + 2 < (n : Int) := by omega
  have c3 : 0 ≤ i + 3 := by omega
  have d3 : i + 3 < (n : Int) := by omega
  have c4 : 0 ≤ i + 4 := by omega
  have d4 : i + 4 < (n : Int) := by omega
  have c5 : 0 ≤ i + 5 := by omega
  have d5 : i + 5 < (n : Int) := by omega
  have hk2 : k ≤ 601024 := by omega
  have hj2 : j ≤ 7293034 := by omega
  obtain ⟨hx, hm, ht, hc, hn, hq, hs⟩ := id hr
  by_cases q : 1 ≤ xs (i + 1) ∧ xs (i + 1) ≤ 40
  · skip
    refine Ok.seg mdL_law [1433] 90 ?_
    simp only [wp_nil, wp_cons, ↓stp, ↓lI, ↓lL, ↓lR, ↓lIn_0, ↓lIn_1, ↓lIn_2, ↓lIn_3, ↓lLn_0, ↓lLn_1, ↓lLn_2, ↓lLn_3, ↓lRn_0, ↓lRn_1, ↓lRn_2, ↓lRn_3, ↓pI, ↓pL, ↓pR, ↓pA, ↓pN, ↓pV, ↓fp, ↓tsw, ↓oS, ↓spMax, ↓spMin, ↓spAbs, ↓spObj, RI, RLg, b2i_lo, b2i_hi, getL, setL, ltL, killL, isLong, inl, cnd, br, tgt, rcv, rpl, mputI, mputL, mputP, fv, fr, mcat, mcs, entL, entA, rfit, nf_0, nf_1, nf_2, nf_3, nf2_0, nf2_1, b2i_0, b2i_1, RI_b2i, b2i_fit, List.append, List.length, List.replicate, List.cons_append, List.nil_append, List.length_cons, List.length_nil, List.replicate_succ, List.replicate_zero, List.tail_cons, reduceIte, if_true, if_false, ite_true, ite_false, Bool.false_eq_true, true_and, and_true, and_self, false_and, and_false, or_self, or_true, true_or, or_false, false_or, not_true_eq_false, not_false_eq_true, ne_eq, forall_const, implies_true, imp_self, true_implies, false_implies, Nat.reduceAdd, Nat.reduceSub, Nat.reduceMul, Nat.reduceDiv, Nat.reduceMod, Nat.reduceEqDiff, Nat.reduceLT, Nat.reduceLeDiff, Nat.reduceBEq, Nat.add_zero, Nat.zero_add, Nat.le_refl, Nat.not_lt_zero, Nat.succ_eq_add_one, Int.reduceNatCast, Int.cast_ofNat_Int, Int.reduceSub, Int.reduceMul, Int.reduceNeg, Int.reduceLE, Int.reduceLT, Int.reduceToNat, Int.reduceEq, Int.reduceNe, Int.reduceAdd, Option.some.injEq, ↓kb_1095, rmL_law, G_0, G_1, G_240, G_272, c1, c2, c3, c4, c5, d1, d2, d3, d4, d5, q1, q2, q3, q4, q5, hk2, hj2, ↓ocL_law_141, ↓spX8_stops, ↓ocL_law_144, ↓spX9_stops, q, hx]
    intro I1 f x a
    refine ⟨mOK_hi f.hi hm, fun I2 L2 y g gl m b => ?_⟩
    have e := ((hr.q1 f x).planK a b).2
    have e2 : sumI (fun l => if 0 < l ∧ I2 262 l = 0 then 1 else 0) (xs (i + 1)).toNat = sumI (fun l => if 0 < l ∧ I1 183 l = 0 then 1 else 0) (xs (i + 1)).toNat := sumI_congr _ (fun l l0 l1 => by
      try dsimp only
      rw [(e l l0 (by omega)).2])
    have rr := sumI_rng (c := 1) (f := fun l => if 0 < l ∧ I1 183 l = 0 then (1 : Int) else 0) (xs (i + 1)).toNat (fun l _ _ => by
      try dsimp only
      split <;> omega)
    rw [e2]
    exact ⟨by omega, by omega, fun _ => h _ _ _ _ _ (hr.q f x g m), fun z => (z rfl).elim⟩
  · skip
    refine Ok.seg mdL_law [1433] 90 ?_
    simp only [wp_nil, wp_cons, ↓stp, ↓lI, ↓lL, ↓lR, ↓lIn_0, ↓lIn_1, ↓lIn_2, ↓lIn_3, ↓lLn_0, ↓lLn_1, ↓lLn_2, ↓lLn_3, ↓lRn_0, ↓lRn_1, ↓lRn_2, ↓lRn_3, ↓pI, ↓pL, ↓pR, ↓pA, ↓pN, ↓pV, ↓fp, ↓tsw, ↓oS, ↓spMax, ↓spMin, ↓spAbs, ↓spObj, RI, RLg, b2i_lo, b2i_hi, getL, setL, ltL, killL, isLong, inl, cnd, br, tgt, rcv, rpl, mputI, mputL, mputP, fv, fr, mcat, mcs, entL, entA, rfit, nf_0, nf_1, nf_2, nf_3, nf2_0, nf2_1, b2i_0, b2i_1, RI_b2i, b2i_fit, List.append, List.length, List.replicate, List.cons_append, List.nil_append, List.length_cons, List.length_nil, List.replicate_succ, List.replicate_zero, List.tail_cons, reduceIte, if_true, if_false, ite_true, ite_false, Bool.false_eq_true, true_and, and_true, and_self, false_and, and_false, or_self, or_true, true_or, or_false, false_or, not_true_eq_false, not_false_eq_true, ne_eq, forall_const, implies_true, imp_self, true_implies, false_implies, Nat.reduceAdd, Nat.reduceSub, Nat.reduceMul, Nat.reduceDiv, Nat.reduceMod, Nat.reduceEqDiff, Nat.reduceLT, Nat.reduceLeDiff, Nat.reduceBEq, Nat.add_zero, Nat.zero_add, Nat.le_refl, Nat.not_lt_zero, Nat.succ_eq_add_one, Int.reduceNatCast, Int.cast_ofNat_Int, Int.reduceSub, Int.reduceMul, Int.reduceNeg, Int.reduceLE, Int.reduceLT, Int.reduceToNat, Int.reduceEq, Int.reduceNe, Int.reduceAdd, Option.some.injEq, ↓kb_1095, rmL_law, G_0, G_1, G_240, G_272, c1, c2, c3, c4, c5, d1, d2, d3, d4, d5, q1, q2, q3, q4, q5, hk2, hj2, ↓ocL_law_141, ↓spX8_stops, ↓ocL_law_144, ↓spX9_stops, q, hx, hm]
    exact h _ _ _ _ _ hr
set_option maxRecDepth 100000 in
set_option maxHeartbeats 1600000 in
theorem lw_25 {post : Option MV → MS → Prop} {T : Pt → Prop} {n : Nat} {xs : Int → Int} (hxs : ∀ j, RI (xs j)) {i : Int} (i0 : 0 ≤ i) (i1 : i + 6 ≤ n) {I L : Int → Int → Int} (hr : REL I L) {t5 t6 t7 : Option MV} {k j : Nat} (hk : k ≤ 601000) (hj : j ≤ 7290000) (h : ∀ (I' L' : Int → Int → Int) (u5 u6 u7 : Option MV), REL I' L' → Ok RL cL_law 8 rmL_law false (some (n, xs)) post T (1433, [some (.inr (.inr (some 0))), some (.inr (.inr (some 1))), some (.inr (.inr (some 240))), some (.inr (.inr (some 272))), some (.inl i), u5, u6, u7], [], (273, PF, I', L'), k, j)) : Ok RL cL_law 8 rmL_law false (some (n, xs)) post T (1120, [some (.inr (.inr (some 0))), some (.inr (.inr (some 1))), some (.inr (.inr (some 240))), some (.inr (.inr (some 272))), some (.inl i), t5, t6, t7], [], (273, PF, I, L), k, j) := by
  have q1 := hxs (i + 1)
  have q2 := hxs (i + 2)
  have q3 := hxs (i + 3)
  have q4 := hxs (i + 4)
  have q5 := hxs (i + 5)
  unfold RI at q1 q2 q3 q4 q5
  have c1 : 0 ≤ i + 1 := by omega
  have d1 : i + 1 < (n : Int) := by omega
  have c2 : 0 ≤ i + 2 := by omega
  have d2 : i + 2 < (n : Int) := by omega
  have c3 : 0 ≤ i + 3 := by omega
  have d3 : i + 3 < (n : Int) := by omega
  have c4 : 0 ≤ i + 4 := by omega
  have d4 : i + 4 < (n : Int) := by omega
  have c5 : 0 ≤ i + 5 := by omega
  have d5 : i + 5 < (n : Int) := by omega
  have hk2 : k ≤ 601024 := by omega
  have hj2 : j ≤ 7293034 := by omega
  obtain ⟨hx, hm, ht, hc, hn, hq, hs⟩ := id hr
  have r0 := hx.1.1
  have r1 := hx.1.2.1
  by_cases z0 : xs (i + 1) = 0
  · skip
    refine Ok.seg mdL_law [1433] 90 ?_
    simp only [wp_nil, wp_cons, ↓stp, ↓lI, ↓lL, ↓lR, ↓lIn_0, ↓lIn_1, ↓lIn_2, ↓lIn_3, ↓lLn_0, ↓lLn_1, ↓lLn_2, ↓lLn_3, ↓lRn_0, ↓lRn_1, ↓lRn_2, ↓lRn_3, ↓pI, ↓pL, ↓pR, ↓pA, ↓pN, ↓pV, ↓fp, ↓tsw, ↓oS, ↓spMax, ↓spMin, ↓spAbs, ↓spObj, RI, RLg, b2i_lo, b2i_hi, getL, setL, ltL, killL, isLong, inl, cnd, br, tgt, rcv, rpl, mputI, mputL, mputP, fv, fr, mcat, mcs, entL, entA, rfit, nf_0, nf_1, nf_2, nf_3, nf2_0, nf2_1, b2i_0, b2i_1, RI_b2i, b2i_fit, List.append, List.length, List.replicate, List.cons_append, List.nil_append, List.length_cons, List.length_nil, List.replicate_succ, List.replicate_zero, List.tail_cons, reduceIte, if_true, if_false, ite_true, ite_false, Bool.false_eq_true, true_and, and_true, and_self, false_and, and_false, or_self, or_true, true_or, or_false, false_or, not_true_eq_false, not_false_eq_true, ne_eq, forall_const, implies_true, imp_self, true_implies, false_implies, Nat.reduceAdd, Nat.reduceSub, Nat.reduceMul, Nat.reduceDiv, Nat.reduceMod, Nat.reduceEqDiff, Nat.reduceLT, Nat.reduceLeDiff, Nat.reduceBEq, Nat.add_zero, Nat.zero_add, Nat.le_refl, Nat.not_lt_zero, Nat.succ_eq_add_one, Int.reduceNatCast, Int.cast_ofNat_Int, Int.reduceSub, Int.reduceMul, Int.reduceNeg, Int.reduceLE, Int.reduceLT, Int.reduceToNat, Int.reduceEq, Int.reduceNe, Int.reduceAdd, Option.some.injEq, ↓kb_1120, rmL_law, G_0, G_1, G_240, G_272, c1, c2, c3, c4, c5, d1, d2, d3, d4, d5, q1, q2, q3, q4, q5, hk2, hj2, ↓ocL_law_145, ↓spX8_count, ↓ocL_law_148, ↓spX9_count, z0, hx, hm, ← ht.1]
    exact ⟨by omega, by omega, h _ _ _ _ _ hr⟩
  by_cases z1 : xs (i + 1) = 1
  · have e : sumI (I 242) (I 3 1).toNat = sumI (fun i => I (5 + i) 1) (I 3 1).toNat := sumI_congr _ (fun i i0 i1 => (ht.2 i i0 (by omega)).2.1.symm)
    have rr := sumI_rng (c := 99) (f := fun i => I (5 + i) 1) (I 3 1).toNat (fun i i0 i1 => by
      have a := hx.1.2.2 i i0 (by omega)
      unfold stOK at a
      try dsimp only
      omega)
    refine Ok.seg mdL_law [1433] 90 ?_
    simp only [wp_nil, wp_cons, ↓stp, ↓lI, ↓lL, ↓lR, ↓lIn_0, ↓lIn_1, ↓lIn_2, ↓lIn_3, ↓lLn_0, ↓lLn_1, ↓lLn_2, ↓lLn_3, ↓lRn_0, ↓lRn_1, ↓lRn_2, ↓lRn_3, ↓pI, ↓pL, ↓pR, ↓pA, ↓pN, ↓pV, ↓fp, ↓tsw, ↓oS, ↓spMax, ↓spMin, ↓spAbs, ↓spObj, RI, RLg, b2i_lo, b2i_hi, getL, setL, ltL, killL, isLong, inl, cnd, br, tgt, rcv, rpl, mputI, mputL, mputP, fv, fr, mcat, mcs, entL, entA, rfit, nf_0, nf_1, nf_2, nf_3, nf2_0, nf2_1, b2i_0, b2i_1, RI_b2i, b2i_fit, List.append, List.length, List.replicate, List.cons_append, List.nil_append, List.length_cons, List.length_nil, List.replicate_succ, List.replicate_zero, List.tail_cons, reduceIte, if_true, if_false, ite_true, ite_false, Bool.false_eq_true, true_and, and_true, and_self, false_and, and_false, or_self, or_true, true_or, or_false, false_or, not_true_eq_false, not_false_eq_true, ne_eq, forall_const, implies_true, imp_self, true_implies, false_implies, Nat.reduceAdd, Nat.reduceSub, Nat.reduceMul, Nat.reduceDiv, Nat.reduceMod, Nat.reduceEqDiff, Nat.reduceLT, Nat.reduceLeDiff, Nat.reduceBEq, Nat.add_zero, Nat.zero_add, Nat.le_refl, Nat.not_lt_zero, Nat.succ_eq_add_one, Int.reduceNatCast, Int.cast_ofNat_Int, Int.reduceSub, Int.reduceMul, Int.reduceNeg, Int.reduceLE, Int.reduceLT, Int.reduceToNat, Int.reduceEq, Int.reduceNe, Int.reduceAdd, Option.some.injEq, ↓kb_1120, rmL_law, G_0, G_1, G_240, G_272, c1, c2, c3, c4, c5, d1, d2, d3, d4, d5, q1, q2, q3, q4, q5, hk2, hj2, ↓ocL_law_145, ↓spX8_count, ↓ocL_law_148, ↓spX9_count, z1, hx, hm, ← ht.1, e]
    exact ⟨by omega, by omega, h _ _ _ _ _ hr⟩
  by_cases z2 : xs (i + 1) = 2
  · have e : sumI (fun i => if 0 < I 245 i then 1 else 0) (I 3 1).toNat = sumI (fun i => if 0 < I (5 + i) 4 then 1 else 0) (I 3 1).toNat := sumI_congr _ (fun i i0 i1 => by
      try dsimp only
      rw [(ht.2 i i0 (by omega)).2.2.2.2])
    have rr := sumI_rng (c := 1) (f := fun i => if 0 < I (5 + i) 4 then (1 : Int) else 0) (I 3 1).toNat (fun i i0 i1 => by
      try dsimp only
      split <;> omega)
    refine Ok.seg mdL_law [1433] 90 ?_
    simp only [wp_nil, wp_cons, ↓stp, ↓lI, ↓lL, ↓lR, ↓lIn_0, ↓lIn_1, ↓lIn_2, ↓lIn_3, ↓lLn_0, ↓lLn_1, ↓lLn_2, ↓lLn_3, ↓lRn_0, ↓lRn_1, ↓lRn_2, ↓lRn_3, ↓pI, ↓pL, ↓pR, ↓pA, ↓pN, ↓pV, ↓fp, ↓tsw, ↓oS, ↓spMax, ↓spMin, ↓spAbs, ↓spObj, RI, RLg, b2i_lo, b2i_hi, getL, setL, ltL, killL, isLong, inl, cnd, br, tgt, rcv, rpl, mputI, mputL, mputP, fv, fr, mcat, mcs, entL, entA, rfit, nf_0, nf_1, nf_2, nf_3, nf2_0, nf2_1, b2i_0, b2i_1, RI_b2i, b2i_fit, List.append, List.length, List.replicate, List.cons_append, List.nil_append, List.length_cons, List.length_nil, List.replicate_succ, List.replicate_zero, List.tail_cons, reduceIte, if_true, if_false, ite_true, ite_false, Bool.false_eq_true, true_and, and_true, and_self, false_and, and_false, or_self, or_true, true_or, or_false, false_or, not_true_eq_false, not_false_eq_true, ne_eq, forall_const, implies_true, imp_self, true_implies, false_implies, Nat.reduceAdd, Nat.reduceSub, Nat.reduceMul, Nat.reduceDiv, Nat.reduceMod, Nat.reduceEqDiff, Nat.reduceLT, Nat.reduceLeDiff, Nat.reduceBEq, Nat.add_zero, Nat.zero_add, Nat.le_refl, Nat.not_lt_zero, Nat.succ_eq_add_one, Int.reduceNatCast, Int.cast_ofNat_Int, Int.reduceSub, Int.reduceMul, Int.reduceNeg, Int.reduceLE, Int.reduceLT, Int.reduceToNat, Int.reduceEq, Int.reduceNe, Int.reduceAdd, Option.some.injEq, ↓kb_1120, rmL_law, G_0, G_1, G_240, G_272, c1, c2, c3, c4, c5, d1, d2, d3, d4, d5, q1, q2, q3, q4, q5, hk2, hj2, ↓ocL_law_145, ↓spX8_count, ↓ocL_law_148, ↓spX9_count, z2, hx, hm, ← ht.1, e]
    exact ⟨by omega, by omega, h _ _ _ _ _ hr⟩
  by_cases z3 : xs (i + 1) = 3
  · skip
    refine Ok.seg mdL_law [1433] 90 ?_
    simp only [wp_nil, wp_cons, ↓stp, ↓lI, ↓lL, ↓lR, ↓lIn_0, ↓lIn_1, ↓lIn_2, ↓lIn_3, ↓lLn_0, ↓lLn_1, ↓lLn_2, ↓lLn_3, ↓lRn_0, ↓lRn_1, ↓lRn_2, ↓lRn_3, ↓pI, ↓pL, ↓pR, ↓pA, ↓pN, ↓pV, ↓fp, ↓tsw, ↓oS, ↓spMax, ↓spMin, ↓spAbs, ↓spObj, RI, RLg, b2i_lo, b2i_hi, getL, setL, ltL, killL, isLong, inl, cnd, br, tgt, rcv, rpl, mputI, mputL, mputP, fv, fr, mcat, mcs, entL, entA, rfit, nf_0, nf_1, nf_2, nf_3, nf2_0, nf2_1, b2i_0, b2i_1, RI_b2i, b2i_fit, List.append, List.length, List.replicate, List.cons_append, List.nil_append, List.length_cons, List.length_nil, List.replicate_succ, List.replicate_zero, List.tail_cons, reduceIte, if_true, if_false, ite_true, ite_false, Bool.false_eq_true, true_and, and_true, and_self, false_and, and_false, or_self, or_true, true_or, or_false, false_or, not_true_eq_false, not_false_eq_true, ne_eq, forall_const, implies_true, imp_self, true_implies, false_implies, Nat.reduceAdd, Nat.reduceSub, Nat.reduceMul, Nat.reduceDiv, Nat.reduceMod, Nat.reduceEqDiff, Nat.reduceLT, Nat.reduceLeDiff, Nat.reduceBEq, Nat.add_zero, Nat.zero_add, Nat.le_refl, Nat.not_lt_zero, Nat.succ_eq_add_one, Int.reduceNatCast, Int.cast_ofNat_Int, Int.reduceSub, Int.reduceMul, Int.reduceNeg, Int.reduceLE, Int.reduceLT, Int.reduceToNat, Int.reduceEq, Int.reduceNe, Int.reduceAdd, Option.some.injEq, ↓kb_1120, rmL_law, G_0, G_1, G_240, G_272, c1, c2, c3, c4, c5, d1, d2, d3, d4, d5, q1, q2, q3, q4, q5, hk2, hj2, ↓ocL_law_145, ↓spX8_count, ↓ocL_law_148, ↓spX9_count, z3, hx]
    intro I1 f x a
    refine ⟨mOK_hi f.hi hm, fun I2 L2 g gl m b => ?_⟩
    have e1 : I1 240 1 = I 3 1 := (f.hi _ _ (by omega)).trans ht.1.symm
    have be := hr.bq f x g m a b
    have e : sumI (lch (I2 250)) (I 3 1).toNat = sumI (lch (I1 41)) (I 3 1).toNat := sumI_congr _ (fun i i0 i1 => by
      unfold lch
      by_cases y : 0 < i
      · rw [(be i i0 (by omega)).1, (be (i - 1) (by omega) (by omega)).1]
      · rw [if_neg (fun w => y w.1), if_neg (fun w => y w.1)])
    have rr := sumI_rng (c := 1) (f := lch (I1 41)) (I 3 1).toNat (fun i _ _ => lch_rng _ _)
    rw [e1, e]
    exact ⟨by omega, by omega, fun _ => h _ _ _ _ _ (hr.q f x g m), fun z => (z rfl).elim⟩
  · have z4 : ¬ (0 ≤ xs (i + 1) ∧ xs (i + 1) ≤ 3) := by omega
    refine Ok.seg mdL_law [1433] 90 ?_
    simp only [wp_nil, wp_cons, ↓stp, ↓lI, ↓lL, ↓lR, ↓lIn_0, ↓lIn_1, ↓lIn_2, ↓lIn_3, ↓lLn_0, ↓lLn_1, ↓lLn_2, ↓lLn_3, ↓lRn_0, ↓lRn_1, ↓lRn_2, ↓lRn_3, ↓pI, ↓pL, ↓pR, ↓pA, ↓pN, ↓pV, ↓fp, ↓tsw, ↓oS, ↓spMax, ↓spMin, ↓spAbs, ↓spObj, RI, RLg, b2i_lo, b2i_hi, getL, setL, ltL, killL, isLong, inl, cnd, br, tgt, rcv, rpl, mputI, mputL, mputP, fv, fr, mcat, mcs, entL, entA, rfit, nf_0, nf_1, nf_2, nf_3, nf2_0, nf2_1, b2i_0, b2i_1, RI_b2i, b2i_fit, List.append, List.length, List.replicate, List.cons_append, List.nil_append, List.length_cons, List.length_nil, List.replicate_succ, List.replicate_zero, List.tail_cons, reduceIte, if_true, if_false, ite_true, ite_false, Bool.false_eq_true, true_and, and_true, and_self, false_and, and_false, or_self, or_true, true_or, or_false, false_or, not_true_eq_false, not_false_eq_true, ne_eq, forall_const, implies_true, imp_self, true_implies, false_implies, Nat.reduceAdd, Nat.reduceSub, Nat.reduceMul, Nat.reduceDiv, Nat.reduceMod, Nat.reduceEqDiff, Nat.reduceLT, Nat.reduceLeDiff, Nat.reduceBEq, Nat.add_zero, Nat.zero_add, Nat.le_refl, Nat.not_lt_zero, Nat.succ_eq_add_one, Int.reduceNatCast, Int.cast_ofNat_Int, Int.reduceSub, Int.reduceMul, Int.reduceNeg, Int.reduceLE, Int.reduceLT, Int.reduceToNat, Int.reduceEq, Int.reduceNe, Int.reduceAdd, Option.some.injEq, ↓kb_1120, rmL_law, G_0, G_1, G_240, G_272, c1, c2, c3, c4, c5, d1, d2, d3, d4, d5, q1, q2, q3, q4, q5, hk2, hj2, ↓ocL_law_145, ↓spX8_count, ↓ocL_law_148, ↓spX9_count, z0, z1, z2, z3, z4, hx, hm]
    exact h _ _ _ _ _ hr
set_option maxRecDepth 100000 in
set_option maxHeartbeats 1600000 in
theorem lw_30 {post : Option MV → MS → Prop} {T : Pt → Prop} {n : Nat} {xs : Int → Int} (hxs : ∀ j, RI (xs j)) {i : Int} (i0 : 0 ≤ i) (i1 : i + 6 ≤ n) {I L : Int → Int → Int} (hr : REL I L) {t5 t6 t7 : Option MV} {k j : Nat} (hk : k ≤ 601000) (hj : j ≤ 7290000) (h : ∀ (I' L' : Int → Int → Int) (u5 u6 u7 : Option MV), REL I' L' → Ok RL cL_law 8 rmL_law false (some (n, xs)) post T (1433, [some (.inr (.inr (some 0))), some (.inr (.inr (some 1))), some (.inr (.inr (some 240))), some (.inr (.inr (some 272))), some (.inl i), u5, u6, u7], [], (273, PF, I', L'), k, j)) : Ok RL cL_law 8 rmL_law false (some (n, xs)) post T (1383, [some (.inr (.inr (some 0))), some (.inr (.inr (some 1))), some (.inr (.inr (some 240))), some (.inr (.inr (some 272))), some (.inl i), t5, t6, t7], [], (273, PF, I, L), k, j) := by
  have q1 := hxs (i + 1)
  have q2 := hxs (i + 2)
  have q3 := hxs (i + 3)
  have q4 := hxs (i + 4)
  have q5 := hxs (i + 5)
  unfold RI at q1 q2 q3 q4 q5
  have c1 : 0 ≤ i + 1 := by omega
  have d1 : i + 1 < (n : Int) := by omega
  have c2 : 0 ≤ i + 2 := by omega
  have d2 : i + 2 < (n : Int) := by omega
  have c3 : 0 ≤ i + 3 := by omega
  have d3 : i + 3 < (n : Int) := by omega
  have c4 : 0 ≤ i + 4 := by omega
  have d4 : i + 4 < (n : Int) := by omega
  have c5 : 0 ≤ i + 5 := by omega
  have d5 : i + 5 < (n : Int) := by omega
  have hk2 : k ≤ 601024 := by omega
  have hj2 : j ≤ 7293034 := by omega
  obtain ⟨hx, hm, ht, hc, hn, hq, hs⟩ := id hr
  by_cases q : 0 ≤ xs (i + 1) ∧ xs (i + 1) ≤ 7
  · obtain ⟨e0, e1, e2⟩ := hs _ q.1 q.2
    have sb := hx.2.2.2.2.2.2 _ (shB_d q.1 q.2)
    by_cases z0 : I 264 (xs (i + 1)) = 0
    · skip
      refine Ok.seg mdL_law [1433] 90 ?_
      simp only [wp_nil, wp_cons, ↓stp, ↓lI, ↓lL, ↓lR, ↓lIn_0, ↓lIn_1, ↓lIn_2, ↓lIn_3, ↓lLn_0, ↓lLn_1, ↓lLn_2, ↓lLn_3, ↓lRn_0, ↓lRn_1, ↓lRn_2, ↓lRn_3, ↓pI, ↓pL, ↓pR, ↓pA, ↓pN, ↓pV, ↓fp, ↓tsw, ↓oS, ↓spMax, ↓spMin, ↓spAbs, ↓spObj, RI, RLg, b2i_lo, b2i_hi, getL, setL, ltL, killL, isLong, inl, cnd, br, tgt, rcv, rpl, mputI, mputL, mputP, fv, fr, mcat, mcs, entL, entA, rfit, nf_0, nf_1, nf_2, nf_3, nf2_0, nf2_1, b2i_0, b2i_1, RI_b2i, b2i_fit, List.append, List.length, List.replicate, List.cons_append, List.nil_append, List.length_cons, List.length_nil, List.replicate_succ, List.replicate_zero, List.tail_cons, reduceIte, if_true, if_false, ite_true, ite_false, Bool.false_eq_true, true_and, and_true, and_self, false_and, and_false, or_self, or_true, true_or, or_false, false_or, not_true_eq_false, not_false_eq_true, ne_eq, forall_const, implies_true, imp_self, true_implies, false_implies, Nat.reduceAdd, Nat.reduceSub, Nat.reduceMul, Nat.reduceDiv, Nat.reduceMod, Nat.reduceEqDiff, Nat.reduceLT, Nat.reduceLeDiff, Nat.reduceBEq, Nat.add_zero, Nat.zero_add, Nat.le_refl, Nat.not_lt_zero, Nat.succ_eq_add_one, Int.reduceNatCast, Int.cast_ofNat_Int, Int.reduceSub, Int.reduceMul, Int.reduceNeg, Int.reduceLE, Int.reduceLT, Int.reduceToNat, Int.reduceEq, Int.reduceNe, Int.reduceAdd, Option.some.injEq, ↓kb_1383, rmL_law, G_0, G_1, G_240, G_272, c1, c2, c3, c4, c5, d1, d2, d3, d4, d5, q1, q2, q3, q4, q5, hk2, hj2, ↓ocL_law_165, ↓spX8_weight, ↓ocL_law_168, ↓spX9_weight, q, hx, hm, e0, z0]
      exact h _ _ _ _ _ hr
    by_cases z1 : I 264 (xs (i + 1)) = 1
    · have st := sb.2.2.1 (e0.trans z1)
      unfold stOK at st
      have rr := heft_rng (k := I (208 + 4 * xs (i + 1) + 1) 0) ⟨st.2.2.1, st.2.2.2.1⟩ ⟨st.2.2.2.2.1, st.2.2.2.2.2.1⟩ ⟨st.2.2.2.2.2.2.1, st.2.2.2.2.2.2.2.1⟩
      obtain ⟨f0, f1, f2, f3⟩ := e2 z1
      refine Ok.seg mdL_law [1433] 90 ?_
      simp only [wp_nil, wp_cons, ↓stp, ↓lI, ↓lL, ↓lR, ↓lIn_0, ↓lIn_1, ↓lIn_2, ↓lIn_3, ↓lLn_0, ↓lLn_1, ↓lLn_2, ↓lLn_3, ↓lRn_0, ↓lRn_1, ↓lRn_2, ↓lRn_3, ↓pI, ↓pL, ↓pR, ↓pA, ↓pN, ↓pV, ↓fp, ↓tsw, ↓oS, ↓spMax, ↓spMin, ↓spAbs, ↓spObj, RI, RLg, b2i_lo, b2i_hi, getL, setL, ltL, killL, isLong, inl, cnd, br, tgt, rcv, rpl, mputI, mputL, mputP, fv, fr, mcat, mcs, entL, entA, rfit, nf_0, nf_1, nf_2, nf_3, nf2_0, nf2_1, b2i_0, b2i_1, RI_b2i, b2i_fit, List.append, List.length, List.replicate, List.cons_append, List.nil_append, List.length_cons, List.length_nil, List.replicate_succ, List.replicate_zero, List.tail_cons, reduceIte, if_true, if_false, ite_true, ite_false, Bool.false_eq_true, true_and, and_true, and_self, false_and, and_false, or_self, or_true, true_or, or_false, false_or, not_true_eq_false, not_false_eq_true, ne_eq, forall_const, implies_true, imp_self, true_implies, false_implies, Nat.reduceAdd, Nat.reduceSub, Nat.reduceMul, Nat.reduceDiv, Nat.reduceMod, Nat.reduceEqDiff, Nat.reduceLT, Nat.reduceLeDiff, Nat.reduceBEq, Nat.add_zero, Nat.zero_add, Nat.le_refl, Nat.not_lt_zero, Nat.succ_eq_add_one, Int.reduceNatCast, Int.cast_ofNat_Int, Int.reduceSub, Int.reduceMul, Int.reduceNeg, Int.reduceLE, Int.reduceLT, Int.reduceToNat, Int.reduceEq, Int.reduceNe, Int.reduceAdd, Option.some.injEq, ↓kb_1383, rmL_law, G_0, G_1, G_240, G_272, c1, c2, c3, c4, c5, d1, d2, d3, d4, d5, q1, q2, q3, q4, q5, hk2, hj2, ↓ocL_law_165, ↓spX8_weight, ↓ocL_law_168, ↓spX9_weight, q, hx, hm, e0, z1, ← f0, ← f1, ← f2, ← f3]
      exact ⟨by omega, by omega, h _ _ _ _ _ hr⟩
    · skip
      refine Ok.seg mdL_law [1433] 90 ?_
      simp only [wp_nil, wp_cons, ↓stp, ↓lI, ↓lL, ↓lR, ↓lIn_0, ↓lIn_1, ↓lIn_2, ↓lIn_3, ↓lLn_0, ↓lLn_1, ↓lLn_2, ↓lLn_3, ↓lRn_0, ↓lRn_1, ↓lRn_2, ↓lRn_3, ↓pI, ↓pL, ↓pR, ↓pA, ↓pN, ↓pV, ↓fp, ↓tsw, ↓oS, ↓spMax, ↓spMin, ↓spAbs, ↓spObj, RI, RLg, b2i_lo, b2i_hi, getL, setL, ltL, killL, isLong, inl, cnd, br, tgt, rcv, rpl, mputI, mputL, mputP, fv, fr, mcat, mcs, entL, entA, rfit, nf_0, nf_1, nf_2, nf_3, nf2_0, nf2_1, b2i_0, b2i_1, RI_b2i, b2i_fit, List.append, List.length, List.replicate, List.cons_append, List.nil_append, List.length_cons, List.length_nil, List.replicate_succ, List.replicate_zero, List.tail_cons, reduceIte, if_true, if_false, ite_true, ite_false, Bool.false_eq_true, true_and, and_true, and_self, false_and, and_false, or_self, or_true, true_or, or_false, false_or, not_true_eq_false, not_false_eq_true, ne_eq, forall_const, implies_true, imp_self, true_implies, false_implies, Nat.reduceAdd, Nat.reduceSub, Nat.reduceMul, Nat.reduceDiv, Nat.reduceMod, Nat.reduceEqDiff, Nat.reduceLT, Nat.reduceLeDiff, Nat.reduceBEq, Nat.add_zero, Nat.zero_add, Nat.le_refl, Nat.not_lt_zero, Nat.succ_eq_add_one, Int.reduceNatCast, Int.cast_ofNat_Int, Int.reduceSub, Int.reduceMul, Int.reduceNeg, Int.reduceLE, Int.reduceLT, Int.reduceToNat, Int.reduceEq, Int.reduceNe, Int.reduceAdd, Option.some.injEq, ↓kb_1383, rmL_law, G_0, G_1, G_240, G_272, c1, c2, c3, c4, c5, d1, d2, d3, d4, d5, q1, q2, q3, q4, q5, hk2, hj2, ↓ocL_law_165, ↓spX8_weight, ↓ocL_law_168, ↓spX9_weight, q, hx, hm, e0, z0, z1]
      exact h _ _ _ _ _ hr
  · skip
    refine Ok.seg mdL_law [1433] 90 ?_
    simp only [wp_nil, wp_cons, ↓stp, ↓lI, ↓lL, ↓lR, ↓lIn_0, ↓lIn_1, ↓lIn_2, ↓lIn_3, ↓lLn_0, ↓lLn_1, ↓lLn_2, ↓lLn_3, ↓lRn_0, ↓lRn_1, ↓lRn_2, ↓lRn_3, ↓pI, ↓pL, ↓pR, ↓pA, ↓pN, ↓pV, ↓fp, ↓tsw, ↓oS, ↓spMax, ↓spMin, ↓spAbs, ↓spObj, RI, RLg, b2i_lo, b2i_hi, getL, setL, ltL, killL, isLong, inl, cnd, br, tgt, rcv, rpl, mputI, mputL, mputP, fv, fr, mcat, mcs, entL, entA, rfit, nf_0, nf_1, nf_2, nf_3, nf2_0, nf2_1, b2i_0, b2i_1, RI_b2i, b2i_fit, List.append, List.length, List.replicate, List.cons_append, List.nil_append, List.length_cons, List.length_nil, List.replicate_succ, List.replicate_zero, List.tail_cons, reduceIte, if_true, if_false, ite_true, ite_false, Bool.false_eq_true, true_and, and_true, and_self, false_and, and_false, or_self, or_true, true_or, or_false, false_or, not_true_eq_false, not_false_eq_true, ne_eq, forall_const, implies_true, imp_self, true_implies, false_implies, Nat.reduceAdd, Nat.reduceSub, Nat.reduceMul, Nat.reduceDiv, Nat.reduceMod, Nat.reduceEqDiff, Nat.reduceLT, Nat.reduceLeDiff, Nat.reduceBEq, Nat.add_zero, Nat.zero_add, Nat.le_refl, Nat.not_lt_zero, Nat.succ_eq_add_one, Int.reduceNatCast, Int.cast_ofNat_Int, Int.reduceSub, Int.reduceMul, Int.reduceNeg, Int.reduceLE, Int.reduceLT, Int.reduceToNat, Int.reduceEq, Int.reduceNe, Int.reduceAdd, Option.some.injEq, ↓kb_1383, rmL_law, G_0, G_1, G_240, G_272, c1, c2, c3, c4, c5, d1, d2, d3, d4, d5, q1, q2, q3, q4, q5, hk2, hj2, ↓ocL_law_165, ↓spX8_weight, ↓ocL_law_168, ↓spX9_weight, q, hx, hm]
    exact h _ _ _ _ _ hr
