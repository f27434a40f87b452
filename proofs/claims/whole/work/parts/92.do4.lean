/-! the law, case by case: along, worth, delta, on, race -/
set_option maxRecDepth 100000 in
set_option maxHeartbeats 1600000 in
theorem lw_9 {post : Option MV → MS → Prop} {n : Nat} {xs : Int → Int} (hxs : ∀ j, RI (xs j)) {i : Int} (i0 : 0 ≤ i) (i1 : i + 6 ≤ n) {I L : Int → Int → Int} (hr : REL I L) {t5 t6 t7 : Option MV} {k j : Nat} (hk : k ≤ 600000) (hj : j ≤ 7290000) (h : ∀ (I' L' : Int → Int → Int) (u5 u6 u7 : Option MV) (k' j' : Nat), REL I' L' → k' ≤ k + 1 → j' ≤ j + 6 → OkX RL cL_law 8 rmL_law (some (n, xs)) (fun _ => True) post (1433, [some (.inr (.inr (some 0))), some (.inr (.inr (some 1))), some (.inr (.inr (some 240))), some (.inr (.inr (some 272))), some (.inl i), u5, u6, u7], [], (273, PF, I', L'), k', j')) : OkX RL cL_law 8 rmL_law (some (n, xs)) (fun _ => True) post (493, [some (.inr (.inr (some 0))), some (.inr (.inr (some 1))), some (.inr (.inr (some 240))), some (.inr (.inr (some 272))), some (.inl i), t5, t6, t7], [], (273, PF, I, L), k, j) := by
  have q1 := hxs (i + 1)
  have q2 := hxs (i + 2)
  have q3 := hxs (i + 3)
  have q4 := hxs (i + 4)
  have q5 := hxs (i + 5)
  unfold RI at q1 q2 q3 q4 q5
  have c1 : 0 ≤ i + 1 := by omega
  have d1 : i + 1 < (n : Int) := by omega
  have c2 : 0 ≤ i + 2 := by omega
  have d2 : i + 2 < (n : Int) := by omega
  have c3 : 0 ≤ i + 3 := by omega
  have d3 : i + 3 < (n : Int) := by omega
  have c4 : 0 ≤ i + 4 := by omega
  have d4 : i + 4 < (n : Int) := by omega
  have c5 : 0 ≤ i + 5 := by omega
  have d5 : i + 5 < (n : Int) := by omega
  have hk2 : k + 1 ≤ 601024 := by omega
  have hj2 : j + 6 ≤ 7293034 := by omega
  obtain ⟨hx, hm, ht, hc, hn, hq, hs⟩ := id hr
  refine OkX.of_ok (T := fun pt => pt = (501, [some (.inr (.inr (some 0))), some (.inr (.inr (some 1))), some (.inr (.inr (some 240))), some (.inr (.inr (some 272))), some (.inl i), t5, t6, t7], [.inr (.inr (some 272)), .inl (xs (i + 1)), .inr (.inr (some 1))], (273, PF, I, L), k, j)) (Ok.seg mdL_law [501] 60 ?_) ?_
  · simp only [wp_nil, wp_cons, ↓stp, ↓lI, ↓lL, ↓lR, ↓lIn_0, ↓lIn_1, ↓lIn_2, ↓lIn_3, ↓lLn_0, ↓lLn_1, ↓lLn_2, ↓lLn_3, ↓lRn_0, ↓lRn_1, ↓lRn_2, ↓lRn_3, ↓pI, ↓pL, ↓pR, ↓pA, ↓pN, ↓pV, ↓fp, ↓tsw, ↓oS, ↓spMax, ↓spMin, ↓spAbs, ↓spObj, RI, RLg, b2i_lo, b2i_hi, getL, setL, ltL, killL, isLong, inl, cnd, br, tgt, rcv, rpl, mputI, mputL, mputP, fv, fr, mcat, mcs, entL, entA, rfit, nf_0, nf_1, nf_2, nf_3, nf2_0, nf2_1, b2i_0, b2i_1, RI_b2i, b2i_fit, List.append, List.length, List.replicate, List.cons_append, List.nil_append, List.length_cons, List.length_nil, List.replicate_succ, List.replicate_zero, List.tail_cons, reduceIte, if_true, if_false, ite_true, ite_false, Bool.false_eq_true, true_and, and_true, and_self, false_and, and_false, or_self, or_true, true_or, or_false, false_or, not_true_eq_false, not_false_eq_true, ne_eq, forall_const, implies_true, imp_self, true_implies, false_implies, Nat.reduceAdd, Nat.reduceSub, Nat.reduceMul, Nat.reduceDiv, Nat.reduceMod, Nat.reduceEqDiff, Nat.reduceLT, Nat.reduceLeDiff, Nat.reduceBEq, Nat.add_zero, Nat.zero_add, Nat.le_refl, Nat.not_lt_zero, Nat.succ_eq_add_one, Int.reduceNatCast, Int.cast_ofNat_Int, Int.reduceSub, Int.reduceMul, Int.reduceNeg, Int.reduceLE, Int.reduceLT, Int.reduceToNat, Int.reduceEq, Int.reduceNe, Int.reduceAdd, Option.some.injEq, ↓kb_493, ↓kb_501, ↓kb_504, ↓kb_529, ↓kb_545, rmL_law, G_0, G_1, G_240, G_272, c1, c2, c3, c4, c5, d1, d2, d3, d4, d5, q1, q2, q3, q4, q5, hk2, hj2, ↓ocL_law_82, ↓spX9_along, ↓ocL_law_83, ↓spX9_thrown]
    exact Ok.thr rfl
  · rintro _ rfl
    refine callHS (x := 77) (n := 3) (As := [.inr (.inr (some 1)), .inl (xs (i + 1)), .inr (.inr (some 272))]) (rest := []) (K := fun r σ' => (r = some (.inl 1) ∧ σ' = (273, PF, I, L) ∧ ¬ (0 ≤ xs (i + 1) ∧ xs (i + 1) ≤ 2)) ∨ (∃ I1 v, r = some (.inl 0) ∧ σ' = (273, PF, I1, upI L 272 0 v) ∧ (0 ≤ xs (i + 1) ∧ xs (i + 1) ≤ 2) ∧ frQ I I1 ∧ xOK I1 ∧ anA I I1 (xs (i + 1)) v)) mL_along rfl (List.forall_mem_cons.mpr ⟨(ws_mem (List.mem_of_getElem? (i := 770) (by decide +kernel)) (by decide +kernel)), List.forall_mem_cons.mpr ⟨(ws_mem (List.mem_of_getElem? (i := 771) (by decide +kernel)) (by decide +kernel)), List.forall_mem_cons.mpr ⟨(ws_mem (List.mem_of_getElem? (i := 52) (by decide +kernel)) (by decide +kernel)), List.forall_mem_cons.mpr ⟨(ws_mem (List.mem_of_getElem? (i := 772) (by decide +kernel)) (by decide +kernel)), fun _ h => absurd h List.not_mem_nil⟩⟩⟩⟩) rfl (by unfold nice; decide +kernel) (by unfold rfits; decide) ⟨rfl, rfl⟩ (by decide +kernel) rfl (by decide) (show k + 1 ≤ 601024 by omega) (show j + 6 ≤ 7293034 by omega) ⟨rfl, rfl, rfl, hxs _, hx, fun q => .inl ⟨rfl, rfl, q⟩, fun q I1 v f x a => .inr ⟨I1, v, rfl, rfl, q, f, x, a⟩⟩ ?_
    rintro _ _ (⟨rfl, rfl, q⟩ | ⟨I1, v, rfl, rfl, q, f, x, a⟩)
    · show OkX RL cL_law 8 rmL_law (some (n, xs)) (fun _ => True) post (504, _, [.inl 1], _, k + 1, j + 6)
      refine OkX.of_ok (T := fun pt => ∃ I' L' u5 u6 u7, REL I' L' ∧ pt = (1433, [some (.inr (.inr (some 0))), some (.inr (.inr (some 1))), some (.inr (.inr (some 240))), some (.inr (.inr (some 272))), some (.inl i), u5, u6, u7], [], (273, PF, I', L'), k + 1, j + 6)) (Ok.seg mdL_law [1433] 60 ?_) (fun _ ⟨I', L', u5, u6, u7, hR, e⟩ => by rw [e]; exact h _ _ _ _ _ _ _ hR (Nat.le_refl _) (Nat.le_refl _))
      simp only [wp_nil, wp_cons, ↓stp, ↓lI, ↓lL, ↓lR, ↓lIn_0, ↓lIn_1, ↓lIn_2, ↓lIn_3, ↓lLn_0, ↓lLn_1, ↓lLn_2, ↓lLn_3, ↓lRn_0, ↓lRn_1, ↓lRn_2, ↓lRn_3, ↓pI, ↓pL, ↓pR, ↓pA, ↓pN, ↓pV, ↓fp, ↓tsw, ↓oS, ↓spMax, ↓spMin, ↓spAbs, ↓spObj, RI, RLg, b2i_lo, b2i_hi, getL, setL, ltL, killL, isLong, inl, cnd, br, tgt, rcv, rpl, mputI, mputL, mputP, fv, fr, mcat, mcs, entL, entA, rfit, nf_0, nf_1, nf_2, nf_3, nf2_0, nf2_1, b2i_0, b2i_1, RI_b2i, b2i_fit, List.append, List.length, List.replicate, List.cons_append, List.nil_append, List.length_cons, List.length_nil, List.replicate_succ, List.replicate_zero, List.tail_cons, reduceIte, if_true, if_false, ite_true, ite_false, Bool.false_eq_true, true_and, and_true, and_self, false_and, and_false, or_self, or_true, true_or, or_false, false_or, not_true_eq_false, not_false_eq_true, ne_eq, forall_const, implies_true, imp_self, true_implies, false_implies, Nat.reduceAdd, Nat.reduceSub, Nat.reduceMul, Nat.reduceDiv, Nat.reduceMod, Nat.reduceEqDiff, Nat.reduceLT, Nat.reduceLeDiff, Nat.reduceBEq, Nat.add_zero, Nat.zero_add, Nat.le_refl, Nat.not_lt_zero, Nat.succ_eq_add_one, Int.reduceNatCast, Int.cast_ofNat_Int, Int.reduceSub, Int.reduceMul, Int.reduceNeg, Int.reduceLE, Int.reduceLT, Int.reduceToNat, Int.reduceEq, Int.reduceNe, Int.reduceAdd, Option.some.injEq, ↓kb_493, ↓kb_501, ↓kb_504, ↓kb_529, ↓kb_545, rmL_law, G_0, G_1, G_240, G_272, c1, c2, c3, c4, c5, d1, d2, d3, d4, d5, q1, q2, q3, q4, q5, hk2, hj2, ↓ocL_law_82, ↓spX9_along, ↓ocL_law_83, ↓spX9_thrown, q, hm]
      intro I2 g m e
      exact ⟨by omega, fun _ => Ok.thr ⟨_, _, _, _, _, hr.q2 g m, rfl⟩, fun z => (z e).elim⟩
    · have hrL : REL I (upI L 272 0 v) := hr.chL (fun b k b0 b1 => upI_ne (by omega))
      show OkX RL cL_law 8 rmL_law (some (n, xs)) (fun _ => True) post (504, _, [.inl 0], _, k + 1, j + 6)
      refine OkX.of_ok (T := fun pt => ∃ I' L' u5 u6 u7, REL I' L' ∧ pt = (1433, [some (.inr (.inr (some 0))), some (.inr (.inr (some 1))), some (.inr (.inr (some 240))), some (.inr (.inr (some 272))), some (.inl i), u5, u6, u7], [], (273, PF, I', L'), k + 1, j + 6)) (Ok.seg mdL_law [1433] 60 ?_) (fun _ ⟨I', L', u5, u6, u7, hR, e⟩ => by rw [e]; exact h _ _ _ _ _ _ _ hR (Nat.le_refl _) (Nat.le_refl _))
      simp only [wp_nil, wp_cons, ↓stp, ↓lI, ↓lL, ↓lR, ↓lIn_0, ↓lIn_1, ↓lIn_2, ↓lIn_3, ↓lLn_0, ↓lLn_1, ↓lLn_2, ↓lLn_3, ↓lRn_0, ↓lRn_1, ↓lRn_2, ↓lRn_3, ↓pI, ↓pL, ↓pR, ↓pA, ↓pN, ↓pV, ↓fp, ↓tsw, ↓oS, ↓spMax, ↓spMin, ↓spAbs, ↓spObj, RI, RLg, b2i_lo, b2i_hi, getL, setL, ltL, killL, isLong, inl, cnd, br, tgt, rcv, rpl, mputI, mputL, mputP, fv, fr, mcat, mcs, entL, entA, rfit, nf_0, nf_1, nf_2, nf_3, nf2_0, nf2_1, b2i_0, b2i_1, RI_b2i, b2i_fit, List.append, List.length, List.replicate, List.cons_append, List.nil_append, List.length_cons, List.length_nil, List.replicate_succ, List.replicate_zero, List.tail_cons, reduceIte, if_true, if_false, ite_true, ite_false, Bool.false_eq_true, true_and, and_true, and_self, false_and, and_false, or_self, or_true, true_or, or_false, false_or, not_true_eq_false, not_false_eq_true, ne_eq, forall_const, implies_true, imp_self, true_implies, false_implies, Nat.reduceAdd, Nat.reduceSub, Nat.reduceMul, Nat.reduceDiv, Nat.reduceMod, Nat.reduceEqDiff, Nat.reduceLT, Nat.reduceLeDiff, Nat.reduceBEq, Nat.add_zero, Nat.zero_add, Nat.le_refl, Nat.not_lt_zero, Nat.succ_eq_add_one, Int.reduceNatCast, Int.cast_ofNat_Int, Int.reduceSub, Int.reduceMul, Int.reduceNeg, Int.reduceLE, Int.reduceLT, Int.reduceToNat, Int.reduceEq, Int.reduceNe, Int.reduceAdd, Option.some.injEq, ↓kb_493, ↓kb_501, ↓kb_504, ↓kb_529, ↓kb_545, rmL_law, G_0, G_1, G_240, G_272, c1, c2, c3, c4, c5, d1, d2, d3, d4, d5, q1, q2, q3, q4, q5, hk2, hj2, ↓ocL_law_82, ↓spX9_along, ↓ocL_law_83, ↓spX9_thrown, q, upI_same]
      refine ⟨mOK_hi f.hi hrL.2.1, fun I2 q' g m e0 b => ?_⟩
      obtain ⟨qq, a1, a2⟩ := a
      rw [f.V] at b
      have n1 : I1 240 1 = I 3 1 := (f.hi _ _ (by omega)).trans ht.1.symm
      have e : sumI (fun i => tmv (I1 242 i) 0 (q' i)) (I1 240 1).toNat = v := by
        rw [n1, a2]
        refine sumI_congr _ (fun s s0 s1 => ?_)
        try dsimp only
        rw [f.hi 242 s (by omega), ← (ht.2 s s0 (by omega)).2.1, hr.stay a1 b s s0 (by omega)]
      have rg := sumI_rng (c := 101000) (f := fun i => tmv (I (5 + i) 1) 0 (qq i)) (I 3 1).toNat (fun s s0 s1 => by
        have u := hx.1.2.2 s s0 (by omega)
        unfold stOK at u
        exact tmv_rng (by omega) (by omega) (a1.1.2.1 s s0 (by omega)).1)
      have r2 := hx.1.2.1
      rw [← a2] at rg
      rw [e, lcm_self]
      exact ⟨by omega, fun _ => ⟨by omega, by omega, by omega, fun _ => Ok.thr ⟨_, _, _, _, _, hrL.q f x g m, rfl⟩, fun z => (z rfl).elim⟩, fun z => (z e0).elim⟩
set_option maxRecDepth 100000 in
set_option maxHeartbeats 1600000 in
theorem lw_12 {post : Option MV → MS → Prop} {n : Nat} {xs : Int → Int} (hxs : ∀ j, RI (xs j)) {i : Int} (i0 : 0 ≤ i) (i1 : i + 6 ≤ n) {I L : Int → Int → Int} (hr : REL I L) {t5 t6 t7 : Option MV} {k j : Nat} (hk : k ≤ 600000) (hj : j ≤ 7290000) (h : ∀ (I' L' : Int → Int → Int) (u5 u6 u7 : Option MV) (k' j' : Nat), REL I' L' → k' ≤ k + 1 → j' ≤ j + 6 → OkX RL cL_law 8 rmL_law (some (n, xs)) (fun _ => True) post (1433, [some (.inr (.inr (some 0))), some (.inr (.inr (some 1))), some (.inr (.inr (some 240))), some (.inr (.inr (some 272))), some (.inl i), u5, u6, u7], [], (273, PF, I', L'), k', j')) : OkX RL cL_law 8 rmL_law (some (n, xs)) (fun _ => True) post (599, [some (.inr (.inr (some 0))), some (.inr (.inr (some 1))), some (.inr (.inr (some 240))), some (.inr (.inr (some 272))), some (.inl i), t5, t6, t7], [], (273, PF, I, L), k, j) := by
  have q1 := hxs (i + 1)
  have q2 := hxs (i + 2)
  have q3 := hxs (i + 3)
  have q4 := hxs (i + 4)
  have q5 := hxs (i + 5)
  unfold RI at q1 q2 q3 q4 q5
  have c1 : 0 ≤ i + 1 := by omega
  have d1 : i + 1 < (n : Int) := by omega
  have c2 : 0 ≤ i + 2 := by omega
  have d2 : i + 2 < (n : Int) := by omega
  have c3 : 0 ≤ i + 3 := by omega
  have d3 : i + 3 < (n : Int) := by omega
  have c4 : 0 ≤ i + 4 := by omega
  have d4 : i + 4 < (n : Int) := by omega
  have c5 : 0 ≤ i + 5 := by omega
  have d5 : i + 5 < (n : Int) := by omega
  have hk2 : k + 1 ≤ 601024 := by omega
  have hj2 : j + 6 ≤ 7293034 := by omega
  obtain ⟨hx, hm, ht, hc, hn, hq, hs⟩ := id hr
  refine OkX.of_ok (T := fun pt => pt = (613, [some (.inr (.inr (some 0))), some (.inr (.inr (some 1))), some (.inr (.inr (some 240))), some (.inr (.inr (some 272))), some (.inl i), t5, t6, t7], [.inr (.inr (some 272)), .inl (xs (i + 2)), .inl (xs (i + 1)), .inr (.inr (some 1))], (273, PF, I, L), k, j)) (Ok.seg mdL_law [613] 60 ?_) ?_
  · simp only [wp_nil, wp_cons, ↓stp, ↓lI, ↓lL, ↓lR, ↓lIn_0, ↓lIn_1, ↓lIn_2, ↓lIn_3, ↓lLn_0, ↓lLn_1, ↓lLn_2, ↓lLn_3, ↓lRn_0, ↓lRn_1, ↓lRn_2, ↓lRn_3, ↓pI, ↓pL, ↓pR, ↓pA, ↓pN, ↓pV, ↓fp, ↓tsw, ↓oS, ↓spMax, ↓spMin, ↓spAbs, ↓spObj, RI, RLg, b2i_lo, b2i_hi, getL, setL, ltL, killL, isLong, inl, cnd, br, tgt, rcv, rpl, mputI, mputL, mputP, fv, fr, mcat, mcs, entL, entA, rfit, nf_0, nf_1, nf_2, nf_3, nf2_0, nf2_1, b2i_0, b2i_1, RI_b2i, b2i_fit, List.append, List.length, List.replicate, List.cons_append, List.nil_append, List.length_cons, List.length_nil, List.replicate_succ, List.replicate_zero, List.tail_cons, reduceIte, if_true, if_false, ite_true, ite_false, Bool.false_eq_true, true_and, and_true, and_self, false_and, and_false, or_self, or_true, true_or, or_false, false_or, not_true_eq_false, not_false_eq_true, ne_eq, forall_const, implies_true, imp_self, true_implies, false_implies, Nat.reduceAdd, Nat.reduceSub, Nat.reduceMul, Nat.reduceDiv, Nat.reduceMod, Nat.reduceEqDiff, Nat.reduceLT, Nat.reduceLeDiff, Nat.reduceBEq, Nat.add_zero, Nat.zero_add, Nat.le_refl, Nat.not_lt_zero, Nat.succ_eq_add_one, Int.reduceNatCast, Int.cast_ofNat_Int, Int.reduceSub, Int.reduceMul, Int.reduceNeg, Int.reduceLE, Int.reduceLT, Int.reduceToNat, Int.reduceEq, Int.reduceNe, Int.reduceAdd, Option.some.injEq, ↓kb_599, ↓kb_613, ↓kb_616, ↓kb_647, ↓kb_663, rmL_law, G_0, G_1, G_240, G_272, c1, c2, c3, c4, c5, d1, d2, d3, d4, d5, q1, q2, q3, q4, q5, hk2, hj2, ↓ocL_law_98, ↓spX9_worth, ↓ocL_law_83, ↓spX9_thrown]
    exact Ok.thr rfl
  · rintro _ rfl
    refine callHS (x := 95) (n := 4) (As := [.inr (.inr (some 1)), .inl (xs (i + 1)), .inl (xs (i + 2)), .inr (.inr (some 272))]) (rest := []) (K := fun r σ' => (r = some (.inl 1) ∧ σ' = (273, PF, I, L) ∧ ¬ (0 ≤ xs (i + 1) ∧ xs (i + 1) ≤ 2 ∧ setP (xs (i + 1)) (xs (i + 2)))) ∨ (∃ I1 v, r = some (.inl 0) ∧ σ' = (273, PF, I1, upI L 272 0 v) ∧ (0 ≤ xs (i + 1) ∧ xs (i + 1) ≤ 2 ∧ setP (xs (i + 1)) (xs (i + 2))) ∧ frQ I I1 ∧ xOK I1 ∧ anW I I1 (xs (i + 1)) (xs (i + 2)) v)) mL_worth rfl (List.forall_mem_cons.mpr ⟨(ws_mem (List.mem_of_getElem? (i := 794) (by decide +kernel)) (by decide +kernel)), List.forall_mem_cons.mpr ⟨(ws_mem (List.mem_of_getElem? (i := 795) (by decide +kernel)) (by decide +kernel)), List.forall_mem_cons.mpr ⟨(ws_mem (List.mem_of_getElem? (i := 52) (by decide +kernel)) (by decide +kernel)), List.forall_mem_cons.mpr ⟨(ws_mem (List.mem_of_getElem? (i := 796) (by decide +kernel)) (by decide +kernel)), fun _ h => absurd h List.not_mem_nil⟩⟩⟩⟩) rfl (by unfold nice; decide +kernel) (by unfold rfits; decide) ⟨rfl, rfl⟩ (by decide +kernel) rfl (by decide) (show k + 1 ≤ 601024 by omega) (show j + 6 ≤ 7293034 by omega) ⟨rfl, rfl, rfl, hxs _, hxs _, hx, fun q => .inl ⟨rfl, rfl, q⟩, fun q I1 v f x a => .inr ⟨I1, v, rfl, rfl, q, f, x, a⟩⟩ ?_
    rintro _ _ (⟨rfl, rfl, q⟩ | ⟨I1, v, rfl, rfl, q, f, x, a⟩)
    · show OkX RL cL_law 8 rmL_law (some (n, xs)) (fun _ => True) post (616, _, [.inl 1], _, k + 1, j + 6)
      refine OkX.of_ok (T := fun pt => ∃ I' L' u5 u6 u7, REL I' L' ∧ pt = (1433, [some (.inr (.inr (some 0))), some (.inr (.inr (some 1))), some (.inr (.inr (some 240))), some (.inr (.inr (some 272))), some (.inl i), u5, u6, u7], [], (273, PF, I', L'), k + 1, j + 6)) (Ok.seg mdL_law [1433] 60 ?_) (fun _ ⟨I', L', u5, u6, u7, hR, e⟩ => by rw [e]; exact h _ _ _ _ _ _ _ hR (Nat.le_refl _) (Nat.le_refl _))
      simp only [wp_nil, wp_cons, ↓stp, ↓lI, ↓lL, ↓lR, ↓lIn_0, ↓lIn_1, ↓lIn_2, ↓lIn_3, ↓lLn_0, ↓lLn_1, ↓lLn_2, ↓lLn_3, ↓lRn_0, ↓lRn_1, ↓lRn_2, ↓lRn_3, ↓pI, ↓pL, ↓pR, ↓pA, ↓pN, ↓pV, ↓fp, ↓tsw, ↓oS, ↓spMax, ↓spMin, ↓spAbs, ↓spObj, RI, RLg, b2i_lo, b2i_hi, getL, setL, ltL, killL, isLong, inl, cnd, br, tgt, rcv, rpl, mputI, mputL, mputP, fv, fr, mcat, mcs, entL, entA, rfit, nf_0, nf_1, nf_2, nf_3, nf2_0, nf2_1, b2i_0, b2i_1, RI_b2i, b2i_fit, List.append, List.length, List.replicate, List.cons_append, List.nil_append, List.length_cons, List.length_nil, List.replicate_succ, List.replicate_zero, List.tail_cons, reduceIte, if_true, if_false, ite_true, ite_false, Bool.false_eq_true, true_and, and_true, and_self, false_and, and_false, or_self, or_true, true_or, or_false, false_or, not_true_eq_false, not_false_eq_true, ne_eq, forall_const, implies_true, imp_self, true_implies, false_implies, Nat.reduceAdd, Nat.reduceSub, Nat.reduceMul, Nat.reduceDiv, Nat.reduceMod, Nat.reduceEqDiff, Nat.reduceLT, Nat.reduceLeDiff, Nat.reduceBEq, Nat.add_zero, Nat.zero_add, Nat.le_refl, Nat.not_lt_zero, Nat.succ_eq_add_one, Int.reduceNatCast, Int.cast_ofNat_Int, Int.reduceSub, Int.reduceMul, Int.reduceNeg, Int.reduceLE, Int.reduceLT, Int.reduceToNat, Int.reduceEq, Int.reduceNe, Int.reduceAdd, Option.some.injEq, ↓kb_599, ↓kb_613, ↓kb_616, ↓kb_647, ↓kb_663, rmL_law, G_0, G_1, G_240, G_272, c1, c2, c3, c4, c5, d1, d2, d3, d4, d5, q1, q2, q3, q4, q5, hk2, hj2, ↓ocL_law_98, ↓spX9_worth, ↓ocL_law_83, ↓spX9_thrown, q, hm]
      intro I2 g m e
      exact ⟨by omega, fun _ => Ok.thr ⟨_, _, _, _, _, hr.q2 g m, rfl⟩, fun z => (z e).elim⟩
    · have hrL : REL I (upI L 272 0 v) := hr.chL (fun b k b0 b1 => upI_ne (by omega))
      show OkX RL cL_law 8 rmL_law (some (n, xs)) (fun _ => True) post (616, _, [.inl 0], _, k + 1, j + 6)
      refine OkX.of_ok (T := fun pt => ∃ I' L' u5 u6 u7, REL I' L' ∧ pt = (1433, [some (.inr (.inr (some 0))), some (.inr (.inr (some 1))), some (.inr (.inr (some 240))), some (.inr (.inr (some 272))), some (.inl i), u5, u6, u7], [], (273, PF, I', L'), k + 1, j + 6)) (Ok.seg mdL_law [1433] 60 ?_) (fun _ ⟨I', L', u5, u6, u7, hR, e⟩ => by rw [e]; exact h _ _ _ _ _ _ _ hR (Nat.le_refl _) (Nat.le_refl _))
      simp only [wp_nil, wp_cons, ↓stp, ↓lI, ↓lL, ↓lR, ↓lIn_0, ↓lIn_1, ↓lIn_2, ↓lIn_3, ↓lLn_0, ↓lLn_1, ↓lLn_2, ↓lLn_3, ↓lRn_0, ↓lRn_1, ↓lRn_2, ↓lRn_3, ↓pI, ↓pL, ↓pR, ↓pA, ↓pN, ↓pV, ↓fp, ↓tsw, ↓oS, ↓spMax, ↓spMin, ↓spAbs, ↓spObj, RI, RLg, b2i_lo, b2i_hi, getL, setL, ltL, killL, isLong, inl, cnd, br, tgt, rcv, rpl, mputI, mputL, mputP, fv, fr, mcat, mcs, entL, entA, rfit, nf_0, nf_1, nf_2, nf_3, nf2_0, nf2_1, b2i_0, b2i_1, RI_b2i, b2i_fit, List.append, List.length, List.replicate, List.cons_append, List.nil_append, List.length_cons, List.length_nil, List.replicate_succ, List.replicate_zero, List.tail_cons, reduceIte, if_true, if_false, ite_true, ite_false, Bool.false_eq_true, true_and, and_true, and_self, false_and, and_false, or_self, or_true, true_or, or_false, false_or, not_true_eq_false, not_false_eq_true, ne_eq, forall_const, implies_true, imp_self, true_implies, false_implies, Nat.reduceAdd, Nat.reduceSub, Nat.reduceMul, Nat.reduceDiv, Nat.reduceMod, Nat.reduceEqDiff, Nat.reduceLT, Nat.reduceLeDiff, Nat.reduceBEq, Nat.add_zero, Nat.zero_add, Nat.le_refl, Nat.not_lt_zero, Nat.succ_eq_add_one, Int.reduceNatCast, Int.cast_ofNat_Int, Int.reduceSub, Int.reduceMul, Int.reduceNeg, Int.reduceLE, Int.reduceLT, Int.reduceToNat, Int.reduceEq, Int.reduceNe, Int.reduceAdd, Option.some.injEq, ↓kb_599, ↓kb_613, ↓kb_616, ↓kb_647, ↓kb_663, rmL_law, G_0, G_1, G_240, G_272, c1, c2, c3, c4, c5, d1, d2, d3, d4, d5, q1, q2, q3, q4, q5, hk2, hj2, ↓ocL_law_98, ↓spX9_worth, ↓ocL_law_83, ↓spX9_thrown, q, upI_same]
      refine ⟨mOK_hi f.hi hrL.2.1, fun I2 L2 X Y g gl m e0 b1 b2 => ?_⟩
      obtain ⟨X', Y', a1, a2, a3⟩ := a
      have el : L2 272 0 = v := (gl _ _ (by omega)).trans upI_same
      rw [f.V, f.hi 240 2 (by omega), f.hi 240 3 (by omega), f.hi 240 4 (by omega), ← hn.1, ← hn.2.1, ← hn.2.2] at b1 b2
      have y1 := hr.lap a1 b1
      have y2 := hr.lap a2 b2
      have r1 := lapT_rng hx.1 a1
      have r2 := lapT_rng hx.1 a2
      rw [el, ← y1, ← y2, a3, lcm_self]
      exact ⟨by omega, fun _ => ⟨by omega, by omega, by omega, fun _ => Ok.thr ⟨_, _, _, _, _, hrL.q f x g m, rfl⟩, fun z => (z rfl).elim⟩, fun z => (z e0).elim⟩
set_option maxRecDepth 100000 in
set_option maxHeartbeats 1600000 in
theorem lw_17 {post : Option MV → MS → Prop} {n : Nat} {xs : Int → Int} (hxs : ∀ j, RI (xs j)) {i : Int} (i0 : 0 ≤ i) (i1 : i + 6 ≤ n) {I L : Int → Int → Int} (hr : REL I L) {t5 t6 t7 : Option MV} {k j : Nat} (hk : k ≤ 600000) (hj : j ≤ 7290000) (h : ∀ (I' L' : Int → Int → Int) (u5 u6 u7 : Option MV) (k' j' : Nat), REL I' L' → k' ≤ k + 1 → j' ≤ j + 6 → OkX RL cL_law 8 rmL_law (some (n, xs)) (fun _ => True) post (1433, [some (.inr (.inr (some 0))), some (.inr (.inr (some 1))), some (.inr (.inr (some 240))), some (.inr (.inr (some 272))), some (.inl i), u5, u6, u7], [], (273, PF, I', L'), k', j')) : OkX RL cL_law 8 rmL_law (some (n, xs)) (fun _ => True) post (766, [some (.inr (.inr (some 0))), some (.inr (.inr (some 1))), some (.inr (.inr (some 240))), some (.inr (.inr (some 272))), some (.inl i), t5, t6, t7], [], (273, PF, I, L), k, j) := by
  have q1 := hxs (i + 1)
  have q2 := hxs (i + 2)
  have q3 := hxs (i + 3)
  have q4 := hxs (i + 4)
  have q5 := hxs (i + 5)
  unfold RI at q1 q2 q3 q4 q5
  have c1 : 0 ≤ i + 1 := by omega
  have d1 : i + 1 < (n : Int) := by omega
  have c2 : 0 ≤ i + 2 := by omega
  have d2 : i + 2 < (n : Int) := by omega
  have c3 : 0 ≤ i + 3 := by omega
  have d3 : i + 3 < (n : Int) := by omega
  have c4 : 0 ≤ i + 4 := by omega
  have d4 : i + 4 < (n : Int) := by omega
  have c5 : 0 ≤ i + 5 := by omega
  have d5 : i + 5 < (n : Int) := by omega
  have hk2 : k + 1 ≤ 601024 := by omega
  have hj2 : j + 6 ≤ 7293034 := by omega
  obtain ⟨hx, hm, ht, hc, hn, hq, hs⟩ := id hr
  refine OkX.of_ok (T := fun pt => pt = (774, [some (.inr (.inr (some 0))), some (.inr (.inr (some 1))), some (.inr (.inr (some 240))), some (.inr (.inr (some 272))), some (.inl i), t5, t6, t7], [.inr (.inr (some 272)), .inl (xs (i + 1)), .inr (.inr (some 1))], (273, PF, I, L), k, j)) (Ok.seg mdL_law [774] 60 ?_) ?_
  · simp only [wp_nil, wp_cons, ↓stp, ↓lI, ↓lL, ↓lR, ↓lIn_0, ↓lIn_1, ↓lIn_2, ↓lIn_3, ↓lLn_0, ↓lLn_1, ↓lLn_2, ↓lLn_3, ↓lRn_0, ↓lRn_1, ↓lRn_2, ↓lRn_3, ↓pI, ↓pL, ↓pR, ↓pA, ↓pN, ↓pV, ↓fp, ↓tsw, ↓oS, ↓spMax, ↓spMin, ↓spAbs, ↓spObj, RI, RLg, b2i_lo, b2i_hi, getL, setL, ltL, killL, isLong, inl, cnd, br, tgt, rcv, rpl, mputI, mputL, mputP, fv, fr, mcat, mcs, entL, entA, rfit, nf_0, nf_1, nf_2, nf_3, nf2_0, nf2_1, b2i_0, b2i_1, RI_b2i, b2i_fit, List.append, List.length, List.replicate, List.cons_append, List.nil_append, List.length_cons, List.length_nil, List.replicate_succ, List.replicate_zero, List.tail_cons, reduceIte, if_true, if_false, ite_true, ite_false, Bool.false_eq_true, true_and, and_true, and_self, false_and, and_false, or_self, or_true, true_or, or_false, false_or, not_true_eq_false, not_false_eq_true, ne_eq, forall_const, implies_true, imp_self, true_implies, false_implies, Nat.reduceAdd, Nat.reduceSub, Nat.reduceMul, Nat.reduceDiv, Nat.reduceMod, Nat.reduceEqDiff, Nat.reduceLT, Nat.reduceLeDiff, Nat.reduceBEq, Nat.add_zero, Nat.zero_add, Nat.le_refl, Nat.not_lt_zero, Nat.succ_eq_add_one, Int.reduceNatCast, Int.cast_ofNat_Int, Int.reduceSub, Int.reduceMul, Int.reduceNeg, Int.reduceLE, Int.reduceLT, Int.reduceToNat, Int.reduceEq, Int.reduceNe, Int.reduceAdd, Option.some.injEq, ↓kb_766, ↓kb_774, ↓kb_777, ↓kb_802, ↓kb_818, rmL_law, G_0, G_1, G_240, G_272, c1, c2, c3, c4, c5, d1, d2, d3, d4, d5, q1, q2, q3, q4, q5, hk2, hj2, ↓ocL_law_117, ↓spX9_delta, ↓ocL_law_83, ↓spX9_thrown]
    exact Ok.thr rfl
  · rintro _ rfl
    refine callHS (x := 115) (n := 3) (As := [.inr (.inr (some 1)), .inl (xs (i + 1)), .inr (.inr (some 272))]) (rest := []) (K := fun r σ' => (r = some (.inl 1) ∧ σ' = (273, PF, I, L) ∧ ¬ (0 ≤ xs (i + 1) ∧ xs (i + 1) < I 3 1)) ∨ (∃ I1 v, r = some (.inl 0) ∧ σ' = (273, PF, I1, upI L 272 0 v) ∧ (0 ≤ xs (i + 1) ∧ xs (i + 1) < I 3 1) ∧ frQ I I1 ∧ xOK I1 ∧ anD I I1 (xs (i + 1)) v)) mL_delta rfl (List.forall_mem_cons.mpr ⟨(ws_mem (List.mem_of_getElem? (i := 807) (by decide +kernel)) (by decide +kernel)), List.forall_mem_cons.mpr ⟨(ws_mem (List.mem_of_getElem? (i := 808) (by decide +kernel)) (by decide +kernel)), List.forall_mem_cons.mpr ⟨(ws_mem (List.mem_of_getElem? (i := 52) (by decide +kernel)) (by decide +kernel)), List.forall_mem_cons.mpr ⟨(ws_mem (List.mem_of_getElem? (i := 809) (by decide +kernel)) (by decide +kernel)), fun _ h => absurd h List.not_mem_nil⟩⟩⟩⟩) rfl (by unfold nice; decide +kernel) (by unfold rfits; decide) ⟨rfl, rfl⟩ (by decide +kernel) rfl (by decide) (show k + 1 ≤ 601024 by omega) (show j + 6 ≤ 7293034 by omega) ⟨rfl, rfl, rfl, hxs _, hx, fun q => .inl ⟨rfl, rfl, q⟩, fun q I1 v f x a => .inr ⟨I1, v, rfl, rfl, q, f, x, a⟩⟩ ?_
    rintro _ _ (⟨rfl, rfl, q⟩ | ⟨I1, v, rfl, rfl, q, f, x, a⟩)
    · show OkX RL cL_law 8 rmL_law (some (n, xs)) (fun _ => True) post (777, _, [.inl 1], _, k + 1, j + 6)
      refine OkX.of_ok (T := fun pt => ∃ I' L' u5 u6 u7, REL I' L' ∧ pt = (1433, [some (.inr (.inr (some 0))), some (.inr (.inr (some 1))), some (.inr (.inr (some 240))), some (.inr (.inr (some 272))), some (.inl i), u5, u6, u7], [], (273, PF, I', L'), k + 1, j + 6)) (Ok.seg mdL_law [1433] 60 ?_) (fun _ ⟨I', L', u5, u6, u7, hR, e⟩ => by rw [e]; exact h _ _ _ _ _ _ _ hR (Nat.le_refl _) (Nat.le_refl _))
      simp only [wp_nil, wp_cons, ↓stp, ↓lI, ↓lL, ↓lR, ↓lIn_0, ↓lIn_1, ↓lIn_2, ↓lIn_3, ↓lLn_0, ↓lLn_1, ↓lLn_2, ↓lLn_3, ↓lRn_0, ↓lRn_1, ↓lRn_2, ↓lRn_3, ↓pI, ↓pL, ↓pR, ↓pA, ↓pN, ↓pV, ↓fp, ↓tsw, ↓oS, ↓spMax, ↓spMin, ↓spAbs, ↓spObj, RI, RLg, b2i_lo, b2i_hi, getL, setL, ltL, killL, isLong, inl, cnd, br, tgt, rcv, rpl, mputI, mputL, mputP, fv, fr, mcat, mcs, entL, entA, rfit, nf_0, nf_1, nf_2, nf_3, nf2_0, nf2_1, b2i_0, b2i_1, RI_b2i, b2i_fit, List.append, List.length, List.replicate, List.cons_append, List.nil_append, List.length_cons, List.length_nil, List.replicate_succ, List.replicate_zero, List.tail_cons, reduceIte, if_true, if_false, ite_true, ite_false, Bool.false_eq_true, true_and, and_true, and_self, false_and, and_false, or_self, or_true, true_or, or_false, false_or, not_true_eq_false, not_false_eq_true, ne_eq, forall_const, implies_true, imp_self, true_implies, false_implies, Nat.reduceAdd, Nat.reduceSub, Nat.reduceMul, Nat.reduceDiv, Nat.reduceMod, Nat.reduceEqDiff, Nat.reduceLT, Nat.reduceLeDiff, Nat.reduceBEq, Nat.add_zero, Nat.zero_add, Nat.le_refl, Nat.not_lt_zero, Nat.succ_eq_add_one, Int.reduceNatCast, Int.cast_ofNat_Int, Int.reduceSub, Int.reduceMul, Int.reduceNeg, Int.reduceLE, Int.reduceLT, Int.reduceToNat, Int.reduceEq, Int.reduceNe, Int.reduceAdd, Option.some.injEq, ↓kb_766, ↓kb_774, ↓kb_777, ↓kb_802, ↓kb_818, rmL_law, G_0, G_1, G_240, G_272, c1, c2, c3, c4, c5, d1, d2, d3, d4, d5, q1, q2, q3, q4, q5, hk2, hj2, ↓ocL_law_117, ↓spX9_delta, ↓ocL_law_83, ↓spX9_thrown, q, hm, ← ht.1]
      intro I2 g m e
      exact ⟨by omega, fun _ => Ok.thr ⟨_, _, _, _, _, hr.q2 g m, rfl⟩, fun z => (z e).elim⟩
    · have hrL : REL I (upI L 272 0 v) := hr.chL (fun b k b0 b1 => upI_ne (by omega))
      show OkX RL cL_law 8 rmL_law (some (n, xs)) (fun _ => True) post (777, _, [.inl 0], _, k + 1, j + 6)
      refine OkX.of_ok (T := fun pt => ∃ I' L' u5 u6 u7, REL I' L' ∧ pt = (1433, [some (.inr (.inr (some 0))), some (.inr (.inr (some 1))), some (.inr (.inr (some 240))), some (.inr (.inr (some 272))), some (.inl i), u5, u6, u7], [], (273, PF, I', L'), k + 1, j + 6)) (Ok.seg mdL_law [1433] 60 ?_) (fun _ ⟨I', L', u5, u6, u7, hR, e⟩ => by rw [e]; exact h _ _ _ _ _ _ _ hR (Nat.le_refl _) (Nat.le_refl _))
      simp only [wp_nil, wp_cons, ↓stp, ↓lI, ↓lL, ↓lR, ↓lIn_0, ↓lIn_1, ↓lIn_2, ↓lIn_3, ↓lLn_0, ↓lLn_1, ↓lLn_2, ↓lLn_3, ↓lRn_0, ↓lRn_1, ↓lRn_2, ↓lRn_3, ↓pI, ↓pL, ↓pR, ↓pA, ↓pN, ↓pV, ↓fp, ↓tsw, ↓oS, ↓spMax, ↓spMin, ↓spAbs, ↓spObj, RI, RLg, b2i_lo, b2i_hi, getL, setL, ltL, killL, isLong, inl, cnd, br, tgt, rcv, rpl, mputI, mputL, mputP, fv, fr, mcat, mcs, entL, entA, rfit, nf_0, nf_1, nf_2, nf_3, nf2_0, nf2_1, b2i_0, b2i_1, RI_b2i, b2i_fit, List.append, List.length, List.replicate, List.cons_append, List.nil_append, List.length_cons, List.length_nil, List.replicate_succ, List.replicate_zero, List.tail_cons, reduceIte, if_true, if_false, ite_true, ite_false, Bool.false_eq_true, true_and, and_true, and_self, false_and, and_false, or_self, or_true, true_or, or_false, false_or, not_true_eq_false, not_false_eq_true, ne_eq, forall_const, implies_true, imp_self, true_implies, false_implies, Nat.reduceAdd, Nat.reduceSub, Nat.reduceMul, Nat.reduceDiv, Nat.reduceMod, Nat.reduceEqDiff, Nat.reduceLT, Nat.reduceLeDiff, Nat.reduceBEq, Nat.add_zero, Nat.zero_add, Nat.le_refl, Nat.not_lt_zero, Nat.succ_eq_add_one, Int.reduceNatCast, Int.cast_ofNat_Int, Int.reduceSub, Int.reduceMul, Int.reduceNeg, Int.reduceLE, Int.reduceLT, Int.reduceToNat, Int.reduceEq, Int.reduceNe, Int.reduceAdd, Option.some.injEq, ↓kb_766, ↓kb_774, ↓kb_777, ↓kb_802, ↓kb_818, rmL_law, G_0, G_1, G_240, G_272, c1, c2, c3, c4, c5, d1, d2, d3, d4, d5, q1, q2, q3, q4, q5, hk2, hj2, ↓ocL_law_117, ↓spX9_delta, ↓ocL_law_83, ↓spX9_thrown, q, upI_same]
      have n1 : I1 240 1 = I 3 1 := (f.hi _ _ (by omega)).trans ht.1.symm
      refine ⟨mOK_hi f.hi hrL.2.1, fun z => by omega, fun _ I2 L2 y g gl m e0 b1 b2 => ?_⟩
      have el : L2 272 0 = v := (gl _ _ (by omega)).trans upI_same
      have et : I1 245 (xs (i + 1)) = I (5 + xs (i + 1)) 4 := (f.hi _ _ (by omega)).trans (ht.2 _ q.1 q.2).2.2.2.2.symm
      have u := hx.1.2.2 _ q.1 q.2
      unfold stOK at u
      rw [et] at b1 b2
      have ey : y = v ∧ -200000 ≤ v ∧ v ≤ 200000 := by
        by_cases z : I (5 + xs (i + 1)) 4 = 0
        · have := b1 z
          have := a.1 z
          omega
        · obtain ⟨a1, a2⟩ := a.2 (by omega)
          obtain ⟨b3, b4⟩ := b2 (by omega)
          have be := (hr.bq f x g m a1 b3 (xs (i + 1)) q.1 q.2).2.2
          have rb := (best_rng x.1 a1 q.1 (by rw [f.c3 _ _ (by omega) (by omega)]; exact q.2)).2.2
          omega
      rw [el, ey.1, lcm_self]
      exact ⟨by omega, fun _ => ⟨by omega, by omega, by omega, fun _ => Ok.thr ⟨_, _, _, _, _, hrL.q f x g m, rfl⟩, fun z => (z rfl).elim⟩, fun z => (z e0).elim⟩
set_option maxRecDepth 100000 in
set_option maxHeartbeats 1600000 in
theorem lw_21 {post : Option MV → MS → Prop} {n : Nat} {xs : Int → Int} (hxs : ∀ j, RI (xs j)) {i : Int} (i0 : 0 ≤ i) (i1 : i + 6 ≤ n) {I L : Int → Int → Int} (hr : REL I L) {t5 t6 t7 : Option MV} {k j : Nat} (hk : k ≤ 600000) (hj : j ≤ 7290000) (h : ∀ (I' L' : Int → Int → Int) (u5 u6 u7 : Option MV) (k' j' : Nat), REL I' L' → k' ≤ k + 1 → j' ≤ j + 6 → OkX RL cL_law 8 rmL_law (some (n, xs)) (fun _ => True) post (1433, [some (.inr (.inr (some 0))), some (.inr (.inr (some 1))), some (.inr (.inr (some 240))), some (.inr (.inr (some 272))), some (.inl i), u5, u6, u7], [], (273, PF, I', L'), k', j')) : OkX RL cL_law 8 rmL_law (some (n, xs)) (fun _ => True) post (924, [some (.inr (.inr (some 0))), some (.inr (.inr (some 1))), some (.inr (.inr (some 240))), some (.inr (.inr (some 272))), some (.inl i), t5, t6, t7], [], (273, PF, I, L), k, j) := by
  have q1 := hxs (i + 1)
  have q2 := hxs (i + 2)
  have q3 := hxs (i + 3)
  have q4 := hxs (i + 4)
  have q5 := hxs (i + 5)
  unfold RI at q1 q2 q3 q4 q5
  have c1 : 0 ≤ i + 1 := by omega
  have d1 : i + 1 < (n : Int) := by omega
  have c2 : 0 ≤ i + 2 := by omega
  have d2 : i + 2 < (n : Int) := by omega
  have c3 : 0 ≤ i + 3 := by omega
  have d3 : i + 3 < (n : Int) := by omega
  have c4 : 0 ≤ i + 4 := by omega
  have d4 : i + 4 < (n : Int) := by omega
  have c5 : 0 ≤ i + 5 := by omega
  have d5 : i + 5 < (n : Int) := by omega
  have hk2 : k + 1 ≤ 601024 := by omega
  have hj2 : j + 6 ≤ 7293034 := by omega
  obtain ⟨hx, hm, ht, hc, hn, hq, hs⟩ := id hr
  refine OkX.of_ok (T := fun pt => pt = (938, [some (.inr (.inr (some 0))), some (.inr (.inr (some 1))), some (.inr (.inr (some 240))), some (.inr (.inr (some 272))), some (.inl i), t5, t6, t7], [.inr (.inr (some 272)), .inl (xs (i + 2)), .inl (xs (i + 1)), .inr (.inr (some 1))], (273, PF, I, L), k, j)) (Ok.seg mdL_law [938] 60 ?_) ?_
  · simp only [wp_nil, wp_cons, ↓stp, ↓lI, ↓lL, ↓lR, ↓lIn_0, ↓lIn_1, ↓lIn_2, ↓lIn_3, ↓lLn_0, ↓lLn_1, ↓lLn_2, ↓lLn_3, ↓lRn_0, ↓lRn_1, ↓lRn_2, ↓lRn_3, ↓pI, ↓pL, ↓pR, ↓pA, ↓pN, ↓pV, ↓fp, ↓tsw, ↓oS, ↓spMax, ↓spMin, ↓spAbs, ↓spObj, RI, RLg, b2i_lo, b2i_hi, getL, setL, ltL, killL, isLong, inl, cnd, br, tgt, rcv, rpl, mputI, mputL, mputP, fv, fr, mcat, mcs, entL, entA, rfit, nf_0, nf_1, nf_2, nf_3, nf2_0, nf2_1, b2i_0, b2i_1, RI_b2i, b2i_fit, List.append, List.length, List.replicate, List.cons_append, List.nil_append, List.length_cons, List.length_nil, List.replicate_succ, List.replicate_zero, List.tail_cons, reduceIte, if_true, if_false, ite_true, ite_false, Bool.false_eq_true, true_and, and_true, and_self, false_and, and_false, or_self, or_true, true_or, or_false, false_or, not_true_eq_false, not_false_eq_true, ne_eq, forall_const, implies_true, imp_self, true_implies, false_implies, Nat.reduceAdd, Nat.reduceSub, Nat.reduceMul, Nat.reduceDiv, Nat.reduceMod, Nat.reduceEqDiff, Nat.reduceLT, Nat.reduceLeDiff, Nat.reduceBEq, Nat.add_zero, Nat.zero_add, Nat.le_refl, Nat.not_lt_zero, Nat.succ_eq_add_one, Int.reduceNatCast, Int.cast_ofNat_Int, Int.reduceSub, Int.reduceMul, Int.reduceNeg, Int.reduceLE, Int.reduceLT, Int.reduceToNat, Int.reduceEq, Int.reduceNe, Int.reduceAdd, Option.some.injEq, ↓kb_924, ↓kb_938, ↓kb_941, ↓kb_972, ↓kb_988, rmL_law, G_0, G_1, G_240, G_272, c1, c2, c3, c4, c5, d1, d2, d3, d4, d5, q1, q2, q3, q4, q5, hk2, hj2, ↓ocL_law_133, ↓spX9_on, ↓ocL_law_83, ↓spX9_thrown]
    exact Ok.thr rfl
  · rintro _ rfl
    refine callHS (x := 131) (n := 4) (As := [.inr (.inr (some 1)), .inl (xs (i + 1)), .inl (xs (i + 2)), .inr (.inr (some 272))]) (rest := []) (K := fun r σ' => (r = some (.inl 1) ∧ σ' = (273, PF, I, L) ∧ ¬ (0 ≤ xs (i + 1) ∧ xs (i + 1) ≤ 3 ∧ 0 ≤ xs (i + 2) ∧ xs (i + 2) ≤ 39)) ∨ (∃ I1 v, r = some (.inl 0) ∧ σ' = (273, PF, I1, upI L 272 0 v) ∧ (0 ≤ xs (i + 1) ∧ xs (i + 1) ≤ 3 ∧ 0 ≤ xs (i + 2) ∧ xs (i + 2) ≤ 39) ∧ frQ I I1 ∧ xOK I1 ∧ anO I I1 (xs (i + 1)) (xs (i + 2)) v)) mL_on rfl (List.forall_mem_cons.mpr ⟨(ws_mem (List.mem_of_getElem? (i := 815) (by decide +kernel)) (by decide +kernel)), List.forall_mem_cons.mpr ⟨(ws_mem (List.mem_of_getElem? (i := 816) (by decide +kernel)) (by decide +kernel)), List.forall_mem_cons.mpr ⟨(ws_mem (List.mem_of_getElem? (i := 52) (by decide +kernel)) (by decide +kernel)), List.forall_mem_cons.mpr ⟨(ws_mem (List.mem_of_getElem? (i := 817) (by decide +kernel)) (by decide +kernel)), fun _ h => absurd h List.not_mem_nil⟩⟩⟩⟩) rfl (by unfold nice; decide +kernel) (by unfold rfits; decide) ⟨rfl, rfl⟩ (by decide +kernel) rfl (by decide) (show k + 1 ≤ 601024 by omega) (show j + 6 ≤ 7293034 by omega) ⟨rfl, rfl, rfl, hxs _, hxs _, hx, fun q => .inl ⟨rfl, rfl, q⟩, fun q I1 v f x a => .inr ⟨I1, v, rfl, rfl, q, f, x, a⟩⟩ ?_
    rintro _ _ (⟨rfl, rfl, q⟩ | ⟨I1, v, rfl, rfl, q, f, x, a⟩)
    · show OkX RL cL_law 8 rmL_law (some (n, xs)) (fun _ => True) post (941, _, [.inl 1], _, k + 1, j + 6)
      refine OkX.of_ok (T := fun pt => ∃ I' L' u5 u6 u7, REL I' L' ∧ pt = (1433, [some (.inr (.inr (some 0))), some (.inr (.inr (some 1))), some (.inr (.inr (some 240))), some (.inr (.inr (some 272))), some (.inl i), u5, u6, u7], [], (273, PF, I', L'), k + 1, j + 6)) (Ok.seg mdL_law [1433] 60 ?_) (fun _ ⟨I', L', u5, u6, u7, hR, e⟩ => by rw [e]; exact h _ _ _ _ _ _ _ hR (Nat.le_refl _) (Nat.le_refl _))
      simp only [wp_nil, wp_cons, ↓stp, ↓lI, ↓lL, ↓lR, ↓lIn_0, ↓lIn_1, ↓lIn_2, ↓lIn_3, ↓lLn_0, ↓lLn_1, ↓lLn_2, ↓lLn_3, ↓lRn_0, ↓lRn_1, ↓lRn_2, ↓lRn_3, ↓pI, ↓pL, ↓pR, ↓pA, ↓pN, ↓pV, ↓fp, ↓tsw, ↓oS, ↓spMax, ↓spMin, ↓spAbs, ↓spObj, RI, RLg, b2i_lo, b2i_hi, getL, setL, ltL, killL, isLong, inl, cnd, br, tgt, rcv, rpl, mputI, mputL, mputP, fv, fr, mcat, mcs, entL, entA, rfit, nf_0, nf_1, nf_2, nf_3, nf2_0, nf2_1, b2i_0, b2i_1, RI_b2i, b2i_fit, List.append, List.length, List.replicate, List.cons_append, List.nil_append, List.length_cons, List.length_nil, List.replicate_succ, List.replicate_zero, List.tail_cons, reduceIte, if_true, if_false, ite_true, ite_false, Bool.false_eq_true, true_and, and_true, and_self, false_and, and_false, or_self, or_true, true_or, or_false, false_or, not_true_eq_false, not_false_eq_true, ne_eq, forall_const, implies_true, imp_self, true_implies, false_implies, Nat.reduceAdd, Nat.reduceSub, Nat.reduceMul, Nat.reduceDiv, Nat.reduceMod, Nat.reduceEqDiff, Nat.reduceLT, Nat.reduceLeDiff, Nat.reduceBEq, Nat.add_zero, Nat.zero_add, Nat.le_refl, Nat.not_lt_zero, Nat.succ_eq_add_one, Int.reduceNatCast, Int.cast_ofNat_Int, Int.reduceSub, Int.reduceMul, Int.reduceNeg, Int.reduceLE, Int.reduceLT, Int.reduceToNat, Int.reduceEq, Int.reduceNe, Int.reduceAdd, Option.some.injEq, ↓kb_924, ↓kb_938, ↓kb_941, ↓kb_972, ↓kb_988, rmL_law, G_0, G_1, G_240, G_272, c1, c2, c3, c4, c5, d1, d2, d3, d4, d5, q1, q2, q3, q4, q5, hk2, hj2, ↓ocL_law_133, ↓spX9_on, ↓ocL_law_83, ↓spX9_thrown, q, hm]
      intro I2 g m e
      exact ⟨by omega, fun _ => Ok.thr ⟨_, _, _, _, _, hr.q2 g m, rfl⟩, fun z => (z e).elim⟩
    · have hrL : REL I (upI L 272 0 v) := hr.chL (fun b k b0 b1 => upI_ne (by omega))
      show OkX RL cL_law 8 rmL_law (some (n, xs)) (fun _ => True) post (941, _, [.inl 0], _, k + 1, j + 6)
      refine OkX.of_ok (T := fun pt => ∃ I' L' u5 u6 u7, REL I' L' ∧ pt = (1433, [some (.inr (.inr (some 0))), some (.inr (.inr (some 1))), some (.inr (.inr (some 240))), some (.inr (.inr (some 272))), some (.inl i), u5, u6, u7], [], (273, PF, I', L'), k + 1, j + 6)) (Ok.seg mdL_law [1433] 60 ?_) (fun _ ⟨I', L', u5, u6, u7, hR, e⟩ => by rw [e]; exact h _ _ _ _ _ _ _ hR (Nat.le_refl _) (Nat.le_refl _))
      simp only [wp_nil, wp_cons, ↓stp, ↓lI, ↓lL, ↓lR, ↓lIn_0, ↓lIn_1, ↓lIn_2, ↓lIn_3, ↓lLn_0, ↓lLn_1, ↓lLn_2, ↓lLn_3, ↓lRn_0, ↓lRn_1, ↓lRn_2, ↓lRn_3, ↓pI, ↓pL, ↓pR, ↓pA, ↓pN, ↓pV, ↓fp, ↓tsw, ↓oS, ↓spMax, ↓spMin, ↓spAbs, ↓spObj, RI, RLg, b2i_lo, b2i_hi, getL, setL, ltL, killL, isLong, inl, cnd, br, tgt, rcv, rpl, mputI, mputL, mputP, fv, fr, mcat, mcs, entL, entA, rfit, nf_0, nf_1, nf_2, nf_3, nf2_0, nf2_1, b2i_0, b2i_1, RI_b2i, b2i_fit, List.append, List.length, List.replicate, List.cons_append, List.nil_append, List.length_cons, List.length_nil, List.replicate_succ, List.replicate_zero, List.tail_cons, reduceIte, if_true, if_false, ite_true, ite_false, Bool.false_eq_true, true_and, and_true, and_self, false_and, and_false, or_self, or_true, true_or, or_false, false_or, not_true_eq_false, not_false_eq_true, ne_eq, forall_const, implies_true, imp_self, true_implies, false_implies, Nat.reduceAdd, Nat.reduceSub, Nat.reduceMul, Nat.reduceDiv, Nat.reduceMod, Nat.reduceEqDiff, Nat.reduceLT, Nat.reduceLeDiff, Nat.reduceBEq, Nat.add_zero, Nat.zero_add, Nat.le_refl, Nat.not_lt_zero, Nat.succ_eq_add_one, Int.reduceNatCast, Int.cast_ofNat_Int, Int.reduceSub, Int.reduceMul, Int.reduceNeg, Int.reduceLE, Int.reduceLT, Int.reduceToNat, Int.reduceEq, Int.reduceNe, Int.reduceAdd, Option.some.injEq, ↓kb_924, ↓kb_938, ↓kb_941, ↓kb_972, ↓kb_988, rmL_law, G_0, G_1, G_240, G_272, c1, c2, c3, c4, c5, d1, d2, d3, d4, d5, q1, q2, q3, q4, q5, hk2, hj2, ↓ocL_law_133, ↓spX9_on, ↓ocL_law_83, ↓spX9_thrown, q, upI_same]
      refine ⟨mOK_hi f.hi hrL.2.1, fun I2 L2 g gl m e0 => ?_⟩
      have el : L2 272 0 = v := (gl _ _ (by omega)).trans upI_same
      have ev : lpf (VM I1) (xs (i + 1)) (xs (i + 2)) = v := by rw [f.V, hr.lpfE]; exact a.symm
      have rl := lapT_rng hx.1 (lpf_T hx.1 hx.2.1 (xs (i + 1)) (xs (i + 2)))
      unfold anO at a
      rw [← a] at rl
      rw [el, ev, lcm_self]
      exact ⟨by omega, fun _ => ⟨by omega, by omega, by omega, fun _ => Ok.thr ⟨_, _, _, _, _, hrL.q f x g m, rfl⟩, fun z => (z rfl).elim⟩, fun z => (z e0).elim⟩
set_option maxRecDepth 100000 in
set_option maxHeartbeats 1600000 in
theorem lw_22 {post : Option MV → MS → Prop} {n : Nat} {xs : Int → Int} (hxs : ∀ j, RI (xs j)) {i : Int} (i0 : 0 ≤ i) (i1 : i + 6 ≤ n) {I L : Int → Int → Int} (hr : REL I L) {t5 t6 t7 : Option MV} {k j : Nat} (hk : k ≤ 600000) (hj : j ≤ 7290000) (h : ∀ (I' L' : Int → Int → Int) (u5 u6 u7 : Option MV) (k' j' : Nat), REL I' L' → k' ≤ k + 1 → j' ≤ j + 6 → OkX RL cL_law 8 rmL_law (some (n, xs)) (fun _ => True) post (1433, [some (.inr (.inr (some 0))), some (.inr (.inr (some 1))), some (.inr (.inr (some 240))), some (.inr (.inr (some 272))), some (.inl i), u5, u6, u7], [], (273, PF, I', L'), k', j')) : OkX RL cL_law 8 rmL_law (some (n, xs)) (fun _ => True) post (991, [some (.inr (.inr (some 0))), some (.inr (.inr (some 1))), some (.inr (.inr (some 240))), some (.inr (.inr (some 272))), some (.inl i), t5, t6, t7], [], (273, PF, I, L), k, j) := by
  have q1 := hxs (i + 1)
  have q2 := hxs (i + 2)
  have q3 := hxs (i + 3)
  have q4 := hxs (i + 4)
  have q5 := hxs (i + 5)
  unfold RI at q1 q2 q3 q4 q5
  have c1 : 0 ≤ i + 1 := by omega
  have d1 : i + 1 < (n : Int) := by omega
  have c2 : 0 ≤ i + 2 := by omega
  have d2 : i + 2 < (n : Int) := by omega
  have c3 : 0 ≤ i + 3 := by omega
  have d3 : i + 3 < (n : Int) := by omega
  have c4 : 0 ≤ i + 4 := by omega
  have d4 : i + 4 < (n : Int) := by omega
  have c5 : 0 ≤ i + 5 := by omega
  have d5 : i + 5 < (n : Int) := by omega
  have hk2 : k + 1 ≤ 601024 := by omega
  have hj2 : j + 6 ≤ 7293034 := by omega
  obtain ⟨hx, hm, ht, hc, hn, hq, hs⟩ := id hr
  refine OkX.of_ok (T := fun pt => pt = (999, [some (.inr (.inr (some 0))), some (.inr (.inr (some 1))), some (.inr (.inr (some 240))), some (.inr (.inr (some 272))), some (.inl i), t5, t6, t7], [.inr (.inr (some 272)), .inl (xs (i + 1)), .inr (.inr (some 1))], (273, PF, I, L), k, j)) (Ok.seg mdL_law [999] 60 ?_) ?_
  · simp only [wp_nil, wp_cons, ↓stp, ↓lI, ↓lL, ↓lR, ↓lIn_0, ↓lIn_1, ↓lIn_2, ↓lIn_3, ↓lLn_0, ↓lLn_1, ↓lLn_2, ↓lLn_3, ↓lRn_0, ↓lRn_1, ↓lRn_2, ↓lRn_3, ↓pI, ↓pL, ↓pR, ↓pA, ↓pN, ↓pV, ↓fp, ↓tsw, ↓oS, ↓spMax, ↓spMin, ↓spAbs, ↓spObj, RI, RLg, b2i_lo, b2i_hi, getL, setL, ltL, killL, isLong, inl, cnd, br, tgt, rcv, rpl, mputI, mputL, mputP, fv, fr, mcat, mcs, entL, entA, rfit, nf_0, nf_1, nf_2, nf_3, nf2_0, nf2_1, b2i_0, b2i_1, RI_b2i, b2i_fit, List.append, List.length, List.replicate, List.cons_append, List.nil_append, List.length_cons, List.length_nil, List.replicate_succ, List.replicate_zero, List.tail_cons, reduceIte, if_true, if_false, ite_true, ite_false, Bool.false_eq_true, true_and, and_true, and_self, false_and, and_false, or_self, or_true, true_or, or_false, false_or, not_true_eq_false, not_false_eq_true, ne_eq, forall_const, implies_true, imp_self, true_implies, false_implies, Nat.reduceAdd, Nat.reduceSub, Nat.reduceMul, Nat.reduceDiv, Nat.reduceMod, Nat.reduceEqDiff, Nat.reduceLT, Nat.reduceLeDiff, Nat.reduceBEq, Nat.add_zero, Nat.zero_add, Nat.le_refl, Nat.not_lt_zero, Nat.succ_eq_add_one, Int.reduceNatCast, Int.cast_ofNat_Int, Int.reduceSub, Int.reduceMul, Int.reduceNeg, Int.reduceLE, Int.reduceLT, Int.reduceToNat, Int.reduceEq, Int.reduceNe, Int.reduceAdd, Option.some.injEq, ↓kb_991, ↓kb_999, ↓kb_1002, ↓kb_1027, ↓kb_1043, rmL_law, G_0, G_1, G_240, G_272, c1, c2, c3, c4, c5, d1, d2, d3, d4, d5, q1, q2, q3, q4, q5, hk2, hj2, ↓ocL_law_136, ↓spX9_race, ↓ocL_law_83, ↓spX9_thrown]
    exact Ok.thr rfl
  · rintro _ rfl
    refine callHS (x := 134) (n := 3) (As := [.inr (.inr (some 1)), .inl (xs (i + 1)), .inr (.inr (some 272))]) (rest := []) (K := fun r σ' => (r = some (.inl 1) ∧ σ' = (273, PF, I, L) ∧ ¬ (1 ≤ xs (i + 1) ∧ xs (i + 1) ≤ 40)) ∨ (∃ I1 v, r = some (.inl 0) ∧ σ' = (273, PF, I1, upI L 272 0 v) ∧ (1 ≤ xs (i + 1) ∧ xs (i + 1) ≤ 40) ∧ frQ I I1 ∧ xOK I1 ∧ anR I I1 (xs (i + 1)) v)) mL_race rfl (List.forall_mem_cons.mpr ⟨(ws_mem (List.mem_of_getElem? (i := 825) (by decide +kernel)) (by decide +kernel)), List.forall_mem_cons.mpr ⟨(ws_mem (List.mem_of_getElem? (i := 826) (by decide +kernel)) (by decide +kernel)), List.forall_mem_cons.mpr ⟨(ws_mem (List.mem_of_getElem? (i := 52) (by decide +kernel)) (by decide +kernel)), List.forall_mem_cons.mpr ⟨(ws_mem (List.mem_of_getElem? (i := 827) (by decide +kernel)) (by decide +kernel)), fun _ h => absurd h List.not_mem_nil⟩⟩⟩⟩) rfl (by unfold nice; decide +kernel) (by unfold rfits; decide) ⟨rfl, rfl⟩ (by decide +kernel) rfl (by decide) (show k + 1 ≤ 601024 by omega) (show j + 6 ≤ 7293034 by omega) ⟨rfl, rfl, rfl, hxs _, hx, fun q => .inl ⟨rfl, rfl, q⟩, fun q I1 v f x a => .inr ⟨I1, v, rfl, rfl, q, f, x, a⟩⟩ ?_
    rintro _ _ (⟨rfl, rfl, q⟩ | ⟨I1, v, rfl, rfl, q, f, x, a⟩)
    · show OkX RL cL_law 8 rmL_law (some (n, xs)) (fun _ => True) post (1002, _, [.inl 1], _, k + 1, j + 6)
      refine OkX.of_ok (T := fun pt => ∃ I' L' u5 u6 u7, REL I' L' ∧ pt = (1433, [some (.inr (.inr (some 0))), some (.inr (.inr (some 1))), some (.inr (.inr (some 240))), some (.inr (.inr (some 272))), some (.inl i), u5, u6, u7], [], (273, PF, I', L'), k + 1, j + 6)) (Ok.seg mdL_law [1433] 60 ?_) (fun _ ⟨I', L', u5, u6, u7, hR, e⟩ => by rw [e]; exact h _ _ _ _ _ _ _ hR (Nat.le_refl _) (Nat.le_refl _))
      simp only [wp_nil, wp_cons, ↓stp, ↓lI, ↓lL, ↓lR, ↓lIn_0, ↓lIn_1, ↓lIn_2, ↓lIn_3, ↓lLn_0, ↓lLn_1, ↓lLn_2, ↓lLn_3, ↓lRn_0, ↓lRn_1, ↓lRn_2, ↓lRn_3, ↓pI, ↓pL, ↓pR, ↓pA, ↓pN, ↓pV, ↓fp, ↓tsw, ↓oS, ↓spMax, ↓spMin, ↓spAbs, ↓spObj, RI, RLg, b2i_lo, b2i_hi, getL, setL, ltL, killL, isLong, inl, cnd, br, tgt, rcv, rpl, mputI, mputL, mputP, fv, fr, mcat, mcs, entL, entA, rfit, nf_0, nf_1, nf_2, nf_3, nf2_0, nf2_1, b2i_0, b2i_1, RI_b2i, b2i_fit, List.append, List.length, List.replicate, List.cons_append, List.nil_append, List.length_cons, List.length_nil, List.replicate_succ, List.replicate_zero, List.tail_cons, reduceIte, if_true, if_false, ite_true, ite_false, Bool.false_eq_true, true_and, and_true, and_self, false_and, and_false, or_self, or_true, true_or, or_false, false_or, not_true_eq_false, not_false_eq_true, ne_eq, forall_const, implies_true, imp_self, true_implies, false_implies, Nat.reduceAdd, Nat.reduceSub, Nat.reduceMul, Nat.reduceDiv, Nat.reduceMod, Nat.reduceEqDiff, Nat.reduceLT, Nat.reduceLeDiff, Nat.reduceBEq, Nat.add_zero, Nat.zero_add, Nat.le_refl, Nat.not_lt_zero, Nat.succ_eq_add_one, Int.reduceNatCast, Int.cast_ofNat_Int, Int.reduceSub, Int.reduceMul, Int.reduceNeg, Int.reduceLE, Int.reduceLT, Int.reduceToNat, Int.reduceEq, Int.reduceNe, Int.reduceAdd, Option.some.injEq, ↓kb_991, ↓kb_999, ↓kb_1002, ↓kb_1027, ↓kb_1043, rmL_law, G_0, G_1, G_240, G_272, c1, c2, c3, c4, c5, d1, d2, d3, d4, d5, q1, q2, q3, q4, q5, hk2, hj2, ↓ocL_law_136, ↓spX9_race, ↓ocL_law_83, ↓spX9_thrown, q, hm]
      intro I2 g m e
      exact ⟨by omega, fun _ => Ok.thr ⟨_, _, _, _, _, hr.q2 g m, rfl⟩, fun z => (z e).elim⟩
    · have hrL : REL I (upI L 272 0 v) := hr.chL (fun b k b0 b1 => upI_ne (by omega))
      show OkX RL cL_law 8 rmL_law (some (n, xs)) (fun _ => True) post (1002, _, [.inl 0], _, k + 1, j + 6)
      refine OkX.of_ok (T := fun pt => ∃ I' L' u5 u6 u7, REL I' L' ∧ pt = (1433, [some (.inr (.inr (some 0))), some (.inr (.inr (some 1))), some (.inr (.inr (some 240))), some (.inr (.inr (some 272))), some (.inl i), u5, u6, u7], [], (273, PF, I', L'), k + 1, j + 6)) (Ok.seg mdL_law [1433] 60 ?_) (fun _ ⟨I', L', u5, u6, u7, hR, e⟩ => by rw [e]; exact h _ _ _ _ _ _ _ hR (Nat.le_refl _) (Nat.le_refl _))
      simp only [wp_nil, wp_cons, ↓stp, ↓lI, ↓lL, ↓lR, ↓lIn_0, ↓lIn_1, ↓lIn_2, ↓lIn_3, ↓lLn_0, ↓lLn_1, ↓lLn_2, ↓lLn_3, ↓lRn_0, ↓lRn_1, ↓lRn_2, ↓lRn_3, ↓pI, ↓pL, ↓pR, ↓pA, ↓pN, ↓pV, ↓fp, ↓tsw, ↓oS, ↓spMax, ↓spMin, ↓spAbs, ↓spObj, RI, RLg, b2i_lo, b2i_hi, getL, setL, ltL, killL, isLong, inl, cnd, br, tgt, rcv, rpl, mputI, mputL, mputP, fv, fr, mcat, mcs, entL, entA, rfit, nf_0, nf_1, nf_2, nf_3, nf2_0, nf2_1, b2i_0, b2i_1, RI_b2i, b2i_fit, List.append, List.length, List.replicate, List.cons_append, List.nil_append, List.length_cons, List.length_nil, List.replicate_succ, List.replicate_zero, List.tail_cons, reduceIte, if_true, if_false, ite_true, ite_false, Bool.false_eq_true, true_and, and_true, and_self, false_and, and_false, or_self, or_true, true_or, or_false, false_or, not_true_eq_false, not_false_eq_true, ne_eq, forall_const, implies_true, imp_self, true_implies, false_implies, Nat.reduceAdd, Nat.reduceSub, Nat.reduceMul, Nat.reduceDiv, Nat.reduceMod, Nat.reduceEqDiff, Nat.reduceLT, Nat.reduceLeDiff, Nat.reduceBEq, Nat.add_zero, Nat.zero_add, Nat.le_refl, Nat.not_lt_zero, Nat.succ_eq_add_one, Int.reduceNatCast, Int.cast_ofNat_Int, Int.reduceSub, Int.reduceMul, Int.reduceNeg, Int.reduceLE, Int.reduceLT, Int.reduceToNat, Int.reduceEq, Int.reduceNe, Int.reduceAdd, Option.some.injEq, ↓kb_991, ↓kb_999, ↓kb_1002, ↓kb_1027, ↓kb_1043, rmL_law, G_0, G_1, G_240, G_272, c1, c2, c3, c4, c5, d1, d2, d3, d4, d5, q1, q2, q3, q4, q5, hk2, hj2, ↓ocL_law_136, ↓spX9_race, ↓ocL_law_83, ↓spX9_thrown, q, upI_same]
      refine ⟨mOK_hi f.hi hrL.2.1, fun I2 L2 y g gl m e0 b => ?_⟩
      have el : L2 272 0 = v := (gl _ _ (by omega)).trans upI_same
      obtain ⟨a1, a2⟩ := a
      have ev : y = v := by rw [a2]; exact ((hr.q1 f x).planK a1 b).1.symm
      have rg : 0 ≤ I1 179 7 ∧ I1 179 7 ≤ 130000000 := by
        obtain ⟨W, _, _, ⟨c0, c1, _⟩, _⟩ := a1
        have := Fr_rng (x.2.2.2.2.1.1.2.1) (fun t d _ _ _ _ => lapT_rng x.1 (lpf_T x.1 x.2.1 t d)) (by omega) c0.1 c0.2 c1
        omega
      rw [← a2] at rg
      rw [el, ev, lcm_self]
      exact ⟨by omega, fun _ => ⟨by omega, by omega, by omega, fun _ => Ok.thr ⟨_, _, _, _, _, hrL.q f x g m, rfl⟩, fun z => (z rfl).elim⟩, fun z => (z e0).elim⟩
