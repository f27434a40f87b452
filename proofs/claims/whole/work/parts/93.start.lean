/-! the law: its start -/
theorem x0_OK {I : Int → Int → Int} (h : x0 I) : xOK I := by
  obtain ⟨⟨w1, ⟨a0, a1, a2, a3, a4, a5⟩, w3, w4⟩, s0, ⟨r4, r5, r6, r7, r8, r9, r10⟩, h0⟩ := h
  refine ⟨⟨?_, ?_, fun i i0 i1 => ?_⟩, ⟨⟨fun i i0 i1 => ?_, a5⟩, ?_⟩, fun g g0 g1 => .inl ?_, .inl (w1 2 2 (by omega) (by omega)), ⟨⟨fun t t0 t1 => ?_, ?_, .inr r5⟩, .inl r6, fun t t0 t1 => r10 _ _ (by omega) (by omega)⟩, fun k _ _ => s0 147 k (by omega) (by omega), fun b hb => ?_⟩
  · rw [w1 3 1 (by omega) (by omega)]; omega
  · rw [w1 3 1 (by omega) (by omega)]; omega
  · rw [w1 3 1 (by omega) (by omega)] at i1; omega
  · have := a3 i i0 i1; omega
  · unfold nOK; omega
  · rw [w4 _ (by omega) (by omega)]; omega
  · rw [r7, r8 t t0 (by omega)]; omega
  · omega
  · obtain ⟨d, d0, d1, rfl⟩ := hb
    refine ⟨?_, ?_, fun z => ?_, fun k _ _ => ?_⟩
    · rw [h0 _ 0 (by omega) (by omega), h0 _ 4 (by omega) (by omega)]; omega
    · rw [h0 _ 1 (by omega) (by omega)]; omega
    · rw [h0 _ 0 (by omega) (by omega)] at z; omega
    · rw [h0 _ k (by omega) (by omega)]; omega
theorem V9_0 {b k : Int} (h : b ≠ 246 ∧ b ≠ 247 ∧ b ≠ 259) : V9 b k = 0 := by
  unfold V9
  rw [if_neg (fun z => h.1 z.1), if_neg (fun z => h.2.1 z.1), if_neg (fun z => h.2.2 z.1)]
theorem m0_OK {I L : Int → Int → Int} (h : m0 I L) : mOK I L := by
  obtain ⟨⟨a0, a1, a2, a3, a4, a5⟩, b25, v⟩ := h
  have z : ∀ b k, 241 ≤ b → b ≤ 271 → b ≠ 246 ∧ b ≠ 247 ∧ b ≠ 259 → I b k = 0 := fun b k b0 b1 h => (v b k b0 b1).1.trans (V9_0 h)
  have g6 : ∀ i, 1 ≤ i → i ≤ 6 → I 246 i = 10 * i ∧ I 247 i = 8 - i := fun i i0 i1 => by
    refine ⟨(v 246 i (by omega) (by omega)).1.trans ?_, (v 247 i (by omega) (by omega)).1.trans ?_⟩
    · unfold V9; rw [if_pos (by omega)]
    · unfold V9; rw [if_neg (by omega), if_pos (by omega)]
  refine ⟨⟨?_, ?_, fun i i0 i1 => ?_⟩, ⟨⟨fun i i0 i1 => ?_, fun p _ _ => ?_⟩, ?_⟩, ⟨fun t t0 t1 => ?_, ?_, ?_⟩, fun g g0 g1 => .inl (z 248 _ (by omega) (by omega) (by omega)), fun d d0 d1 => ?_⟩
  · rw [VM_31, a1]; omega
  · rw [VM_31, a1]; omega
  · rw [VM_31, a1] at i1; omega
  · rw [VM_38, VM_39]
    have := g6 i i0 i1
    omega
  · rfl
  · unfold nOK; rw [VM_36_0, VM_36_1, VM_36_2]; omega
  · rw [VM_180, VM_181, z 258 t (by omega) (by omega) (by omega), (v 259 t (by omega) (by omega)).1]
    unfold V9
    rw [if_neg (by omega), if_neg (by omega), if_pos (by omega)]
    omega
  · rw [VM_179_4]; omega
  · rw [VM_179_5]; omega
  · refine ⟨?_, ?_, fun y => ?_, fun i _ _ => ?_⟩
    · rw [z 264 d (by omega) (by omega) (by omega)]; omega
    · rw [z 269 d (by omega) (by omega) (by omega)]; omega
    · rw [z 264 d (by omega) (by omega) (by omega)] at y; omega
    · rw [z 270 _ (by omega) (by omega) (by omega)]; omega
theorem REL_0 {I L : Int → Int → Int} (hx : x0 I) (hm : m0 I L) : REL I L := by
  refine ⟨x0_OK hx, m0_OK hm, ?_⟩
  obtain ⟨⟨w1, ⟨a0, a1, a2, a3, a4, a5⟩, w3, w4⟩, s0, ⟨r4, r5, r6, r7, r8, r9, r10⟩, h0⟩ := hx
  obtain ⟨⟨b0, b1, b2, b3, b4, b5⟩, b25, v⟩ := hm
  have z : ∀ b k, 241 ≤ b → b ≤ 271 → b ≠ 246 ∧ b ≠ 247 ∧ b ≠ 259 → I b k = 0 := fun b k b0 b1 h => (v b k b0 b1).1.trans (V9_0 h)
  refine ⟨⟨?_, fun i i0 i1 => ?_⟩, fun k => ?_, ⟨a0.trans b2.symm, a1.trans b3.symm, a2.trans b4.symm⟩, ⟨r4.trans b5.symm, r5.trans b25.symm, fun k => ?_⟩, fun d d0 d1 => ⟨?_, fun y => ?_, fun y => ?_⟩⟩
  · rw [w1 3 1 (by omega) (by omega), b1]
  · rw [w1 3 1 (by omega) (by omega)] at i1; omega
  · rw [(v 246 k (by omega) (by omega)).1, (v 247 k (by omega) (by omega)).1]
    unfold V9
    by_cases q : 1 ≤ k ∧ k ≤ 6
    · have := a3 k q.1 q.2
      rw [if_pos (by omega), if_neg (by omega), if_pos (by omega)]
      exact this
    · have := a4 k q
      by_cases q0 : k = 0
      · rw [if_pos (by omega), if_neg (by omega), if_neg (by omega), if_neg (by omega)]
        omega
      · rw [if_neg (by omega), if_neg (by omega), if_neg (by omega), if_neg (by omega), if_neg (by omega), if_neg (by omega)]
        exact this
  · rw [r7, z 258 k (by omega) (by omega) (by omega), (v 259 k (by omega) (by omega)).1]
    refine ⟨rfl, ?_⟩
    unfold V9
    by_cases q : 0 ≤ k ∧ k < 4
    · rw [r8 k q.1 q.2, if_neg (by omega), if_neg (by omega), if_pos (by omega)]
    · rw [r9 k q, if_neg (by omega), if_neg (by omega), if_neg (by omega)]
  · rw [h0 _ 0 (by omega) (by omega), z 264 d (by omega) (by omega) (by omega)]
  · rw [z 264 d (by omega) (by omega) (by omega)] at y; omega
  · rw [z 264 d (by omega) (by omega) (by omega)] at y; omega
theorem PF_all {P0 P1 P2 : Int → Int → Option Int} {I0 I1 I2 L0 L1 L2 : Int → Int → Int} {Q0 : Int → Int → Option Int} {J0 M0 : Int → Int → Int} (hP : ∀ b k, P0 b k = none) (h1 : mkd 1 2 240 P0 P1 I0 I1 L0 L1) (hQ : ∀ b k, Q0 b k = if b = 240 then none else P1 b k) (h2 : mkd 240 241 272 Q0 P2 J0 I2 M0 L2) : (fun b i => if b = (272 : Int) then none else P2 b i) = PF := by
  have pn : ∀ b k : Int, b ≤ 0 ∨ 272 ≤ b → PF b k = none := fun b k hb => by
    unfold PF
    repeat rw [if_neg (by omega)]
  funext b k
  by_cases q : b = 272
  · rw [if_pos q, pn b k (by omega)]
  · rw [if_neg q]
    by_cases q2 : 240 ≤ b ∧ b < 272
    · exact h2.1 b k (by omega)
    · rw [h2.2.1 b k (by omega) (by omega), hQ, if_neg (by omega)]
      by_cases q3 : 1 ≤ b ∧ b < 240
      · exact h1.1 b k (by omega)
      · rw [h1.2.1 b k (by omega) (by omega), hP, pn b k (by omega)]
theorem x0_cg {I J : Int → Int → Int} (h : ∀ b k, 2 ≤ b → b < 240 → J b k = I b k) (hx : x0 I) : x0 J :=
  ⟨way0_cg (fun b k _ _ => h b k (by omega) (by omega)) hx.1, fun b k _ _ => (h b k (by omega) (by omega)).trans (hx.2.1 b k (by omega) (by omega)), race0_cg (fun b k _ _ => h b k (by omega) (by omega)) hx.2.2.1, fun b k _ _ => (h b k (by omega) (by omega)).trans (hx.2.2.2 b k (by omega) (by omega))⟩
theorem m0_cg {I J L M : Int → Int → Int} (h : ∀ b k, 240 ≤ b → b < 272 → J b k = I b k ∧ M b k = L b k) (hm : m0 I L) : m0 J M :=
  ⟨hm.1.step (fun k _ => (h 240 k (by omega) (by omega)).1), (h 240 25 (by omega) (by omega)).1.trans hm.2.1, fun b k b0 b1 => by rw [(h b k (by omega) (by omega)).1, (h b k (by omega) (by omega)).2]; exact hm.2.2 b k b0 b1⟩
set_option maxRecDepth 100000 in
theorem law_0 {post : Option MV → MS → Prop} {T : Pt → Prop} {n : Nat} {xs : Int → Int} (h : ∀ I L, REL I L → Ok RL cL_law 8 rmL_law false (some (n, xs)) post T (23, [some (.inr (.inr (some 0))), some (.inr (.inr (some 1))), some (.inr (.inr (some 240))), some (.inr (.inr (some 272))), some (.inl 0), none, none, none], [], (273, PF, I, L), 272, 32200)) :
    Ok RL cL_law 8 rmL_law false (some (n, xs)) post T (0, [some (.inr (.inr (some 0))), none, none, none, none, none, none, none], [], (1, fun _ _ => none, fun _ _ => 0, fun _ _ => 0), 0, 0) := by
  refine Ok.seg mdL_law [8] 20 ?_
  simp only [wp_nil, wp_cons, ↓stp, ↓lI, ↓lL, ↓lR, ↓lIn_0, ↓lIn_1, ↓lIn_2, ↓lIn_3, ↓lLn_0, ↓lLn_1, ↓lLn_2, ↓lLn_3, ↓lRn_0, ↓lRn_1, ↓lRn_2, ↓lRn_3, ↓pI, ↓pL, ↓pR, ↓pA, ↓pN, ↓pV, ↓fp, ↓tsw, ↓oS, ↓spMax, ↓spMin, ↓spAbs, ↓spObj, RI, RLg, b2i_lo, b2i_hi, getL, setL, ltL, killL, isLong, inl, cnd, br, tgt, rcv, rpl, mputI, mputL, mputP, fv, fr, mcat, mcs, entL, entA, rfit, nf_0, nf_1, nf_2, nf_3, nf2_0, nf2_1, b2i_0, b2i_1, RI_b2i, b2i_fit, List.append, List.length, List.replicate, List.cons_append, List.nil_append, List.length_cons, List.length_nil, List.replicate_succ, List.replicate_zero, List.tail_cons, reduceIte, if_true, if_false, ite_true, ite_false, Bool.false_eq_true, true_and, and_true, and_self, false_and, and_false, or_self, or_true, true_or, or_false, false_or, not_true_eq_false, not_false_eq_true, ne_eq, forall_const, implies_true, imp_self, true_implies, false_implies, Nat.reduceAdd, Nat.reduceSub, Nat.reduceMul, Nat.reduceDiv, Nat.reduceMod, Nat.reduceEqDiff, Nat.reduceLT, Nat.reduceLeDiff, Nat.reduceBEq, Nat.add_zero, Nat.zero_add, Nat.le_refl, Nat.not_lt_zero, Nat.succ_eq_add_one, Int.reduceNatCast, Int.cast_ofNat_Int, Int.reduceSub, Int.reduceMul, Int.reduceNeg, Int.reduceLE, Int.reduceLT, Int.reduceToNat, Int.reduceEq, Int.reduceNe, Int.reduceAdd, Option.some.injEq, ↓kb_0, ↓kb_8, ↓kb_16, rmL_law, mnew, nfs_8, nfs_9, G_0, G_1, G_240, G_272, ↓onL_8, ↓onL_34, ↓ocL_law_33, ↓ocL_law_36, ↓spX8_init, ↓spX9_init]
  refine ⟨fun b k hb => by simp, fun P1 I1 L1 h1 x1 => ?_⟩
  refine Ok.seg mdL_law [16] 20 ?_
  simp only [wp_nil, wp_cons, ↓stp, ↓lI, ↓lL, ↓lR, ↓lIn_0, ↓lIn_1, ↓lIn_2, ↓lIn_3, ↓lLn_0, ↓lLn_1, ↓lLn_2, ↓lLn_3, ↓lRn_0, ↓lRn_1, ↓lRn_2, ↓lRn_3, ↓pI, ↓pL, ↓pR, ↓pA, ↓pN, ↓pV, ↓fp, ↓tsw, ↓oS, ↓spMax, ↓spMin, ↓spAbs, ↓spObj, RI, RLg, b2i_lo, b2i_hi, getL, setL, ltL, killL, isLong, inl, cnd, br, tgt, rcv, rpl, mputI, mputL, mputP, fv, fr, mcat, mcs, entL, entA, rfit, nf_0, nf_1, nf_2, nf_3, nf2_0, nf2_1, b2i_0, b2i_1, RI_b2i, b2i_fit, List.append, List.length, List.replicate, List.cons_append, List.nil_append, List.length_cons, List.length_nil, List.replicate_succ, List.replicate_zero, List.tail_cons, reduceIte, if_true, if_false, ite_true, ite_false, Bool.false_eq_true, true_and, and_true, and_self, false_and, and_false, or_self, or_true, true_or, or_false, false_or, not_true_eq_false, not_false_eq_true, ne_eq, forall_const, implies_true, imp_self, true_implies, false_implies, Nat.reduceAdd, Nat.reduceSub, Nat.reduceMul, Nat.reduceDiv, Nat.reduceMod, Nat.reduceEqDiff, Nat.reduceLT, Nat.reduceLeDiff, Nat.reduceBEq, Nat.add_zero, Nat.zero_add, Nat.le_refl, Nat.not_lt_zero, Nat.succ_eq_add_one, Int.reduceNatCast, Int.cast_ofNat_Int, Int.reduceSub, Int.reduceMul, Int.reduceNeg, Int.reduceLE, Int.reduceLT, Int.reduceToNat, Int.reduceEq, Int.reduceNe, Int.reduceAdd, Option.some.injEq, ↓kb_0, ↓kb_8, ↓kb_16, rmL_law, mnew, nfs_8, nfs_9, G_0, G_1, G_240, G_272, ↓onL_8, ↓onL_34, ↓ocL_law_33, ↓ocL_law_36, ↓spX8_init, ↓spX9_init]
  intro P2 I2 L2 h2 m2
  refine Ok.seg mdL_law [23] 20 ?_
  simp only [wp_nil, wp_cons, ↓stp, ↓lI, ↓lL, ↓lR, ↓lIn_0, ↓lIn_1, ↓lIn_2, ↓lIn_3, ↓lLn_0, ↓lLn_1, ↓lLn_2, ↓lLn_3, ↓lRn_0, ↓lRn_1, ↓lRn_2, ↓lRn_3, ↓pI, ↓pL, ↓pR, ↓pA, ↓pN, ↓pV, ↓fp, ↓tsw, ↓oS, ↓spMax, ↓spMin, ↓spAbs, ↓spObj, RI, RLg, b2i_lo, b2i_hi, getL, setL, ltL, killL, isLong, inl, cnd, br, tgt, rcv, rpl, mputI, mputL, mputP, fv, fr, mcat, mcs, entL, entA, rfit, nf_0, nf_1, nf_2, nf_3, nf2_0, nf2_1, b2i_0, b2i_1, RI_b2i, b2i_fit, List.append, List.length, List.replicate, List.cons_append, List.nil_append, List.length_cons, List.length_nil, List.replicate_succ, List.replicate_zero, List.tail_cons, reduceIte, if_true, if_false, ite_true, ite_false, Bool.false_eq_true, true_and, and_true, and_self, false_and, and_false, or_self, or_true, true_or, or_false, false_or, not_true_eq_false, not_false_eq_true, ne_eq, forall_const, implies_true, imp_self, true_implies, false_implies, Nat.reduceAdd, Nat.reduceSub, Nat.reduceMul, Nat.reduceDiv, Nat.reduceMod, Nat.reduceEqDiff, Nat.reduceLT, Nat.reduceLeDiff, Nat.reduceBEq, Nat.add_zero, Nat.zero_add, Nat.le_refl, Nat.not_lt_zero, Nat.succ_eq_add_one, Int.reduceNatCast, Int.cast_ofNat_Int, Int.reduceSub, Int.reduceMul, Int.reduceNeg, Int.reduceLE, Int.reduceLT, Int.reduceToNat, Int.reduceEq, Int.reduceNe, Int.reduceAdd, Option.some.injEq, ↓kb_0, ↓kb_8, ↓kb_16, rmL_law, mnew, nfs_8, nfs_9, G_0, G_1, G_240, G_272, ↓onL_8, ↓onL_34, ↓ocL_law_33, ↓ocL_law_36, ↓spX8_init, ↓spX9_init]
  refine ⟨by decide, rfl, ?_⟩
  have e := PF_all (fun b k => by simp) h1 (fun _ _ => rfl) h2
  rw [e]
  exact h _ _ (REL_0 (x0_cg (fun b k b0 b1 => (if_neg (by omega)).trans ((h2.2.2.1 b k (by omega) (by omega)).trans (if_neg (by omega)))) x1) (m0_cg (fun b k b0 b1 => ⟨if_neg (by omega), if_neg (by omega)⟩) m2))
