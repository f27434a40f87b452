/-! LapBoardModel: findBest whole, best, worth, wants -/
theorem upI_fun {I : Int → Int → Int} {b i v : Int} : upI I b i v b = updL (I b) i v := funext fun j => by
  unfold upI updL
  by_cases e : j = i
  · rw [if_pos ⟨rfl, e⟩, if_pos e]
  · rw [if_neg (fun z => e z.2), if_neg e]
theorem ahd_I {I J L : Int → Int → Int} {g : Int} {ln : Int → Int} {i : Nat} (eV : VM J = VM I) (h3 : J 240 3 = I 240 3) (h4 : J 240 4 = I 240 4) (h : ahdOK I L g ln i) : ahdOK J L g ln i := fun p p0 p1 => by
  unfold PreM
  rw [eV, h3, h4]
  exact h p p0 p1
set_option maxHeartbeats 1600000 in
set_option maxRecDepth 100000 in
theorem lpX9_b3 {post : Option MV → MS → Prop} {U : Pt → Prop} {N : Nat} {I L : Int → Int → Int} {g B x : Int} (hm : mB I L g B)
    (h : ∀ (I1 L1 : Int → Int → Int) (t4 t5 : Option MV), (∀ b k, b ≠ 250 → I1 b k = I b k) → (∀ b k, b ≠ 255 → b ≠ 256 → L1 b k = L b k) → (∀ j : Nat, (j : Int) < I 240 1 → lxM I1 g B j) → Ok RX9 cX9_findBest 6 rmX9_findBest false none post U (155, [some (.inr (.inr (some 240))), some (.inr (.inl B)), none, some (.inl x), t4, t5], [], (N, PF, I1, L1), 0, 0)) :
    ∀ (m i : Nat) (I1 L1 : Int → Int → Int) (t5 : Option MV), ((i + m + 1 : Nat) : Int) = I 240 1 → (∀ b k, b ≠ 250 → I1 b k = I b k) → (∀ b k, b ≠ 255 → b ≠ 256 → L1 b k = L b k) → (∀ j : Nat, j ≤ i → lxM I1 g B j) → ahdR L1 → ahdOK I1 L1 g (I1 250) i →
    Ok RX9 cX9_findBest 6 rmX9_findBest false none post U (98, [some (.inr (.inr (some 240))), some (.inr (.inl B)), none, some (.inl x), some (.inl i), t5], [], (N, PF, I1, L1), 0, 0)
  | 0, i, I1, L1, t5, hi, h1, h2, h3, h4, h5 => by
    have y2 : I 240 1 ≤ 30 := hm.1.2.1
    have e1 : I1 240 1 = I 240 1 := h1 _ _ (by omega)
    refine Ok.seg mdX9_findBest [98, 155] 12 ?_
    simp only [wp_nil, wp_cons, ↓stp, ↓lI, ↓lL, ↓lR, ↓lIn_0, ↓lIn_1, ↓lIn_2, ↓lIn_3, ↓lLn_0, ↓lLn_1, ↓lLn_2, ↓lLn_3, ↓lRn_0, ↓lRn_1, ↓lRn_2, ↓lRn_3, ↓pI, ↓pL, ↓pR, ↓pA, ↓pN, ↓pV, ↓fp, ↓tsw, ↓oS, ↓spMax, ↓spMin, ↓spAbs, ↓spObj, RI, RLg, b2i_lo, b2i_hi, getL, setL, ltL, killL, isLong, inl, cnd, br, tgt, rcv, rpl, mputI, mputL, mputP, fv, fr, mcat, mcs, entL, entA, rfit, nf_0, nf_1, nf_2, nf_3, nf2_0, nf2_1, b2i_0, b2i_1, RI_b2i, b2i_fit, List.append, List.length, List.replicate, List.cons_append, List.nil_append, List.length_cons, List.length_nil, List.replicate_succ, List.replicate_zero, List.tail_cons, reduceIte, if_true, if_false, ite_true, ite_false, Bool.false_eq_true, true_and, and_true, and_self, false_and, and_false, or_self, or_true, true_or, or_false, false_or, not_true_eq_false, not_false_eq_true, ne_eq, forall_const, implies_true, imp_self, true_implies, false_implies, Nat.reduceAdd, Nat.reduceSub, Nat.reduceMul, Nat.reduceDiv, Nat.reduceMod, Nat.reduceEqDiff, Nat.reduceLT, Nat.reduceLeDiff, Nat.reduceBEq, Nat.add_zero, Nat.zero_add, Nat.le_refl, Nat.not_lt_zero, Nat.succ_eq_add_one, Int.reduceNatCast, Int.cast_ofNat_Int, Int.reduceSub, Int.reduceMul, Int.reduceNeg, Int.reduceLE, Int.reduceLT, Int.reduceToNat, Int.reduceEq, Int.reduceNe, Int.reduceAdd, Option.some.injEq, kX9_findBest, rmX9_findBest, ↓ofX9_13, ↓ofX9_16, ↓ofX9_58, ↓ofX9_73, ↓ozX9_174, ↓ocX9_findBest_193, ↓spX9_work, ↓ocX9_findBest_186, ↓spX9_firstOn, ↓ocX9_findBest_190, ↓spX9_firstMost, ↓ocX9_findBest_156, ↓spX9_timeOf, ↓ocX9_findBest_196, ↓spX9_leads, ↓ocX9_findBest_200, ↓spX9_goOn, ↓ocX9_findBest_160, ↓spX9_quicken, e1, G_240, G_241, G_242, G_243, G_244, G_245, G_246, G_247, G_248, G_249, G_250, G_251, G_252, G_253, G_254, G_255, G_256, G_257, G_258, G_259, G_260, G_261, G_262, G_263, G_264, G_265, G_266, G_267, G_268, G_269, G_270, G_271, G_272, PF_240_6, PF_240_7, PF_240_8, PF_240_9, PF_240_10, PF_240_11, PF_240_12, PF_240_13, PF_240_14, PF_240_15, PF_240_16, PF_240_17, PF_240_18, PF_240_19, PF_240_20, PF_240_21, PF_240_22, PF_240_23, PF_240_24, PF_240_26, PF_240_27, PF_240_28, PF_240_29, PF_240_30, PF_240_31, PF_240_32, PF_240_33, PF_240_34, PF_240_35, PF_240_36, PF_240_37]
    exact ⟨by omega, by omega, fun _ => h I1 L1 _ _ h1 h2 (fun j hj => h3 j (by omega)), fun q => by omega⟩
  | m + 1, i, I1, L1, t5, hi, h1, h2, h3, h4, h5 => by
    have ih := lpX9_b3 (U := U) (post := post) (N := N) (x := x) hm h m (i + 1)
    have y2 : I 240 1 ≤ 30 := hm.1.2.1
    have e1 : I1 240 1 = I 240 1 := h1 _ _ (by omega)
    obtain ⟨hm1, eV1⟩ := mB_cg h1 (fun k => h2 252 k (by omega) (by omega)) hm
    have hli := (h3 i (Nat.le_refl _)).1
    refine Ok.seg mdX9_findBest [98, 112, 155] 12 ?_
    simp only [wp_nil, wp_cons, ↓stp, ↓lI, ↓lL, ↓lR, ↓lIn_0, ↓lIn_1, ↓lIn_2, ↓lIn_3, ↓lLn_0, ↓lLn_1, ↓lLn_2, ↓lLn_3, ↓lRn_0, ↓lRn_1, ↓lRn_2, ↓lRn_3, ↓pI, ↓pL, ↓pR, ↓pA, ↓pN, ↓pV, ↓fp, ↓tsw, ↓oS, ↓spMax, ↓spMin, ↓spAbs, ↓spObj, RI, RLg, b2i_lo, b2i_hi, getL, setL, ltL, killL, isLong, inl, cnd, br, tgt, rcv, rpl, mputI, mputL, mputP, fv, fr, mcat, mcs, entL, entA, rfit, nf_0, nf_1, nf_2, nf_3, nf2_0, nf2_1, b2i_0, b2i_1, RI_b2i, b2i_fit, List.append, List.length, List.replicate, List.cons_append, List.nil_append, List.length_cons, List.length_nil, List.replicate_succ, List.replicate_zero, List.tail_cons, reduceIte, if_true, if_false, ite_true, ite_false, Bool.false_eq_true, true_and, and_true, and_self, false_and, and_false, or_self, or_true, true_or, or_false, false_or, not_true_eq_false, not_false_eq_true, ne_eq, forall_const, implies_true, imp_self, true_implies, false_implies, Nat.reduceAdd, Nat.reduceSub, Nat.reduceMul, Nat.reduceDiv, Nat.reduceMod, Nat.reduceEqDiff, Nat.reduceLT, Nat.reduceLeDiff, Nat.reduceBEq, Nat.add_zero, Nat.zero_add, Nat.le_refl, Nat.not_lt_zero, Nat.succ_eq_add_one, Int.reduceNatCast, Int.cast_ofNat_Int, Int.reduceSub, Int.reduceMul, Int.reduceNeg, Int.reduceLE, Int.reduceLT, Int.reduceToNat, Int.reduceEq, Int.reduceNe, Int.reduceAdd, Option.some.injEq, kX9_findBest, rmX9_findBest, ↓ofX9_13, ↓ofX9_16, ↓ofX9_58, ↓ofX9_73, ↓ozX9_174, ↓ocX9_findBest_193, ↓spX9_work, ↓ocX9_findBest_186, ↓spX9_firstOn, ↓ocX9_findBest_190, ↓spX9_firstMost, ↓ocX9_findBest_156, ↓spX9_timeOf, ↓ocX9_findBest_196, ↓spX9_leads, ↓ocX9_findBest_200, ↓spX9_goOn, ↓ocX9_findBest_160, ↓spX9_quicken, e1, G_240, G_241, G_242, G_243, G_244, G_245, G_246, G_247, G_248, G_249, G_250, G_251, G_252, G_253, G_254, G_255, G_256, G_257, G_258, G_259, G_260, G_261, G_262, G_263, G_264, G_265, G_266, G_267, G_268, G_269, G_270, G_271, G_272, PF_240_6, PF_240_7, PF_240_8, PF_240_9, PF_240_10, PF_240_11, PF_240_12, PF_240_13, PF_240_14, PF_240_15, PF_240_16, PF_240_17, PF_240_18, PF_240_19, PF_240_20, PF_240_21, PF_240_22, PF_240_23, PF_240_24, PF_240_26, PF_240_27, PF_240_28, PF_240_29, PF_240_30, PF_240_31, PF_240_32, PF_240_33, PF_240_34, PF_240_35, PF_240_36, PF_240_37]
    refine ⟨by omega, by omega, fun q => by omega, fun q => ?_⟩
    refine lpX9_b4 (x := x) hm1 (by omega) h3 h4 h5 (fun nx k1 k2 k3 => ?_) 3 0 (by omega) (by omega) (fun l a b => by omega)
    have ue : ∀ b k, b ≠ 250 → upI I1 250 ((i : Int) + 1) nx b k = I1 b k := fun b k hb => upI_ne hb
    obtain ⟨hm2, eV2⟩ := mB_cg ue (fun _ => rfl) hm1
    have ei : ((i + 1 : Nat) : Int) = (i : Int) + 1 := by omega
    rw [ei] at k2
    have e250 : upI I1 250 ((i : Int) + 1) nx 250 i = I1 250 i := upI_nj (by omega)
    have e1' : upI I1 250 ((i : Int) + 1) nx 240 1 = I1 240 1 := ue _ _ (by omega)
    have hgnd : gnd (upI I1 250 ((i : Int) + 1) nx) L1 g i := ⟨hm2.1, hm2.2.1, hm2.2.2.1, by omega, by rw [e1']; omega, by rw [e250]; omega, by rw [e250]; omega⟩
    refine Ok.seg mdX9_findBest [98] 20 ?_
    simp only [wp_nil, wp_cons, ↓stp, ↓lI, ↓lL, ↓lR, ↓lIn_0, ↓lIn_1, ↓lIn_2, ↓lIn_3, ↓lLn_0, ↓lLn_1, ↓lLn_2, ↓lLn_3, ↓lRn_0, ↓lRn_1, ↓lRn_2, ↓lRn_3, ↓pI, ↓pL, ↓pR, ↓pA, ↓pN, ↓pV, ↓fp, ↓tsw, ↓oS, ↓spMax, ↓spMin, ↓spAbs, ↓spObj, RI, RLg, b2i_lo, b2i_hi, getL, setL, ltL, killL, isLong, inl, cnd, br, tgt, rcv, rpl, mputI, mputL, mputP, fv, fr, mcat, mcs, entL, entA, rfit, nf_0, nf_1, nf_2, nf_3, nf2_0, nf2_1, b2i_0, b2i_1, RI_b2i, b2i_fit, List.append, List.length, List.replicate, List.cons_append, List.nil_append, List.length_cons, List.length_nil, List.replicate_succ, List.replicate_zero, List.tail_cons, reduceIte, if_true, if_false, ite_true, ite_false, Bool.false_eq_true, true_and, and_true, and_self, false_and, and_false, or_self, or_true, true_or, or_false, false_or, not_true_eq_false, not_false_eq_true, ne_eq, forall_const, implies_true, imp_self, true_implies, false_implies, Nat.reduceAdd, Nat.reduceSub, Nat.reduceMul, Nat.reduceDiv, Nat.reduceMod, Nat.reduceEqDiff, Nat.reduceLT, Nat.reduceLeDiff, Nat.reduceBEq, Nat.add_zero, Nat.zero_add, Nat.le_refl, Nat.not_lt_zero, Nat.succ_eq_add_one, Int.reduceNatCast, Int.cast_ofNat_Int, Int.reduceSub, Int.reduceMul, Int.reduceNeg, Int.reduceLE, Int.reduceLT, Int.reduceToNat, Int.reduceEq, Int.reduceNe, Int.reduceAdd, Option.some.injEq, kX9_findBest, rmX9_findBest, ↓ofX9_13, ↓ofX9_16, ↓ofX9_58, ↓ofX9_73, ↓ozX9_174, ↓ocX9_findBest_193, ↓spX9_work, ↓ocX9_findBest_186, ↓spX9_firstOn, ↓ocX9_findBest_190, ↓spX9_firstMost, ↓ocX9_findBest_156, ↓spX9_timeOf, ↓ocX9_findBest_196, ↓spX9_leads, ↓ocX9_findBest_200, ↓spX9_goOn, ↓ocX9_findBest_160, ↓spX9_quicken, G_240, G_241, G_242, G_243, G_244, G_245, G_246, G_247, G_248, G_249, G_250, G_251, G_252, G_253, G_254, G_255, G_256, G_257, G_258, G_259, G_260, G_261, G_262, G_263, G_264, G_265, G_266, G_267, G_268, G_269, G_270, G_271, G_272, PF_240_6, PF_240_7, PF_240_8, PF_240_9, PF_240_10, PF_240_11, PF_240_12, PF_240_13, PF_240_14, PF_240_15, PF_240_16, PF_240_17, PF_240_18, PF_240_19, PF_240_20, PF_240_21, PF_240_22, PF_240_23, PF_240_24, PF_240_26, PF_240_27, PF_240_28, PF_240_29, PF_240_30, PF_240_31, PF_240_32, PF_240_33, PF_240_34, PF_240_35, PF_240_36, PF_240_37]
    refine ⟨by omega, by omega, k1.2.2.1, k1.2.2.2, h4, g, hgnd, fun L2 m1 m2 m3 => ?_⟩
    have lx2 : ∀ j : Nat, j ≤ i + 1 → lxM (upI I1 250 ((i : Int) + 1) nx) g B j := fun j hj => by
      unfold lxM
      rw [eV2, ue 240 3 (by omega), ue 240 4 (by omega), upI_fun]
      by_cases z : j = i + 1
      · subst z
        obtain ⟨w, hw⟩ := k2
        rw [show (updL (I1 250) ((i : Int) + 1) nx) = updL (I1 250) ((i + 1 : Nat) : Int) nx by rw [ei]]
        refine ⟨by rw [updL_me]; exact ⟨k1.2.2.1, k1.2.2.2⟩, fun _ => ?_, ⟨w, ?_⟩, fun l' l0 l1 l2 => ?_⟩
        · rw [updL_me, updL_ne (by omega), show ((i + 1 : Nat) : Int) - 1 = i by omega]; exact k1
        · rw [show ((i + 1 : Nat) : Int) = (i : Int) + 1 by omega]; exact hw
        · rw [updL_me] at l1
          have l2 := l2 (by omega)
          rw [updL_ne (by omega), show ((i + 1 : Nat) : Int) - 1 = i by omega] at l2
          rw [updL_two]
          exact k3 l' l0 l1 l2
      · exact lexC_cg j (fun y y0 y1 => (updL_ne (by omega)).symm) (h3 j (by omega))
    have := ih (upI I1 250 ((i : Int) + 1) nx) L2 (some (.inl nx)) (by omega) (fun b k hb => (ue b k hb).trans (h1 b k hb)) (fun b k b0 b1 => (m1 b k b0 b1).trans (h2 b k b0 b1)) lx2 m2 (by
      have a := ahd_s (I := upI I1 250 ((i : Int) + 1) nx) (L := L1) (L' := L2) (g := g) (nx := nx) (ln := I1 250) (i := i) hm2.1 hm2.2.2.1 (by rw [e1']; omega) k1.2.2.1 k1.2.2.2 e250 (ahd_I eV2 (ue _ _ (by omega)) (ue _ _ (by omega)) h5) m3
      rw [upI_fun, ← ei]; exact a)
    rwa [ei] at this
set_option maxRecDepth 100000 in
set_option maxHeartbeats 800000 in
theorem mX9_findBest : MOK yX9_findBest cX9_findBest 6 none rmX9_findBest ciX9_findBest := by
  refine mok_of (ini := false) (by decide +kernel) (by decide) rfl rfl ?_
  intro σ As K hrc hl h
  obtain ⟨N, P, I, L⟩ := σ
  have h9 := pR_iff.mp h
  clear h
  obtain ⟨a, r, e9, h⟩ := h9
  subst e9
  have h9 := pN_iff.mp h
  clear h
  obtain ⟨e9, h⟩ := h9
  subst e9
  try dsimp only at h
  obtain ⟨rfl, rfl, ht, hc, h⟩ := h
  have y1 : 0 ≤ I 240 1 := ht.1
  have y2 : I 240 1 ≤ 30 := ht.2.1
  have hnn := hc.2
  unfold nOK at hnn
  rw [VM_36_0, VM_36_1, VM_36_2] at hnn
  refine ⟨Nat.le_of_ble_eq_true rfl, Ok.seg mdX9_findBest [19] 20 ?_⟩
  simp only [wp_nil, wp_cons, ↓stp, ↓lI, ↓lL, ↓lR, ↓lIn_0, ↓lIn_1, ↓lIn_2, ↓lIn_3, ↓lLn_0, ↓lLn_1, ↓lLn_2, ↓lLn_3, ↓lRn_0, ↓lRn_1, ↓lRn_2, ↓lRn_3, ↓pI, ↓pL, ↓pR, ↓pA, ↓pN, ↓pV, ↓fp, ↓tsw, ↓oS, ↓spMax, ↓spMin, ↓spAbs, ↓spObj, RI, RLg, b2i_lo, b2i_hi, getL, setL, ltL, killL, isLong, inl, cnd, br, tgt, rcv, rpl, mputI, mputL, mputP, fv, fr, mcat, mcs, entL, entA, rfit, nf_0, nf_1, nf_2, nf_3, nf2_0, nf2_1, b2i_0, b2i_1, RI_b2i, b2i_fit, List.append, List.length, List.replicate, List.cons_append, List.nil_append, List.length_cons, List.length_nil, List.replicate_succ, List.replicate_zero, List.tail_cons, reduceIte, if_true, if_false, ite_true, ite_false, Bool.false_eq_true, true_and, and_true, and_self, false_and, and_false, or_self, or_true, true_or, or_false, false_or, not_true_eq_false, not_false_eq_true, ne_eq, forall_const, implies_true, imp_self, true_implies, false_implies, Nat.reduceAdd, Nat.reduceSub, Nat.reduceMul, Nat.reduceDiv, Nat.reduceMod, Nat.reduceEqDiff, Nat.reduceLT, Nat.reduceLeDiff, Nat.reduceBEq, Nat.add_zero, Nat.zero_add, Nat.le_refl, Nat.not_lt_zero, Nat.succ_eq_add_one, Int.reduceNatCast, Int.cast_ofNat_Int, Int.reduceSub, Int.reduceMul, Int.reduceNeg, Int.reduceLE, Int.reduceLT, Int.reduceToNat, Int.reduceEq, Int.reduceNe, Int.reduceAdd, Option.some.injEq, kX9_findBest, rmX9_findBest, ↓ofX9_13, ↓ofX9_16, ↓ofX9_58, ↓ofX9_73, ↓ozX9_174, ↓ocX9_findBest_193, ↓spX9_work, ↓ocX9_findBest_186, ↓spX9_firstOn, ↓ocX9_findBest_190, ↓spX9_firstMost, ↓ocX9_findBest_156, ↓spX9_timeOf, ↓ocX9_findBest_196, ↓spX9_leads, ↓ocX9_findBest_200, ↓spX9_goOn, ↓ocX9_findBest_160, ↓spX9_quicken, ht, hc, G_240, G_241, G_242, G_243, G_244, G_245, G_246, G_247, G_248, G_249, G_250, G_251, G_252, G_253, G_254, G_255, G_256, G_257, G_258, G_259, G_260, G_261, G_262, G_263, G_264, G_265, G_266, G_267, G_268, G_269, G_270, G_271, G_272, PF_240_6, PF_240_7, PF_240_8, PF_240_9, PF_240_10, PF_240_11, PF_240_12, PF_240_13, PF_240_14, PF_240_15, PF_240_16, PF_240_17, PF_240_18, PF_240_19, PF_240_20, PF_240_21, PF_240_22, PF_240_23, PF_240_24, PF_240_26, PF_240_27, PF_240_28, PF_240_29, PF_240_30, PF_240_31, PF_240_32, PF_240_33, PF_240_34, PF_240_35, PF_240_36, PF_240_37]
  refine ⟨by omega, by omega, fun I1 L1 B k1 k2 k3 k4 => ?_⟩
  have eV : VM I1 = VM I := VM_cg (fun k _ => k1 _ _ (by omega) (by omega)) (fun b k _ _ => k1 _ _ (by omega) (by omega)) (fun b k _ _ => k1 _ _ (by omega) (by omega))
  have e1 : I1 240 1 = I 240 1 := k1 _ _ (by omega) (by omega)
  have e2 : I1 240 2 = I 240 2 := k1 _ _ (by omega) (by omega)
  have e3 : I1 240 3 = I 240 3 := k1 _ _ (by omega) (by omega)
  have e4 : I1 240 4 = I 240 4 := k1 _ _ (by omega) (by omega)
  rw [e1]
  refine ⟨by omega, fun hz => ?_, fun hz => ?_⟩
  · rcases k4 with ⟨z, _⟩ | ⟨_, hB, hB2⟩
    · exact (hz z).elim
    · have hm : mB I1 L1 (I 240 2) B := ⟨by rw [eV]; exact ht, by rw [eV]; exact hc, k3, by omega, by rw [eV, e3, e4]; exact hB, by rw [eV, e3, e4]; exact hB2⟩
      refine lpX9_b1 hm (fun x x0 x1 hx hx2 => ?_) 3 0 (by omega) (by omega) (fun l a b => by omega)
      have ue : ∀ b k, b ≠ 250 → upI I1 250 0 x b k = I1 b k := fun b k hb => upI_ne hb
      obtain ⟨hm2, eV2⟩ := mB_cg ue (fun _ => rfl) hm
      refine Ok.seg mdX9_findBest [45] 20 ?_
      simp only [wp_nil, wp_cons, ↓stp, ↓lI, ↓lL, ↓lR, ↓lIn_0, ↓lIn_1, ↓lIn_2, ↓lIn_3, ↓lLn_0, ↓lLn_1, ↓lLn_2, ↓lLn_3, ↓lRn_0, ↓lRn_1, ↓lRn_2, ↓lRn_3, ↓pI, ↓pL, ↓pR, ↓pA, ↓pN, ↓pV, ↓fp, ↓tsw, ↓oS, ↓spMax, ↓spMin, ↓spAbs, ↓spObj, RI, RLg, b2i_lo, b2i_hi, getL, setL, ltL, killL, isLong, inl, cnd, br, tgt, rcv, rpl, mputI, mputL, mputP, fv, fr, mcat, mcs, entL, entA, rfit, nf_0, nf_1, nf_2, nf_3, nf2_0, nf2_1, b2i_0, b2i_1, RI_b2i, b2i_fit, List.append, List.length, List.replicate, List.cons_append, List.nil_append, List.length_cons, List.length_nil, List.replicate_succ, List.replicate_zero, List.tail_cons, reduceIte, if_true, if_false, ite_true, ite_false, Bool.false_eq_true, true_and, and_true, and_self, false_and, and_false, or_self, or_true, true_or, or_false, false_or, not_true_eq_false, not_false_eq_true, ne_eq, forall_const, implies_true, imp_self, true_implies, false_implies, Nat.reduceAdd, Nat.reduceSub, Nat.reduceMul, Nat.reduceDiv, Nat.reduceMod, Nat.reduceEqDiff, Nat.reduceLT, Nat.reduceLeDiff, Nat.reduceBEq, Nat.add_zero, Nat.zero_add, Nat.le_refl, Nat.not_lt_zero, Nat.succ_eq_add_one, Int.reduceNatCast, Int.cast_ofNat_Int, Int.reduceSub, Int.reduceMul, Int.reduceNeg, Int.reduceLE, Int.reduceLT, Int.reduceToNat, Int.reduceEq, Int.reduceNe, Int.reduceAdd, Option.some.injEq, kX9_findBest, rmX9_findBest, ↓ofX9_13, ↓ofX9_16, ↓ofX9_58, ↓ofX9_73, ↓ozX9_174, ↓ocX9_findBest_193, ↓spX9_work, ↓ocX9_findBest_186, ↓spX9_firstOn, ↓ocX9_findBest_190, ↓spX9_firstMost, ↓ocX9_findBest_156, ↓spX9_timeOf, ↓ocX9_findBest_196, ↓spX9_leads, ↓ocX9_findBest_200, ↓spX9_goOn, ↓ocX9_findBest_160, ↓spX9_quicken, G_240, G_241, G_242, G_243, G_244, G_245, G_246, G_247, G_248, G_249, G_250, G_251, G_252, G_253, G_254, G_255, G_256, G_257, G_258, G_259, G_260, G_261, G_262, G_263, G_264, G_265, G_266, G_267, G_268, G_269, G_270, G_271, G_272, PF_240_6, PF_240_7, PF_240_8, PF_240_9, PF_240_10, PF_240_11, PF_240_12, PF_240_13, PF_240_14, PF_240_15, PF_240_16, PF_240_17, PF_240_18, PF_240_19, PF_240_20, PF_240_21, PF_240_22, PF_240_23, PF_240_24, PF_240_26, PF_240_27, PF_240_28, PF_240_29, PF_240_30, PF_240_31, PF_240_32, PF_240_33, PF_240_34, PF_240_35, PF_240_36, PF_240_37]
      refine lpX9_b2 hm2 x0 x1 upI_same (fun L2 m1 m2 m3 => ?_) 61 0 L1 (by omega) (by omega) (fun _ _ _ => rfl) (fun p' a b => by omega)
      refine Ok.seg mdX9_findBest [98] 20 ?_
      simp only [wp_nil, wp_cons, ↓stp, ↓lI, ↓lL, ↓lR, ↓lIn_0, ↓lIn_1, ↓lIn_2, ↓lIn_3, ↓lLn_0, ↓lLn_1, ↓lLn_2, ↓lLn_3, ↓lRn_0, ↓lRn_1, ↓lRn_2, ↓lRn_3, ↓pI, ↓pL, ↓pR, ↓pA, ↓pN, ↓pV, ↓fp, ↓tsw, ↓oS, ↓spMax, ↓spMin, ↓spAbs, ↓spObj, RI, RLg, b2i_lo, b2i_hi, getL, setL, ltL, killL, isLong, inl, cnd, br, tgt, rcv, rpl, mputI, mputL, mputP, fv, fr, mcat, mcs, entL, entA, rfit, nf_0, nf_1, nf_2, nf_3, nf2_0, nf2_1, b2i_0, b2i_1, RI_b2i, b2i_fit, List.append, List.length, List.replicate, List.cons_append, List.nil_append, List.length_cons, List.length_nil, List.replicate_succ, List.replicate_zero, List.tail_cons, reduceIte, if_true, if_false, ite_true, ite_false, Bool.false_eq_true, true_and, and_true, and_self, false_and, and_false, or_self, or_true, true_or, or_false, false_or, not_true_eq_false, not_false_eq_true, ne_eq, forall_const, implies_true, imp_self, true_implies, false_implies, Nat.reduceAdd, Nat.reduceSub, Nat.reduceMul, Nat.reduceDiv, Nat.reduceMod, Nat.reduceEqDiff, Nat.reduceLT, Nat.reduceLeDiff, Nat.reduceBEq, Nat.add_zero, Nat.zero_add, Nat.le_refl, Nat.not_lt_zero, Nat.succ_eq_add_one, Int.reduceNatCast, Int.cast_ofNat_Int, Int.reduceSub, Int.reduceMul, Int.reduceNeg, Int.reduceLE, Int.reduceLT, Int.reduceToNat, Int.reduceEq, Int.reduceNe, Int.reduceAdd, Option.some.injEq, kX9_findBest, rmX9_findBest, ↓ofX9_13, ↓ofX9_16, ↓ofX9_58, ↓ofX9_73, ↓ozX9_174, ↓ocX9_findBest_193, ↓spX9_work, ↓ocX9_findBest_186, ↓spX9_firstOn, ↓ocX9_findBest_190, ↓spX9_firstMost, ↓ocX9_findBest_156, ↓spX9_timeOf, ↓ocX9_findBest_196, ↓spX9_leads, ↓ocX9_findBest_200, ↓spX9_goOn, ↓ocX9_findBest_160, ↓spX9_quicken, G_240, G_241, G_242, G_243, G_244, G_245, G_246, G_247, G_248, G_249, G_250, G_251, G_252, G_253, G_254, G_255, G_256, G_257, G_258, G_259, G_260, G_261, G_262, G_263, G_264, G_265, G_266, G_267, G_268, G_269, G_270, G_271, G_272, PF_240_6, PF_240_7, PF_240_8, PF_240_9, PF_240_10, PF_240_11, PF_240_12, PF_240_13, PF_240_14, PF_240_15, PF_240_16, PF_240_17, PF_240_18, PF_240_19, PF_240_20, PF_240_21, PF_240_22, PF_240_23, PF_240_24, PF_240_26, PF_240_27, PF_240_28, PF_240_29, PF_240_30, PF_240_31, PF_240_32, PF_240_33, PF_240_34, PF_240_35, PF_240_36, PF_240_37]
      obtain ⟨hm3, _⟩ := mB_cg (I := upI I1 250 0 x) (J := upI I1 250 0 x) (L := L1) (L' := L2) (fun _ _ _ => rfl) (fun k => m1 252 k (by omega)) hm2
      refine lpX9_b3 (x := x) hm3 (fun I3 L3 t4 t5 n1 n2 n3 => ?_) (I 240 1 - 1).toNat 0 _ L2 none (by rw [ue 240 1 (by omega), e1]; omega) (fun _ _ _ => rfl) (fun _ _ _ _ => rfl) (fun j hj => ?_) m2 m3
      · have f3 : ∀ b k, b ≠ 250 → b ≠ 253 → b ≠ 254 → I3 b k = I b k := fun b k b0 b1 b2 => by rw [n1 b k b0, ue b k b0]; exact k1 b k b1 b2
        have eV3 : VM I3 = VM I := VM_cg (fun k _ => f3 _ _ (by omega) (by omega) (by omega)) (fun b k _ _ => f3 _ _ (by omega) (by omega) (by omega)) (fun b k _ _ => f3 _ _ (by omega) (by omega) (by omega))
        have n31 : upI I1 250 0 x 240 1 = I 240 1 := (ue _ _ (by omega)).trans e1
        have hlan : lanM I3 := fun i i0 i1 => by
          rw [f3 240 1 (by omega) (by omega) (by omega)] at i1
          have := (n3 i.toNat (by omega)).1
          rw [Int.toNat_of_nonneg i0] at this
          exact this
        refine Ok.seg mdX9_findBest [] 20 ?_
        simp only [wp_nil, wp_cons, ↓stp, ↓lI, ↓lL, ↓lR, ↓lIn_0, ↓lIn_1, ↓lIn_2, ↓lIn_3, ↓lLn_0, ↓lLn_1, ↓lLn_2, ↓lLn_3, ↓lRn_0, ↓lRn_1, ↓lRn_2, ↓lRn_3, ↓pI, ↓pL, ↓pR, ↓pA, ↓pN, ↓pV, ↓fp, ↓tsw, ↓oS, ↓spMax, ↓spMin, ↓spAbs, ↓spObj, RI, RLg, b2i_lo, b2i_hi, getL, setL, ltL, killL, isLong, inl, cnd, br, tgt, rcv, rpl, mputI, mputL, mputP, fv, fr, mcat, mcs, entL, entA, rfit, nf_0, nf_1, nf_2, nf_3, nf2_0, nf2_1, b2i_0, b2i_1, RI_b2i, b2i_fit, List.append, List.length, List.replicate, List.cons_append, List.nil_append, List.length_cons, List.length_nil, List.replicate_succ, List.replicate_zero, List.tail_cons, reduceIte, if_true, if_false, ite_true, ite_false, Bool.false_eq_true, true_and, and_true, and_self, false_and, and_false, or_self, or_true, true_or, or_false, false_or, not_true_eq_false, not_false_eq_true, ne_eq, forall_const, implies_true, imp_self, true_implies, false_implies, Nat.reduceAdd, Nat.reduceSub, Nat.reduceMul, Nat.reduceDiv, Nat.reduceMod, Nat.reduceEqDiff, Nat.reduceLT, Nat.reduceLeDiff, Nat.reduceBEq, Nat.add_zero, Nat.zero_add, Nat.le_refl, Nat.not_lt_zero, Nat.succ_eq_add_one, Int.reduceNatCast, Int.cast_ofNat_Int, Int.reduceSub, Int.reduceMul, Int.reduceNeg, Int.reduceLE, Int.reduceLT, Int.reduceToNat, Int.reduceEq, Int.reduceNe, Int.reduceAdd, Option.some.injEq, kX9_findBest, rmX9_findBest, ↓ofX9_13, ↓ofX9_16, ↓ofX9_58, ↓ofX9_73, ↓ozX9_174, ↓ocX9_findBest_193, ↓spX9_work, ↓ocX9_findBest_186, ↓spX9_firstOn, ↓ocX9_findBest_190, ↓spX9_firstMost, ↓ocX9_findBest_156, ↓spX9_timeOf, ↓ocX9_findBest_196, ↓spX9_leads, ↓ocX9_findBest_200, ↓spX9_goOn, ↓ocX9_findBest_160, ↓spX9_quicken, eV3, ht, hc, hlan, G_240, G_241, G_242, G_243, G_244, G_245, G_246, G_247, G_248, G_249, G_250, G_251, G_252, G_253, G_254, G_255, G_256, G_257, G_258, G_259, G_260, G_261, G_262, G_263, G_264, G_265, G_266, G_267, G_268, G_269, G_270, G_271, G_272, PF_240_6, PF_240_7, PF_240_8, PF_240_9, PF_240_10, PF_240_11, PF_240_12, PF_240_13, PF_240_14, PF_240_15, PF_240_16, PF_240_17, PF_240_18, PF_240_19, PF_240_20, PF_240_21, PF_240_22, PF_240_23, PF_240_24, PF_240_26, PF_240_27, PF_240_28, PF_240_29, PF_240_30, PF_240_31, PF_240_32, PF_240_33, PF_240_34, PF_240_35, PF_240_36, PF_240_37]
        refine fun I4 o1 o2 => h I4 L3 (fun b k b0 b1 b2 b3 => by rw [o1 b k b1]; exact f3 b k b0 b2 b3) (fun b k b0 b1 b2 => by rw [n2 b k b1 b2, m1 b k b1]; exact k2 b k b0) ?_
        have eV4 : VM I4 = VM I := (V251 o1).trans eV3
        have g2 : I4 240 2 = I 240 2 := (o1 _ _ (by omega)).trans (f3 _ _ (by omega) (by omega) (by omega))
        have g3 : I4 240 3 = I 240 3 := (o1 _ _ (by omega)).trans (f3 _ _ (by omega) (by omega) (by omega))
        have g4 : I4 240 4 = I 240 4 := (o1 _ _ (by omega)).trans (f3 _ _ (by omega) (by omega) (by omega))
        refine ⟨B, by rw [eV4, g2, g3, g4]; exact .inr ⟨by rw [VM_31]; omega, hB, hB2⟩, fun j hj => ?_, ?_⟩
        · rw [eV4] at hj
          have := n3 j (by rw [n31]; exact hj)
          unfold lxM at this
          rw [eV3, f3 240 3 (by omega) (by omega) (by omega), f3 240 4 (by omega) (by omega) (by omega)] at this
          rw [eV4, g2, g3, g4, show I4 250 = I3 250 from funext fun k => o1 _ _ (by omega)]
          exact this
        · unfold mMx at o2 ⊢
          rw [show mlm I4 = mlm I3 from funext fun j => by unfold mlm; rw [eV4, eV3, o1 240 2 (by omega), o1 250 j (by omega)], o1 240 1 (by omega), o1 240 3 (by omega), o1 240 4 (by omega), show I4 246 = I3 246 from funext fun k => o1 _ _ (by omega), show I4 247 = I3 247 from funext fun k => o1 _ _ (by omega)]
          exact o2
      · have hj0 : j = 0 := by omega
        subst hj0
        unfold lxM
        rw [eV2, ue 240 3 (by omega), ue 240 4 (by omega), upI_fun]
        refine ⟨by rw [show ((0 : Nat) : Int) = 0 by rfl, updL_me]; omega, fun q => by omega, ?_, fun l' l0 l1 _ => ?_⟩
        · obtain ⟨p, hp⟩ := hx; exact ⟨p, hp⟩
        · rw [show ((0 : Nat) : Int) = 0 by rfl, updL_me] at l1
          rw [show ((0 : Nat) : Int) = 0 by rfl, updL_two]
          exact hx2 l' l0 l1
  · refine h I1 L1 (fun b k b0 b1 b2 b3 => k1 b k b2 b3) (fun b k b0 b1 b2 => k2 b k b0) ⟨B, by rw [eV, e2, e3, e4]; exact k4, fun j hj => ?_, ?_⟩
    · have : (j : Int) < I1 240 1 := hj
      omega
    · refine ⟨⟨fun q => by omega, fun i a b => by omega, fun i a b => by omega⟩, fun q hq i a b => by omega⟩
theorem bestM_l {I : Int → Int → Int} (h : bestM I) : lanM I ∧ pacM I := by
  obtain ⟨B, a, b, c⟩ := h
  refine ⟨fun i i0 i1 => ?_, fun i i0 i1 => ?_⟩
  · have := (b i.toNat (by show ((i.toNat : Nat) : Int) < I 240 1; omega)).1
    rw [Int.toNat_of_nonneg i0] at this
    exact this
  · have := c.1.2.1 i i0 i1
    have r := mlm_rng I i
    omega
/-- behind findBest -/
theorem fB {I J L M : Int → Int → Int} (h : mOK I L) (h1 : ∀ b k, b ≠ 250 → b ≠ 251 → b ≠ 253 → b ≠ 254 → J b k = I b k) (h2 : ∀ b k, b ≠ 252 → b ≠ 255 → b ≠ 256 → M b k = L b k) : mOK J M ∧ frW I J ∧ frWL L M := by
  have hf : frW I J := fun b k b0 b1 b2 b3 => h1 b k (by omega) (by omega) (by omega) (by omega)
  exact ⟨mOK_w h hf (fun k => h1 _ _ (by omega) (by omega) (by omega) (by omega)) (fun k => h2 _ _ (by omega) (by omega) (by omega)), hf, fun b k b0 => h2 b k (by omega) (by omega) (by omega)⟩
def spX9_best (As : List MV) (σ : MS) (K : Option MV → MS → Prop) : Prop := pR As fun a r => pI r fun s r => pI r fun w r => pN r (a = 240 ∧ σ.2.1 = PF ∧ RI s ∧ RI w ∧ mOK σ.2.2.1 σ.2.2.2 ∧ (¬ (0 ≤ s ∧ s < σ.2.2.1 240 1 ∧ 0 ≤ w ∧ w ≤ 2) → K (some (.inl (-1))) σ) ∧ (0 ≤ s ∧ s < σ.2.2.1 240 1 ∧ 0 ≤ w ∧ w ≤ 2 → ∀ (I' L' : Int → Int → Int), frW σ.2.2.1 I' → frWL σ.2.2.2 L' → mOK I' L' → bestM I' → K (some (.inl (if w = 0 then I' 250 s else if w = 1 then I' 251 s else tmM I' s))) (σ.1, σ.2.1, I', L')))
def ciX9_best : CI := (3, 9, 0, 0, spX9_best)
def kX9_best (pc : Nat) : List ME := match pc with
  | 0 => [(.aload_n 0, 1, []), (.iload_n 1, 1, []), (.invokevirtual 135, 3, []), (.ifCond .eq 13, 3, [18]), (.aload_n 0, 1, []), (.iload_n 2, 1, []), (.iconst 0, 1, []), (.iconst 2, 1, []), (.invokevirtual 128, 3, []), (.ifCond .ne 5, 3, [20])]
  | 18 => [(.iconst (-1), 1, []), (.ireturn, 1, [])]
  | 20 => [(.aload_n 0, 1, []), (.invokevirtual 204, 3, []), (.iload_n 2, 1, []), (.ifCond .ne 12, 3, [37]), (.aload_n 0, 1, []), (.getfield 58, 3, []), (.iload_n 1, 1, []), (.iaload, 1, []), (.goto 22, 3, [56])]
  | 37 => [(.iload_n 2, 1, []), (.iconst 1, 1, []), (.if_icmp .ne 12, 3, [51]), (.aload_n 0, 1, []), (.getfield 61, 3, []), (.iload_n 1, 1, []), (.iaload, 1, []), (.goto 8, 3, [56])]
  | 51 => [(.aload_n 0, 1, []), (.iload_n 1, 1, []), (.invokevirtual 167, 3, [])]
  | 56 => [(.ireturn, 1, [])]
  | _ => []
theorem qX9_best : ∀ pc, chk cX9_best pc (kX9_best pc) = true := by
  intro pc
  unfold kX9_best
  split <;> first | decide +kernel | exact chk_nil
abbrev rmX9_best : Room := { frames := 4, cells := 0, slots := 0, locals := 108 }
def aX9_best (x : Nat) : Option CI := match x with
  | 135 => some ciX9_isStation
  | 128 => some ciX9_in
  | 204 => some ciX9_findBest
  | 167 => some ciX9_timeAt
  | _ => none
theorem aokX9_best : ∀ x ci, aX9_best x = some ci → CalOK RX9 rmX9_best x ci := by
  intro x ci h
  unfold aX9_best at h
  split at h
  · cases h; exact cal_V mX9_isStation (by decide) rfl (List.forall_mem_cons.mpr ⟨(ws_mem (List.mem_of_getElem? (i := 995) (by decide +kernel)) (by decide +kernel)), List.forall_mem_cons.mpr ⟨(ws_mem (List.mem_of_getElem? (i := 997) (by decide +kernel)) (by decide +kernel)), List.forall_mem_cons.mpr ⟨(ws_mem (List.mem_of_getElem? (i := 22) (by decide +kernel)) (by decide +kernel)), List.forall_mem_cons.mpr ⟨(ws_mem (List.mem_of_getElem? (i := 64) (by decide +kernel)) (by decide +kernel)), List.forall_mem_cons.mpr ⟨(ws_mem (List.mem_of_getElem? (i := 998) (by decide +kernel)) (by decide +kernel)), fun _ h => absurd h List.not_mem_nil⟩⟩⟩⟩⟩) rfl (by unfold nice; decide +kernel) (by unfold rfits; decide) ⟨rfl, rfl⟩
  · cases h; exact cal_V mX9_in (by decide) rfl (List.forall_mem_cons.mpr ⟨(ws_mem (List.mem_of_getElem? (i := 979) (by decide +kernel)) (by decide +kernel)), List.forall_mem_cons.mpr ⟨(ws_mem (List.mem_of_getElem? (i := 981) (by decide +kernel)) (by decide +kernel)), List.forall_mem_cons.mpr ⟨(ws_mem (List.mem_of_getElem? (i := 20) (by decide +kernel)) (by decide +kernel)), List.forall_mem_cons.mpr ⟨(ws_mem (List.mem_of_getElem? (i := 64) (by decide +kernel)) (by decide +kernel)), List.forall_mem_cons.mpr ⟨(ws_mem (List.mem_of_getElem? (i := 982) (by decide +kernel)) (by decide +kernel)), fun _ h => absurd h List.not_mem_nil⟩⟩⟩⟩⟩) rfl (by unfold nice; decide +kernel) (by unfold rfits; decide) ⟨rfl, rfl⟩
  · cases h; exact cal_V mX9_findBest (by decide) rfl (List.forall_mem_cons.mpr ⟨(ws_mem (List.mem_of_getElem? (i := 1068) (by decide +kernel)) (by decide +kernel)), List.forall_mem_cons.mpr ⟨(ws_mem (List.mem_of_getElem? (i := 1070) (by decide +kernel)) (by decide +kernel)), List.forall_mem_cons.mpr ⟨(ws_mem (List.mem_of_getElem? (i := 32) (by decide +kernel)) (by decide +kernel)), List.forall_mem_cons.mpr ⟨(ws_mem (List.mem_of_getElem? (i := 64) (by decide +kernel)) (by decide +kernel)), List.forall_mem_cons.mpr ⟨(ws_mem (List.mem_of_getElem? (i := 1071) (by decide +kernel)) (by decide +kernel)), fun _ h => absurd h List.not_mem_nil⟩⟩⟩⟩⟩) rfl (by unfold nice; decide +kernel) (by unfold rfits; decide) ⟨rfl, rfl⟩
  · cases h; exact cal_V mX9_timeAt (by decide) rfl (List.forall_mem_cons.mpr ⟨(ws_mem (List.mem_of_getElem? (i := 1056) (by decide +kernel)) (by decide +kernel)), List.forall_mem_cons.mpr ⟨(ws_mem (List.mem_of_getElem? (i := 1058) (by decide +kernel)) (by decide +kernel)), List.forall_mem_cons.mpr ⟨(ws_mem (List.mem_of_getElem? (i := 30) (by decide +kernel)) (by decide +kernel)), List.forall_mem_cons.mpr ⟨(ws_mem (List.mem_of_getElem? (i := 64) (by decide +kernel)) (by decide +kernel)), List.forall_mem_cons.mpr ⟨(ws_mem (List.mem_of_getElem? (i := 1059) (by decide +kernel)) (by decide +kernel)), fun _ h => absurd h List.not_mem_nil⟩⟩⟩⟩⟩) rfl (by unfold nice; decide +kernel) (by unfold rfits; decide) ⟨rfl, rfl⟩
  · cases h
theorem ocX9_best_135 (f : Nat → Nat → Nat → Nat → (List MV → MS → (Option MV → MS → Prop) → Prop) → Prop) : oC aX9_best 135 f = f 2 9 0 0 spX9_isStation := propext Iff.rfl
theorem ocX9_best_128 (f : Nat → Nat → Nat → Nat → (List MV → MS → (Option MV → MS → Prop) → Prop) → Prop) : oC aX9_best 128 f = f 4 9 0 0 spX9_in := propext Iff.rfl
theorem ocX9_best_204 (f : Nat → Nat → Nat → Nat → (List MV → MS → (Option MV → MS → Prop) → Prop) → Prop) : oC aX9_best 204 f = f 1 9 0 0 spX9_findBest := propext Iff.rfl
theorem ocX9_best_167 (f : Nat → Nat → Nat → Nat → (List MV → MS → (Option MV → MS → Prop) → Prop) → Prop) : oC aX9_best 167 f = f 2 9 0 0 spX9_timeAt := propext Iff.rfl
theorem mdX9_best : MD RX9 cX9_best rmX9_best kX9_best fX9 aX9_best zX9 uX9 := ⟨fokX9, zokX9, uokX9, aokX9_best, qX9_best⟩
set_option maxRecDepth 100000 in
set_option maxHeartbeats 800000 in
theorem mX9_best : MOK yX9_best cX9_best 3 (some .int) rmX9_best ciX9_best := by
  refine mok_of (ini := false) (by decide +kernel) (by decide) rfl rfl ?_
  intro σ As K hrc hl h
  obtain ⟨N, P, I, L⟩ := σ
  have h9 := pR_iff.mp h
  clear h
  obtain ⟨a, r, e9, h⟩ := h9
  subst e9
  have h9 := pI_iff.mp h
  clear h
  obtain ⟨s, r, e9, h⟩ := h9
  subst e9
  have h9 := pI_iff.mp h
  clear h
  obtain ⟨w, r, e9, h⟩ := h9
  subst e9
  have h9 := pN_iff.mp h
  clear h
  obtain ⟨e9, h⟩ := h9
  subst e9
  try dsimp only at h
  obtain ⟨rfl, rfl, hs, hw, hx, h1, h2⟩ := h
  unfold RI at hs hw
  have y1 := (nM hx).1
  have hx' := hx
  obtain ⟨x1, x2, x3, x4, x5⟩ := hx'
  refine ⟨Nat.le_of_ble_eq_true rfl, Ok.seg mdX9_best [] 60 ?_⟩
  simp only [wp_nil, wp_cons, ↓stp, ↓lI, ↓lL, ↓lR, ↓lIn_0, ↓lIn_1, ↓lIn_2, ↓lIn_3, ↓lLn_0, ↓lLn_1, ↓lLn_2, ↓lLn_3, ↓lRn_0, ↓lRn_1, ↓lRn_2, ↓lRn_3, ↓pI, ↓pL, ↓pR, ↓pA, ↓pN, ↓pV, ↓fp, ↓tsw, ↓oS, ↓spMax, ↓spMin, ↓spAbs, ↓spObj, RI, RLg, b2i_lo, b2i_hi, getL, setL, ltL, killL, isLong, inl, cnd, br, tgt, rcv, rpl, mputI, mputL, mputP, fv, fr, mcat, mcs, entL, entA, rfit, nf_0, nf_1, nf_2, nf_3, nf2_0, nf2_1, b2i_0, b2i_1, RI_b2i, b2i_fit, List.append, List.length, List.replicate, List.cons_append, List.nil_append, List.length_cons, List.length_nil, List.replicate_succ, List.replicate_zero, List.tail_cons, reduceIte, if_true, if_false, ite_true, ite_false, Bool.false_eq_true, true_and, and_true, and_self, false_and, and_false, or_self, or_true, true_or, or_false, false_or, not_true_eq_false, not_false_eq_true, ne_eq, forall_const, implies_true, imp_self, true_implies, false_implies, Nat.reduceAdd, Nat.reduceSub, Nat.reduceMul, Nat.reduceDiv, Nat.reduceMod, Nat.reduceEqDiff, Nat.reduceLT, Nat.reduceLeDiff, Nat.reduceBEq, Nat.add_zero, Nat.zero_add, Nat.le_refl, Nat.not_lt_zero, Nat.succ_eq_add_one, Int.reduceNatCast, Int.cast_ofNat_Int, Int.reduceSub, Int.reduceMul, Int.reduceNeg, Int.reduceLE, Int.reduceLT, Int.reduceToNat, Int.reduceEq, Int.reduceNe, Int.reduceAdd, Option.some.injEq, kX9_best, rmX9_best, ↓ofX9_58, ↓ofX9_61, ↓ocX9_best_135, ↓spX9_isStation, ↓ocX9_best_128, ↓spX9_in, ↓ocX9_best_204, ↓spX9_findBest, ↓ocX9_best_167, ↓spX9_timeAt, x1, x2, y1.1, y1.2, G_240, G_241, G_242, G_243, G_244, G_245, G_246, G_247, G_248, G_249, G_250, G_251, G_252, G_253, G_254, G_255, G_256, G_257, G_258, G_259, G_260, G_261, G_262, G_263, G_264, G_265, G_266, G_267, G_268, G_269, G_270, G_271, G_272, PF_240_6, PF_240_7, PF_240_8, PF_240_9, PF_240_10, PF_240_11, PF_240_12, PF_240_13, PF_240_14, PF_240_15, PF_240_16, PF_240_17, PF_240_18, PF_240_19, PF_240_20, PF_240_21, PF_240_22, PF_240_23, PF_240_24, PF_240_26, PF_240_27, PF_240_28, PF_240_29, PF_240_30, PF_240_31, PF_240_32, PF_240_33, PF_240_34, PF_240_35, PF_240_36, PF_240_37]
  refine ⟨by omega, fun q => h1 (by omega), fun q => ⟨by omega, fun q2 J M k1 k2 k3 => ?_, fun q2 => h1 (by omega)⟩⟩
  obtain ⟨a, b, c⟩ := fB hx k1 k2
  obtain ⟨d, e⟩ := bestM_l k3
  have e1 : J 240 1 = I 240 1 := k1 _ _ (by omega) (by omega) (by omega) (by omega)
  have := h2 (by omega) J M b c a k3
  have ep := e s (by omega) (by omega)
  have hst := stM a.1 (i := s) (by omega) (by omega)
  refine ⟨by omega, fun z => ⟨by omega, fun z2 => ?_, fun z2 => ?_⟩, fun z => ?_⟩
  · rw [if_neg z, if_neg z2] at this
    exact ⟨by omega, by omega, by omega, by omega, fun j j0 j1 => d j j0 (by omega), this⟩
  · rw [if_neg z, if_pos (by omega)] at this
    exact ⟨by omega, by omega, this⟩
  · rw [if_pos (by omega)] at this
    exact ⟨by omega, by omega, this⟩
