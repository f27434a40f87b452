/-! LapBoardModel.findPlan: the first tyre, and all -/
/-- the total by a tyre at lap 0 -/
noncomputable def fvt (I L : Int → Int → Int) (t : Int) : Int := lpf (VM I) t 0 + L 260 (spt 0 t 0 0)
set_option maxHeartbeats 1600000 in
set_option maxRecDepth 100000 in
theorem lpP_t {post : Option MV → MS → Prop} {U : Pt → Prop} {N : Nat} {I L : Int → Int → Int} {n : Int} (hf : ∀ t, 0 ≤ t → t ≤ 3 → 0 ≤ L 260 (spt 0 t 0 0) ∧ L 260 (spt 0 t 0 0) ≤ 1000000000000) (hlp : ∀ t d, 0 ≤ lpf (VM I) t d ∧ lpf (VM I) t d ≤ 3030000)
    (h : ∀ (J M : Int → Int → Int) (v : Int) (t4 t5 t6 t7 t8 : Option MV), frK I J → frKL L M → mOK J M → 0 ≤ v → v ≤ 3 → (∀ k, 0 ≤ k → k ≤ 3 → fvt I L v ≤ fvt I L k) → (∀ k, 0 ≤ k → k < v → fvt I L v < fvt I L k) → Ok RX9 cX9_findPlan 9 rmX9_findPlan false none post U (66, [some (.inr (.inr (some 240))), some (.inl n), some (.inl v), some (.inl 4), t4, t5, t6, t7, t8], [], (N, PF, J, M), 0, 0)) :
    ∀ (m : Nat) (t v : Int) (J M : Int → Int → Int) (t4 t5 t6 t7 t8 : Option MV), t + m = 4 → 1 ≤ t → 0 ≤ v → v < t → frK I J → frKL L M → mOK J M → (∀ k, 0 ≤ k → k < t → fvt I L v ≤ fvt I L k) → (∀ k, 0 ≤ k → k < v → fvt I L v < fvt I L k) →
    Ok RX9 cX9_findPlan 9 rmX9_findPlan false none post U (9, [some (.inr (.inr (some 240))), some (.inl n), some (.inl v), some (.inl t), t4, t5, t6, t7, t8], [], (N, PF, J, M), 0, 0)
  | 0, t, v, J, M, t4, t5, t6, t7, t8, ht, t1, v0, v1, h1, h2, h3, h4, h5 => by
    refine Ok.seg mdX9_findPlan [66] 20 ?_
    simp only [wp_nil, wp_cons, ↓stp, ↓lI, ↓lL, ↓lR, ↓lIn_0, ↓lIn_1, ↓lIn_2, ↓lIn_3, ↓lLn_0, ↓lLn_1, ↓lLn_2, ↓lLn_3, ↓lRn_0, ↓lRn_1, ↓lRn_2, ↓lRn_3, ↓pI, ↓pL, ↓pR, ↓pA, ↓pN, ↓pV, ↓fp, ↓tsw, ↓oS, ↓spMax, ↓spMin, ↓spAbs, ↓spObj, RI, RLg, b2i_lo, b2i_hi, getL, setL, ltL, killL, isLong, inl, cnd, br, tgt, rcv, rpl, mputI, mputL, mputP, fv, fr, mcat, mcs, entL, entA, rfit, nf_0, nf_1, nf_2, nf_3, nf2_0, nf2_1, b2i_0, b2i_1, RI_b2i, b2i_fit, List.append, List.length, List.replicate, List.cons_append, List.nil_append, List.length_cons, List.length_nil, List.replicate_succ, List.replicate_zero, List.tail_cons, reduceIte, if_true, if_false, ite_true, ite_false, Bool.false_eq_true, true_and, and_true, and_self, false_and, and_false, or_self, or_true, true_or, or_false, false_or, not_true_eq_false, not_false_eq_true, ne_eq, forall_const, implies_true, imp_self, true_implies, false_implies, Nat.reduceAdd, Nat.reduceSub, Nat.reduceMul, Nat.reduceDiv, Nat.reduceMod, Nat.reduceEqDiff, Nat.reduceLT, Nat.reduceLeDiff, Nat.reduceBEq, Nat.add_zero, Nat.zero_add, Nat.le_refl, Nat.not_lt_zero, Nat.succ_eq_add_one, Int.reduceNatCast, Int.cast_ofNat_Int, Int.reduceSub, Int.reduceMul, Int.reduceNeg, Int.reduceLE, Int.reduceLT, Int.reduceToNat, Int.reduceEq, Int.reduceNe, Int.reduceAdd, Option.some.injEq, kX9_findPlan, rmX9_findPlan, ↓ofX9_101, ↓ofX9_92, ↓ofX9_95, ↓ofX9_98, ↓ocX9_findPlan_229, ↓spX9_findRace, ↓ocX9_findPlan_217, ↓spX9_lapOn, ↓ocX9_findPlan_221, ↓spX9_spot, ↓ocX9_findPlan_225, ↓spX9_behind, G_240, G_241, G_242, G_243, G_244, G_245, G_246, G_247, G_248, G_249, G_250, G_251, G_252, G_253, G_254, G_255, G_256, G_257, G_258, G_259, G_260, G_261, G_262, G_263, G_264, G_265, G_266, G_267, G_268, G_269, G_270, G_271, G_272, PF_240_6, PF_240_7, PF_240_8, PF_240_9, PF_240_10, PF_240_11, PF_240_12, PF_240_13, PF_240_14, PF_240_15, PF_240_16, PF_240_17, PF_240_18, PF_240_19, PF_240_20, PF_240_21, PF_240_22, PF_240_23, PF_240_24, PF_240_26, PF_240_27, PF_240_28, PF_240_29, PF_240_30, PF_240_31, PF_240_32, PF_240_33, PF_240_34, PF_240_35, PF_240_36, PF_240_37]
    rw [show t = 4 by omega] at h4 ⊢
    exact ⟨by omega, fun _ => h J M v _ _ _ _ _ h1 h2 h3 v0 (by omega) (fun k a b => h4 k a (by omega)) h5, fun q => by omega⟩
  | m + 1, t, v, J, M, t4, t5, t6, t7, t8, ht, t1, v0, v1, h1, h2, h3, h4, h5 => by
    have ih := fun v J M => lpP_t (U := U) (post := post) (N := N) hf hlp h m (t + 1) v J M t4 t5 t6 t7 t8 (by omega) (by omega)
    have f1 := hf t (by omega) (by omega)
    have f2 := hf v (by omega) (by omega)
    have l1 := hlp t 0
    have l2 := hlp v 0
    have s1 := spt_rng (l := 0) (t := t) (d := 0) (w := 0) (by omega) (by omega) (by omega) (by omega) (by omega) (by omega) (.inl rfl)
    have s2 := spt_rng (l := 0) (t := v) (d := 0) (w := 0) (by omega) (by omega) (by omega) (by omega) (by omega) (by omega) (.inl rfl)
    refine Ok.seg mdX9_findPlan [9, 66] 60 ?_
    simp only [wp_nil, wp_cons, ↓stp, ↓lI, ↓lL, ↓lR, ↓lIn_0, ↓lIn_1, ↓lIn_2, ↓lIn_3, ↓lLn_0, ↓lLn_1, ↓lLn_2, ↓lLn_3, ↓lRn_0, ↓lRn_1, ↓lRn_2, ↓lRn_3, ↓pI, ↓pL, ↓pR, ↓pA, ↓pN, ↓pV, ↓fp, ↓tsw, ↓oS, ↓spMax, ↓spMin, ↓spAbs, ↓spObj, RI, RLg, b2i_lo, b2i_hi, getL, setL, ltL, killL, isLong, inl, cnd, br, tgt, rcv, rpl, mputI, mputL, mputP, fv, fr, mcat, mcs, entL, entA, rfit, nf_0, nf_1, nf_2, nf_3, nf2_0, nf2_1, b2i_0, b2i_1, RI_b2i, b2i_fit, List.append, List.length, List.replicate, List.cons_append, List.nil_append, List.length_cons, List.length_nil, List.replicate_succ, List.replicate_zero, List.tail_cons, reduceIte, if_true, if_false, ite_true, ite_false, Bool.false_eq_true, true_and, and_true, and_self, false_and, and_false, or_self, or_true, true_or, or_false, false_or, not_true_eq_false, not_false_eq_true, ne_eq, forall_const, implies_true, imp_self, true_implies, false_implies, Nat.reduceAdd, Nat.reduceSub, Nat.reduceMul, Nat.reduceDiv, Nat.reduceMod, Nat.reduceEqDiff, Nat.reduceLT, Nat.reduceLeDiff, Nat.reduceBEq, Nat.add_zero, Nat.zero_add, Nat.le_refl, Nat.not_lt_zero, Nat.succ_eq_add_one, Int.reduceNatCast, Int.cast_ofNat_Int, Int.reduceSub, Int.reduceMul, Int.reduceNeg, Int.reduceLE, Int.reduceLT, Int.reduceToNat, Int.reduceEq, Int.reduceNe, Int.reduceAdd, Option.some.injEq, kX9_findPlan, rmX9_findPlan, ↓ofX9_101, ↓ofX9_92, ↓ofX9_95, ↓ofX9_98, ↓ocX9_findPlan_229, ↓spX9_findRace, ↓ocX9_findPlan_217, ↓spX9_lapOn, ↓ocX9_findPlan_221, ↓spX9_spot, ↓ocX9_findPlan_225, ↓spX9_behind, h3, lcm_lo, lcm_hi, lcm_ge, G_240, G_241, G_242, G_243, G_244, G_245, G_246, G_247, G_248, G_249, G_250, G_251, G_252, G_253, G_254, G_255, G_256, G_257, G_258, G_259, G_260, G_261, G_262, G_263, G_264, G_265, G_266, G_267, G_268, G_269, G_270, G_271, G_272, PF_240_6, PF_240_7, PF_240_8, PF_240_9, PF_240_10, PF_240_11, PF_240_12, PF_240_13, PF_240_14, PF_240_15, PF_240_16, PF_240_17, PF_240_18, PF_240_19, PF_240_20, PF_240_21, PF_240_22, PF_240_23, PF_240_24, PF_240_26, PF_240_27, PF_240_28, PF_240_29, PF_240_30, PF_240_31, PF_240_32, PF_240_33, PF_240_34, PF_240_35, PF_240_36, PF_240_37]
    refine ⟨by omega, fun q => by omega, fun _ => ⟨by omega, by omega, fun J1 M1 k1 k2 k3 k4 => ⟨s1.1, s1.2, k3, v0, by omega, fun J2 M2 g1 g2 g3 g4 => ⟨s2.1, s2.2, ?_⟩⟩⟩⟩
    have a1 := h1.tr k1
    have a2 := a1.tr g1
    have c1 := h2.tr k2
    have c2 := c1.tr g2
    rw [h1.W.V, a1.W.V, c1 260 _ (by omega) (by omega), c2 260 _ (by omega) (by omega)]
    refine ⟨by omega, by omega, fun z => ih v J2 M2 (by omega) (by omega) a2 c2 g3 (fun k k0 k1 => ?_) h5, fun z => ih t J2 M2 (by omega) (by omega) a2 c2 g3 (fun k k0 k1 => ?_) (fun k k0 k1 => ?_)⟩
    · by_cases e : k = t
      · rw [e]; exact z
      · exact h4 k k0 (by omega)
    · have z' : fvt I L t < fvt I L v := by unfold fvt; omega
      by_cases e : k = t
      · rw [e]; exact Int.le_refl _
      · have := h4 k k0 (by omega)
        omega
    · have z' : fvt I L t < fvt I L v := by unfold fvt; omega
      have := h4 k k0 (by omega)
      omega
theorem fvt_Fst {I L : Int → Int → Int} {mu : Prop} {n v : Int} (hcx : cxP I L mu n) (hm : mu → 1 < n) (v0 : 0 ≤ v) (v1 : v ≤ 3) (h1 : ∀ k, 0 ≤ k → k ≤ 3 → fvt I L v ≤ fvt I L k) (h2 : ∀ k, 0 ≤ k → k < v → fvt I L v < fvt I L k) : Lt (Tot (lpf (VM I)) (I 240 5) mu (n - 1).toNat v 0 0) (L 260 (spt 0 v 0 0)) ∧ Fst (lpf (VM I)) (I 240 5) mu (n - 1).toNat v (fvt I L v) := by
  obtain ⟨c1, c2, c3, c4, c5⟩ := hcx
  have key : ∀ t, 0 ≤ t → t ≤ 3 → Lt (Tot (lpf (VM I)) (I 240 5) mu (n - 1).toNat t 0 0) (L 260 (spt 0 t 0 0)) := fun t t0 t1 => by
    have r := (c5 0 (by omega) (by omega) t 0 0 t0 t1 (by omega) (by omega) (.inl rfl)).2
    rw [show (n - 1 - 0).toNat = (n - 1).toNat by omega] at r
    obtain ⟨x, y, a, _⟩ := Fr_ex (lp := lpf (VM I)) (sp := I 240 5) (mu := mu) (m := (n - 1).toNat) (t := t) (w := 0) (by
      by_cases q : mu
      · exact .inr (.inr (by have := hm q; omega))
      · exact .inl q)
    refine r.lt ⟨y, a, ?_⟩
    have := Tot_rng (lp := lpf (VM I)) (sp := I 240 5) (mu := mu) c4 (fun t d _ _ _ _ => c3 t d) (n - 1).toNat t 0 0 y t0 t1 (by omega) (by omega) a
    omega
  have low : ∀ t x, 0 ≤ t → t ≤ 3 → Fr (lpf (VM I)) (I 240 5) mu (n - 1).toNat t 0 x → fvt I L t ≤ x := fun t x t0 t1 ⟨y, a, b⟩ => by
    have := (key t t0 t1).2 y a
    unfold fvt
    omega
  refine ⟨key v v0 v1, ⟨v0, v1⟩, ⟨_, (key v v0 v1).1, rfl⟩, fun k y k0 k1 hy => ?_, fun k k0 k1 hy => ?_⟩
  · have := low k y k0 k1 hy
    have := h1 k k0 k1
    omega
  · have := low k _ k0 (by omega) hy
    have := h2 k k0 k1
    omega
set_option maxRecDepth 100000 in
set_option maxHeartbeats 800000 in
theorem mX9_findPlan : MOK yX9_findPlan cX9_findPlan 9 (some .long) rmX9_findPlan ciX9_findPlan := by
  refine mok_of (ini := false) (by decide +kernel) (by decide) rfl rfl ?_
  intro σ As K hrc hl h
  obtain ⟨N, P, I, L⟩ := σ
  have h9 := pR_iff.mp h
  clear h
  obtain ⟨a, r, e9, h⟩ := h9
  subst e9
  have h9 := pI_iff.mp h
  clear h
  obtain ⟨n, r, e9, h⟩ := h9
  subst e9
  have h9 := pN_iff.mp h
  clear h
  obtain ⟨e9, h⟩ := h9
  subst e9
  try dsimp only at h
  obtain ⟨rfl, rfl, hx, n1, n2, h⟩ := h
  have hN := nM hx
  refine ⟨Nat.le_of_ble_eq_true rfl, Ok.seg mdX9_findPlan [9] 30 ?_⟩
  simp only [wp_nil, wp_cons, ↓stp, ↓lI, ↓lL, ↓lR, ↓lIn_0, ↓lIn_1, ↓lIn_2, ↓lIn_3, ↓lLn_0, ↓lLn_1, ↓lLn_2, ↓lLn_3, ↓lRn_0, ↓lRn_1, ↓lRn_2, ↓lRn_3, ↓pI, ↓pL, ↓pR, ↓pA, ↓pN, ↓pV, ↓fp, ↓tsw, ↓oS, ↓spMax, ↓spMin, ↓spAbs, ↓spObj, RI, RLg, b2i_lo, b2i_hi, getL, setL, ltL, killL, isLong, inl, cnd, br, tgt, rcv, rpl, mputI, mputL, mputP, fv, fr, mcat, mcs, entL, entA, rfit, nf_0, nf_1, nf_2, nf_3, nf2_0, nf2_1, b2i_0, b2i_1, RI_b2i, b2i_fit, List.append, List.length, List.replicate, List.cons_append, List.nil_append, List.length_cons, List.length_nil, List.replicate_succ, List.replicate_zero, List.tail_cons, reduceIte, if_true, if_false, ite_true, ite_false, Bool.false_eq_true, true_and, and_true, and_self, false_and, and_false, or_self, or_true, true_or, or_false, false_or, not_true_eq_false, not_false_eq_true, ne_eq, forall_const, implies_true, imp_self, true_implies, false_implies, Nat.reduceAdd, Nat.reduceSub, Nat.reduceMul, Nat.reduceDiv, Nat.reduceMod, Nat.reduceEqDiff, Nat.reduceLT, Nat.reduceLeDiff, Nat.reduceBEq, Nat.add_zero, Nat.zero_add, Nat.le_refl, Nat.not_lt_zero, Nat.succ_eq_add_one, Int.reduceNatCast, Int.cast_ofNat_Int, Int.reduceSub, Int.reduceMul, Int.reduceNeg, Int.reduceLE, Int.reduceLT, Int.reduceToNat, Int.reduceEq, Int.reduceNe, Int.reduceAdd, Option.some.injEq, kX9_findPlan, rmX9_findPlan, ↓ofX9_101, ↓ofX9_92, ↓ofX9_95, ↓ofX9_98, ↓ocX9_findPlan_229, ↓spX9_findRace, ↓ocX9_findPlan_217, ↓spX9_lapOn, ↓ocX9_findPlan_221, ↓spX9_spot, ↓ocX9_findPlan_225, ↓spX9_behind, hx, G_240, G_241, G_242, G_243, G_244, G_245, G_246, G_247, G_248, G_249, G_250, G_251, G_252, G_253, G_254, G_255, G_256, G_257, G_258, G_259, G_260, G_261, G_262, G_263, G_264, G_265, G_266, G_267, G_268, G_269, G_270, G_271, G_272, PF_240_6, PF_240_7, PF_240_8, PF_240_9, PF_240_10, PF_240_11, PF_240_12, PF_240_13, PF_240_14, PF_240_15, PF_240_16, PF_240_17, PF_240_18, PF_240_19, PF_240_20, PF_240_21, PF_240_22, PF_240_23, PF_240_24, PF_240_26, PF_240_27, PF_240_28, PF_240_29, PF_240_30, PF_240_31, PF_240_32, PF_240_33, PF_240_34, PF_240_35, PF_240_36, PF_240_37]
  refine ⟨n1, n2, fun J1 M1 k1 k2 k3 k4 => ?_⟩
  have eV := k1.W.V
  have e5 : J1 240 5 = I 240 5 := k1 _ _ (by omega) (by omega) (by omega)
  have hcx : cxP J1 M1 (mus (VM I) n) n := ⟨n1, n2, mlp_rng k3, by omega, by rw [eV, e5]; exact k4⟩
  have hm : mus (VM I) n → 1 < n := fun q => q.2
  refine lpP_t (I := J1) (L := M1) (fun t t0 t1 => (k4 0 (by omega) (by omega) t 0 0 t0 t1 (by omega) (by omega) (.inl rfl)).1) (mlp_rng k3) (fun J2 M2 v t4 t5 t6 t7 t8 g1 g2 g3 v0 v1 g4 g5 => ?_) 3 1 0 J1 M1 _ _ _ _ _ (by omega) (by omega) (by omega) (by omega) (fun _ _ _ _ _ => rfl) (fun _ _ _ _ => rfl) k3 (fun k a b => by rw [show k = 0 by omega]; exact Int.le_refl _) (fun k a b => by omega)
  obtain ⟨w1, w2⟩ := fvt_Fst hcx hm v0 v1 g4 g5
  have s1 := spt_rng (l := 0) (t := v) (d := 0) (w := 0) (by omega) (by omega) v0 v1 (by omega) (by omega) (.inl rfl)
  have f1 := (k4 0 (by omega) (by omega) v 0 0 v0 v1 (by omega) (by omega) (.inl rfl)).1
  have l1 := mlp_rng k3 v 0
  refine Ok.seg mdX9_findPlan [96] 60 ?_
  simp only [wp_nil, wp_cons, ↓stp, ↓lI, ↓lL, ↓lR, ↓lIn_0, ↓lIn_1, ↓lIn_2, ↓lIn_3, ↓lLn_0, ↓lLn_1, ↓lLn_2, ↓lLn_3, ↓lRn_0, ↓lRn_1, ↓lRn_2, ↓lRn_3, ↓pI, ↓pL, ↓pR, ↓pA, ↓pN, ↓pV, ↓fp, ↓tsw, ↓oS, ↓spMax, ↓spMin, ↓spAbs, ↓spObj, RI, RLg, b2i_lo, b2i_hi, getL, setL, ltL, killL, isLong, inl, cnd, br, tgt, rcv, rpl, mputI, mputL, mputP, fv, fr, mcat, mcs, entL, entA, rfit, nf_0, nf_1, nf_2, nf_3, nf2_0, nf2_1, b2i_0, b2i_1, RI_b2i, b2i_fit, List.append, List.length, List.replicate, List.cons_append, List.nil_append, List.length_cons, List.length_nil, List.replicate_succ, List.replicate_zero, List.tail_cons, reduceIte, if_true, if_false, ite_true, ite_false, Bool.false_eq_true, true_and, and_true, and_self, false_and, and_false, or_self, or_true, true_or, or_false, false_or, not_true_eq_false, not_false_eq_true, ne_eq, forall_const, implies_true, imp_self, true_implies, false_implies, Nat.reduceAdd, Nat.reduceSub, Nat.reduceMul, Nat.reduceDiv, Nat.reduceMod, Nat.reduceEqDiff, Nat.reduceLT, Nat.reduceLeDiff, Nat.reduceBEq, Nat.add_zero, Nat.zero_add, Nat.le_refl, Nat.not_lt_zero, Nat.succ_eq_add_one, Int.reduceNatCast, Int.cast_ofNat_Int, Int.reduceSub, Int.reduceMul, Int.reduceNeg, Int.reduceLE, Int.reduceLT, Int.reduceToNat, Int.reduceEq, Int.reduceNe, Int.reduceAdd, Option.some.injEq, kX9_findPlan, rmX9_findPlan, ↓ofX9_101, ↓ofX9_92, ↓ofX9_95, ↓ofX9_98, ↓ocX9_findPlan_229, ↓spX9_findRace, ↓ocX9_findPlan_217, ↓spX9_lapOn, ↓ocX9_findPlan_221, ↓spX9_spot, ↓ocX9_findPlan_225, ↓spX9_behind, g3, G_240, G_241, G_242, G_243, G_244, G_245, G_246, G_247, G_248, G_249, G_250, G_251, G_252, G_253, G_254, G_255, G_256, G_257, G_258, G_259, G_260, G_261, G_262, G_263, G_264, G_265, G_266, G_267, G_268, G_269, G_270, G_271, G_272, PF_240_6, PF_240_7, PF_240_8, PF_240_9, PF_240_10, PF_240_11, PF_240_12, PF_240_13, PF_240_14, PF_240_15, PF_240_16, PF_240_17, PF_240_18, PF_240_19, PF_240_20, PF_240_21, PF_240_22, PF_240_23, PF_240_24, PF_240_26, PF_240_27, PF_240_28, PF_240_29, PF_240_30, PF_240_31, PF_240_32, PF_240_33, PF_240_34, PF_240_35, PF_240_36, PF_240_37]
  refine ⟨v0, v1, fun J3 M3 b1 b2 b3 b4 => ⟨s1.1, s1.2, ?_⟩⟩
  have a2 := g1.tr b1
  have c2 := g2.tr b2
  rw [g1.W.V, c2 260 _ (by omega) (by omega)]
  refine lpP_w (I := J1) (L := M1) (mu := mus (VM I) n) (tf := v) hcx (fun J4 M4 t d w q1 q2 q3 q4 => ⟨trivial, ?_⟩) n.toNat 0 v 0 0 J3 M3 _ (by omega) (by omega) v0 v1 (by omega) (by omega) (.inl rfl) a2.P c2 b3 ⟨fun _ => v, fun _ => 0, fun _ => 0, ⟨rfl, rfl, rfl⟩, fun i a b => by omega, fun i a b c => by omega, fun _ => ⟨rfl, rfl, rfl⟩⟩ (fun _ => by rw [show (n - 1 - 0).toNat = (n - 1).toNat by omega]; exact w1)
  obtain ⟨u1, u2⟩ := pfx_end n1 w2 q4
  rw [eV, e5] at u1
  exact h J4 M4 _ (k1.P.tr q1) (fun b k hb => (q2 b k (by omega) (by omega)).trans (k2 b k (by omega) (by omega) (by omega))) q3 u1 u2
