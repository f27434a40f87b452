/-! LapBoardModel: change, set -/
def spX9_change (As : List MV) (σ : MS) (K : Option MV → MS → Prop) : Prop := pR As fun a r => pI r fun w r => pI r fun n r => pN r (a = 240 ∧ σ.2.1 = PF ∧ 0 ≤ w ∧ w ≤ 3 ∧ ∀ I' : Int → Int → Int, (∀ c k, ¬ (c = 240 ∧ k = 2 + w) → c ≠ 248 → I' c k = σ.2.2.1 c k) → ((w = 0 ∨ w = 3) → ∀ k, I' 248 k = σ.2.2.1 248 k) → ((w = 1 ∨ w = 2) → ∀ k, 0 ≤ k → k < 41 → I' 248 k = 0) → I' 240 (2 + w) = n → K (some (.inl (σ.2.2.1 240 (2 + w)))) (σ.1, σ.2.1, I', σ.2.2.2))
def ciX9_change : CI := (3, 9, 0, 0, spX9_change)
def kX9_change (pc : Nat) : List ME := match pc with
  | 0 => [(.iload_n 1, 1, []), (.ifCond .ne 10, 3, [11]), (.aload_n 0, 1, []), (.getfield 16, 3, []), (.goto 31, 3, [39])]
  | 11 => [(.iload_n 1, 1, []), (.iconst 1, 1, []), (.if_icmp .ne 10, 3, [23]), (.aload_n 0, 1, []), (.getfield 19, 3, []), (.goto 19, 3, [39])]
  | 23 => [(.iload_n 1, 1, []), (.iconst 2, 1, []), (.if_icmp .ne 10, 3, [35]), (.aload_n 0, 1, []), (.getfield 22, 3, []), (.goto 7, 3, [39])]
  | 35 => [(.aload_n 0, 1, []), (.getfield 25, 3, [])]
  | 39 => [(.istore_n 3, 1, []), (.iload_n 1, 1, []), (.ifCond .ne 8, 3, [49]), (.aload_n 0, 1, []), (.iload_n 2, 1, []), (.putfield 16, 3, [])]
  | 49 => [(.iload_n 1, 1, []), (.iconst 1, 1, []), (.if_icmp .ne 8, 3, [59]), (.aload_n 0, 1, []), (.iload_n 2, 1, []), (.putfield 19, 3, [])]
  | 59 => [(.iload_n 1, 1, []), (.iconst 2, 1, []), (.if_icmp .ne 8, 3, [69]), (.aload_n 0, 1, []), (.iload_n 2, 1, []), (.putfield 22, 3, [])]
  | 69 => [(.iload_n 1, 1, []), (.iconst 3, 1, []), (.if_icmp .ne 8, 3, [79]), (.aload_n 0, 1, []), (.iload_n 2, 1, []), (.putfield 25, 3, [])]
  | 79 => [(.iload_n 1, 1, []), (.iconst 1, 1, []), (.if_icmp .eq 8, 3, [89]), (.iload_n 1, 1, []), (.iconst 2, 1, []), (.if_icmp .ne 7, 3, [93])]
  | 89 => [(.aload_n 0, 1, []), (.invokevirtual 132, 3, [])]
  | 93 => [(.iload_n 3, 1, []), (.ireturn, 1, [])]
  | _ => []
theorem qX9_change : ∀ pc, chk cX9_change pc (kX9_change pc) = true := by
  intro pc
  unfold kX9_change
  split <;> first | decide +kernel | exact chk_nil
abbrev rmX9_change : Room := { frames := 1, cells := 0, slots := 0, locals := 21 }
def aX9_change (x : Nat) : Option CI := match x with
  | 132 => some ciX9_changed
  | _ => none
theorem aokX9_change : ∀ x ci, aX9_change x = some ci → CalOK RX9 rmX9_change x ci := by
  intro x ci h
  unfold aX9_change at h
  split at h
  · cases h; exact cal_V mX9_changed (by decide) rfl (List.forall_mem_cons.mpr ⟨(ws_mem (List.mem_of_getElem? (i := 983) (by decide +kernel)) (by decide +kernel)), List.forall_mem_cons.mpr ⟨(ws_mem (List.mem_of_getElem? (i := 985) (by decide +kernel)) (by decide +kernel)), List.forall_mem_cons.mpr ⟨(ws_mem (List.mem_of_getElem? (i := 21) (by decide +kernel)) (by decide +kernel)), List.forall_mem_cons.mpr ⟨(ws_mem (List.mem_of_getElem? (i := 64) (by decide +kernel)) (by decide +kernel)), List.forall_mem_cons.mpr ⟨(ws_mem (List.mem_of_getElem? (i := 986) (by decide +kernel)) (by decide +kernel)), fun _ h => absurd h List.not_mem_nil⟩⟩⟩⟩⟩) rfl (by unfold nice; decide +kernel) (by unfold rfits; decide) ⟨rfl, rfl⟩
  · cases h
theorem ocX9_change_132 (f : Nat → Nat → Nat → Nat → (List MV → MS → (Option MV → MS → Prop) → Prop) → Prop) : oC aX9_change 132 f = f 1 9 0 0 spX9_changed := propext Iff.rfl
theorem mdX9_change : MD RX9 cX9_change rmX9_change kX9_change fX9 aX9_change zX9 uX9 := ⟨fokX9, zokX9, uokX9, aokX9_change, qX9_change⟩
set_option maxRecDepth 100000 in
set_option maxHeartbeats 800000 in
theorem mX9_change : MOK yX9_change cX9_change 4 (some .int) rmX9_change ciX9_change := by
  refine mok_of (ini := false) (by decide +kernel) (by decide) rfl rfl ?_
  intro σ As K hrc hl h
  obtain ⟨N, P, I, L⟩ := σ
  have h9 := pR_iff.mp h
  clear h
  obtain ⟨a, r, e9, h⟩ := h9
  subst e9
  have h9 := pI_iff.mp h
  clear h
  obtain ⟨w, r, e9, h⟩ := h9
  subst e9
  have h9 := pI_iff.mp h
  clear h
  obtain ⟨n, r, e9, h⟩ := h9
  subst e9
  have h9 := pN_iff.mp h
  clear h
  obtain ⟨e9, h⟩ := h9
  subst e9
  try dsimp only at h
  obtain ⟨rfl, rfl, w0, w1, h⟩ := h
  have hu : ∀ c k, ¬ (c = 240 ∧ k = 2 + w) → upI I 240 (2 + w) n c k = I c k := fun c k hc => if_neg hc
  have f1 : (w = 0 ∨ w = 3) → K (some (.inl (I 240 (2 + w)))) (N, PF, upI I 240 (2 + w) n, L) := fun q => h _ (fun c k a _ => hu c k a) (fun _ k => hu _ _ (by omega)) (fun z => by omega) upI_same
  have f2 : (w = 1 ∨ w = 2) → K (some (.inl (I 240 (2 + w)))) (N, PF, filI (upI I 240 (2 + w) n) 248 0 41, L) := fun q => h _ (fun c k a b => (fil_o b).trans (hu c k a)) (fun z => by omega) (fun _ k k0 k1 => fil_i k0 k1) ((fil_o (by omega)).trans upI_same)
  refine ⟨Nat.le_of_ble_eq_true rfl, Ok.seg mdX9_change [] 60 ?_⟩
  rcases (show w = 0 ∨ w = 1 ∨ w = 2 ∨ w = 3 by omega) with rfl | rfl | rfl | rfl
  · simp only [wp_nil, wp_cons, ↓stp, ↓lI, ↓lL, ↓lR, ↓lIn_0, ↓lIn_1, ↓lIn_2, ↓lIn_3, ↓lLn_0, ↓lLn_1, ↓lLn_2, ↓lLn_3, ↓lRn_0, ↓lRn_1, ↓lRn_2, ↓lRn_3, ↓pI, ↓pL, ↓pR, ↓pA, ↓pN, ↓pV, ↓fp, ↓tsw, ↓oS, ↓spMax, ↓spMin, ↓spAbs, ↓spObj, RI, RLg, b2i_lo, b2i_hi, getL, setL, ltL, killL, isLong, inl, cnd, br, tgt, rcv, rpl, mputI, mputL, mputP, fv, fr, mcat, mcs, entL, entA, rfit, nf_0, nf_1, nf_2, nf_3, nf2_0, nf2_1, b2i_0, b2i_1, RI_b2i, b2i_fit, List.append, List.length, List.replicate, List.cons_append, List.nil_append, List.length_cons, List.length_nil, List.replicate_succ, List.replicate_zero, List.tail_cons, reduceIte, if_true, if_false, ite_true, ite_false, Bool.false_eq_true, true_and, and_true, and_self, false_and, and_false, or_self, or_true, true_or, or_false, false_or, not_true_eq_false, not_false_eq_true, ne_eq, forall_const, implies_true, imp_self, true_implies, false_implies, Nat.reduceAdd, Nat.reduceSub, Nat.reduceMul, Nat.reduceDiv, Nat.reduceMod, Nat.reduceEqDiff, Nat.reduceLT, Nat.reduceLeDiff, Nat.reduceBEq, Nat.add_zero, Nat.zero_add, Nat.le_refl, Nat.not_lt_zero, Nat.succ_eq_add_one, Int.reduceNatCast, Int.cast_ofNat_Int, Int.reduceSub, Int.reduceMul, Int.reduceNeg, Int.reduceLE, Int.reduceLT, Int.reduceToNat, Int.reduceEq, Int.reduceNe, Int.reduceAdd, Option.some.injEq, kX9_change, rmX9_change, ↓ofX9_16, ↓ofX9_19, ↓ofX9_22, ↓ofX9_25, ↓ocX9_change_132, ↓spX9_changed, G_240, G_241, G_242, G_243, G_244, G_245, G_246, G_247, G_248, G_249, G_250, G_251, G_252, G_253, G_254, G_255, G_256, G_257, G_258, G_259, G_260, G_261, G_262, G_263, G_264, G_265, G_266, G_267, G_268, G_269, G_270, G_271, G_272, PF_240_6, PF_240_7, PF_240_8, PF_240_9, PF_240_10, PF_240_11, PF_240_12, PF_240_13, PF_240_14, PF_240_15, PF_240_16, PF_240_17, PF_240_18, PF_240_19, PF_240_20, PF_240_21, PF_240_22, PF_240_23, PF_240_24, PF_240_26, PF_240_27, PF_240_28, PF_240_29, PF_240_30, PF_240_31, PF_240_32, PF_240_33, PF_240_34, PF_240_35, PF_240_36, PF_240_37]
    exact f1 (.inl rfl)
  · simp only [wp_nil, wp_cons, ↓stp, ↓lI, ↓lL, ↓lR, ↓lIn_0, ↓lIn_1, ↓lIn_2, ↓lIn_3, ↓lLn_0, ↓lLn_1, ↓lLn_2, ↓lLn_3, ↓lRn_0, ↓lRn_1, ↓lRn_2, ↓lRn_3, ↓pI, ↓pL, ↓pR, ↓pA, ↓pN, ↓pV, ↓fp, ↓tsw, ↓oS, ↓spMax, ↓spMin, ↓spAbs, ↓spObj, RI, RLg, b2i_lo, b2i_hi, getL, setL, ltL, killL, isLong, inl, cnd, br, tgt, rcv, rpl, mputI, mputL, mputP, fv, fr, mcat, mcs, entL, entA, rfit, nf_0, nf_1, nf_2, nf_3, nf2_0, nf2_1, b2i_0, b2i_1, RI_b2i, b2i_fit, List.append, List.length, List.replicate, List.cons_append, List.nil_append, List.length_cons, List.length_nil, List.replicate_succ, List.replicate_zero, List.tail_cons, reduceIte, if_true, if_false, ite_true, ite_false, Bool.false_eq_true, true_and, and_true, and_self, false_and, and_false, or_self, or_true, true_or, or_false, false_or, not_true_eq_false, not_false_eq_true, ne_eq, forall_const, implies_true, imp_self, true_implies, false_implies, Nat.reduceAdd, Nat.reduceSub, Nat.reduceMul, Nat.reduceDiv, Nat.reduceMod, Nat.reduceEqDiff, Nat.reduceLT, Nat.reduceLeDiff, Nat.reduceBEq, Nat.add_zero, Nat.zero_add, Nat.le_refl, Nat.not_lt_zero, Nat.succ_eq_add_one, Int.reduceNatCast, Int.cast_ofNat_Int, Int.reduceSub, Int.reduceMul, Int.reduceNeg, Int.reduceLE, Int.reduceLT, Int.reduceToNat, Int.reduceEq, Int.reduceNe, Int.reduceAdd, Option.some.injEq, kX9_change, rmX9_change, ↓ofX9_16, ↓ofX9_19, ↓ofX9_22, ↓ofX9_25, ↓ocX9_change_132, ↓spX9_changed, G_240, G_241, G_242, G_243, G_244, G_245, G_246, G_247, G_248, G_249, G_250, G_251, G_252, G_253, G_254, G_255, G_256, G_257, G_258, G_259, G_260, G_261, G_262, G_263, G_264, G_265, G_266, G_267, G_268, G_269, G_270, G_271, G_272, PF_240_6, PF_240_7, PF_240_8, PF_240_9, PF_240_10, PF_240_11, PF_240_12, PF_240_13, PF_240_14, PF_240_15, PF_240_16, PF_240_17, PF_240_18, PF_240_19, PF_240_20, PF_240_21, PF_240_22, PF_240_23, PF_240_24, PF_240_26, PF_240_27, PF_240_28, PF_240_29, PF_240_30, PF_240_31, PF_240_32, PF_240_33, PF_240_34, PF_240_35, PF_240_36, PF_240_37]
    exact f2 (.inl rfl)
  · simp only [wp_nil, wp_cons, ↓stp, ↓lI, ↓lL, ↓lR, ↓lIn_0, ↓lIn_1, ↓lIn_2, ↓lIn_3, ↓lLn_0, ↓lLn_1, ↓lLn_2, ↓lLn_3, ↓lRn_0, ↓lRn_1, ↓lRn_2, ↓lRn_3, ↓pI, ↓pL, ↓pR, ↓pA, ↓pN, ↓pV, ↓fp, ↓tsw, ↓oS, ↓spMax, ↓spMin, ↓spAbs, ↓spObj, RI, RLg, b2i_lo, b2i_hi, getL, setL, ltL, killL, isLong, inl, cnd, br, tgt, rcv, rpl, mputI, mputL, mputP, fv, fr, mcat, mcs, entL, entA, rfit, nf_0, nf_1, nf_2, nf_3, nf2_0, nf2_1, b2i_0, b2i_1, RI_b2i, b2i_fit, List.append, List.length, List.replicate, List.cons_append, List.nil_append, List.length_cons, List.length_nil, List.replicate_succ, List.replicate_zero, List.tail_cons, reduceIte, if_true, if_false, ite_true, ite_false, Bool.false_eq_true, true_and, and_true, and_self, false_and, and_false, or_self, or_true, true_or, or_false, false_or, not_true_eq_false, not_false_eq_true, ne_eq, forall_const, implies_true, imp_self, true_implies, false_implies, Nat.reduceAdd, Nat.reduceSub, Nat.reduceMul, Nat.reduceDiv, Nat.reduceMod, Nat.reduceEqDiff, Nat.reduceLT, Nat.reduceLeDiff, Nat.reduceBEq, Nat.add_zero, Nat.zero_add, Nat.le_refl, Nat.not_lt_zero, Nat.succ_eq_add_one, Int.reduceNatCast, Int.cast_ofNat_Int, Int.reduceSub, Int.reduceMul, Int.reduceNeg, Int.reduceLE, Int.reduceLT, Int.reduceToNat, Int.reduceEq, Int.reduceNe, Int.reduceAdd, Option.some.injEq, kX9_change, rmX9_change, ↓ofX9_16, ↓ofX9_19, ↓ofX9_22, ↓ofX9_25, ↓ocX9_change_132, ↓spX9_changed, G_240, G_241, G_242, G_243, G_244, G_245, G_246, G_247, G_248, G_249, G_250, G_251, G_252, G_253, G_254, G_255, G_256, G_257, G_258, G_259, G_260, G_261, G_262, G_263, G_264, G_265, G_266, G_267, G_268, G_269, G_270, G_271, G_272, PF_240_6, PF_240_7, PF_240_8, PF_240_9, PF_240_10, PF_240_11, PF_240_12, PF_240_13, PF_240_14, PF_240_15, PF_240_16, PF_240_17, PF_240_18, PF_240_19, PF_240_20, PF_240_21, PF_240_22, PF_240_23, PF_240_24, PF_240_26, PF_240_27, PF_240_28, PF_240_29, PF_240_30, PF_240_31, PF_240_32, PF_240_33, PF_240_34, PF_240_35, PF_240_36, PF_240_37]
    exact f2 (.inr rfl)
  · simp only [wp_nil, wp_cons, ↓stp, ↓lI, ↓lL, ↓lR, ↓lIn_0, ↓lIn_1, ↓lIn_2, ↓lIn_3, ↓lLn_0, ↓lLn_1, ↓lLn_2, ↓lLn_3, ↓lRn_0, ↓lRn_1, ↓lRn_2, ↓lRn_3, ↓pI, ↓pL, ↓pR, ↓pA, ↓pN, ↓pV, ↓fp, ↓tsw, ↓oS, ↓spMax, ↓spMin, ↓spAbs, ↓spObj, RI, RLg, b2i_lo, b2i_hi, getL, setL, ltL, killL, isLong, inl, cnd, br, tgt, rcv, rpl, mputI, mputL, mputP, fv, fr, mcat, mcs, entL, entA, rfit, nf_0, nf_1, nf_2, nf_3, nf2_0, nf2_1, b2i_0, b2i_1, RI_b2i, b2i_fit, List.append, List.length, List.replicate, List.cons_append, List.nil_append, List.length_cons, List.length_nil, List.replicate_succ, List.replicate_zero, List.tail_cons, reduceIte, if_true, if_false, ite_true, ite_false, Bool.false_eq_true, true_and, and_true, and_self, false_and, and_false, or_self, or_true, true_or, or_false, false_or, not_true_eq_false, not_false_eq_true, ne_eq, forall_const, implies_true, imp_self, true_implies, false_implies, Nat.reduceAdd, Nat.reduceSub, Nat.reduceMul, Nat.reduceDiv, Nat.reduceMod, Nat.reduceEqDiff, Nat.reduceLT, Nat.reduceLeDiff, Nat.reduceBEq, Nat.add_zero, Nat.zero_add, Nat.le_refl, Nat.not_lt_zero, Nat.succ_eq_add_one, Int.reduceNatCast, Int.cast_ofNat_Int, Int.reduceSub, Int.reduceMul, Int.reduceNeg, Int.reduceLE, Int.reduceLT, Int.reduceToNat, Int.reduceEq, Int.reduceNe, Int.reduceAdd, Option.some.injEq, kX9_change, rmX9_change, ↓ofX9_16, ↓ofX9_19, ↓ofX9_22, ↓ofX9_25, ↓ocX9_change_132, ↓spX9_changed, G_240, G_241, G_242, G_243, G_244, G_245, G_246, G_247, G_248, G_249, G_250, G_251, G_252, G_253, G_254, G_255, G_256, G_257, G_258, G_259, G_260, G_261, G_262, G_263, G_264, G_265, G_266, G_267, G_268, G_269, G_270, G_271, G_272, PF_240_6, PF_240_7, PF_240_8, PF_240_9, PF_240_10, PF_240_11, PF_240_12, PF_240_13, PF_240_14, PF_240_15, PF_240_16, PF_240_17, PF_240_18, PF_240_19, PF_240_20, PF_240_21, PF_240_22, PF_240_23, PF_240_24, PF_240_26, PF_240_27, PF_240_28, PF_240_29, PF_240_30, PF_240_31, PF_240_32, PF_240_33, PF_240_34, PF_240_35, PF_240_36, PF_240_37]
    exact f1 (.inr rfl)
theorem knoOK_cg {I J L : Int → Int → Int} (ts : tsame (VM I) (VM J)) (h3 : J 240 3 = I 240 3) (h4 : J 240 4 = I 240 4) (h248 : ∀ k, J 248 k = I 248 k) (h : knoOK I L) : knoOK J L := fun g g0 g1 => by
  rw [h248, h3, h4]
  exact (h g g0 g1).imp id (fun q => ⟨q.1, (lapT_iff ts).mp q.2⟩)
theorem ts_V {I J : Int → Int → Int} (h1 : J 240 1 = I 240 1) (hn : I 240 1 ≤ 30) (h : ∀ b k, 241 ≤ b → b ≤ 247 → J b k = I b k) : tsame (VM I) (VM J) := by
  refine ⟨h1, fun i k i0 i1 k0 k1 => ?_, fun k => h 246 k (by omega) (by omega), fun k => h 247 k (by omega) (by omega)⟩
  rw [VM_31] at i1
  obtain ⟨e0, e1, e2, e3, e4⟩ := VM_st (I := I) i0 (by omega)
  obtain ⟨f0, f1, f2, f3, f4⟩ := VM_st (I := J) i0 (by omega)
  rcases (show k = 0 ∨ k = 1 ∨ k = 2 ∨ k = 3 by omega) with rfl | rfl | rfl | rfl
  · rw [e0, f0]; exact h _ _ (by omega) (by omega)
  · rw [e1, f1]; exact h _ _ (by omega) (by omega)
  · rw [e2, f2]; exact h _ _ (by omega) (by omega)
  · rw [e3, f3]; exact h _ _ (by omega) (by omega)
/-- a number changed -/
theorem mOK_ch {I J L : Int → Int → Int} {w n : Int} (h : mOK I L) (hs : setP w n) (h1 : ∀ c k, ¬ (c = 240 ∧ k = 2 + w) → c ≠ 248 → J c k = I c k) (h2 : (w = 0 ∨ w = 3) → ∀ k, J 248 k = I 248 k) (h3 : (w = 1 ∨ w = 2) → ∀ k, 0 ≤ k → k < 41 → J 248 k = 0) (h4 : J 240 (2 + w) = n) : mOK J L := by
  have hN := nM h
  obtain ⟨x1, x2, x3, x4, x5⟩ := h
  unfold setP at hs
  have e1 : J 240 1 = I 240 1 := h1 _ _ (by omega) (by omega)
  have hc : carOK (VM J) := by
    refine ⟨⟨?_, fun p _ _ => rfl⟩, ?_⟩
    · rw [VM_38, VM_39, show J 246 = I 246 from funext fun k => h1 _ _ (by omega) (by omega), show J 247 = I 247 from funext fun k => h1 _ _ (by omega) (by omega)]; exact x2.1.1
    · unfold nOK
      rw [VM_36_0, VM_36_1, VM_36_2]
      rcases hs with ⟨rfl, hs⟩ | ⟨rfl, hs⟩ | ⟨rfl, hs⟩ | ⟨rfl, hs⟩
      · have h4 : J 240 2 = n := h4
        have := h1 240 3 (by omega) (by omega); have := h1 240 4 (by omega) (by omega); omega
      · have h4 : J 240 3 = n := h4
        have := h1 240 2 (by omega) (by omega); have := h1 240 4 (by omega) (by omega); omega
      · have h4 : J 240 4 = n := h4
        have := h1 240 2 (by omega) (by omega); have := h1 240 3 (by omega) (by omega); omega
      · have := h1 240 2 (by omega) (by omega); have := h1 240 3 (by omega) (by omega); have := h1 240 4 (by omega) (by omega); omega
  have hr : raceR (VM J) := by
    unfold raceR at x3 ⊢
    rw [VM_179_4, VM_179_5, VM_180, VM_181] at x3 ⊢
    rw [show J 258 = I 258 from funext fun k => h1 _ _ (by omega) (by omega), show J 259 = I 259 from funext fun k => h1 _ _ (by omega) (by omega), h1 240 25 (by omega) (by omega)]
    refine ⟨x3.1, ?_, x3.2.2⟩
    by_cases z : w = 3
    · subst z; rw [show J 240 5 = n from h4]; omega
    · rw [h1 240 5 (by omega) (by omega)]; exact x3.2.1
  have ht : tOK (VM J) := tOK_V (by omega) (by omega) (fun i i0 i1 => by
    rw [h1 241 i (by omega) (by omega), h1 242 i (by omega) (by omega), h1 243 i (by omega) (by omega), h1 244 i (by omega) (by omega), h1 245 i (by omega) (by omega)]
    exact stM x1 i0 (by omega))
  refine ⟨ht, hc, hr, ?_, fun d d0 d1 => msh_cg (fun b k _ _ => h1 _ _ (by omega) (by omega)) (x5 d d0 d1)⟩
  by_cases z : w = 0 ∨ w = 3
  · exact knoOK_cg (ts_V e1 hN.1.2 (fun b k _ _ => h1 _ _ (by omega) (by omega))) (h1 _ _ (by omega) (by omega)) (h1 _ _ (by omega) (by omega)) (h2 z) x4
  · exact fun g g0 g1 => .inl (h3 (by omega) _ (by omega) (by omega))
def spX9_set (As : List MV) (σ : MS) (K : Option MV → MS → Prop) : Prop := pR As fun a r => pI r fun w r => pI r fun n r => pN r (a = 240 ∧ σ.2.1 = PF ∧ RI w ∧ RI n ∧ mOK σ.2.2.1 σ.2.2.2 ∧ (¬ setP w n → K (some (.inl (-1000))) σ) ∧ (setP w n → ∀ I' : Int → Int → Int, (∀ c k, ¬ (c = 240 ∧ k = 2 + w) → c ≠ 248 → I' c k = σ.2.2.1 c k) → mOK I' σ.2.2.2 → I' 240 (2 + w) = n → K (some (.inl (σ.2.2.1 240 (2 + w)))) (σ.1, σ.2.1, I', σ.2.2.2)))
def ciX9_set : CI := (3, 9, 0, 0, spX9_set)
def kX9_set (pc : Nat) : List ME := match pc with
  | 0 => [(.aload_n 0, 1, []), (.iload_n 1, 1, []), (.iload_n 2, 1, []), (.invokevirtual 140, 3, []), (.ifCond .eq 12, 3, [18]), (.aload_n 0, 1, []), (.iload_n 1, 1, []), (.iload_n 2, 1, []), (.invokevirtual 144, 3, []), (.goto 6, 3, [21])]
  | 18 => [(.sipush (-1000), 3, [])]
  | 21 => [(.ireturn, 1, [])]
  | _ => []
theorem qX9_set : ∀ pc, chk cX9_set pc (kX9_set pc) = true := by
  intro pc
  unfold kX9_set
  split <;> first | decide +kernel | exact chk_nil
abbrev rmX9_set : Room := { frames := 2, cells := 0, slots := 0, locals := 45 }
def aX9_set (x : Nat) : Option CI := match x with
  | 140 => some ciX9_isSet
  | 144 => some ciX9_change
  | _ => none
theorem aokX9_set : ∀ x ci, aX9_set x = some ci → CalOK RX9 rmX9_set x ci := by
  intro x ci h
  unfold aX9_set at h
  split at h
  · cases h; exact cal_V mX9_isSet (by decide) rfl (List.forall_mem_cons.mpr ⟨(ws_mem (List.mem_of_getElem? (i := 1007) (by decide +kernel)) (by decide +kernel)), List.forall_mem_cons.mpr ⟨(ws_mem (List.mem_of_getElem? (i := 1009) (by decide +kernel)) (by decide +kernel)), List.forall_mem_cons.mpr ⟨(ws_mem (List.mem_of_getElem? (i := 23) (by decide +kernel)) (by decide +kernel)), List.forall_mem_cons.mpr ⟨(ws_mem (List.mem_of_getElem? (i := 64) (by decide +kernel)) (by decide +kernel)), List.forall_mem_cons.mpr ⟨(ws_mem (List.mem_of_getElem? (i := 1010) (by decide +kernel)) (by decide +kernel)), fun _ h => absurd h List.not_mem_nil⟩⟩⟩⟩⟩) rfl (by unfold nice; decide +kernel) (by unfold rfits; decide) ⟨rfl, rfl⟩
  · cases h; exact cal_V mX9_change (by decide) rfl (List.forall_mem_cons.mpr ⟨(ws_mem (List.mem_of_getElem? (i := 1012) (by decide +kernel)) (by decide +kernel)), List.forall_mem_cons.mpr ⟨(ws_mem (List.mem_of_getElem? (i := 1014) (by decide +kernel)) (by decide +kernel)), List.forall_mem_cons.mpr ⟨(ws_mem (List.mem_of_getElem? (i := 24) (by decide +kernel)) (by decide +kernel)), List.forall_mem_cons.mpr ⟨(ws_mem (List.mem_of_getElem? (i := 64) (by decide +kernel)) (by decide +kernel)), List.forall_mem_cons.mpr ⟨(ws_mem (List.mem_of_getElem? (i := 1015) (by decide +kernel)) (by decide +kernel)), fun _ h => absurd h List.not_mem_nil⟩⟩⟩⟩⟩) rfl (by unfold nice; decide +kernel) (by unfold rfits; decide) ⟨rfl, rfl⟩
  · cases h
theorem ocX9_set_140 (f : Nat → Nat → Nat → Nat → (List MV → MS → (Option MV → MS → Prop) → Prop) → Prop) : oC aX9_set 140 f = f 3 9 0 0 spX9_isSet := propext Iff.rfl
theorem ocX9_set_144 (f : Nat → Nat → Nat → Nat → (List MV → MS → (Option MV → MS → Prop) → Prop) → Prop) : oC aX9_set 144 f = f 3 9 0 0 spX9_change := propext Iff.rfl
theorem mdX9_set : MD RX9 cX9_set rmX9_set kX9_set fX9 aX9_set zX9 uX9 := ⟨fokX9, zokX9, uokX9, aokX9_set, qX9_set⟩
set_option maxRecDepth 100000 in
set_option maxHeartbeats 800000 in
theorem mX9_set : MOK yX9_set cX9_set 3 (some .int) rmX9_set ciX9_set := by
  refine mok_of (ini := false) (by decide +kernel) (by decide) rfl rfl ?_
  intro σ As K hrc hl h
  obtain ⟨N, P, I, L⟩ := σ
  have h9 := pR_iff.mp h
  clear h
  obtain ⟨a, r, e9, h⟩ := h9
  subst e9
  have h9 := pI_iff.mp h
  clear h
  obtain ⟨w, r, e9, h⟩ := h9
  subst e9
  have h9 := pI_iff.mp h
  clear h
  obtain ⟨n, r, e9, h⟩ := h9
  subst e9
  have h9 := pN_iff.mp h
  clear h
  obtain ⟨e9, h⟩ := h9
  subst e9
  try dsimp only at h
  obtain ⟨rfl, rfl, hw, hn, hx, h1, h2⟩ := h
  unfold RI at hw hn
  refine ⟨Nat.le_of_ble_eq_true rfl, Ok.seg mdX9_set [] 60 ?_⟩
  simp only [wp_nil, wp_cons, ↓stp, ↓lI, ↓lL, ↓lR, ↓lIn_0, ↓lIn_1, ↓lIn_2, ↓lIn_3, ↓lLn_0, ↓lLn_1, ↓lLn_2, ↓lLn_3, ↓lRn_0, ↓lRn_1, ↓lRn_2, ↓lRn_3, ↓pI, ↓pL, ↓pR, ↓pA, ↓pN, ↓pV, ↓fp, ↓tsw, ↓oS, ↓spMax, ↓spMin, ↓spAbs, ↓spObj, RI, RLg, b2i_lo, b2i_hi, getL, setL, ltL, killL, isLong, inl, cnd, br, tgt, rcv, rpl, mputI, mputL, mputP, fv, fr, mcat, mcs, entL, entA, rfit, nf_0, nf_1, nf_2, nf_3, nf2_0, nf2_1, b2i_0, b2i_1, RI_b2i, b2i_fit, List.append, List.length, List.replicate, List.cons_append, List.nil_append, List.length_cons, List.length_nil, List.replicate_succ, List.replicate_zero, List.tail_cons, reduceIte, if_true, if_false, ite_true, ite_false, Bool.false_eq_true, true_and, and_true, and_self, false_and, and_false, or_self, or_true, true_or, or_false, false_or, not_true_eq_false, not_false_eq_true, ne_eq, forall_const, implies_true, imp_self, true_implies, false_implies, Nat.reduceAdd, Nat.reduceSub, Nat.reduceMul, Nat.reduceDiv, Nat.reduceMod, Nat.reduceEqDiff, Nat.reduceLT, Nat.reduceLeDiff, Nat.reduceBEq, Nat.add_zero, Nat.zero_add, Nat.le_refl, Nat.not_lt_zero, Nat.succ_eq_add_one, Int.reduceNatCast, Int.cast_ofNat_Int, Int.reduceSub, Int.reduceMul, Int.reduceNeg, Int.reduceLE, Int.reduceLT, Int.reduceToNat, Int.reduceEq, Int.reduceNe, Int.reduceAdd, Option.some.injEq, kX9_set, rmX9_set, ↓ocX9_set_140, ↓spX9_isSet, ↓ocX9_set_144, ↓spX9_change, G_240, G_241, G_242, G_243, G_244, G_245, G_246, G_247, G_248, G_249, G_250, G_251, G_252, G_253, G_254, G_255, G_256, G_257, G_258, G_259, G_260, G_261, G_262, G_263, G_264, G_265, G_266, G_267, G_268, G_269, G_270, G_271, G_272, PF_240_6, PF_240_7, PF_240_8, PF_240_9, PF_240_10, PF_240_11, PF_240_12, PF_240_13, PF_240_14, PF_240_15, PF_240_16, PF_240_17, PF_240_18, PF_240_19, PF_240_20, PF_240_21, PF_240_22, PF_240_23, PF_240_24, PF_240_26, PF_240_27, PF_240_28, PF_240_29, PF_240_30, PF_240_31, PF_240_32, PF_240_33, PF_240_34, PF_240_35, PF_240_36, PF_240_37]
  refine ⟨by omega, by omega, fun v hv hv2 => ?_⟩
  by_cases hs : setP w n
  · have hv1 := hv2.mpr hs
    subst hv1
    have hs' := hs
    unfold setP at hs'
    refine ⟨by omega, fun q => by omega, fun _ => ⟨by omega, by omega, fun I' k1 k2 k3 k4 => h2 hs I' k1 (mOK_ch hx hs k1 k2 k3 k4) k4⟩⟩
  · have hv0 : v = 0 := by
      rcases hv with e | e
      · exact e
      · exact (hs (hv2.mp e)).elim
    subst hv0
    exact ⟨by omega, fun _ => h1 hs, fun q => by omega⟩
