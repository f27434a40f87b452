/-! LapBoardModel: count -/
def spX9_count (As : List MV) (σ : MS) (K : Option MV → MS → Prop) : Prop := pR As fun a r => pI r fun w r => pN r (a = 240 ∧ σ.2.1 = PF ∧ RI w ∧ mOK σ.2.2.1 σ.2.2.2 ∧ (¬ (0 ≤ w ∧ w ≤ 3) → K (some (.inl (-1))) σ) ∧ (w = 0 → K (some (.inl (σ.2.2.1 240 1))) σ) ∧ (w = 1 → K (some (.inl (sumI (σ.2.2.1 242) (σ.2.2.1 240 1).toNat))) σ) ∧ (w = 2 → K (some (.inl (sumI (fun i => if 0 < σ.2.2.1 245 i then 1 else 0) (σ.2.2.1 240 1).toNat))) σ) ∧
  (w = 3 → ∀ I' L' : Int → Int → Int, frW σ.2.2.1 I' → frWL σ.2.2.2 L' → mOK I' L' → bestM I' → K (some (.inl (sumI (lch (I' 250)) (σ.2.2.1 240 1).toNat))) (σ.1, σ.2.1, I', L')))
def ciX9_count : CI := (2, 9, 0, 0, spX9_count)
def kX9_count (pc : Nat) : List ME := match pc with
  | 0 => [(.iconst 0, 1, []), (.istore_n 2, 1, []), (.iload_n 1, 1, []), (.tableswitch 143 0 3 #[29, 34, 61, 96], 29, [146, 32, 37, 64, 99])]
  | 32 => [(.aload_n 0, 1, []), (.getfield 13, 3, []), (.ireturn, 1, [])]
  | 37 => [(.iconst 0, 1, []), (.istore_n 3, 1, [])]
  | 39 => [(.iload_n 3, 1, []), (.aload_n 0, 1, []), (.getfield 13, 3, []), (.if_icmp .ge 18, 3, [62]), (.iload_n 2, 1, []), (.aload_n 0, 1, []), (.getfield 32, 3, []), (.iload_n 3, 1, []), (.iaload, 1, []), (.iadd, 1, []), (.istore_n 2, 1, []), (.iinc 3 1, 3, []), (.goto (-20), 3, [39])]
  | 62 => [(.iload_n 2, 1, []), (.ireturn, 1, [])]
  | 64 => [(.iconst 0, 1, []), (.istore_n 3, 1, [])]
  | 66 => [(.iload_n 3, 1, []), (.aload_n 0, 1, []), (.getfield 13, 3, []), (.if_icmp .ge 26, 3, [97]), (.iload_n 2, 1, []), (.aload_n 0, 1, []), (.getfield 41, 3, []), (.iload_n 3, 1, []), (.iaload, 1, []), (.ifCond .le 7, 3, [88]), (.iconst 1, 1, []), (.goto 4, 3, [89])]
  | 88 => [(.iconst 0, 1, [])]
  | 89 => [(.iadd, 1, []), (.istore_n 2, 1, []), (.iinc 3 1, 3, []), (.goto (-28), 3, [66])]
  | 97 => [(.iload_n 2, 1, []), (.ireturn, 1, [])]
  | 99 => [(.aload_n 0, 1, []), (.invokevirtual 204, 3, []), (.iconst 1, 1, []), (.istore_n 3, 1, [])]
  | 105 => [(.iload_n 3, 1, []), (.aload_n 0, 1, []), (.getfield 13, 3, []), (.if_icmp .ge 34, 3, [144]), (.iload_n 2, 1, []), (.aload_n 0, 1, []), (.getfield 58, 3, []), (.iload_n 3, 1, []), (.iaload, 1, []), (.aload_n 0, 1, []), (.getfield 58, 3, []), (.iload_n 3, 1, []), (.iconst 1, 1, []), (.isub, 1, []), (.iaload, 1, []), (.if_icmp .eq 7, 3, [135]), (.iconst 1, 1, []), (.goto 4, 3, [136])]
  | 135 => [(.iconst 0, 1, [])]
  | 136 => [(.iadd, 1, []), (.istore_n 2, 1, []), (.iinc 3 1, 3, []), (.goto (-36), 3, [105])]
  | 144 => [(.iload_n 2, 1, []), (.ireturn, 1, [])]
  | 146 => [(.iconst (-1), 1, []), (.ireturn, 1, [])]
  | _ => []
theorem qX9_count : ∀ pc, chk cX9_count pc (kX9_count pc) = true := by
  intro pc
  unfold kX9_count
  split <;> first | decide +kernel | exact chk_nil
abbrev rmX9_count : Room := { frames := 4, cells := 0, slots := 0, locals := 108 }
def aX9_count (x : Nat) : Option CI := match x with
  | 204 => some ciX9_findBest
  | _ => none
theorem aokX9_count : ∀ x ci, aX9_count x = some ci → CalOK RX9 rmX9_count x ci := by
  intro x ci h
  unfold aX9_count at h
  split at h
  · cases h; exact cal_V mX9_findBest (by decide) rfl (List.forall_mem_cons.mpr ⟨(ws_mem (List.mem_of_getElem? (i := 1068) (by decide +kernel)) (by decide +kernel)), List.forall_mem_cons.mpr ⟨(ws_mem (List.mem_of_getElem? (i := 1070) (by decide +kernel)) (by decide +kernel)), List.forall_mem_cons.mpr ⟨(ws_mem (List.mem_of_getElem? (i := 32) (by decide +kernel)) (by decide +kernel)), List.forall_mem_cons.mpr ⟨(ws_mem (List.mem_of_getElem? (i := 64) (by decide +kernel)) (by decide +kernel)), List.forall_mem_cons.mpr ⟨(ws_mem (List.mem_of_getElem? (i := 1071) (by decide +kernel)) (by decide +kernel)), fun _ h => absurd h List.not_mem_nil⟩⟩⟩⟩⟩) rfl (by unfold nice; decide +kernel) (by unfold rfits; decide) ⟨rfl, rfl⟩
  · cases h
theorem ocX9_count_204 (f : Nat → Nat → Nat → Nat → (List MV → MS → (Option MV → MS → Prop) → Prop) → Prop) : oC aX9_count 204 f = f 1 9 0 0 spX9_findBest := propext Iff.rfl
theorem mdX9_count : MD RX9 cX9_count rmX9_count kX9_count fX9 aX9_count zX9 uX9 := ⟨fokX9, zokX9, uokX9, aokX9_count, qX9_count⟩
theorem lpX9_c1 {post : Option MV → MS → Prop} {U : Pt → Prop} {N : Nat} {I L : Int → Int → Int} {w n : Int} (en : I 240 1 = n) (n1 : 0 ≤ n ∧ n ≤ 30) (hr : ∀ i, 0 ≤ i → i < n → 0 ≤ I 242 i ∧ I 242 i ≤ 1000000)
    (h : post (some (.inl (sumI (I 242) n.toNat))) (N, PF, I, L)) :
    ∀ (m i : Nat), ((i + m : Nat) : Int) = n → (0 ≤ sumI (I 242) i ∧ sumI (I 242) i ≤ i * 1000000) →
    Ok RX9 cX9_count 4 rmX9_count false none post U (39, [some (.inr (.inr (some 240))), some (.inl w), some (.inl (sumI (I 242) i)), some (.inl i)], [], (N, PF, I, L), 0, 0)
  | 0, i, hi, hb => by
    refine Ok.seg mdX9_count [39] 20 ?_
    simp only [wp_nil, wp_cons, ↓stp, ↓lI, ↓lL, ↓lR, ↓lIn_0, ↓lIn_1, ↓lIn_2, ↓lIn_3, ↓lLn_0, ↓lLn_1, ↓lLn_2, ↓lLn_3, ↓lRn_0, ↓lRn_1, ↓lRn_2, ↓lRn_3, ↓pI, ↓pL, ↓pR, ↓pA, ↓pN, ↓pV, ↓fp, ↓tsw, ↓oS, ↓spMax, ↓spMin, ↓spAbs, ↓spObj, RI, RLg, b2i_lo, b2i_hi, getL, setL, ltL, killL, isLong, inl, cnd, br, tgt, rcv, rpl, mputI, mputL, mputP, fv, fr, mcat, mcs, entL, entA, rfit, nf_0, nf_1, nf_2, nf_3, nf2_0, nf2_1, b2i_0, b2i_1, RI_b2i, b2i_fit, List.append, List.length, List.replicate, List.cons_append, List.nil_append, List.length_cons, List.length_nil, List.replicate_succ, List.replicate_zero, List.tail_cons, reduceIte, if_true, if_false, ite_true, ite_false, Bool.false_eq_true, true_and, and_true, and_self, false_and, and_false, or_self, or_true, true_or, or_false, false_or, not_true_eq_false, not_false_eq_true, ne_eq, forall_const, implies_true, imp_self, true_implies, false_implies, Nat.reduceAdd, Nat.reduceSub, Nat.reduceMul, Nat.reduceDiv, Nat.reduceMod, Nat.reduceEqDiff, Nat.reduceLT, Nat.reduceLeDiff, Nat.reduceBEq, Nat.add_zero, Nat.zero_add, Nat.le_refl, Nat.not_lt_zero, Nat.succ_eq_add_one, Int.reduceNatCast, Int.cast_ofNat_Int, Int.reduceSub, Int.reduceMul, Int.reduceNeg, Int.reduceLE, Int.reduceLT, Int.reduceToNat, Int.reduceEq, Int.reduceNe, Int.reduceAdd, Option.some.injEq, kX9_count, rmX9_count, ↓ofX9_13, ↓ofX9_32, ↓ofX9_41, ↓ofX9_58, ↓ocX9_count_204, ↓spX9_findBest, en, G_240, G_241, G_242, G_243, G_244, G_245, G_246, G_247, G_248, G_249, G_250, G_251, G_252, G_253, G_254, G_255, G_256, G_257, G_258, G_259, G_260, G_261, G_262, G_263, G_264, G_265, G_266, G_267, G_268, G_269, G_270, G_271, G_272, PF_240_6, PF_240_7, PF_240_8, PF_240_9, PF_240_10, PF_240_11, PF_240_12, PF_240_13, PF_240_14, PF_240_15, PF_240_16, PF_240_17, PF_240_18, PF_240_19, PF_240_20, PF_240_21, PF_240_22, PF_240_23, PF_240_24, PF_240_26, PF_240_27, PF_240_28, PF_240_29, PF_240_30, PF_240_31, PF_240_32, PF_240_33, PF_240_34, PF_240_35, PF_240_36, PF_240_37]
    rw [show n.toNat = i by omega] at h
    exact ⟨by omega, by omega, fun _ => h, fun q => by omega⟩
  | m + 1, i, hi, hb => by
    have ih := lpX9_c1 (U := U) (post := post) (N := N) (L := L) (w := w) en n1 hr h m (i + 1) (by omega)
    have hri := hr i (by omega) (by omega)
    rw [sumI_s, show ((i + 1 : Nat) : Int) = (i : Int) + 1 by omega] at ih
    refine Ok.seg mdX9_count [39] 30 ?_
    simp only [wp_nil, wp_cons, ↓stp, ↓lI, ↓lL, ↓lR, ↓lIn_0, ↓lIn_1, ↓lIn_2, ↓lIn_3, ↓lLn_0, ↓lLn_1, ↓lLn_2, ↓lLn_3, ↓lRn_0, ↓lRn_1, ↓lRn_2, ↓lRn_3, ↓pI, ↓pL, ↓pR, ↓pA, ↓pN, ↓pV, ↓fp, ↓tsw, ↓oS, ↓spMax, ↓spMin, ↓spAbs, ↓spObj, RI, RLg, b2i_lo, b2i_hi, getL, setL, ltL, killL, isLong, inl, cnd, br, tgt, rcv, rpl, mputI, mputL, mputP, fv, fr, mcat, mcs, entL, entA, rfit, nf_0, nf_1, nf_2, nf_3, nf2_0, nf2_1, b2i_0, b2i_1, RI_b2i, b2i_fit, List.append, List.length, List.replicate, List.cons_append, List.nil_append, List.length_cons, List.length_nil, List.replicate_succ, List.replicate_zero, List.tail_cons, reduceIte, if_true, if_false, ite_true, ite_false, Bool.false_eq_true, true_and, and_true, and_self, false_and, and_false, or_self, or_true, true_or, or_false, false_or, not_true_eq_false, not_false_eq_true, ne_eq, forall_const, implies_true, imp_self, true_implies, false_implies, Nat.reduceAdd, Nat.reduceSub, Nat.reduceMul, Nat.reduceDiv, Nat.reduceMod, Nat.reduceEqDiff, Nat.reduceLT, Nat.reduceLeDiff, Nat.reduceBEq, Nat.add_zero, Nat.zero_add, Nat.le_refl, Nat.not_lt_zero, Nat.succ_eq_add_one, Int.reduceNatCast, Int.cast_ofNat_Int, Int.reduceSub, Int.reduceMul, Int.reduceNeg, Int.reduceLE, Int.reduceLT, Int.reduceToNat, Int.reduceEq, Int.reduceNe, Int.reduceAdd, Option.some.injEq, kX9_count, rmX9_count, ↓ofX9_13, ↓ofX9_32, ↓ofX9_41, ↓ofX9_58, ↓ocX9_count_204, ↓spX9_findBest, en, G_240, G_241, G_242, G_243, G_244, G_245, G_246, G_247, G_248, G_249, G_250, G_251, G_252, G_253, G_254, G_255, G_256, G_257, G_258, G_259, G_260, G_261, G_262, G_263, G_264, G_265, G_266, G_267, G_268, G_269, G_270, G_271, G_272, PF_240_6, PF_240_7, PF_240_8, PF_240_9, PF_240_10, PF_240_11, PF_240_12, PF_240_13, PF_240_14, PF_240_15, PF_240_16, PF_240_17, PF_240_18, PF_240_19, PF_240_20, PF_240_21, PF_240_22, PF_240_23, PF_240_24, PF_240_26, PF_240_27, PF_240_28, PF_240_29, PF_240_30, PF_240_31, PF_240_32, PF_240_33, PF_240_34, PF_240_35, PF_240_36, PF_240_37]
    exact ⟨by omega, by omega, fun q => by omega, fun _ => ⟨by omega, by omega, ih (by omega)⟩⟩
theorem lpX9_c2 {post : Option MV → MS → Prop} {U : Pt → Prop} {N : Nat} {I L : Int → Int → Int} {w n : Int} (en : I 240 1 = n) (n1 : 0 ≤ n ∧ n ≤ 30) (hr : ∀ i, 0 ≤ i → i < n → RI (I 245 i))
    (h : post (some (.inl (sumI (fun i => if 0 < I 245 i then 1 else 0) n.toNat))) (N, PF, I, L)) :
    ∀ (m i : Nat), ((i + m : Nat) : Int) = n → (0 ≤ sumI (fun i => if 0 < I 245 i then 1 else 0) i ∧ sumI (fun i => if 0 < I 245 i then 1 else 0) i ≤ i) →
    Ok RX9 cX9_count 4 rmX9_count false none post U (66, [some (.inr (.inr (some 240))), some (.inl w), some (.inl (sumI (fun i => if 0 < I 245 i then 1 else 0) i)), some (.inl i)], [], (N, PF, I, L), 0, 0)
  | 0, i, hi, hb => by
    refine Ok.seg mdX9_count [66] 20 ?_
    simp only [wp_nil, wp_cons, ↓stp, ↓lI, ↓lL, ↓lR, ↓lIn_0, ↓lIn_1, ↓lIn_2, ↓lIn_3, ↓lLn_0, ↓lLn_1, ↓lLn_2, ↓lLn_3, ↓lRn_0, ↓lRn_1, ↓lRn_2, ↓lRn_3, ↓pI, ↓pL, ↓pR, ↓pA, ↓pN, ↓pV, ↓fp, ↓tsw, ↓oS, ↓spMax, ↓spMin, ↓spAbs, ↓spObj, RI, RLg, b2i_lo, b2i_hi, getL, setL, ltL, killL, isLong, inl, cnd, br, tgt, rcv, rpl, mputI, mputL, mputP, fv, fr, mcat, mcs, entL, entA, rfit, nf_0, nf_1, nf_2, nf_3, nf2_0, nf2_1, b2i_0, b2i_1, RI_b2i, b2i_fit, List.append, List.length, List.replicate, List.cons_append, List.nil_append, List.length_cons, List.length_nil, List.replicate_succ, List.replicate_zero, List.tail_cons, reduceIte, if_true, if_false, ite_true, ite_false, Bool.false_eq_true, true_and, and_true, and_self, false_and, and_false, or_self, or_true, true_or, or_false, false_or, not_true_eq_false, not_false_eq_true, ne_eq, forall_const, implies_true, imp_self, true_implies, false_implies, Nat.reduceAdd, Nat.reduceSub, Nat.reduceMul, Nat.reduceDiv, Nat.reduceMod, Nat.reduceEqDiff, Nat.reduceLT, Nat.reduceLeDiff, Nat.reduceBEq, Nat.add_zero, Nat.zero_add, Nat.le_refl, Nat.not_lt_zero, Nat.succ_eq_add_one, Int.reduceNatCast, Int.cast_ofNat_Int, Int.reduceSub, Int.reduceMul, Int.reduceNeg, Int.reduceLE, Int.reduceLT, Int.reduceToNat, Int.reduceEq, Int.reduceNe, Int.reduceAdd, Option.some.injEq, kX9_count, rmX9_count, ↓ofX9_13, ↓ofX9_32, ↓ofX9_41, ↓ofX9_58, ↓ocX9_count_204, ↓spX9_findBest, en, G_240, G_241, G_242, G_243, G_244, G_245, G_246, G_247, G_248, G_249, G_250, G_251, G_252, G_253, G_254, G_255, G_256, G_257, G_258, G_259, G_260, G_261, G_262, G_263, G_264, G_265, G_266, G_267, G_268, G_269, G_270, G_271, G_272, PF_240_6, PF_240_7, PF_240_8, PF_240_9, PF_240_10, PF_240_11, PF_240_12, PF_240_13, PF_240_14, PF_240_15, PF_240_16, PF_240_17, PF_240_18, PF_240_19, PF_240_20, PF_240_21, PF_240_22, PF_240_23, PF_240_24, PF_240_26, PF_240_27, PF_240_28, PF_240_29, PF_240_30, PF_240_31, PF_240_32, PF_240_33, PF_240_34, PF_240_35, PF_240_36, PF_240_37]
    rw [show n.toNat = i by omega] at h
    exact ⟨by omega, by omega, fun _ => h, fun q => by omega⟩
  | m + 1, i, hi, hb => by
    have ih := lpX9_c2 (U := U) (post := post) (N := N) (L := L) (w := w) en n1 hr h m (i + 1) (by omega)
    have hri := hr i (by omega) (by omega)
    unfold RI at hri
    rw [sumI_s, show ((i + 1 : Nat) : Int) = (i : Int) + 1 by omega] at ih
    by_cases z : 0 < I 245 i
    · rw [if_pos z] at ih
      have z' : ¬ I 245 i ≤ 0 := by omega
      refine Ok.seg mdX9_count [66] 30 ?_
      simp only [wp_nil, wp_cons, ↓stp, ↓lI, ↓lL, ↓lR, ↓lIn_0, ↓lIn_1, ↓lIn_2, ↓lIn_3, ↓lLn_0, ↓lLn_1, ↓lLn_2, ↓lLn_3, ↓lRn_0, ↓lRn_1, ↓lRn_2, ↓lRn_3, ↓pI, ↓pL, ↓pR, ↓pA, ↓pN, ↓pV, ↓fp, ↓tsw, ↓oS, ↓spMax, ↓spMin, ↓spAbs, ↓spObj, RI, RLg, b2i_lo, b2i_hi, getL, setL, ltL, killL, isLong, inl, cnd, br, tgt, rcv, rpl, mputI, mputL, mputP, fv, fr, mcat, mcs, entL, entA, rfit, nf_0, nf_1, nf_2, nf_3, nf2_0, nf2_1, b2i_0, b2i_1, RI_b2i, b2i_fit, List.append, List.length, List.replicate, List.cons_append, List.nil_append, List.length_cons, List.length_nil, List.replicate_succ, List.replicate_zero, List.tail_cons, reduceIte, if_true, if_false, ite_true, ite_false, Bool.false_eq_true, true_and, and_true, and_self, false_and, and_false, or_self, or_true, true_or, or_false, false_or, not_true_eq_false, not_false_eq_true, ne_eq, forall_const, implies_true, imp_self, true_implies, false_implies, Nat.reduceAdd, Nat.reduceSub, Nat.reduceMul, Nat.reduceDiv, Nat.reduceMod, Nat.reduceEqDiff, Nat.reduceLT, Nat.reduceLeDiff, Nat.reduceBEq, Nat.add_zero, Nat.zero_add, Nat.le_refl, Nat.not_lt_zero, Nat.succ_eq_add_one, Int.reduceNatCast, Int.cast_ofNat_Int, Int.reduceSub, Int.reduceMul, Int.reduceNeg, Int.reduceLE, Int.reduceLT, Int.reduceToNat, Int.reduceEq, Int.reduceNe, Int.reduceAdd, Option.some.injEq, kX9_count, rmX9_count, ↓ofX9_13, ↓ofX9_32, ↓ofX9_41, ↓ofX9_58, ↓ocX9_count_204, ↓spX9_findBest, en, z', G_240, G_241, G_242, G_243, G_244, G_245, G_246, G_247, G_248, G_249, G_250, G_251, G_252, G_253, G_254, G_255, G_256, G_257, G_258, G_259, G_260, G_261, G_262, G_263, G_264, G_265, G_266, G_267, G_268, G_269, G_270, G_271, G_272, PF_240_6, PF_240_7, PF_240_8, PF_240_9, PF_240_10, PF_240_11, PF_240_12, PF_240_13, PF_240_14, PF_240_15, PF_240_16, PF_240_17, PF_240_18, PF_240_19, PF_240_20, PF_240_21, PF_240_22, PF_240_23, PF_240_24, PF_240_26, PF_240_27, PF_240_28, PF_240_29, PF_240_30, PF_240_31, PF_240_32, PF_240_33, PF_240_34, PF_240_35, PF_240_36, PF_240_37]
      exact ⟨by omega, by omega, fun q => by omega, fun _ => ⟨by omega, by omega, by omega, ih (by omega)⟩⟩
    · rw [if_neg z] at ih
      have z' : I 245 i ≤ 0 := by omega
      refine Ok.seg mdX9_count [66] 30 ?_
      simp only [wp_nil, wp_cons, ↓stp, ↓lI, ↓lL, ↓lR, ↓lIn_0, ↓lIn_1, ↓lIn_2, ↓lIn_3, ↓lLn_0, ↓lLn_1, ↓lLn_2, ↓lLn_3, ↓lRn_0, ↓lRn_1, ↓lRn_2, ↓lRn_3, ↓pI, ↓pL, ↓pR, ↓pA, ↓pN, ↓pV, ↓fp, ↓tsw, ↓oS, ↓spMax, ↓spMin, ↓spAbs, ↓spObj, RI, RLg, b2i_lo, b2i_hi, getL, setL, ltL, killL, isLong, inl, cnd, br, tgt, rcv, rpl, mputI, mputL, mputP, fv, fr, mcat, mcs, entL, entA, rfit, nf_0, nf_1, nf_2, nf_3, nf2_0, nf2_1, b2i_0, b2i_1, RI_b2i, b2i_fit, List.append, List.length, List.replicate, List.cons_append, List.nil_append, List.length_cons, List.length_nil, List.replicate_succ, List.replicate_zero, List.tail_cons, reduceIte, if_true, if_false, ite_true, ite_false, Bool.false_eq_true, true_and, and_true, and_self, false_and, and_false, or_self, or_true, true_or, or_false, false_or, not_true_eq_false, not_false_eq_true, ne_eq, forall_const, implies_true, imp_self, true_implies, false_implies, Nat.reduceAdd, Nat.reduceSub, Nat.reduceMul, Nat.reduceDiv, Nat.reduceMod, Nat.reduceEqDiff, Nat.reduceLT, Nat.reduceLeDiff, Nat.reduceBEq, Nat.add_zero, Nat.zero_add, Nat.le_refl, Nat.not_lt_zero, Nat.succ_eq_add_one, Int.reduceNatCast, Int.cast_ofNat_Int, Int.reduceSub, Int.reduceMul, Int.reduceNeg, Int.reduceLE, Int.reduceLT, Int.reduceToNat, Int.reduceEq, Int.reduceNe, Int.reduceAdd, Option.some.injEq, kX9_count, rmX9_count, ↓ofX9_13, ↓ofX9_32, ↓ofX9_41, ↓ofX9_58, ↓ocX9_count_204, ↓spX9_findBest, en, z', G_240, G_241, G_242, G_243, G_244, G_245, G_246, G_247, G_248, G_249, G_250, G_251, G_252, G_253, G_254, G_255, G_256, G_257, G_258, G_259, G_260, G_261, G_262, G_263, G_264, G_265, G_266, G_267, G_268, G_269, G_270, G_271, G_272, PF_240_6, PF_240_7, PF_240_8, PF_240_9, PF_240_10, PF_240_11, PF_240_12, PF_240_13, PF_240_14, PF_240_15, PF_240_16, PF_240_17, PF_240_18, PF_240_19, PF_240_20, PF_240_21, PF_240_22, PF_240_23, PF_240_24, PF_240_26, PF_240_27, PF_240_28, PF_240_29, PF_240_30, PF_240_31, PF_240_32, PF_240_33, PF_240_34, PF_240_35, PF_240_36, PF_240_37]
      exact ⟨by omega, by omega, fun q => by omega, fun _ => ⟨by omega, by omega, by omega, ih (by omega)⟩⟩
theorem lpX9_c3 {post : Option MV → MS → Prop} {U : Pt → Prop} {N : Nat} {I L : Int → Int → Int} {w n : Int} (en : I 240 1 = n) (n1 : 0 ≤ n ∧ n ≤ 30) (hr : ∀ i, 0 ≤ i → i < n → 0 ≤ I 250 i ∧ I 250 i ≤ 2)
    (h : post (some (.inl (sumI (lch (I 250)) n.toNat))) (N, PF, I, L)) :
    ∀ (m i : Nat), ((i + m : Nat) : Int) = n ∨ (n = 0 ∧ i = 1 ∧ m = 0) → 1 ≤ i → (0 ≤ sumI (lch (I 250)) i ∧ sumI (lch (I 250)) i ≤ i) →
    Ok RX9 cX9_count 4 rmX9_count false none post U (105, [some (.inr (.inr (some 240))), some (.inl w), some (.inl (sumI (lch (I 250)) i)), some (.inl i)], [], (N, PF, I, L), 0, 0)
  | 0, i, hi, i0, hb => by
    refine Ok.seg mdX9_count [105] 20 ?_
    simp only [wp_nil, wp_cons, ↓stp, ↓lI, ↓lL, ↓lR, ↓lIn_0, ↓lIn_1, ↓lIn_2, ↓lIn_3, ↓lLn_0, ↓lLn_1, ↓lLn_2, ↓lLn_3, ↓lRn_0, ↓lRn_1, ↓lRn_2, ↓lRn_3, ↓pI, ↓pL, ↓pR, ↓pA, ↓pN, ↓pV, ↓fp, ↓tsw, ↓oS, ↓spMax, ↓spMin, ↓spAbs, ↓spObj, RI, RLg, b2i_lo, b2i_hi, getL, setL, ltL, killL, isLong, inl, cnd, br, tgt, rcv, rpl, mputI, mputL, mputP, fv, fr, mcat, mcs, entL, entA, rfit, nf_0, nf_1, nf_2, nf_3, nf2_0, nf2_1, b2i_0, b2i_1, RI_b2i, b2i_fit, List.append, List.length, List.replicate, List.cons_append, List.nil_append, List.length_cons, List.length_nil, List.replicate_succ, List.replicate_zero, List.tail_cons, reduceIte, if_true, if_false, ite_true, ite_false, Bool.false_eq_true, true_and, and_true, and_self, false_and, and_false, or_self, or_true, true_or, or_false, false_or, not_true_eq_false, not_false_eq_true, ne_eq, forall_const, implies_true, imp_self, true_implies, false_implies, Nat.reduceAdd, Nat.reduceSub, Nat.reduceMul, Nat.reduceDiv, Nat.reduceMod, Nat.reduceEqDiff, Nat.reduceLT, Nat.reduceLeDiff, Nat.reduceBEq, Nat.add_zero, Nat.zero_add, Nat.le_refl, Nat.not_lt_zero, Nat.succ_eq_add_one, Int.reduceNatCast, Int.cast_ofNat_Int, Int.reduceSub, Int.reduceMul, Int.reduceNeg, Int.reduceLE, Int.reduceLT, Int.reduceToNat, Int.reduceEq, Int.reduceNe, Int.reduceAdd, Option.some.injEq, kX9_count, rmX9_count, ↓ofX9_13, ↓ofX9_32, ↓ofX9_41, ↓ofX9_58, ↓ocX9_count_204, ↓spX9_findBest, en, G_240, G_241, G_242, G_243, G_244, G_245, G_246, G_247, G_248, G_249, G_250, G_251, G_252, G_253, G_254, G_255, G_256, G_257, G_258, G_259, G_260, G_261, G_262, G_263, G_264, G_265, G_266, G_267, G_268, G_269, G_270, G_271, G_272, PF_240_6, PF_240_7, PF_240_8, PF_240_9, PF_240_10, PF_240_11, PF_240_12, PF_240_13, PF_240_14, PF_240_15, PF_240_16, PF_240_17, PF_240_18, PF_240_19, PF_240_20, PF_240_21, PF_240_22, PF_240_23, PF_240_24, PF_240_26, PF_240_27, PF_240_28, PF_240_29, PF_240_30, PF_240_31, PF_240_32, PF_240_33, PF_240_34, PF_240_35, PF_240_36, PF_240_37]
    have e : sumI (lch (I 250)) n.toNat = sumI (lch (I 250)) i := by
      rcases hi with z | ⟨z, y, _⟩
      · rw [show n.toNat = i by omega]
      · subst y
        rw [z]
        show 0 = 0 + lch (I 250) ((0 : Nat) : Int)
        unfold lch
        rw [if_neg (by omega)]
        rfl
    rw [e] at h
    exact ⟨by omega, by omega, fun _ => h, fun q => by omega⟩
  | m + 1, i, hi, i0, hb => by
    have ih := lpX9_c3 (U := U) (post := post) (N := N) (L := L) (w := w) en n1 hr h m (i + 1) (by omega) (by omega)
    have hri := hr i (by omega) (by omega)
    have hri' := hr (i - 1) (by omega) (by omega)
    rw [sumI_s, show ((i + 1 : Nat) : Int) = (i : Int) + 1 by omega] at ih
    by_cases z : I 250 i = I 250 (i - 1)
    · have el : lch (I 250) i = 0 := if_neg (fun y => y.2 z)
      rw [el] at ih
      refine Ok.seg mdX9_count [105] 40 ?_
      simp only [wp_nil, wp_cons, ↓stp, ↓lI, ↓lL, ↓lR, ↓lIn_0, ↓lIn_1, ↓lIn_2, ↓lIn_3, ↓lLn_0, ↓lLn_1, ↓lLn_2, ↓lLn_3, ↓lRn_0, ↓lRn_1, ↓lRn_2, ↓lRn_3, ↓pI, ↓pL, ↓pR, ↓pA, ↓pN, ↓pV, ↓fp, ↓tsw, ↓oS, ↓spMax, ↓spMin, ↓spAbs, ↓spObj, RI, RLg, b2i_lo, b2i_hi, getL, setL, ltL, killL, isLong, inl, cnd, br, tgt, rcv, rpl, mputI, mputL, mputP, fv, fr, mcat, mcs, entL, entA, rfit, nf_0, nf_1, nf_2, nf_3, nf2_0, nf2_1, b2i_0, b2i_1, RI_b2i, b2i_fit, List.append, List.length, List.replicate, List.cons_append, List.nil_append, List.length_cons, List.length_nil, List.replicate_succ, List.replicate_zero, List.tail_cons, reduceIte, if_true, if_false, ite_true, ite_false, Bool.false_eq_true, true_and, and_true, and_self, false_and, and_false, or_self, or_true, true_or, or_false, false_or, not_true_eq_false, not_false_eq_true, ne_eq, forall_const, implies_true, imp_self, true_implies, false_implies, Nat.reduceAdd, Nat.reduceSub, Nat.reduceMul, Nat.reduceDiv, Nat.reduceMod, Nat.reduceEqDiff, Nat.reduceLT, Nat.reduceLeDiff, Nat.reduceBEq, Nat.add_zero, Nat.zero_add, Nat.le_refl, Nat.not_lt_zero, Nat.succ_eq_add_one, Int.reduceNatCast, Int.cast_ofNat_Int, Int.reduceSub, Int.reduceMul, Int.reduceNeg, Int.reduceLE, Int.reduceLT, Int.reduceToNat, Int.reduceEq, Int.reduceNe, Int.reduceAdd, Option.some.injEq, kX9_count, rmX9_count, ↓ofX9_13, ↓ofX9_32, ↓ofX9_41, ↓ofX9_58, ↓ocX9_count_204, ↓spX9_findBest, en, z, G_240, G_241, G_242, G_243, G_244, G_245, G_246, G_247, G_248, G_249, G_250, G_251, G_252, G_253, G_254, G_255, G_256, G_257, G_258, G_259, G_260, G_261, G_262, G_263, G_264, G_265, G_266, G_267, G_268, G_269, G_270, G_271, G_272, PF_240_6, PF_240_7, PF_240_8, PF_240_9, PF_240_10, PF_240_11, PF_240_12, PF_240_13, PF_240_14, PF_240_15, PF_240_16, PF_240_17, PF_240_18, PF_240_19, PF_240_20, PF_240_21, PF_240_22, PF_240_23, PF_240_24, PF_240_26, PF_240_27, PF_240_28, PF_240_29, PF_240_30, PF_240_31, PF_240_32, PF_240_33, PF_240_34, PF_240_35, PF_240_36, PF_240_37]
      exact ⟨by omega, by omega, fun q => by omega, fun _ => ⟨by omega, by omega, by omega, by omega, by omega, by omega, ih (by omega)⟩⟩
    · have el : lch (I 250) i = 1 := if_pos ⟨by omega, z⟩
      rw [el] at ih
      refine Ok.seg mdX9_count [105] 40 ?_
      simp only [wp_nil, wp_cons, ↓stp, ↓lI, ↓lL, ↓lR, ↓lIn_0, ↓lIn_1, ↓lIn_2, ↓lIn_3, ↓lLn_0, ↓lLn_1, ↓lLn_2, ↓lLn_3, ↓lRn_0, ↓lRn_1, ↓lRn_2, ↓lRn_3, ↓pI, ↓pL, ↓pR, ↓pA, ↓pN, ↓pV, ↓fp, ↓tsw, ↓oS, ↓spMax, ↓spMin, ↓spAbs, ↓spObj, RI, RLg, b2i_lo, b2i_hi, getL, setL, ltL, killL, isLong, inl, cnd, br, tgt, rcv, rpl, mputI, mputL, mputP, fv, fr, mcat, mcs, entL, entA, rfit, nf_0, nf_1, nf_2, nf_3, nf2_0, nf2_1, b2i_0, b2i_1, RI_b2i, b2i_fit, List.append, List.length, List.replicate, List.cons_append, List.nil_append, List.length_cons, List.length_nil, List.replicate_succ, List.replicate_zero, List.tail_cons, reduceIte, if_true, if_false, ite_true, ite_false, Bool.false_eq_true, true_and, and_true, and_self, false_and, and_false, or_self, or_true, true_or, or_false, false_or, not_true_eq_false, not_false_eq_true, ne_eq, forall_const, implies_true, imp_self, true_implies, false_implies, Nat.reduceAdd, Nat.reduceSub, Nat.reduceMul, Nat.reduceDiv, Nat.reduceMod, Nat.reduceEqDiff, Nat.reduceLT, Nat.reduceLeDiff, Nat.reduceBEq, Nat.add_zero, Nat.zero_add, Nat.le_refl, Nat.not_lt_zero, Nat.succ_eq_add_one, Int.reduceNatCast, Int.cast_ofNat_Int, Int.reduceSub, Int.reduceMul, Int.reduceNeg, Int.reduceLE, Int.reduceLT, Int.reduceToNat, Int.reduceEq, Int.reduceNe, Int.reduceAdd, Option.some.injEq, kX9_count, rmX9_count, ↓ofX9_13, ↓ofX9_32, ↓ofX9_41, ↓ofX9_58, ↓ocX9_count_204, ↓spX9_findBest, en, z, G_240, G_241, G_242, G_243, G_244, G_245, G_246, G_247, G_248, G_249, G_250, G_251, G_252, G_253, G_254, G_255, G_256, G_257, G_258, G_259, G_260, G_261, G_262, G_263, G_264, G_265, G_266, G_267, G_268, G_269, G_270, G_271, G_272, PF_240_6, PF_240_7, PF_240_8, PF_240_9, PF_240_10, PF_240_11, PF_240_12, PF_240_13, PF_240_14, PF_240_15, PF_240_16, PF_240_17, PF_240_18, PF_240_19, PF_240_20, PF_240_21, PF_240_22, PF_240_23, PF_240_24, PF_240_26, PF_240_27, PF_240_28, PF_240_29, PF_240_30, PF_240_31, PF_240_32, PF_240_33, PF_240_34, PF_240_35, PF_240_36, PF_240_37]
      exact ⟨by omega, by omega, fun q => by omega, fun _ => ⟨by omega, by omega, by omega, by omega, by omega, by omega, ih (by omega)⟩⟩
set_option maxRecDepth 100000 in
set_option maxHeartbeats 800000 in
theorem mX9_count : MOK yX9_count cX9_count 4 (some .int) rmX9_count ciX9_count := by
  refine mok_of (ini := false) (by decide +kernel) (by decide) rfl rfl ?_
  intro σ As K hrc hl h
  obtain ⟨N, P, I, L⟩ := σ
  have h9 := pR_iff.mp h
  clear h
  obtain ⟨a, r, e9, h⟩ := h9
  subst e9
  have h9 := pI_iff.mp h
  clear h
  obtain ⟨w, r, e9, h⟩ := h9
  subst e9
  have h9 := pN_iff.mp h
  clear h
  obtain ⟨e9, h⟩ := h9
  subst e9
  try dsimp only at h
  obtain ⟨rfl, rfl, hw, hx, h1, h2, h3, h4, h5⟩ := h
  unfold RI at hw
  have x1 := hx.1
  have x2 := hx.2.1
  have hN := (nM hx).1
  refine ⟨Nat.le_of_ble_eq_true rfl, Ok.seg mdX9_count [39, 66, 105] 60 ?_⟩
  simp only [wp_nil, wp_cons, ↓stp, ↓lI, ↓lL, ↓lR, ↓lIn_0, ↓lIn_1, ↓lIn_2, ↓lIn_3, ↓lLn_0, ↓lLn_1, ↓lLn_2, ↓lLn_3, ↓lRn_0, ↓lRn_1, ↓lRn_2, ↓lRn_3, ↓pI, ↓pL, ↓pR, ↓pA, ↓pN, ↓pV, ↓fp, ↓tsw, ↓oS, ↓spMax, ↓spMin, ↓spAbs, ↓spObj, RI, RLg, b2i_lo, b2i_hi, getL, setL, ltL, killL, isLong, inl, cnd, br, tgt, rcv, rpl, mputI, mputL, mputP, fv, fr, mcat, mcs, entL, entA, rfit, nf_0, nf_1, nf_2, nf_3, nf2_0, nf2_1, b2i_0, b2i_1, RI_b2i, b2i_fit, List.append, List.length, List.replicate, List.cons_append, List.nil_append, List.length_cons, List.length_nil, List.replicate_succ, List.replicate_zero, List.tail_cons, reduceIte, if_true, if_false, ite_true, ite_false, Bool.false_eq_true, true_and, and_true, and_self, false_and, and_false, or_self, or_true, true_or, or_false, false_or, not_true_eq_false, not_false_eq_true, ne_eq, forall_const, implies_true, imp_self, true_implies, false_implies, Nat.reduceAdd, Nat.reduceSub, Nat.reduceMul, Nat.reduceDiv, Nat.reduceMod, Nat.reduceEqDiff, Nat.reduceLT, Nat.reduceLeDiff, Nat.reduceBEq, Nat.add_zero, Nat.zero_add, Nat.le_refl, Nat.not_lt_zero, Nat.succ_eq_add_one, Int.reduceNatCast, Int.cast_ofNat_Int, Int.reduceSub, Int.reduceMul, Int.reduceNeg, Int.reduceLE, Int.reduceLT, Int.reduceToNat, Int.reduceEq, Int.reduceNe, Int.reduceAdd, Option.some.injEq, kX9_count, rmX9_count, ↓ofX9_13, ↓ofX9_32, ↓ofX9_41, ↓ofX9_58, ↓ocX9_count_204, ↓spX9_findBest, x1, x2, hN, G_240, G_241, G_242, G_243, G_244, G_245, G_246, G_247, G_248, G_249, G_250, G_251, G_252, G_253, G_254, G_255, G_256, G_257, G_258, G_259, G_260, G_261, G_262, G_263, G_264, G_265, G_266, G_267, G_268, G_269, G_270, G_271, G_272, PF_240_6, PF_240_7, PF_240_8, PF_240_9, PF_240_10, PF_240_11, PF_240_12, PF_240_13, PF_240_14, PF_240_15, PF_240_16, PF_240_17, PF_240_18, PF_240_19, PF_240_20, PF_240_21, PF_240_22, PF_240_23, PF_240_24, PF_240_26, PF_240_27, PF_240_28, PF_240_29, PF_240_30, PF_240_31, PF_240_32, PF_240_33, PF_240_34, PF_240_35, PF_240_36, PF_240_37]
  refine ⟨by omega, fun z => h1 (by omega), h2, fun z => ?_, fun z => ?_, fun z J M k1 k2 k3 => ?_⟩
  · exact lpX9_c1 (n := I 240 1) (post := fun r σ' => rfit (some .int) r ∧ K r σ') rfl hN (fun i i0 i1 => by have := stM x1 i0 i1; omega) ⟨trivial, h3 z⟩ (I 240 1).toNat 0 (by omega) ⟨Int.le_refl _, Int.le_refl _⟩
  · exact lpX9_c2 (n := I 240 1) (post := fun r σ' => rfit (some .int) r ∧ K r σ') rfl hN (fun i i0 i1 => by have := stM x1 i0 i1; unfold RI; omega) ⟨trivial, h4 z⟩ (I 240 1).toNat 0 (by omega) ⟨Int.le_refl _, Int.le_refl _⟩
  · obtain ⟨a, b, c⟩ := fB hx k1 k2
    have e1 : J 240 1 = I 240 1 := k1 _ _ (by omega) (by omega) (by omega) (by omega)
    have hl := (bestM_l k3).1
    have e0 : sumI (lch (J 250)) 1 = 0 := by
      show 0 + lch (J 250) ((0 : Nat) : Int) = 0
      unfold lch
      rw [if_neg (by omega)]
      rfl
    have := lpX9_c3 (w := w) (U := fun _ => False) (n := I 240 1) (post := fun r σ' => rfit (some .int) r ∧ K r σ') e1 hN (fun i i0 i1 => hl i i0 (by omega)) ⟨trivial, h5 z J M b c a k3⟩ ((I 240 1).toNat - 1) 1 (by omega) (by omega) (by rw [e0]; omega)
    rw [e0] at this
    exact this
