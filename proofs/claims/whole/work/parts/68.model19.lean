/-! LapBoardModel: copy -/
def spX9_copy (As : List MV) (σ : MS) (K : Option MV → MS → Prop) : Prop := pR As fun a r => pI r fun d r => pI r fun i r => pI r fun e r => pI r fun j r => pI r fun n r => pN r (a = 240 ∧ σ.2.1 = PF ∧ RI d ∧ RI i ∧ RI e ∧ RI j ∧ RI n ∧ mOK σ.2.2.1 σ.2.2.2 ∧ (¬ (0 ≤ d ∧ d ≤ 7 ∧ 0 ≤ e ∧ e ≤ 7) → K (some (.inl (-1))) σ) ∧ (0 ≤ d ∧ d ≤ 7 ∧ 0 ≤ e ∧ e ≤ 7 →
  ((σ.2.2.1 264 d = 0 ∨ σ.2.2.1 264 e = 0) → K (some (.inl (-11))) σ) ∧ (¬ (σ.2.2.1 264 d = 0 ∨ σ.2.2.1 264 e = 0) →
  ((σ.2.2.1 264 d < 3 ∨ ¬ σ.2.2.1 264 d = σ.2.2.1 264 e) → K (some (.inl (-12))) σ) ∧ (¬ (σ.2.2.1 264 d < 3 ∨ ¬ σ.2.2.1 264 d = σ.2.2.1 264 e) →
  (¬ (0 ≤ i ∧ 0 ≤ j ∧ 0 ≤ n ∧ i + n ≤ σ.2.2.1 269 d ∧ j + n ≤ σ.2.2.1 269 e) → K (some (.inl (-13))) σ) ∧ (0 ≤ i ∧ 0 ≤ j ∧ 0 ≤ n ∧ i + n ≤ σ.2.2.1 269 d ∧ j + n ≤ σ.2.2.1 269 e →
  ∀ I' : Int → Int → Int, (∀ c k, c ≠ 271 → ¬ (c = 270 ∧ 60 * e + j ≤ k ∧ k < 60 * e + j + n) → I' c k = σ.2.2.1 c k) → (∀ k, 0 ≤ k → k < n → I' 270 (60 * e + j + k) = σ.2.2.1 270 (60 * d + i + k)) → mOK I' σ.2.2.2 → K (some (.inl n)) (σ.1, σ.2.1, I', σ.2.2.2))))))
def ciX9_copy : CI := (6, 9, 0, 0, spX9_copy)
def kX9_copy (pc : Nat) : List ME := match pc with
  | 0 => [(.aload_n 0, 1, []), (.iload_n 1, 1, []), (.invokevirtual 235, 3, []), (.ifCond .eq 11, 3, [16]), (.aload_n 0, 1, []), (.iload_n 3, 1, []), (.invokevirtual 235, 3, []), (.ifCond .ne 5, 3, [18])]
  | 16 => [(.iconst (-1), 1, []), (.ireturn, 1, [])]
  | 18 => [(.aload_n 0, 1, []), (.getfield 104, 3, []), (.iload_n 1, 1, []), (.iaload, 1, []), (.ifCond .eq 12, 3, [36]), (.aload_n 0, 1, []), (.getfield 104, 3, []), (.iload_n 3, 1, []), (.iaload, 1, []), (.ifCond .ne 6, 3, [39])]
  | 36 => [(.bipush (-11), 2, []), (.ireturn, 1, [])]
  | 39 => [(.aload_n 0, 1, []), (.getfield 104, 3, []), (.iload_n 1, 1, []), (.iaload, 1, []), (.iconst 3, 1, []), (.if_icmp .lt 18, 3, [64]), (.aload_n 0, 1, []), (.getfield 104, 3, []), (.iload_n 1, 1, []), (.iaload, 1, []), (.aload_n 0, 1, []), (.getfield 104, 3, []), (.iload_n 3, 1, []), (.iaload, 1, []), (.if_icmp .eq 6, 3, [67])]
  | 64 => [(.bipush (-12), 2, []), (.ireturn, 1, [])]
  | 67 => [(.iload 5, 2, []), (.ifCond .lt 39, 3, [108]), (.iload_n 2, 1, []), (.ifCond .lt 35, 3, [108]), (.iload 4, 2, []), (.ifCond .lt 30, 3, [108]), (.iload_n 2, 1, []), (.aload_n 0, 1, []), (.getfield 119, 3, []), (.iload_n 1, 1, []), (.iaload, 1, []), (.iload 5, 2, []), (.isub, 1, []), (.if_icmp .gt 17, 3, [108]), (.iload 4, 2, []), (.aload_n 0, 1, []), (.getfield 119, 3, []), (.iload_n 3, 1, []), (.iaload, 1, []), (.iload 5, 2, []), (.isub, 1, []), (.if_icmp .le 6, 3, [111])]
  | 108 => [(.bipush (-13), 2, []), (.ireturn, 1, [])]
  | 111 => [(.iconst 0, 1, []), (.istore 6, 2, [])]
  | 114 => [(.iload 6, 2, []), (.iload 5, 2, []), (.if_icmp .ge 30, 3, [148]), (.aload_n 0, 1, []), (.getfield 125, 3, []), (.iload 6, 2, []), (.aload_n 0, 1, []), (.getfield 122, 3, []), (.bipush 60, 2, []), (.iload_n 1, 1, []), (.imul, 1, []), (.iload_n 2, 1, []), (.iadd, 1, []), (.iload 6, 2, []), (.iadd, 1, []), (.iaload, 1, []), (.iastore, 1, []), (.iinc 6 1, 3, []), (.goto (-31), 3, [114])]
  | 148 => [(.iconst 0, 1, []), (.istore 6, 2, [])]
  | 151 => [(.iload 6, 2, []), (.iload 5, 2, []), (.if_icmp .ge 31, 3, [186]), (.aload_n 0, 1, []), (.getfield 122, 3, []), (.bipush 60, 2, []), (.iload_n 3, 1, []), (.imul, 1, []), (.iload 4, 2, []), (.iadd, 1, []), (.iload 6, 2, []), (.iadd, 1, []), (.aload_n 0, 1, []), (.getfield 125, 3, []), (.iload 6, 2, []), (.iaload, 1, []), (.iastore, 1, []), (.iinc 6 1, 3, []), (.goto (-32), 3, [151])]
  | 186 => [(.iload 5, 2, []), (.ireturn, 1, [])]
  | _ => []
theorem qX9_copy : ∀ pc, chk cX9_copy pc (kX9_copy pc) = true := by
  intro pc
  unfold kX9_copy
  split <;> first | decide +kernel | exact chk_nil
abbrev rmX9_copy : Room := { frames := 2, cells := 0, slots := 0, locals := 44 }
def aX9_copy (x : Nat) : Option CI := match x with
  | 235 => some ciX9_isShelf
  | _ => none
theorem aokX9_copy : ∀ x ci, aX9_copy x = some ci → CalOK RX9 rmX9_copy x ci := by
  intro x ci h
  unfold aX9_copy at h
  split at h
  · cases h; exact cal_V mX9_isShelf (by decide) rfl (List.forall_mem_cons.mpr ⟨(ws_mem (List.mem_of_getElem? (i := 1202) (by decide +kernel)) (by decide +kernel)), List.forall_mem_cons.mpr ⟨(ws_mem (List.mem_of_getElem? (i := 1204) (by decide +kernel)) (by decide +kernel)), List.forall_mem_cons.mpr ⟨(ws_mem (List.mem_of_getElem? (i := 49) (by decide +kernel)) (by decide +kernel)), List.forall_mem_cons.mpr ⟨(ws_mem (List.mem_of_getElem? (i := 64) (by decide +kernel)) (by decide +kernel)), List.forall_mem_cons.mpr ⟨(ws_mem (List.mem_of_getElem? (i := 1205) (by decide +kernel)) (by decide +kernel)), fun _ h => absurd h List.not_mem_nil⟩⟩⟩⟩⟩) rfl (by unfold nice; decide +kernel) (by unfold rfits; decide) ⟨rfl, rfl⟩
  · cases h
theorem ocX9_copy_235 (f : Nat → Nat → Nat → Nat → (List MV → MS → (Option MV → MS → Prop) → Prop) → Prop) : oC aX9_copy 235 f = f 2 9 0 0 spX9_isShelf := propext Iff.rfl
theorem mdX9_copy : MD RX9 cX9_copy rmX9_copy kX9_copy fX9 aX9_copy zX9 uX9 := ⟨fokX9, zokX9, uokX9, aokX9_copy, qX9_copy⟩
theorem lpC1 {post : Option MV → MS → Prop} {U : Pt → Prop} {N : Nat} {I L : Int → Int → Int} {d i e j n : Int} (d0 : 0 ≤ d) (d1 : d ≤ 7) (i0 : 0 ≤ i) (n1 : i + n ≤ 60)
    (h : ∀ J : Int → Int → Int, (∀ c q, c ≠ 271 → J c q = I c q) → (∀ q, 0 ≤ q → q < n → J 271 q = I 270 (60 * d + i + q)) → Ok RX9 cX9_copy 7 rmX9_copy false none post U (148, [some (.inr (.inr (some 240))), some (.inl d), some (.inl i), some (.inl e), some (.inl j), some (.inl n), some (.inl n)], [], (N, PF, J, L), 0, 0)) :
    ∀ (m : Nat) (k : Int) (J : Int → Int → Int), k + m = n → 0 ≤ k → (∀ c q, c ≠ 271 → J c q = I c q) → (∀ q, 0 ≤ q → q < k → J 271 q = I 270 (60 * d + i + q)) →
    Ok RX9 cX9_copy 7 rmX9_copy false none post U (114, [some (.inr (.inr (some 240))), some (.inl d), some (.inl i), some (.inl e), some (.inl j), some (.inl n), some (.inl k)], [], (N, PF, J, L), 0, 0)
  | 0, k, J, hk, k0, h1, h2 => by
    refine Ok.seg mdX9_copy [114, 148] 20 ?_
    simp only [wp_nil, wp_cons, ↓stp, ↓lI, ↓lL, ↓lR, ↓lIn_0, ↓lIn_1, ↓lIn_2, ↓lIn_3, ↓lLn_0, ↓lLn_1, ↓lLn_2, ↓lLn_3, ↓lRn_0, ↓lRn_1, ↓lRn_2, ↓lRn_3, ↓pI, ↓pL, ↓pR, ↓pA, ↓pN, ↓pV, ↓fp, ↓tsw, ↓oS, ↓spMax, ↓spMin, ↓spAbs, ↓spObj, RI, RLg, b2i_lo, b2i_hi, getL, setL, ltL, killL, isLong, inl, cnd, br, tgt, rcv, rpl, mputI, mputL, mputP, fv, fr, mcat, mcs, entL, entA, rfit, nf_0, nf_1, nf_2, nf_3, nf2_0, nf2_1, b2i_0, b2i_1, RI_b2i, b2i_fit, List.append, List.length, List.replicate, List.cons_append, List.nil_append, List.length_cons, List.length_nil, List.replicate_succ, List.replicate_zero, List.tail_cons, reduceIte, if_true, if_false, ite_true, ite_false, Bool.false_eq_true, true_and, and_true, and_self, false_and, and_false, or_self, or_true, true_or, or_false, false_or, not_true_eq_false, not_false_eq_true, ne_eq, forall_const, implies_true, imp_self, true_implies, false_implies, Nat.reduceAdd, Nat.reduceSub, Nat.reduceMul, Nat.reduceDiv, Nat.reduceMod, Nat.reduceEqDiff, Nat.reduceLT, Nat.reduceLeDiff, Nat.reduceBEq, Nat.add_zero, Nat.zero_add, Nat.le_refl, Nat.not_lt_zero, Nat.succ_eq_add_one, Int.reduceNatCast, Int.cast_ofNat_Int, Int.reduceSub, Int.reduceMul, Int.reduceNeg, Int.reduceLE, Int.reduceLT, Int.reduceToNat, Int.reduceEq, Int.reduceNe, Int.reduceAdd, Option.some.injEq, kX9_copy, rmX9_copy, ↓ofX9_104, ↓ofX9_119, ↓ofX9_122, ↓ofX9_125, ↓ocX9_copy_235, ↓spX9_isShelf, G_240, G_241, G_242, G_243, G_244, G_245, G_246, G_247, G_248, G_249, G_250, G_251, G_252, G_253, G_254, G_255, G_256, G_257, G_258, G_259, G_260, G_261, G_262, G_263, G_264, G_265, G_266, G_267, G_268, G_269, G_270, G_271, G_272, PF_240_6, PF_240_7, PF_240_8, PF_240_9, PF_240_10, PF_240_11, PF_240_12, PF_240_13, PF_240_14, PF_240_15, PF_240_16, PF_240_17, PF_240_18, PF_240_19, PF_240_20, PF_240_21, PF_240_22, PF_240_23, PF_240_24, PF_240_26, PF_240_27, PF_240_28, PF_240_29, PF_240_30, PF_240_31, PF_240_32, PF_240_33, PF_240_34, PF_240_35, PF_240_36, PF_240_37]
    rw [show k = n by omega] at h2 ⊢
    exact ⟨by omega, by omega, fun _ => h J h1 h2, fun q => by omega⟩
  | m + 1, k, J, hk, k0, h1, h2 => by
    have ih := fun J => lpC1 (U := U) (post := post) (N := N) (L := L) (e := e) (j := j) d0 d1 i0 n1 h m (k + 1) J (by omega) (by omega)
    have ev := h1 270 (60 * d + i + k) (by omega)
    refine Ok.seg mdX9_copy [114, 148] 20 ?_
    simp only [wp_nil, wp_cons, ↓stp, ↓lI, ↓lL, ↓lR, ↓lIn_0, ↓lIn_1, ↓lIn_2, ↓lIn_3, ↓lLn_0, ↓lLn_1, ↓lLn_2, ↓lLn_3, ↓lRn_0, ↓lRn_1, ↓lRn_2, ↓lRn_3, ↓pI, ↓pL, ↓pR, ↓pA, ↓pN, ↓pV, ↓fp, ↓tsw, ↓oS, ↓spMax, ↓spMin, ↓spAbs, ↓spObj, RI, RLg, b2i_lo, b2i_hi, getL, setL, ltL, killL, isLong, inl, cnd, br, tgt, rcv, rpl, mputI, mputL, mputP, fv, fr, mcat, mcs, entL, entA, rfit, nf_0, nf_1, nf_2, nf_3, nf2_0, nf2_1, b2i_0, b2i_1, RI_b2i, b2i_fit, List.append, List.length, List.replicate, List.cons_append, List.nil_append, List.length_cons, List.length_nil, List.replicate_succ, List.replicate_zero, List.tail_cons, reduceIte, if_true, if_false, ite_true, ite_false, Bool.false_eq_true, true_and, and_true, and_self, false_and, and_false, or_self, or_true, true_or, or_false, false_or, not_true_eq_false, not_false_eq_true, ne_eq, forall_const, implies_true, imp_self, true_implies, false_implies, Nat.reduceAdd, Nat.reduceSub, Nat.reduceMul, Nat.reduceDiv, Nat.reduceMod, Nat.reduceEqDiff, Nat.reduceLT, Nat.reduceLeDiff, Nat.reduceBEq, Nat.add_zero, Nat.zero_add, Nat.le_refl, Nat.not_lt_zero, Nat.succ_eq_add_one, Int.reduceNatCast, Int.cast_ofNat_Int, Int.reduceSub, Int.reduceMul, Int.reduceNeg, Int.reduceLE, Int.reduceLT, Int.reduceToNat, Int.reduceEq, Int.reduceNe, Int.reduceAdd, Option.some.injEq, kX9_copy, rmX9_copy, ↓ofX9_104, ↓ofX9_119, ↓ofX9_122, ↓ofX9_125, ↓ocX9_copy_235, ↓spX9_isShelf, ev, G_240, G_241, G_242, G_243, G_244, G_245, G_246, G_247, G_248, G_249, G_250, G_251, G_252, G_253, G_254, G_255, G_256, G_257, G_258, G_259, G_260, G_261, G_262, G_263, G_264, G_265, G_266, G_267, G_268, G_269, G_270, G_271, G_272, PF_240_6, PF_240_7, PF_240_8, PF_240_9, PF_240_10, PF_240_11, PF_240_12, PF_240_13, PF_240_14, PF_240_15, PF_240_16, PF_240_17, PF_240_18, PF_240_19, PF_240_20, PF_240_21, PF_240_22, PF_240_23, PF_240_24, PF_240_26, PF_240_27, PF_240_28, PF_240_29, PF_240_30, PF_240_31, PF_240_32, PF_240_33, PF_240_34, PF_240_35, PF_240_36, PF_240_37]
    refine ⟨by omega, by omega, fun z => by omega, fun _ => ⟨by omega, by omega, by omega, by omega, ih _ (fun c q hc => (upI_ne hc).trans (h1 c q hc)) (fun q q0 q1 => ?_)⟩⟩
    by_cases z : q = k
    · rw [z, upI_same]
    · rw [upI_nj z]; exact h2 q q0 (by omega)
theorem lpC2 {post : Option MV → MS → Prop} {U : Pt → Prop} {N : Nat} {I L : Int → Int → Int} {d i e j n : Int} (d0 : 0 ≤ e) (d1 : e ≤ 7) (j0 : 0 ≤ j) (n1 : j + n ≤ 60)
    (h : ∀ J : Int → Int → Int, (∀ c q, ¬ (c = 270 ∧ 60 * e + j ≤ q ∧ q < 60 * e + j + n) → J c q = I c q) → (∀ q, 0 ≤ q → q < n → J 270 (60 * e + j + q) = I 271 q) → post (some (.inl n)) (N, PF, J, L)) :
    ∀ (m : Nat) (k : Int) (J : Int → Int → Int), k + m = n → 0 ≤ k → (∀ c q, ¬ (c = 270 ∧ 60 * e + j ≤ q ∧ q < 60 * e + j + n) → J c q = I c q) → (∀ q, 0 ≤ q → q < k → J 270 (60 * e + j + q) = I 271 q) →
    Ok RX9 cX9_copy 7 rmX9_copy false none post U (151, [some (.inr (.inr (some 240))), some (.inl d), some (.inl i), some (.inl e), some (.inl j), some (.inl n), some (.inl k)], [], (N, PF, J, L), 0, 0)
  | 0, k, J, hk, k0, h1, h2 => by
    refine Ok.seg mdX9_copy [151] 20 ?_
    simp only [wp_nil, wp_cons, ↓stp, ↓lI, ↓lL, ↓lR, ↓lIn_0, ↓lIn_1, ↓lIn_2, ↓lIn_3, ↓lLn_0, ↓lLn_1, ↓lLn_2, ↓lLn_3, ↓lRn_0, ↓lRn_1, ↓lRn_2, ↓lRn_3, ↓pI, ↓pL, ↓pR, ↓pA, ↓pN, ↓pV, ↓fp, ↓tsw, ↓oS, ↓spMax, ↓spMin, ↓spAbs, ↓spObj, RI, RLg, b2i_lo, b2i_hi, getL, setL, ltL, killL, isLong, inl, cnd, br, tgt, rcv, rpl, mputI, mputL, mputP, fv, fr, mcat, mcs, entL, entA, rfit, nf_0, nf_1, nf_2, nf_3, nf2_0, nf2_1, b2i_0, b2i_1, RI_b2i, b2i_fit, List.append, List.length, List.replicate, List.cons_append, List.nil_append, List.length_cons, List.length_nil, List.replicate_succ, List.replicate_zero, List.tail_cons, reduceIte, if_true, if_false, ite_true, ite_false, Bool.false_eq_true, true_and, and_true, and_self, false_and, and_false, or_self, or_true, true_or, or_false, false_or, not_true_eq_false, not_false_eq_true, ne_eq, forall_const, implies_true, imp_self, true_implies, false_implies, Nat.reduceAdd, Nat.reduceSub, Nat.reduceMul, Nat.reduceDiv, Nat.reduceMod, Nat.reduceEqDiff, Nat.reduceLT, Nat.reduceLeDiff, Nat.reduceBEq, Nat.add_zero, Nat.zero_add, Nat.le_refl, Nat.not_lt_zero, Nat.succ_eq_add_one, Int.reduceNatCast, Int.cast_ofNat_Int, Int.reduceSub, Int.reduceMul, Int.reduceNeg, Int.reduceLE, Int.reduceLT, Int.reduceToNat, Int.reduceEq, Int.reduceNe, Int.reduceAdd, Option.some.injEq, kX9_copy, rmX9_copy, ↓ofX9_104, ↓ofX9_119, ↓ofX9_122, ↓ofX9_125, ↓ocX9_copy_235, ↓spX9_isShelf, G_240, G_241, G_242, G_243, G_244, G_245, G_246, G_247, G_248, G_249, G_250, G_251, G_252, G_253, G_254, G_255, G_256, G_257, G_258, G_259, G_260, G_261, G_262, G_263, G_264, G_265, G_266, G_267, G_268, G_269, G_270, G_271, G_272, PF_240_6, PF_240_7, PF_240_8, PF_240_9, PF_240_10, PF_240_11, PF_240_12, PF_240_13, PF_240_14, PF_240_15, PF_240_16, PF_240_17, PF_240_18, PF_240_19, PF_240_20, PF_240_21, PF_240_22, PF_240_23, PF_240_24, PF_240_26, PF_240_27, PF_240_28, PF_240_29, PF_240_30, PF_240_31, PF_240_32, PF_240_33, PF_240_34, PF_240_35, PF_240_36, PF_240_37]
    rw [show k = n by omega] at h2
    exact ⟨by omega, by omega, fun _ => h J h1 h2, fun q => by omega⟩
  | m + 1, k, J, hk, k0, h1, h2 => by
    have ih := fun J => lpC2 (U := U) (post := post) (N := N) (L := L) (d := d) (i := i) d0 d1 j0 n1 h m (k + 1) J (by omega) (by omega)
    have ev := h1 271 k (by omega)
    refine Ok.seg mdX9_copy [151] 20 ?_
    simp only [wp_nil, wp_cons, ↓stp, ↓lI, ↓lL, ↓lR, ↓lIn_0, ↓lIn_1, ↓lIn_2, ↓lIn_3, ↓lLn_0, ↓lLn_1, ↓lLn_2, ↓lLn_3, ↓lRn_0, ↓lRn_1, ↓lRn_2, ↓lRn_3, ↓pI, ↓pL, ↓pR, ↓pA, ↓pN, ↓pV, ↓fp, ↓tsw, ↓oS, ↓spMax, ↓spMin, ↓spAbs, ↓spObj, RI, RLg, b2i_lo, b2i_hi, getL, setL, ltL, killL, isLong, inl, cnd, br, tgt, rcv, rpl, mputI, mputL, mputP, fv, fr, mcat, mcs, entL, entA, rfit, nf_0, nf_1, nf_2, nf_3, nf2_0, nf2_1, b2i_0, b2i_1, RI_b2i, b2i_fit, List.append, List.length, List.replicate, List.cons_append, List.nil_append, List.length_cons, List.length_nil, List.replicate_succ, List.replicate_zero, List.tail_cons, reduceIte, if_true, if_false, ite_true, ite_false, Bool.false_eq_true, true_and, and_true, and_self, false_and, and_false, or_self, or_true, true_or, or_false, false_or, not_true_eq_false, not_false_eq_true, ne_eq, forall_const, implies_true, imp_self, true_implies, false_implies, Nat.reduceAdd, Nat.reduceSub, Nat.reduceMul, Nat.reduceDiv, Nat.reduceMod, Nat.reduceEqDiff, Nat.reduceLT, Nat.reduceLeDiff, Nat.reduceBEq, Nat.add_zero, Nat.zero_add, Nat.le_refl, Nat.not_lt_zero, Nat.succ_eq_add_one, Int.reduceNatCast, Int.cast_ofNat_Int, Int.reduceSub, Int.reduceMul, Int.reduceNeg, Int.reduceLE, Int.reduceLT, Int.reduceToNat, Int.reduceEq, Int.reduceNe, Int.reduceAdd, Option.some.injEq, kX9_copy, rmX9_copy, ↓ofX9_104, ↓ofX9_119, ↓ofX9_122, ↓ofX9_125, ↓ocX9_copy_235, ↓spX9_isShelf, ev, G_240, G_241, G_242, G_243, G_244, G_245, G_246, G_247, G_248, G_249, G_250, G_251, G_252, G_253, G_254, G_255, G_256, G_257, G_258, G_259, G_260, G_261, G_262, G_263, G_264, G_265, G_266, G_267, G_268, G_269, G_270, G_271, G_272, PF_240_6, PF_240_7, PF_240_8, PF_240_9, PF_240_10, PF_240_11, PF_240_12, PF_240_13, PF_240_14, PF_240_15, PF_240_16, PF_240_17, PF_240_18, PF_240_19, PF_240_20, PF_240_21, PF_240_22, PF_240_23, PF_240_24, PF_240_26, PF_240_27, PF_240_28, PF_240_29, PF_240_30, PF_240_31, PF_240_32, PF_240_33, PF_240_34, PF_240_35, PF_240_36, PF_240_37]
    refine ⟨by omega, by omega, fun z => by omega, fun _ => ⟨by omega, by omega, by omega, by omega, ih _ (fun c q hc => ?_) (fun q q0 q1 => ?_)⟩⟩
    · exact (if_neg (by omega)).trans (h1 c q hc)
    · by_cases z : q = k
      · rw [z, upI_same]
      · rw [upI_nj (by omega)]; exact h2 q q0 (by omega)
set_option maxRecDepth 100000 in
set_option maxHeartbeats 800000 in
theorem mX9_copy : MOK yX9_copy cX9_copy 7 (some .int) rmX9_copy ciX9_copy := by
  refine mok_of (ini := false) (by decide +kernel) (by decide) rfl rfl ?_
  intro σ As K hrc hl h
  obtain ⟨N, P, I, L⟩ := σ
  have h9 := pR_iff.mp h
  clear h
  obtain ⟨a, r, e9, h⟩ := h9
  subst e9
  have h9 := pI_iff.mp h
  clear h
  obtain ⟨d, r, e9, h⟩ := h9
  subst e9
  have h9 := pI_iff.mp h
  clear h
  obtain ⟨i, r, e9, h⟩ := h9
  subst e9
  have h9 := pI_iff.mp h
  clear h
  obtain ⟨e, r, e9, h⟩ := h9
  subst e9
  have h9 := pI_iff.mp h
  clear h
  obtain ⟨j, r, e9, h⟩ := h9
  subst e9
  have h9 := pI_iff.mp h
  clear h
  obtain ⟨n, r, e9, h⟩ := h9
  subst e9
  have h9 := pN_iff.mp h
  clear h
  obtain ⟨e9, h⟩ := h9
  subst e9
  try dsimp only at h
  obtain ⟨rfl, rfl, hd, hi, he, hj, hn, hx, h1, h2⟩ := h
  unfold RI at hd hi he hj hn
  by_cases q : 0 ≤ d ∧ d ≤ 7
  · by_cases q' : 0 ≤ e ∧ e ≤ 7
    · have sb := hx.2.2.2.2 d q.1 q.2
      have se := hx.2.2.2.2 e q'.1 q'.2
      have r0 := sb.1
      have r1 := sb.2.1
      have r2 := se.1
      have r3 := se.2.1
      obtain ⟨h3, h4⟩ := h2 (by omega)
      refine ⟨Nat.le_of_ble_eq_true rfl, Ok.seg mdX9_copy [114] 80 ?_⟩
      simp only [wp_nil, wp_cons, ↓stp, ↓lI, ↓lL, ↓lR, ↓lIn_0, ↓lIn_1, ↓lIn_2, ↓lIn_3, ↓lLn_0, ↓lLn_1, ↓lLn_2, ↓lLn_3, ↓lRn_0, ↓lRn_1, ↓lRn_2, ↓lRn_3, ↓pI, ↓pL, ↓pR, ↓pA, ↓pN, ↓pV, ↓fp, ↓tsw, ↓oS, ↓spMax, ↓spMin, ↓spAbs, ↓spObj, RI, RLg, b2i_lo, b2i_hi, getL, setL, ltL, killL, isLong, inl, cnd, br, tgt, rcv, rpl, mputI, mputL, mputP, fv, fr, mcat, mcs, entL, entA, rfit, nf_0, nf_1, nf_2, nf_3, nf2_0, nf2_1, b2i_0, b2i_1, RI_b2i, b2i_fit, List.append, List.length, List.replicate, List.cons_append, List.nil_append, List.length_cons, List.length_nil, List.replicate_succ, List.replicate_zero, List.tail_cons, reduceIte, if_true, if_false, ite_true, ite_false, Bool.false_eq_true, true_and, and_true, and_self, false_and, and_false, or_self, or_true, true_or, or_false, false_or, not_true_eq_false, not_false_eq_true, ne_eq, forall_const, implies_true, imp_self, true_implies, false_implies, Nat.reduceAdd, Nat.reduceSub, Nat.reduceMul, Nat.reduceDiv, Nat.reduceMod, Nat.reduceEqDiff, Nat.reduceLT, Nat.reduceLeDiff, Nat.reduceBEq, Nat.add_zero, Nat.zero_add, Nat.le_refl, Nat.not_lt_zero, Nat.succ_eq_add_one, Int.reduceNatCast, Int.cast_ofNat_Int, Int.reduceSub, Int.reduceMul, Int.reduceNeg, Int.reduceLE, Int.reduceLT, Int.reduceToNat, Int.reduceEq, Int.reduceNe, Int.reduceAdd, Option.some.injEq, kX9_copy, rmX9_copy, ↓ofX9_104, ↓ofX9_119, ↓ofX9_122, ↓ofX9_125, ↓ocX9_copy_235, ↓spX9_isShelf, q, q', G_240, G_241, G_242, G_243, G_244, G_245, G_246, G_247, G_248, G_249, G_250, G_251, G_252, G_253, G_254, G_255, G_256, G_257, G_258, G_259, G_260, G_261, G_262, G_263, G_264, G_265, G_266, G_267, G_268, G_269, G_270, G_271, G_272, PF_240_6, PF_240_7, PF_240_8, PF_240_9, PF_240_10, PF_240_11, PF_240_12, PF_240_13, PF_240_14, PF_240_15, PF_240_16, PF_240_17, PF_240_18, PF_240_19, PF_240_20, PF_240_21, PF_240_22, PF_240_23, PF_240_24, PF_240_26, PF_240_27, PF_240_28, PF_240_29, PF_240_30, PF_240_31, PF_240_32, PF_240_33, PF_240_34, PF_240_35, PF_240_36, PF_240_37]
      refine ⟨by omega, by omega, by omega, by omega, fun z => h3 (.inl z), fun z => ⟨by omega, by omega, fun z2 => ?_, fun z2 => h3 (.inr (by omega))⟩⟩
      obtain ⟨h5, h6⟩ := h4 (fun y => y.elim z z2)
      refine ⟨by omega, by omega, fun z3 => h5 (.inl z3), fun z3 => ⟨by omega, by omega, by omega, by omega, fun z4 => ?_, fun z4 => h5 (.inr z4)⟩⟩
      obtain ⟨h7, h8⟩ := h6 (by omega)
      refine ⟨by omega, fun y => h7 (by omega), fun y1 => ⟨by omega, fun y => h7 (by omega), fun y2 => ⟨by omega, fun y => h7 (by omega), fun y3 => ⟨by omega, by omega, by omega, fun y => h7 (by omega), fun y4 => ⟨by omega, by omega, by omega, fun y5 => ?_, fun y => h7 (by omega)⟩⟩⟩⟩⟩
      refine lpC1 q.1 q.2 (by omega) (by omega) (fun J a1 a2 => ?_) n.toNat 0 I (by omega) (by omega) (fun _ _ _ => rfl) (fun k a b => by omega)
      refine Ok.seg mdX9_copy [151] 60 ?_
      simp only [wp_nil, wp_cons, ↓stp, ↓lI, ↓lL, ↓lR, ↓lIn_0, ↓lIn_1, ↓lIn_2, ↓lIn_3, ↓lLn_0, ↓lLn_1, ↓lLn_2, ↓lLn_3, ↓lRn_0, ↓lRn_1, ↓lRn_2, ↓lRn_3, ↓pI, ↓pL, ↓pR, ↓pA, ↓pN, ↓pV, ↓fp, ↓tsw, ↓oS, ↓spMax, ↓spMin, ↓spAbs, ↓spObj, RI, RLg, b2i_lo, b2i_hi, getL, setL, ltL, killL, isLong, inl, cnd, br, tgt, rcv, rpl, mputI, mputL, mputP, fv, fr, mcat, mcs, entL, entA, rfit, nf_0, nf_1, nf_2, nf_3, nf2_0, nf2_1, b2i_0, b2i_1, RI_b2i, b2i_fit, List.append, List.length, List.replicate, List.cons_append, List.nil_append, List.length_cons, List.length_nil, List.replicate_succ, List.replicate_zero, List.tail_cons, reduceIte, if_true, if_false, ite_true, ite_false, Bool.false_eq_true, true_and, and_true, and_self, false_and, and_false, or_self, or_true, true_or, or_false, false_or, not_true_eq_false, not_false_eq_true, ne_eq, forall_const, implies_true, imp_self, true_implies, false_implies, Nat.reduceAdd, Nat.reduceSub, Nat.reduceMul, Nat.reduceDiv, Nat.reduceMod, Nat.reduceEqDiff, Nat.reduceLT, Nat.reduceLeDiff, Nat.reduceBEq, Nat.add_zero, Nat.zero_add, Nat.le_refl, Nat.not_lt_zero, Nat.succ_eq_add_one, Int.reduceNatCast, Int.cast_ofNat_Int, Int.reduceSub, Int.reduceMul, Int.reduceNeg, Int.reduceLE, Int.reduceLT, Int.reduceToNat, Int.reduceEq, Int.reduceNe, Int.reduceAdd, Option.some.injEq, kX9_copy, rmX9_copy, ↓ofX9_104, ↓ofX9_119, ↓ofX9_122, ↓ofX9_125, ↓ocX9_copy_235, ↓spX9_isShelf, G_240, G_241, G_242, G_243, G_244, G_245, G_246, G_247, G_248, G_249, G_250, G_251, G_252, G_253, G_254, G_255, G_256, G_257, G_258, G_259, G_260, G_261, G_262, G_263, G_264, G_265, G_266, G_267, G_268, G_269, G_270, G_271, G_272, PF_240_6, PF_240_7, PF_240_8, PF_240_9, PF_240_10, PF_240_11, PF_240_12, PF_240_13, PF_240_14, PF_240_15, PF_240_16, PF_240_17, PF_240_18, PF_240_19, PF_240_20, PF_240_21, PF_240_22, PF_240_23, PF_240_24, PF_240_26, PF_240_27, PF_240_28, PF_240_29, PF_240_30, PF_240_31, PF_240_32, PF_240_33, PF_240_34, PF_240_35, PF_240_36, PF_240_37]
      refine lpC2 (I := J) (post := fun r σ' => rfit (some .int) r ∧ K r σ') q'.1 q'.2 (by omega) (by omega) (fun M b1 b2 => ⟨trivial, ?_⟩) n.toNat 0 J (by omega) (by omega) (fun _ _ _ => rfl) (fun k a b => by omega)
      have fM : ∀ c k, c ≠ 271 → ¬ (c = 270 ∧ 60 * e + j ≤ k ∧ k < 60 * e + j + n) → M c k = I c k := fun c k y6 y7 => (b1 c k y7).trans (a1 c k y6)
      have eM : ∀ k, 0 ≤ k → k < n → M 270 (60 * e + j + k) = I 270 (60 * d + i + k) := fun k k0 k1 => (b2 k k0 k1).trans (a2 k k0 k1)
      refine h8 (by omega) M fM eM (mOK_H hx (fun c k hc => fM c k (by omega) (by omega)) (fun f f0 f1 => ?_))
      have sf := hx.2.2.2.2 f f0 f1
      unfold msh
      rw [fM 264 f (by omega) (by omega), fM 265 f (by omega) (by omega), fM 266 f (by omega) (by omega), fM 267 f (by omega) (by omega), fM 268 f (by omega) (by omega), fM 269 f (by omega) (by omega)]
      refine ⟨sf.1, sf.2.1, sf.2.2.1, fun p p0 p1 => ?_⟩
      by_cases y : 60 * e + j ≤ 60 * f + p ∧ 60 * f + p < 60 * e + j + n
      · have := eM (60 * f + p - (60 * e + j)) (by omega) (by omega)
        rw [show 60 * e + j + (60 * f + p - (60 * e + j)) = 60 * f + p by omega, show 60 * d + i + (60 * f + p - (60 * e + j)) = 60 * d + (i + (60 * f + p - (60 * e + j))) by omega] at this
        rw [this]
        exact sb.2.2.2 _ (by omega) (by omega)
      · rw [fM _ _ (by omega) (fun w => y w.2)]
        exact sf.2.2.2 p p0 p1
    · refine ⟨Nat.le_of_ble_eq_true rfl, Ok.seg mdX9_copy [114] 60 ?_⟩
      simp only [wp_nil, wp_cons, ↓stp, ↓lI, ↓lL, ↓lR, ↓lIn_0, ↓lIn_1, ↓lIn_2, ↓lIn_3, ↓lLn_0, ↓lLn_1, ↓lLn_2, ↓lLn_3, ↓lRn_0, ↓lRn_1, ↓lRn_2, ↓lRn_3, ↓pI, ↓pL, ↓pR, ↓pA, ↓pN, ↓pV, ↓fp, ↓tsw, ↓oS, ↓spMax, ↓spMin, ↓spAbs, ↓spObj, RI, RLg, b2i_lo, b2i_hi, getL, setL, ltL, killL, isLong, inl, cnd, br, tgt, rcv, rpl, mputI, mputL, mputP, fv, fr, mcat, mcs, entL, entA, rfit, nf_0, nf_1, nf_2, nf_3, nf2_0, nf2_1, b2i_0, b2i_1, RI_b2i, b2i_fit, List.append, List.length, List.replicate, List.cons_append, List.nil_append, List.length_cons, List.length_nil, List.replicate_succ, List.replicate_zero, List.tail_cons, reduceIte, if_true, if_false, ite_true, ite_false, Bool.false_eq_true, true_and, and_true, and_self, false_and, and_false, or_self, or_true, true_or, or_false, false_or, not_true_eq_false, not_false_eq_true, ne_eq, forall_const, implies_true, imp_self, true_implies, false_implies, Nat.reduceAdd, Nat.reduceSub, Nat.reduceMul, Nat.reduceDiv, Nat.reduceMod, Nat.reduceEqDiff, Nat.reduceLT, Nat.reduceLeDiff, Nat.reduceBEq, Nat.add_zero, Nat.zero_add, Nat.le_refl, Nat.not_lt_zero, Nat.succ_eq_add_one, Int.reduceNatCast, Int.cast_ofNat_Int, Int.reduceSub, Int.reduceMul, Int.reduceNeg, Int.reduceLE, Int.reduceLT, Int.reduceToNat, Int.reduceEq, Int.reduceNe, Int.reduceAdd, Option.some.injEq, kX9_copy, rmX9_copy, ↓ofX9_104, ↓ofX9_119, ↓ofX9_122, ↓ofX9_125, ↓ocX9_copy_235, ↓spX9_isShelf, q, q', G_240, G_241, G_242, G_243, G_244, G_245, G_246, G_247, G_248, G_249, G_250, G_251, G_252, G_253, G_254, G_255, G_256, G_257, G_258, G_259, G_260, G_261, G_262, G_263, G_264, G_265, G_266, G_267, G_268, G_269, G_270, G_271, G_272, PF_240_6, PF_240_7, PF_240_8, PF_240_9, PF_240_10, PF_240_11, PF_240_12, PF_240_13, PF_240_14, PF_240_15, PF_240_16, PF_240_17, PF_240_18, PF_240_19, PF_240_20, PF_240_21, PF_240_22, PF_240_23, PF_240_24, PF_240_26, PF_240_27, PF_240_28, PF_240_29, PF_240_30, PF_240_31, PF_240_32, PF_240_33, PF_240_34, PF_240_35, PF_240_36, PF_240_37]
      exact ⟨by omega, by omega, h1 (by omega)⟩
  · refine ⟨Nat.le_of_ble_eq_true rfl, Ok.seg mdX9_copy [114] 60 ?_⟩
    simp only [wp_nil, wp_cons, ↓stp, ↓lI, ↓lL, ↓lR, ↓lIn_0, ↓lIn_1, ↓lIn_2, ↓lIn_3, ↓lLn_0, ↓lLn_1, ↓lLn_2, ↓lLn_3, ↓lRn_0, ↓lRn_1, ↓lRn_2, ↓lRn_3, ↓pI, ↓pL, ↓pR, ↓pA, ↓pN, ↓pV, ↓fp, ↓tsw, ↓oS, ↓spMax, ↓spMin, ↓spAbs, ↓spObj, RI, RLg, b2i_lo, b2i_hi, getL, setL, ltL, killL, isLong, inl, cnd, br, tgt, rcv, rpl, mputI, mputL, mputP, fv, fr, mcat, mcs, entL, entA, rfit, nf_0, nf_1, nf_2, nf_3, nf2_0, nf2_1, b2i_0, b2i_1, RI_b2i, b2i_fit, List.append, List.length, List.replicate, List.cons_append, List.nil_append, List.length_cons, List.length_nil, List.replicate_succ, List.replicate_zero, List.tail_cons, reduceIte, if_true, if_false, ite_true, ite_false, Bool.false_eq_true, true_and, and_true, and_self, false_and, and_false, or_self, or_true, true_or, or_false, false_or, not_true_eq_false, not_false_eq_true, ne_eq, forall_const, implies_true, imp_self, true_implies, false_implies, Nat.reduceAdd, Nat.reduceSub, Nat.reduceMul, Nat.reduceDiv, Nat.reduceMod, Nat.reduceEqDiff, Nat.reduceLT, Nat.reduceLeDiff, Nat.reduceBEq, Nat.add_zero, Nat.zero_add, Nat.le_refl, Nat.not_lt_zero, Nat.succ_eq_add_one, Int.reduceNatCast, Int.cast_ofNat_Int, Int.reduceSub, Int.reduceMul, Int.reduceNeg, Int.reduceLE, Int.reduceLT, Int.reduceToNat, Int.reduceEq, Int.reduceNe, Int.reduceAdd, Option.some.injEq, kX9_copy, rmX9_copy, ↓ofX9_104, ↓ofX9_119, ↓ofX9_122, ↓ofX9_125, ↓ocX9_copy_235, ↓spX9_isShelf, q, G_240, G_241, G_242, G_243, G_244, G_245, G_246, G_247, G_248, G_249, G_250, G_251, G_252, G_253, G_254, G_255, G_256, G_257, G_258, G_259, G_260, G_261, G_262, G_263, G_264, G_265, G_266, G_267, G_268, G_269, G_270, G_271, G_272, PF_240_6, PF_240_7, PF_240_8, PF_240_9, PF_240_10, PF_240_11, PF_240_12, PF_240_13, PF_240_14, PF_240_15, PF_240_16, PF_240_17, PF_240_18, PF_240_19, PF_240_20, PF_240_21, PF_240_22, PF_240_23, PF_240_24, PF_240_26, PF_240_27, PF_240_28, PF_240_29, PF_240_30, PF_240_31, PF_240_32, PF_240_33, PF_240_34, PF_240_35, PF_240_36, PF_240_37]
    exact ⟨by omega, h1 (by omega)⟩
