/-! LapBoardModel: timeOf, timeAt, quicken, stay, quickest, timeInAll, along -/
def spX9_timeOf (As : List MV) (σ : MS) (K : Option MV → MS → Prop) : Prop := pR As fun a r => pI r fun i r => pI r fun ch r => pI r fun p r => pN r (a = 240 ∧ σ.2.1 = PF ∧ 0 ≤ i ∧ i < 30 ∧ (ch = 0 ∨ ch = 1) ∧ (1 ≤ σ.2.2.1 242 i ∧ σ.2.2.1 242 i ≤ 99) ∧ 1 ≤ p ∧ p ≤ 1000 ∧ K (some (.inl (tmv (σ.2.2.1 242 i) ch p))) σ)
def ciX9_timeOf : CI := (4, 9, 0, 0, spX9_timeOf)
def kX9_timeOf (pc : Nat) : List ME := match pc with
  | 0 => [(.aload_n 0, 1, []), (.getfield 32, 3, []), (.iload_n 1, 1, []), (.iaload, 1, []), (.iload_n 2, 1, []), (.ifCond .eq 7, 3, [14]), (.iconst 2, 1, []), (.goto 4, 3, [15])]
  | 14 => [(.iconst 0, 1, [])]
  | 15 => [(.iadd, 1, []), (.sipush 1000, 3, []), (.imul, 1, []), (.iload_n 3, 1, []), (.idiv, 1, []), (.ireturn, 1, [])]
  | _ => []
theorem qX9_timeOf : ∀ pc, chk cX9_timeOf pc (kX9_timeOf pc) = true := by
  intro pc
  unfold kX9_timeOf
  split <;> first | decide +kernel | exact chk_nil
abbrev rmX9_timeOf : Room := { frames := 0, cells := 0, slots := 0, locals := 0 }
def aX9_timeOf (_ : Nat) : Option CI := none
theorem aokX9_timeOf : ∀ x ci, aX9_timeOf x = some ci → CalOK RX9 rmX9_timeOf x ci := fun _ _ h => by cases h
theorem mdX9_timeOf : MD RX9 cX9_timeOf rmX9_timeOf kX9_timeOf fX9 aX9_timeOf zX9 uX9 := ⟨fokX9, zokX9, uokX9, aokX9_timeOf, qX9_timeOf⟩
set_option maxRecDepth 100000 in
set_option maxHeartbeats 800000 in
theorem mX9_timeOf : MOK yX9_timeOf cX9_timeOf 4 (some .int) rmX9_timeOf ciX9_timeOf := by
  refine mok_of (ini := false) (by decide +kernel) (by decide) rfl rfl ?_
  intro σ As K hrc hl h
  obtain ⟨N, P, I, L⟩ := σ
  have h9 := pR_iff.mp h
  clear h
  obtain ⟨a, r, e9, h⟩ := h9
  subst e9
  have h9 := pI_iff.mp h
  clear h
  obtain ⟨i, r, e9, h⟩ := h9
  subst e9
  have h9 := pI_iff.mp h
  clear h
  obtain ⟨ch, r, e9, h⟩ := h9
  subst e9
  have h9 := pI_iff.mp h
  clear h
  obtain ⟨p, r, e9, h⟩ := h9
  subst e9
  have h9 := pN_iff.mp h
  clear h
  obtain ⟨e9, h⟩ := h9
  subst e9
  try dsimp only at h
  obtain ⟨rfl, rfl, i0, i1, hc, hl2, p0, p1, h⟩ := h
  refine ⟨Nat.le_of_ble_eq_true rfl, Ok.seg mdX9_timeOf [] 30 ?_⟩
  unfold tmv at h
  rw [if_pos (by omega)] at h
  rcases hc with rfl | rfl
  · simp only [wp_nil, wp_cons, ↓stp, ↓lI, ↓lL, ↓lR, ↓lIn_0, ↓lIn_1, ↓lIn_2, ↓lIn_3, ↓lLn_0, ↓lLn_1, ↓lLn_2, ↓lLn_3, ↓lRn_0, ↓lRn_1, ↓lRn_2, ↓lRn_3, ↓pI, ↓pL, ↓pR, ↓pA, ↓pN, ↓pV, ↓fp, ↓tsw, ↓oS, ↓spMax, ↓spMin, ↓spAbs, ↓spObj, RI, RLg, b2i_lo, b2i_hi, getL, setL, ltL, killL, isLong, inl, cnd, br, tgt, rcv, rpl, mputI, mputL, mputP, fv, fr, mcat, mcs, entL, entA, rfit, nf_0, nf_1, nf_2, nf_3, nf2_0, nf2_1, b2i_0, b2i_1, RI_b2i, b2i_fit, List.append, List.length, List.replicate, List.cons_append, List.nil_append, List.length_cons, List.length_nil, List.replicate_succ, List.replicate_zero, List.tail_cons, reduceIte, if_true, if_false, ite_true, ite_false, Bool.false_eq_true, true_and, and_true, and_self, false_and, and_false, or_self, or_true, true_or, or_false, false_or, not_true_eq_false, not_false_eq_true, ne_eq, forall_const, implies_true, imp_self, true_implies, false_implies, Nat.reduceAdd, Nat.reduceSub, Nat.reduceMul, Nat.reduceDiv, Nat.reduceMod, Nat.reduceEqDiff, Nat.reduceLT, Nat.reduceLeDiff, Nat.reduceBEq, Nat.add_zero, Nat.zero_add, Nat.le_refl, Nat.not_lt_zero, Nat.succ_eq_add_one, Int.reduceNatCast, Int.cast_ofNat_Int, Int.reduceSub, Int.reduceMul, Int.reduceNeg, Int.reduceLE, Int.reduceLT, Int.reduceToNat, Int.reduceEq, Int.reduceNe, Int.reduceAdd, Option.some.injEq, kX9_timeOf, rmX9_timeOf, ↓ofX9_32, G_240, G_241, G_242, G_243, G_244, G_245, G_246, G_247, G_248, G_249, G_250, G_251, G_252, G_253, G_254, G_255, G_256, G_257, G_258, G_259, G_260, G_261, G_262, G_263, G_264, G_265, G_266, G_267, G_268, G_269, G_270, G_271, G_272, PF_240_6, PF_240_7, PF_240_8, PF_240_9, PF_240_10, PF_240_11, PF_240_12, PF_240_13, PF_240_14, PF_240_15, PF_240_16, PF_240_17, PF_240_18, PF_240_19, PF_240_20, PF_240_21, PF_240_22, PF_240_23, PF_240_24, PF_240_26, PF_240_27, PF_240_28, PF_240_29, PF_240_30, PF_240_31, PF_240_32, PF_240_33, PF_240_34, PF_240_35, PF_240_36, PF_240_37]
    rw [if_pos rfl, ← Int.tdiv_eq_ediv_of_nonneg (by omega)] at h
    exact ⟨i0, i1, by omega, by omega, by omega, h⟩
  · simp only [wp_nil, wp_cons, ↓stp, ↓lI, ↓lL, ↓lR, ↓lIn_0, ↓lIn_1, ↓lIn_2, ↓lIn_3, ↓lLn_0, ↓lLn_1, ↓lLn_2, ↓lLn_3, ↓lRn_0, ↓lRn_1, ↓lRn_2, ↓lRn_3, ↓pI, ↓pL, ↓pR, ↓pA, ↓pN, ↓pV, ↓fp, ↓tsw, ↓oS, ↓spMax, ↓spMin, ↓spAbs, ↓spObj, RI, RLg, b2i_lo, b2i_hi, getL, setL, ltL, killL, isLong, inl, cnd, br, tgt, rcv, rpl, mputI, mputL, mputP, fv, fr, mcat, mcs, entL, entA, rfit, nf_0, nf_1, nf_2, nf_3, nf2_0, nf2_1, b2i_0, b2i_1, RI_b2i, b2i_fit, List.append, List.length, List.replicate, List.cons_append, List.nil_append, List.length_cons, List.length_nil, List.replicate_succ, List.replicate_zero, List.tail_cons, reduceIte, if_true, if_false, ite_true, ite_false, Bool.false_eq_true, true_and, and_true, and_self, false_and, and_false, or_self, or_true, true_or, or_false, false_or, not_true_eq_false, not_false_eq_true, ne_eq, forall_const, implies_true, imp_self, true_implies, false_implies, Nat.reduceAdd, Nat.reduceSub, Nat.reduceMul, Nat.reduceDiv, Nat.reduceMod, Nat.reduceEqDiff, Nat.reduceLT, Nat.reduceLeDiff, Nat.reduceBEq, Nat.add_zero, Nat.zero_add, Nat.le_refl, Nat.not_lt_zero, Nat.succ_eq_add_one, Int.reduceNatCast, Int.cast_ofNat_Int, Int.reduceSub, Int.reduceMul, Int.reduceNeg, Int.reduceLE, Int.reduceLT, Int.reduceToNat, Int.reduceEq, Int.reduceNe, Int.reduceAdd, Option.some.injEq, kX9_timeOf, rmX9_timeOf, ↓ofX9_32, G_240, G_241, G_242, G_243, G_244, G_245, G_246, G_247, G_248, G_249, G_250, G_251, G_252, G_253, G_254, G_255, G_256, G_257, G_258, G_259, G_260, G_261, G_262, G_263, G_264, G_265, G_266, G_267, G_268, G_269, G_270, G_271, G_272, PF_240_6, PF_240_7, PF_240_8, PF_240_9, PF_240_10, PF_240_11, PF_240_12, PF_240_13, PF_240_14, PF_240_15, PF_240_16, PF_240_17, PF_240_18, PF_240_19, PF_240_20, PF_240_21, PF_240_22, PF_240_23, PF_240_24, PF_240_26, PF_240_27, PF_240_28, PF_240_29, PF_240_30, PF_240_31, PF_240_32, PF_240_33, PF_240_34, PF_240_35, PF_240_36, PF_240_37]
    rw [if_neg (by omega), ← Int.tdiv_eq_ediv_of_nonneg (by omega)] at h
    exact ⟨i0, i1, by omega, by omega, by omega, h⟩
def spX9_timeAt (As : List MV) (σ : MS) (K : Option MV → MS → Prop) : Prop := pR As fun a r => pI r fun i r => pN r (a = 240 ∧ σ.2.1 = PF ∧ 0 ≤ i ∧ i < 30 ∧ (1 ≤ σ.2.2.1 242 i ∧ σ.2.2.1 242 i ≤ 99) ∧ (1 ≤ σ.2.2.1 251 i ∧ σ.2.2.1 251 i ≤ 60) ∧ (∀ j, 0 ≤ j → j ≤ i → 0 ≤ σ.2.2.1 250 j ∧ σ.2.2.1 250 j ≤ 2) ∧ K (some (.inl (tmv (σ.2.2.1 242 i) (lch (σ.2.2.1 250) i) (σ.2.2.1 251 i)))) σ)
def ciX9_timeAt : CI := (2, 9, 0, 0, spX9_timeAt)
def kX9_timeAt (pc : Nat) : List ME := match pc with
  | 0 => [(.aload_n 0, 1, []), (.iload_n 1, 1, []), (.iload_n 1, 1, []), (.ifCond .le 24, 3, [27]), (.aload_n 0, 1, []), (.getfield 58, 3, []), (.iload_n 1, 1, []), (.iaload, 1, []), (.aload_n 0, 1, []), (.getfield 58, 3, []), (.iload_n 1, 1, []), (.iconst 1, 1, []), (.isub, 1, []), (.iaload, 1, []), (.if_icmp .eq 7, 3, [27]), (.iconst 1, 1, []), (.goto 4, 3, [28])]
  | 27 => [(.iconst 0, 1, [])]
  | 28 => [(.aload_n 0, 1, []), (.getfield 61, 3, []), (.iload_n 1, 1, []), (.iaload, 1, []), (.invokevirtual 156, 3, []), (.ireturn, 1, [])]
  | _ => []
theorem qX9_timeAt : ∀ pc, chk cX9_timeAt pc (kX9_timeAt pc) = true := by
  intro pc
  unfold kX9_timeAt
  split <;> first | decide +kernel | exact chk_nil
abbrev rmX9_timeAt : Room := { frames := 1, cells := 0, slots := 0, locals := 23 }
def aX9_timeAt (x : Nat) : Option CI := match x with
  | 156 => some ciX9_timeOf
  | _ => none
theorem aokX9_timeAt : ∀ x ci, aX9_timeAt x = some ci → CalOK RX9 rmX9_timeAt x ci := by
  intro x ci h
  unfold aX9_timeAt at h
  split at h
  · cases h; exact cal_V mX9_timeOf (by decide) rfl (List.forall_mem_cons.mpr ⟨(ws_mem (List.mem_of_getElem? (i := 1060) (by decide +kernel)) (by decide +kernel)), List.forall_mem_cons.mpr ⟨(ws_mem (List.mem_of_getElem? (i := 1062) (by decide +kernel)) (by decide +kernel)), List.forall_mem_cons.mpr ⟨(ws_mem (List.mem_of_getElem? (i := 31) (by decide +kernel)) (by decide +kernel)), List.forall_mem_cons.mpr ⟨(ws_mem (List.mem_of_getElem? (i := 64) (by decide +kernel)) (by decide +kernel)), List.forall_mem_cons.mpr ⟨(ws_mem (List.mem_of_getElem? (i := 1063) (by decide +kernel)) (by decide +kernel)), fun _ h => absurd h List.not_mem_nil⟩⟩⟩⟩⟩) rfl (by unfold nice; decide +kernel) (by unfold rfits; decide) ⟨rfl, rfl⟩
  · cases h
theorem ocX9_timeAt_156 (f : Nat → Nat → Nat → Nat → (List MV → MS → (Option MV → MS → Prop) → Prop) → Prop) : oC aX9_timeAt 156 f = f 4 9 0 0 spX9_timeOf := propext Iff.rfl
theorem mdX9_timeAt : MD RX9 cX9_timeAt rmX9_timeAt kX9_timeAt fX9 aX9_timeAt zX9 uX9 := ⟨fokX9, zokX9, uokX9, aokX9_timeAt, qX9_timeAt⟩
set_option maxRecDepth 100000 in
set_option maxHeartbeats 800000 in
theorem mX9_timeAt : MOK yX9_timeAt cX9_timeAt 2 (some .int) rmX9_timeAt ciX9_timeAt := by
  refine mok_of (ini := false) (by decide +kernel) (by decide) rfl rfl ?_
  intro σ As K hrc hl h
  obtain ⟨N, P, I, L⟩ := σ
  have h9 := pR_iff.mp h
  clear h
  obtain ⟨a, r, e9, h⟩ := h9
  subst e9
  have h9 := pI_iff.mp h
  clear h
  obtain ⟨i, r, e9, h⟩ := h9
  subst e9
  have h9 := pN_iff.mp h
  clear h
  obtain ⟨e9, h⟩ := h9
  subst e9
  try dsimp only at h
  obtain ⟨rfl, rfl, i0, i1, hl2, hp, hr, h⟩ := h
  have r0 := hr i i0 (by omega)
  refine ⟨Nat.le_of_ble_eq_true rfl, Ok.seg mdX9_timeAt [] 30 ?_⟩
  simp only [wp_nil, wp_cons, ↓stp, ↓lI, ↓lL, ↓lR, ↓lIn_0, ↓lIn_1, ↓lIn_2, ↓lIn_3, ↓lLn_0, ↓lLn_1, ↓lLn_2, ↓lLn_3, ↓lRn_0, ↓lRn_1, ↓lRn_2, ↓lRn_3, ↓pI, ↓pL, ↓pR, ↓pA, ↓pN, ↓pV, ↓fp, ↓tsw, ↓oS, ↓spMax, ↓spMin, ↓spAbs, ↓spObj, RI, RLg, b2i_lo, b2i_hi, getL, setL, ltL, killL, isLong, inl, cnd, br, tgt, rcv, rpl, mputI, mputL, mputP, fv, fr, mcat, mcs, entL, entA, rfit, nf_0, nf_1, nf_2, nf_3, nf2_0, nf2_1, b2i_0, b2i_1, RI_b2i, b2i_fit, List.append, List.length, List.replicate, List.cons_append, List.nil_append, List.length_cons, List.length_nil, List.replicate_succ, List.replicate_zero, List.tail_cons, reduceIte, if_true, if_false, ite_true, ite_false, Bool.false_eq_true, true_and, and_true, and_self, false_and, and_false, or_self, or_true, true_or, or_false, false_or, not_true_eq_false, not_false_eq_true, ne_eq, forall_const, implies_true, imp_self, true_implies, false_implies, Nat.reduceAdd, Nat.reduceSub, Nat.reduceMul, Nat.reduceDiv, Nat.reduceMod, Nat.reduceEqDiff, Nat.reduceLT, Nat.reduceLeDiff, Nat.reduceBEq, Nat.add_zero, Nat.zero_add, Nat.le_refl, Nat.not_lt_zero, Nat.succ_eq_add_one, Int.reduceNatCast, Int.cast_ofNat_Int, Int.reduceSub, Int.reduceMul, Int.reduceNeg, Int.reduceLE, Int.reduceLT, Int.reduceToNat, Int.reduceEq, Int.reduceNe, Int.reduceAdd, Option.some.injEq, kX9_timeAt, rmX9_timeAt, ↓ofX9_58, ↓ofX9_61, ↓ocX9_timeAt_156, ↓spX9_timeOf, G_240, G_241, G_242, G_243, G_244, G_245, G_246, G_247, G_248, G_249, G_250, G_251, G_252, G_253, G_254, G_255, G_256, G_257, G_258, G_259, G_260, G_261, G_262, G_263, G_264, G_265, G_266, G_267, G_268, G_269, G_270, G_271, G_272, PF_240_6, PF_240_7, PF_240_8, PF_240_9, PF_240_10, PF_240_11, PF_240_12, PF_240_13, PF_240_14, PF_240_15, PF_240_16, PF_240_17, PF_240_18, PF_240_19, PF_240_20, PF_240_21, PF_240_22, PF_240_23, PF_240_24, PF_240_26, PF_240_27, PF_240_28, PF_240_29, PF_240_30, PF_240_31, PF_240_32, PF_240_33, PF_240_34, PF_240_35, PF_240_36, PF_240_37]
  unfold lch at h
  refine ⟨by omega, fun q => ?_, fun q => ?_⟩
  · rw [if_neg (by omega)] at h
    exact ⟨i0, i1, i0, i1, hl2, by omega, by omega, h⟩
  · have r1 := hr (i - 1) (by omega) (by omega)
    refine ⟨by omega, by omega, by omega, by omega, by omega, by omega, fun z => ?_, fun z => ?_⟩
    · rw [if_neg (by omega)] at h
      exact ⟨i0, i1, i0, i1, hl2, by omega, by omega, h⟩
    · rw [if_pos (by omega)] at h
      exact ⟨i0, i1, i0, i1, hl2, by omega, by omega, h⟩
/-- limits along the lanes that stand -/
def mlm (I : Int → Int → Int) (j : Int) : Int := lmv (VM I) (I 240 2) j (I 250 j)
/-- what the first pass leaves, up to m -/
def qF (lm rc : Int → Int) (bk st n m : Int) (p : Int → Int) : Prop := (0 < m → p 0 ≤ st) ∧ (∀ i, 0 ≤ i → i < m → 1 ≤ p i ∧ p i ≤ lm i) ∧ (∀ i, 0 ≤ i → i + 1 < m → p (i + 1) ≤ rc (p i)) ∧ ∀ q, Fs lm rc bk st n q → ∀ i, 0 ≤ i → i < m → q i ≤ p i
theorem qF_cg {lm rc : Int → Int} {bk st n m : Int} {p p' : Int → Int} (e : ∀ i, 0 ≤ i → i < m → p' i = p i) (h : qF lm rc bk st n m p) : qF lm rc bk st n m p' :=
  ⟨fun a => by rw [e 0 (by omega) a]; exact h.1 a, fun i a b => by rw [e i a b]; exact h.2.1 i a b, fun i a b => by rw [e i a (by omega), e (i + 1) (by omega) b]; exact h.2.2.1 i a b, fun q hq i a b => by rw [e i a b]; exact h.2.2.2 q hq i a b⟩
theorem qF_0 {lm rc : Int → Int} {bk st n : Int} {p p' : Int → Int} (hn : 0 < n) (h1 : 1 ≤ lm 0) (hs : 1 ≤ st) (e : p' 0 = if st < lm 0 then st else lm 0) : qF lm rc bk st n 1 p' := by
  have e2 : p' 0 ≤ st ∧ p' 0 ≤ lm 0 ∧ 1 ≤ p' 0 ∧ (p' 0 = st ∨ p' 0 = lm 0) := by rw [e]; split <;> omega
  refine ⟨fun _ => e2.1, fun i a b => by rw [show i = 0 by omega]; omega, fun i a b => by omega, fun q hq i a b => ?_⟩
  rw [show i = 0 by omega]
  have := hq.1 hn
  have := (hq.2.1 0 (by omega) hn).2
  omega
theorem qF_s {lm rc : Int → Int} {bk st n m : Int} {p p' : Int → Int} (hm : 1 ≤ m) (hn : m < n) (h1 : 1 ≤ lm m) (hl : ∀ i, 0 ≤ i → i < n → lm i ≤ 60) (hr : ∀ p, 1 ≤ p → p ≤ 60 → p ≤ rc p) (hmo : ∀ p p', p ≤ p' → rc p ≤ rc p') (h : qF lm rc bk st n m p) (e : p' m = if rc (p (m - 1)) < lm m then rc (p (m - 1)) else lm m) (e2 : ∀ i, 0 ≤ i → i < m → p' i = p i) : qF lm rc bk st n (m + 1) p' := by
  obtain ⟨a, b, c, d⟩ := qF_cg e2 h
  have hb := b (m - 1) (by omega) (by omega)
  have hlm := hl (m - 1) (by omega) (by omega)
  have hrc := hr (p' (m - 1)) hb.1 (by omega)
  rw [← e2 (m - 1) (by omega) (by omega)] at e
  have e3 : p' m ≤ rc (p' (m - 1)) ∧ p' m ≤ lm m ∧ 1 ≤ p' m ∧ (p' m = rc (p' (m - 1)) ∨ p' m = lm m) := by rw [e]; split <;> omega
  refine ⟨fun _ => a (by omega), fun i i0 i1 => ?_, fun i i0 i1 => ?_, fun q hq i i0 i1 => ?_⟩
  · by_cases z : i = m
    · rw [z]; omega
    · exact b i i0 (by omega)
  · by_cases z : i + 1 = m
    · rw [z, show i = m - 1 by omega]; exact e3.1
    · exact c i i0 (by omega)
  · by_cases z : i = m
    · rw [z]
      have u := (hq.2.1 m (by omega) hn).2
      have v := (hq.2.2 (m - 1) (by omega) (by omega)).1
      rw [show m - 1 + 1 = m by omega] at v
      have w := hmo _ _ (d q hq (m - 1) (by omega) (by omega))
      omega
    · exact d q hq i i0 (by omega)
/-- one step of the second pass -/
theorem qF_b {lm rc : Int → Int} {bk st n i : Int} {p p' : Int → Int} (hb : 0 ≤ bk) (i0 : 0 ≤ i) (i1 : i + 1 < n) (hl : ∀ i, 0 ≤ i → i < n → lm i ≤ 60) (hr : ∀ p, 1 ≤ p → p ≤ 60 → p ≤ rc p) (h : qF lm rc bk st n n p) (hk : ∀ j, i < j → j + 1 < n → p j ≤ p (j + 1) + bk) (e : p' i = if p (i + 1) + bk < p i then p (i + 1) + bk else p i) (e2 : ∀ j, j ≠ i → p' j = p j) : qF lm rc bk st n n p' ∧ ∀ j, i - 1 < j → j + 1 < n → p' j ≤ p' (j + 1) + bk := by
  obtain ⟨a, b, c, d⟩ := h
  have b1 := b (i + 1) (by omega) i1
  have b0 := b i i0 (by omega)
  have e3 : p' i ≤ p (i + 1) + bk ∧ p' i ≤ p i ∧ (p' i = p i ∨ p' i = p (i + 1) + bk) := by rw [e]; split <;> omega
  have hl0 := hl i i0 (by omega)
  refine ⟨⟨fun z => ?_, fun j j0 j1 => ?_, fun j j0 j1 => ?_, fun q hq j j0 j1 => ?_⟩, fun j j0 j1 => ?_⟩
  · by_cases q : i = 0
    · have := a z
      subst q; omega
    · rw [e2 0 (by omega)]; exact a z
  · by_cases q : j = i
    · subst q; omega
    · rw [e2 j q]; exact b j j0 j1
  · by_cases q : j = i
    · subst q
      rw [e2 (j + 1) (by omega)]
      rcases e3.2.2 with y | y
      · rw [y]; exact c j j0 j1
      · have := hr (p' j) (by omega) (by omega); omega
    · rw [e2 j q]
      by_cases q2 : j + 1 = i
      · rw [q2]; have := c j j0 j1; rw [q2] at this; omega
      · rw [e2 (j + 1) q2]; exact c j j0 j1
  · by_cases q2 : j = i
    · subst q2
      have u := (hq.2.2 j j0 (by omega)).2
      have v := d q hq (j + 1) (by omega) (by omega)
      have w := d q hq j j0 (by omega)
      rcases e3.2.2 with y | y <;> omega
    · rw [e2 j q2]; exact d q hq j j0 j1
  · by_cases q : j = i
    · subst q; rw [e2 (j + 1) (by omega)]; exact e3.1
    · rw [e2 j q, e2 (j + 1) (by omega)]; exact hk j (by omega) j1
theorem qF_Mx {lm rc : Int → Int} {bk st n : Int} {p : Int → Int} (h : qF lm rc bk st n n p) (hk : ∀ j, 0 ≤ j → j + 1 < n → p j ≤ p (j + 1) + bk) : Mx lm rc bk st n p :=
  ⟨⟨h.1, h.2.1, fun i a b => ⟨h.2.2.1 i a b, hk i a b⟩⟩, h.2.2.2⟩
def lanM (I : Int → Int → Int) : Prop := ∀ i, 0 ≤ i → i < I 240 1 → 0 ≤ I 250 i ∧ I 250 i ≤ 2
def mMx (I : Int → Int → Int) (q : Int → Int) : Prop := Mx (mlm I) (rch (I 246) (I 247)) (I 240 3) (I 240 4) (I 240 1) q
def spX9_quicken (As : List MV) (σ : MS) (K : Option MV → MS → Prop) : Prop := pR As fun a r => pN r (a = 240 ∧ σ.2.1 = PF ∧ tOK (VM σ.2.2.1) ∧ carOK (VM σ.2.2.1) ∧ lanM σ.2.2.1 ∧ ∀ I' : Int → Int → Int, (∀ b k, b ≠ 251 → I' b k = σ.2.2.1 b k) → mMx σ.2.2.1 (I' 251) → K none (σ.1, σ.2.1, I', σ.2.2.2))
def ciX9_quicken : CI := (1, 9, 0, 0, spX9_quicken)
def kX9_quicken (pc : Nat) : List ME := match pc with
  | 0 => [(.iconst 0, 1, []), (.istore_n 1, 1, [])]
  | 2 => [(.iload_n 1, 1, []), (.aload_n 0, 1, []), (.getfield 13, 3, []), (.if_icmp .ge 65, 3, [72]), (.iload_n 1, 1, []), (.ifCond .ne 10, 3, [21]), (.aload_n 0, 1, []), (.getfield 22, 3, []), (.goto 15, 3, [33])]
  | 21 => [(.aload_n 0, 1, []), (.aload_n 0, 1, []), (.getfield 61, 3, []), (.iload_n 1, 1, []), (.iconst 1, 1, []), (.isub, 1, []), (.iaload, 1, []), (.invokevirtual 152, 3, [])]
  | 33 => [(.istore_n 2, 1, []), (.aload_n 0, 1, []), (.iload_n 1, 1, []), (.aload_n 0, 1, []), (.getfield 58, 3, []), (.iload_n 1, 1, []), (.iaload, 1, []), (.aload_n 0, 1, []), (.getfield 16, 3, []), (.invokevirtual 148, 3, []), (.istore_n 3, 1, []), (.aload_n 0, 1, []), (.getfield 61, 3, []), (.iload_n 1, 1, []), (.iload_n 2, 1, []), (.iload_n 3, 1, []), (.if_icmp .ge 7, 3, [64]), (.iload_n 2, 1, []), (.goto 4, 3, [65])]
  | 64 => [(.iload_n 3, 1, [])]
  | 65 => [(.iastore, 1, []), (.iinc 1 1, 3, []), (.goto (-67), 3, [2])]
  | 72 => [(.aload_n 0, 1, []), (.getfield 13, 3, []), (.iconst 2, 1, []), (.isub, 1, []), (.istore_n 1, 1, [])]
  | 79 => [(.iload_n 1, 1, []), (.ifCond .lt 50, 3, [130]), (.aload_n 0, 1, []), (.getfield 61, 3, []), (.iload_n 1, 1, []), (.iaload, 1, []), (.aload_n 0, 1, []), (.getfield 61, 3, []), (.iload_n 1, 1, []), (.iconst 1, 1, []), (.iadd, 1, []), (.iaload, 1, []), (.aload_n 0, 1, []), (.getfield 19, 3, []), (.iadd, 1, []), (.if_icmp .le 22, 3, [124]), (.aload_n 0, 1, []), (.getfield 61, 3, []), (.iload_n 1, 1, []), (.aload_n 0, 1, []), (.getfield 61, 3, []), (.iload_n 1, 1, []), (.iconst 1, 1, []), (.iadd, 1, []), (.iaload, 1, []), (.aload_n 0, 1, []), (.getfield 19, 3, []), (.iadd, 1, []), (.iastore, 1, [])]
  | 124 => [(.iinc 1 (-1), 3, []), (.goto (-48), 3, [79])]
  | 130 => [(.return_, 1, [])]
  | _ => []
theorem qX9_quicken : ∀ pc, chk cX9_quicken pc (kX9_quicken pc) = true := by
  intro pc
  unfold kX9_quicken
  split <;> first | decide +kernel | exact chk_nil
abbrev rmX9_quicken : Room := { frames := 1, cells := 0, slots := 0, locals := 25 }
def aX9_quicken (x : Nat) : Option CI := match x with
  | 152 => some ciX9_reachOf
  | 148 => some ciX9_limitOf
  | _ => none
theorem aokX9_quicken : ∀ x ci, aX9_quicken x = some ci → CalOK RX9 rmX9_quicken x ci := by
  intro x ci h
  unfold aX9_quicken at h
  split at h
  · cases h; exact cal_V mX9_reachOf (by decide) rfl (List.forall_mem_cons.mpr ⟨(ws_mem (List.mem_of_getElem? (i := 1028) (by decide +kernel)) (by decide +kernel)), List.forall_mem_cons.mpr ⟨(ws_mem (List.mem_of_getElem? (i := 1030) (by decide +kernel)) (by decide +kernel)), List.forall_mem_cons.mpr ⟨(ws_mem (List.mem_of_getElem? (i := 26) (by decide +kernel)) (by decide +kernel)), List.forall_mem_cons.mpr ⟨(ws_mem (List.mem_of_getElem? (i := 64) (by decide +kernel)) (by decide +kernel)), List.forall_mem_cons.mpr ⟨(ws_mem (List.mem_of_getElem? (i := 1031) (by decide +kernel)) (by decide +kernel)), fun _ h => absurd h List.not_mem_nil⟩⟩⟩⟩⟩) rfl (by unfold nice; decide +kernel) (by unfold rfits; decide) ⟨rfl, rfl⟩
  · cases h; exact cal_V mX9_limitOf (by decide) rfl (List.forall_mem_cons.mpr ⟨(ws_mem (List.mem_of_getElem? (i := 1020) (by decide +kernel)) (by decide +kernel)), List.forall_mem_cons.mpr ⟨(ws_mem (List.mem_of_getElem? (i := 1022) (by decide +kernel)) (by decide +kernel)), List.forall_mem_cons.mpr ⟨(ws_mem (List.mem_of_getElem? (i := 25) (by decide +kernel)) (by decide +kernel)), List.forall_mem_cons.mpr ⟨(ws_mem (List.mem_of_getElem? (i := 64) (by decide +kernel)) (by decide +kernel)), List.forall_mem_cons.mpr ⟨(ws_mem (List.mem_of_getElem? (i := 1023) (by decide +kernel)) (by decide +kernel)), fun _ h => absurd h List.not_mem_nil⟩⟩⟩⟩⟩) rfl (by unfold nice; decide +kernel) (by unfold rfits; decide) ⟨rfl, rfl⟩
  · cases h
theorem ocX9_quicken_152 (f : Nat → Nat → Nat → Nat → (List MV → MS → (Option MV → MS → Prop) → Prop) → Prop) : oC aX9_quicken 152 f = f 2 9 0 0 spX9_reachOf := propext Iff.rfl
theorem ocX9_quicken_148 (f : Nat → Nat → Nat → Nat → (List MV → MS → (Option MV → MS → Prop) → Prop) → Prop) : oC aX9_quicken 148 f = f 4 9 0 0 spX9_limitOf := propext Iff.rfl
theorem mdX9_quicken : MD RX9 cX9_quicken rmX9_quicken kX9_quicken fX9 aX9_quicken zX9 uX9 := ⟨fokX9, zokX9, uokX9, aokX9_quicken, qX9_quicken⟩
theorem V251 {I J : Int → Int → Int} (h : ∀ b k, b ≠ 251 → J b k = I b k) : VM J = VM I := VM_cg (fun k _ => h _ _ (by omega)) (fun b k _ _ => h _ _ (by omega)) (fun b k _ _ => h _ _ (by omega))
theorem mlm_rng (I : Int → Int → Int) (j : Int) : 1 ≤ mlm I j ∧ mlm I j ≤ 60 := lim_rng _ _ _ _ _
set_option maxHeartbeats 1600000 in
set_option maxRecDepth 100000 in
theorem lpX9_q2 {post : Option MV → MS → Prop} {U : Pt → Prop} {N : Nat} {I L : Int → Int → Int} {t2 t3 : Option MV} (hn : I 240 1 ≤ 30) (hb : 1 ≤ I 240 3 ∧ I 240 3 ≤ 30) (hg : gOK (I 246) (I 247)) (h : ∀ I1 : Int → Int → Int, (∀ b k, b ≠ 251 → I1 b k = I b k) → mMx I (I1 251) → post none (N, PF, I1, L)) :
    ∀ (m : Nat) (I1 : Int → Int → Int), (m : Int) < I 240 1 ∨ m = 0 → (∀ b k, b ≠ 251 → I1 b k = I b k) → qF (mlm I) (rch (I 246) (I 247)) (I 240 3) (I 240 4) (I 240 1) (I 240 1) (I1 251) → (∀ j, (m : Int) - 1 < j → j + 1 < I 240 1 → I1 251 j ≤ I1 251 (j + 1) + I 240 3) →
    Ok RX9 cX9_quicken 4 rmX9_quicken false none post U (79, [some (.inr (.inr (some 240))), some (.inl ((m : Int) - 1)), t2, t3], [], (N, PF, I1, L), 0, 0)
  | 0, I1, hm, h1, h2, h3 => by
    refine Ok.seg mdX9_quicken [79] 10 ?_
    simp only [wp_nil, wp_cons, ↓stp, ↓lI, ↓lL, ↓lR, ↓lIn_0, ↓lIn_1, ↓lIn_2, ↓lIn_3, ↓lLn_0, ↓lLn_1, ↓lLn_2, ↓lLn_3, ↓lRn_0, ↓lRn_1, ↓lRn_2, ↓lRn_3, ↓pI, ↓pL, ↓pR, ↓pA, ↓pN, ↓pV, ↓fp, ↓tsw, ↓oS, ↓spMax, ↓spMin, ↓spAbs, ↓spObj, RI, RLg, b2i_lo, b2i_hi, getL, setL, ltL, killL, isLong, inl, cnd, br, tgt, rcv, rpl, mputI, mputL, mputP, fv, fr, mcat, mcs, entL, entA, rfit, nf_0, nf_1, nf_2, nf_3, nf2_0, nf2_1, b2i_0, b2i_1, RI_b2i, b2i_fit, List.append, List.length, List.replicate, List.cons_append, List.nil_append, List.length_cons, List.length_nil, List.replicate_succ, List.replicate_zero, List.tail_cons, reduceIte, if_true, if_false, ite_true, ite_false, Bool.false_eq_true, true_and, and_true, and_self, false_and, and_false, or_self, or_true, true_or, or_false, false_or, not_true_eq_false, not_false_eq_true, ne_eq, forall_const, implies_true, imp_self, true_implies, false_implies, Nat.reduceAdd, Nat.reduceSub, Nat.reduceMul, Nat.reduceDiv, Nat.reduceMod, Nat.reduceEqDiff, Nat.reduceLT, Nat.reduceLeDiff, Nat.reduceBEq, Nat.add_zero, Nat.zero_add, Nat.le_refl, Nat.not_lt_zero, Nat.succ_eq_add_one, Int.reduceNatCast, Int.cast_ofNat_Int, Int.reduceSub, Int.reduceMul, Int.reduceNeg, Int.reduceLE, Int.reduceLT, Int.reduceToNat, Int.reduceEq, Int.reduceNe, Int.reduceAdd, Option.some.injEq, kX9_quicken, rmX9_quicken, ↓ofX9_13, ↓ofX9_16, ↓ofX9_19, ↓ofX9_22, ↓ofX9_58, ↓ofX9_61, ↓ocX9_quicken_152, ↓spX9_reachOf, ↓ocX9_quicken_148, ↓spX9_limitOf, G_240, G_241, G_242, G_243, G_244, G_245, G_246, G_247, G_248, G_249, G_250, G_251, G_252, G_253, G_254, G_255, G_256, G_257, G_258, G_259, G_260, G_261, G_262, G_263, G_264, G_265, G_266, G_267, G_268, G_269, G_270, G_271, G_272, PF_240_6, PF_240_7, PF_240_8, PF_240_9, PF_240_10, PF_240_11, PF_240_12, PF_240_13, PF_240_14, PF_240_15, PF_240_16, PF_240_17, PF_240_18, PF_240_19, PF_240_20, PF_240_21, PF_240_22, PF_240_23, PF_240_24, PF_240_26, PF_240_27, PF_240_28, PF_240_29, PF_240_30, PF_240_31, PF_240_32, PF_240_33, PF_240_34, PF_240_35, PF_240_36, PF_240_37]
    exact h I1 h1 (qF_Mx h2 (fun j a b => h3 j (by omega) b))
  | m + 1, I1, hm, h1, h2, h3 => by
    have ih := lpX9_q2 (U := U) (t2 := t2) (t3 := t3) (L := L) hn hb hg h m
    have ei : ((m + 1 : Nat) : Int) - 1 = m := by omega
    rw [ei] at h3 ⊢
    have e3 : I1 240 3 = I 240 3 := h1 _ _ (by omega)
    have step : ∀ J : Int → Int → Int, (∀ b k, b ≠ 251 → J b k = I b k) → qF (mlm I) (rch (I 246) (I 247)) (I 240 3) (I 240 4) (I 240 1) (I 240 1) (J 251) → (∀ j, (m : Int) - 1 < j → j + 1 < I 240 1 → J 251 j ≤ J 251 (j + 1) + I 240 3) → Ok RX9 cX9_quicken 4 rmX9_quicken false none post U (79, [some (.inr (.inr (some 240))), some (.inl ((m : Int) + -1)), t2, t3], [], (N, PF, J, L), 0, 0) := fun J a b c => ih J (by omega) a b c
    by_cases hz : (m : Int) + 1 < I 240 1
    · have b1 := h2.2.1 (m + 1) (by omega) hz
      have b0 := h2.2.1 m (by omega) (by omega)
      have l1 := mlm_rng I (m + 1)
      have l0 := mlm_rng I m
      have stq := fun p' e e2 => qF_b (p' := p') (by omega) (show (0 : Int) ≤ m by omega) hz (fun i _ _ => (mlm_rng I i).2) (fun p _ p1 => (rch_rng hg p1).1) h2 h3 e e2
      refine Ok.seg mdX9_quicken [79] 60 ?_
      simp only [wp_nil, wp_cons, ↓stp, ↓lI, ↓lL, ↓lR, ↓lIn_0, ↓lIn_1, ↓lIn_2, ↓lIn_3, ↓lLn_0, ↓lLn_1, ↓lLn_2, ↓lLn_3, ↓lRn_0, ↓lRn_1, ↓lRn_2, ↓lRn_3, ↓pI, ↓pL, ↓pR, ↓pA, ↓pN, ↓pV, ↓fp, ↓tsw, ↓oS, ↓spMax, ↓spMin, ↓spAbs, ↓spObj, RI, RLg, b2i_lo, b2i_hi, getL, setL, ltL, killL, isLong, inl, cnd, br, tgt, rcv, rpl, mputI, mputL, mputP, fv, fr, mcat, mcs, entL, entA, rfit, nf_0, nf_1, nf_2, nf_3, nf2_0, nf2_1, b2i_0, b2i_1, RI_b2i, b2i_fit, List.append, List.length, List.replicate, List.cons_append, List.nil_append, List.length_cons, List.length_nil, List.replicate_succ, List.replicate_zero, List.tail_cons, reduceIte, if_true, if_false, ite_true, ite_false, Bool.false_eq_true, true_and, and_true, and_self, false_and, and_false, or_self, or_true, true_or, or_false, false_or, not_true_eq_false, not_false_eq_true, ne_eq, forall_const, implies_true, imp_self, true_implies, false_implies, Nat.reduceAdd, Nat.reduceSub, Nat.reduceMul, Nat.reduceDiv, Nat.reduceMod, Nat.reduceEqDiff, Nat.reduceLT, Nat.reduceLeDiff, Nat.reduceBEq, Nat.add_zero, Nat.zero_add, Nat.le_refl, Nat.not_lt_zero, Nat.succ_eq_add_one, Int.reduceNatCast, Int.cast_ofNat_Int, Int.reduceSub, Int.reduceMul, Int.reduceNeg, Int.reduceLE, Int.reduceLT, Int.reduceToNat, Int.reduceEq, Int.reduceNe, Int.reduceAdd, Option.some.injEq, kX9_quicken, rmX9_quicken, ↓ofX9_13, ↓ofX9_16, ↓ofX9_19, ↓ofX9_22, ↓ofX9_58, ↓ofX9_61, ↓ocX9_quicken_152, ↓spX9_reachOf, ↓ocX9_quicken_148, ↓spX9_limitOf, e3, G_240, G_241, G_242, G_243, G_244, G_245, G_246, G_247, G_248, G_249, G_250, G_251, G_252, G_253, G_254, G_255, G_256, G_257, G_258, G_259, G_260, G_261, G_262, G_263, G_264, G_265, G_266, G_267, G_268, G_269, G_270, G_271, G_272, PF_240_6, PF_240_7, PF_240_8, PF_240_9, PF_240_10, PF_240_11, PF_240_12, PF_240_13, PF_240_14, PF_240_15, PF_240_16, PF_240_17, PF_240_18, PF_240_19, PF_240_20, PF_240_21, PF_240_22, PF_240_23, PF_240_24, PF_240_26, PF_240_27, PF_240_28, PF_240_29, PF_240_30, PF_240_31, PF_240_32, PF_240_33, PF_240_34, PF_240_35, PF_240_36, PF_240_37]
      refine ⟨by omega, fun q => by omega, fun q => ⟨by omega, by omega, by omega, by omega, by omega, by omega, fun q2 => ?_, fun q2 => ?_⟩⟩
      · obtain ⟨u, v⟩ := stq (I1 251) (by rw [if_neg (by omega)]) (fun _ _ => rfl)
        exact step I1 h1 u v
      · obtain ⟨u, v⟩ := stq (upI I1 251 m (I1 251 (m + 1) + I 240 3) 251) (by rw [upI_same, if_pos (by omega)]) (fun j hj => upI_nj hj)
        repeat refine ⟨by omega, ?_⟩
        exact step _ (fun b k hb => by rw [upI_ne hb]; exact h1 b k hb) u v
    · omega
set_option maxHeartbeats 1600000 in
set_option maxRecDepth 100000 in
theorem lpX9_q1 {post : Option MV → MS → Prop} {U : Pt → Prop} {N : Nat} {I L : Int → Int → Int} (ht : tOK (VM I)) (hc : carOK (VM I)) (hl : lanM I) (h : ∀ (I1 : Int → Int → Int) (t2 t3 : Option MV), (∀ b k, b ≠ 251 → I1 b k = I b k) → qF (mlm I) (rch (I 246) (I 247)) (I 240 3) (I 240 4) (I 240 1) (I 240 1) (I1 251) → Ok RX9 cX9_quicken 4 rmX9_quicken false none post U (72, [some (.inr (.inr (some 240))), some (.inl (I 240 1)), t2, t3], [], (N, PF, I1, L), 0, 0)) :
    ∀ (m : Nat) (i : Int) (I1 : Int → Int → Int) (t2 t3 : Option MV), i + m = I 240 1 → 0 ≤ i → (∀ b k, b ≠ 251 → I1 b k = I b k) → qF (mlm I) (rch (I 246) (I 247)) (I 240 3) (I 240 4) (I 240 1) i (I1 251) →
    Ok RX9 cX9_quicken 4 rmX9_quicken false none post U (2, [some (.inr (.inr (some 240))), some (.inl i), t2, t3], [], (N, PF, I1, L), 0, 0)
  | 0, i, I1, t2, t3, hi, i0, h1, h2 => by
    have hn : I 240 1 ≤ 30 := ht.2.1
    have e1 : I1 240 1 = I 240 1 := h1 _ _ (by omega)
    refine Ok.seg mdX9_quicken [2, 72] 10 ?_
    simp only [wp_nil, wp_cons, ↓stp, ↓lI, ↓lL, ↓lR, ↓lIn_0, ↓lIn_1, ↓lIn_2, ↓lIn_3, ↓lLn_0, ↓lLn_1, ↓lLn_2, ↓lLn_3, ↓lRn_0, ↓lRn_1, ↓lRn_2, ↓lRn_3, ↓pI, ↓pL, ↓pR, ↓pA, ↓pN, ↓pV, ↓fp, ↓tsw, ↓oS, ↓spMax, ↓spMin, ↓spAbs, ↓spObj, RI, RLg, b2i_lo, b2i_hi, getL, setL, ltL, killL, isLong, inl, cnd, br, tgt, rcv, rpl, mputI, mputL, mputP, fv, fr, mcat, mcs, entL, entA, rfit, nf_0, nf_1, nf_2, nf_3, nf2_0, nf2_1, b2i_0, b2i_1, RI_b2i, b2i_fit, List.append, List.length, List.replicate, List.cons_append, List.nil_append, List.length_cons, List.length_nil, List.replicate_succ, List.replicate_zero, List.tail_cons, reduceIte, if_true, if_false, ite_true, ite_false, Bool.false_eq_true, true_and, and_true, and_self, false_and, and_false, or_self, or_true, true_or, or_false, false_or, not_true_eq_false, not_false_eq_true, ne_eq, forall_const, implies_true, imp_self, true_implies, false_implies, Nat.reduceAdd, Nat.reduceSub, Nat.reduceMul, Nat.reduceDiv, Nat.reduceMod, Nat.reduceEqDiff, Nat.reduceLT, Nat.reduceLeDiff, Nat.reduceBEq, Nat.add_zero, Nat.zero_add, Nat.le_refl, Nat.not_lt_zero, Nat.succ_eq_add_one, Int.reduceNatCast, Int.cast_ofNat_Int, Int.reduceSub, Int.reduceMul, Int.reduceNeg, Int.reduceLE, Int.reduceLT, Int.reduceToNat, Int.reduceEq, Int.reduceNe, Int.reduceAdd, Option.some.injEq, kX9_quicken, rmX9_quicken, ↓ofX9_13, ↓ofX9_16, ↓ofX9_19, ↓ofX9_22, ↓ofX9_58, ↓ofX9_61, ↓ocX9_quicken_152, ↓spX9_reachOf, ↓ocX9_quicken_148, ↓spX9_limitOf, e1, G_240, G_241, G_242, G_243, G_244, G_245, G_246, G_247, G_248, G_249, G_250, G_251, G_252, G_253, G_254, G_255, G_256, G_257, G_258, G_259, G_260, G_261, G_262, G_263, G_264, G_265, G_266, G_267, G_268, G_269, G_270, G_271, G_272, PF_240_6, PF_240_7, PF_240_8, PF_240_9, PF_240_10, PF_240_11, PF_240_12, PF_240_13, PF_240_14, PF_240_15, PF_240_16, PF_240_17, PF_240_18, PF_240_19, PF_240_20, PF_240_21, PF_240_22, PF_240_23, PF_240_24, PF_240_26, PF_240_27, PF_240_28, PF_240_29, PF_240_30, PF_240_31, PF_240_32, PF_240_33, PF_240_34, PF_240_35, PF_240_36, PF_240_37]
    rw [show i = I 240 1 by omega] at h2 ⊢
    exact ⟨by omega, by omega, fun _ => h I1 _ _ h1 h2, fun q => by omega⟩
  | m + 1, i, I1, t2, t3, hi, i0, h1, h2 => by
    have ih := lpX9_q1 (U := U) (post := post) (N := N) (L := L) ht hc hl h m (i + 1)
    have hn : I 240 1 ≤ 30 := ht.2.1
    have e1 : I1 240 1 = I 240 1 := h1 _ _ (by omega)
    have e2 : I1 240 2 = I 240 2 := h1 _ _ (by omega)
    have e4 : I1 240 4 = I 240 4 := h1 _ _ (by omega)
    have e250 : I1 250 i = I 250 i := h1 _ _ (by omega)
    have e246 : I1 246 = I 246 := funext fun k => h1 _ _ (by omega)
    have e247 : I1 247 = I 247 := funext fun k => h1 _ _ (by omega)
    have eV := V251 h1
    have hg : gOK (I 246) (I 247) := hc.1.1
    have hnn := hc.2
    unfold nOK at hnn
    rw [VM_36_0, VM_36_1, VM_36_2] at hnn
    have hli := hl i i0 (by omega)
    have lr := mlm_rng I i
    have em : lmv (VM I) (I 240 2) i (I 250 i) = mlm I i := rfl
    have fin : ∀ v t2 t3, qF (mlm I) (rch (I 246) (I 247)) (I 240 3) (I 240 4) (I 240 1) (i + 1) (upI I1 251 i v 251) → Ok RX9 cX9_quicken 4 rmX9_quicken false none post U (2, [some (.inr (.inr (some 240))), some (.inl (i + 1)), t2, t3], [], (N, PF, upI I1 251 i v, L), 0, 0) := fun v t2 t3 hq => ih _ t2 t3 (by omega) (by omega) (fun b k hb => by rw [upI_ne hb]; exact h1 b k hb) hq
    by_cases z : i = 0
    · subst z
      refine Ok.seg mdX9_quicken [2, 72] 60 ?_
      simp only [wp_nil, wp_cons, ↓stp, ↓lI, ↓lL, ↓lR, ↓lIn_0, ↓lIn_1, ↓lIn_2, ↓lIn_3, ↓lLn_0, ↓lLn_1, ↓lLn_2, ↓lLn_3, ↓lRn_0, ↓lRn_1, ↓lRn_2, ↓lRn_3, ↓pI, ↓pL, ↓pR, ↓pA, ↓pN, ↓pV, ↓fp, ↓tsw, ↓oS, ↓spMax, ↓spMin, ↓spAbs, ↓spObj, RI, RLg, b2i_lo, b2i_hi, getL, setL, ltL, killL, isLong, inl, cnd, br, tgt, rcv, rpl, mputI, mputL, mputP, fv, fr, mcat, mcs, entL, entA, rfit, nf_0, nf_1, nf_2, nf_3, nf2_0, nf2_1, b2i_0, b2i_1, RI_b2i, b2i_fit, List.append, List.length, List.replicate, List.cons_append, List.nil_append, List.length_cons, List.length_nil, List.replicate_succ, List.replicate_zero, List.tail_cons, reduceIte, if_true, if_false, ite_true, ite_false, Bool.false_eq_true, true_and, and_true, and_self, false_and, and_false, or_self, or_true, true_or, or_false, false_or, not_true_eq_false, not_false_eq_true, ne_eq, forall_const, implies_true, imp_self, true_implies, false_implies, Nat.reduceAdd, Nat.reduceSub, Nat.reduceMul, Nat.reduceDiv, Nat.reduceMod, Nat.reduceEqDiff, Nat.reduceLT, Nat.reduceLeDiff, Nat.reduceBEq, Nat.add_zero, Nat.zero_add, Nat.le_refl, Nat.not_lt_zero, Nat.succ_eq_add_one, Int.reduceNatCast, Int.cast_ofNat_Int, Int.reduceSub, Int.reduceMul, Int.reduceNeg, Int.reduceLE, Int.reduceLT, Int.reduceToNat, Int.reduceEq, Int.reduceNe, Int.reduceAdd, Option.some.injEq, kX9_quicken, rmX9_quicken, ↓ofX9_13, ↓ofX9_16, ↓ofX9_19, ↓ofX9_22, ↓ofX9_58, ↓ofX9_61, ↓ocX9_quicken_152, ↓spX9_reachOf, ↓ocX9_quicken_148, ↓spX9_limitOf, e1, e2, e4, e250, e246, e247, eV, ht, em, G_240, G_241, G_242, G_243, G_244, G_245, G_246, G_247, G_248, G_249, G_250, G_251, G_252, G_253, G_254, G_255, G_256, G_257, G_258, G_259, G_260, G_261, G_262, G_263, G_264, G_265, G_266, G_267, G_268, G_269, G_270, G_271, G_272, PF_240_6, PF_240_7, PF_240_8, PF_240_9, PF_240_10, PF_240_11, PF_240_12, PF_240_13, PF_240_14, PF_240_15, PF_240_16, PF_240_17, PF_240_18, PF_240_19, PF_240_20, PF_240_21, PF_240_22, PF_240_23, PF_240_24, PF_240_26, PF_240_27, PF_240_28, PF_240_29, PF_240_30, PF_240_31, PF_240_32, PF_240_33, PF_240_34, PF_240_35, PF_240_36, PF_240_37]
      have q0 := fun v e => qF_0 (lm := mlm I) (rc := rch (I 246) (I 247)) (bk := I 240 3) (st := I 240 4) (n := I 240 1) (p := I1 251) (p' := upI I1 251 0 v 251) (by omega) (by omega) (by omega) e
      refine ⟨by omega, fun q => by omega, fun q => ?_⟩
      repeat refine ⟨by omega, ?_⟩
      refine ⟨fun q2 => fin _ _ _ (q0 _ (by rw [upI_same, if_neg (by omega)])), fun q2 => fin _ _ _ (q0 _ (by rw [upI_same, if_pos (by omega)]))⟩
    · have bp := h2.2.1 (i - 1) (by omega) (by omega)
      have lp := mlm_rng I (i - 1)
      have rr := rch_rng (p := I1 251 (i - 1)) hg (by omega)
      have qs := fun v e => qF_s (p' := upI I1 251 i v 251) (by omega) (by omega) (by omega) (fun i _ _ => (mlm_rng I i).2) (fun p _ p1 => (rch_rng hg p1).1) rch_m2 h2 e (fun j j0 j1 => upI_nj (by omega))
      refine Ok.seg mdX9_quicken [2, 72] 60 ?_
      simp only [wp_nil, wp_cons, ↓stp, ↓lI, ↓lL, ↓lR, ↓lIn_0, ↓lIn_1, ↓lIn_2, ↓lIn_3, ↓lLn_0, ↓lLn_1, ↓lLn_2, ↓lLn_3, ↓lRn_0, ↓lRn_1, ↓lRn_2, ↓lRn_3, ↓pI, ↓pL, ↓pR, ↓pA, ↓pN, ↓pV, ↓fp, ↓tsw, ↓oS, ↓spMax, ↓spMin, ↓spAbs, ↓spObj, RI, RLg, b2i_lo, b2i_hi, getL, setL, ltL, killL, isLong, inl, cnd, br, tgt, rcv, rpl, mputI, mputL, mputP, fv, fr, mcat, mcs, entL, entA, rfit, nf_0, nf_1, nf_2, nf_3, nf2_0, nf2_1, b2i_0, b2i_1, RI_b2i, b2i_fit, List.append, List.length, List.replicate, List.cons_append, List.nil_append, List.length_cons, List.length_nil, List.replicate_succ, List.replicate_zero, List.tail_cons, reduceIte, if_true, if_false, ite_true, ite_false, Bool.false_eq_true, true_and, and_true, and_self, false_and, and_false, or_self, or_true, true_or, or_false, false_or, not_true_eq_false, not_false_eq_true, ne_eq, forall_const, implies_true, imp_self, true_implies, false_implies, Nat.reduceAdd, Nat.reduceSub, Nat.reduceMul, Nat.reduceDiv, Nat.reduceMod, Nat.reduceEqDiff, Nat.reduceLT, Nat.reduceLeDiff, Nat.reduceBEq, Nat.add_zero, Nat.zero_add, Nat.le_refl, Nat.not_lt_zero, Nat.succ_eq_add_one, Int.reduceNatCast, Int.cast_ofNat_Int, Int.reduceSub, Int.reduceMul, Int.reduceNeg, Int.reduceLE, Int.reduceLT, Int.reduceToNat, Int.reduceEq, Int.reduceNe, Int.reduceAdd, Option.some.injEq, kX9_quicken, rmX9_quicken, ↓ofX9_13, ↓ofX9_16, ↓ofX9_19, ↓ofX9_22, ↓ofX9_58, ↓ofX9_61, ↓ocX9_quicken_152, ↓spX9_reachOf, ↓ocX9_quicken_148, ↓spX9_limitOf, e1, e2, e4, e250, e246, e247, eV, ht, em, hg, G_240, G_241, G_242, G_243, G_244, G_245, G_246, G_247, G_248, G_249, G_250, G_251, G_252, G_253, G_254, G_255, G_256, G_257, G_258, G_259, G_260, G_261, G_262, G_263, G_264, G_265, G_266, G_267, G_268, G_269, G_270, G_271, G_272, PF_240_6, PF_240_7, PF_240_8, PF_240_9, PF_240_10, PF_240_11, PF_240_12, PF_240_13, PF_240_14, PF_240_15, PF_240_16, PF_240_17, PF_240_18, PF_240_19, PF_240_20, PF_240_21, PF_240_22, PF_240_23, PF_240_24, PF_240_26, PF_240_27, PF_240_28, PF_240_29, PF_240_30, PF_240_31, PF_240_32, PF_240_33, PF_240_34, PF_240_35, PF_240_36, PF_240_37]
      refine ⟨by omega, by omega, fun q => by omega, fun q => ⟨by omega, fun _ => ?_, fun q2 => by omega⟩⟩
      repeat refine ⟨by omega, ?_⟩
      refine ⟨fun q2 => ⟨by omega, by omega, fin _ _ _ (qs _ (by rw [upI_same, if_neg (by omega)]))⟩, fun q2 => ⟨by omega, by omega, fin _ _ _ (qs _ (by rw [upI_same, if_pos (by omega)]))⟩⟩
set_option maxRecDepth 100000 in
set_option maxHeartbeats 800000 in
theorem mX9_quicken : MOK yX9_quicken cX9_quicken 4 none rmX9_quicken ciX9_quicken := by
  refine mok_of (ini := false) (by decide +kernel) (by decide) rfl rfl ?_
  intro σ As K hrc hl h
  obtain ⟨N, P, I, L⟩ := σ
  have h9 := pR_iff.mp h
  clear h
  obtain ⟨a, r, e9, h⟩ := h9
  subst e9
  have h9 := pN_iff.mp h
  clear h
  obtain ⟨e9, h⟩ := h9
  subst e9
  try dsimp only at h
  obtain ⟨rfl, rfl, ht, hc, hl2, h⟩ := h
  have hn : I 240 1 ≤ 30 := ht.2.1
  have hn0 : 0 ≤ I 240 1 := ht.1
  have hnn := hc.2
  unfold nOK at hnn
  rw [VM_36_0, VM_36_1, VM_36_2] at hnn
  refine ⟨Nat.le_of_ble_eq_true rfl, Ok.seg mdX9_quicken [2] 6 ?_⟩
  simp only [wp_nil, wp_cons, ↓stp, ↓lI, ↓lL, ↓lR, ↓lIn_0, ↓lIn_1, ↓lIn_2, ↓lIn_3, ↓lLn_0, ↓lLn_1, ↓lLn_2, ↓lLn_3, ↓lRn_0, ↓lRn_1, ↓lRn_2, ↓lRn_3, ↓pI, ↓pL, ↓pR, ↓pA, ↓pN, ↓pV, ↓fp, ↓tsw, ↓oS, ↓spMax, ↓spMin, ↓spAbs, ↓spObj, RI, RLg, b2i_lo, b2i_hi, getL, setL, ltL, killL, isLong, inl, cnd, br, tgt, rcv, rpl, mputI, mputL, mputP, fv, fr, mcat, mcs, entL, entA, rfit, nf_0, nf_1, nf_2, nf_3, nf2_0, nf2_1, b2i_0, b2i_1, RI_b2i, b2i_fit, List.append, List.length, List.replicate, List.cons_append, List.nil_append, List.length_cons, List.length_nil, List.replicate_succ, List.replicate_zero, List.tail_cons, reduceIte, if_true, if_false, ite_true, ite_false, Bool.false_eq_true, true_and, and_true, and_self, false_and, and_false, or_self, or_true, true_or, or_false, false_or, not_true_eq_false, not_false_eq_true, ne_eq, forall_const, implies_true, imp_self, true_implies, false_implies, Nat.reduceAdd, Nat.reduceSub, Nat.reduceMul, Nat.reduceDiv, Nat.reduceMod, Nat.reduceEqDiff, Nat.reduceLT, Nat.reduceLeDiff, Nat.reduceBEq, Nat.add_zero, Nat.zero_add, Nat.le_refl, Nat.not_lt_zero, Nat.succ_eq_add_one, Int.reduceNatCast, Int.cast_ofNat_Int, Int.reduceSub, Int.reduceMul, Int.reduceNeg, Int.reduceLE, Int.reduceLT, Int.reduceToNat, Int.reduceEq, Int.reduceNe, Int.reduceAdd, Option.some.injEq, kX9_quicken, rmX9_quicken, ↓ofX9_13, ↓ofX9_16, ↓ofX9_19, ↓ofX9_22, ↓ofX9_58, ↓ofX9_61, ↓ocX9_quicken_152, ↓spX9_reachOf, ↓ocX9_quicken_148, ↓spX9_limitOf, G_240, G_241, G_242, G_243, G_244, G_245, G_246, G_247, G_248, G_249, G_250, G_251, G_252, G_253, G_254, G_255, G_256, G_257, G_258, G_259, G_260, G_261, G_262, G_263, G_264, G_265, G_266, G_267, G_268, G_269, G_270, G_271, G_272, PF_240_6, PF_240_7, PF_240_8, PF_240_9, PF_240_10, PF_240_11, PF_240_12, PF_240_13, PF_240_14, PF_240_15, PF_240_16, PF_240_17, PF_240_18, PF_240_19, PF_240_20, PF_240_21, PF_240_22, PF_240_23, PF_240_24, PF_240_26, PF_240_27, PF_240_28, PF_240_29, PF_240_30, PF_240_31, PF_240_32, PF_240_33, PF_240_34, PF_240_35, PF_240_36, PF_240_37]
  refine lpX9_q1 ht hc hl2 (fun I1 t2 t3 h1 h2 => ?_) (I 240 1).toNat 0 I none none (by omega) (by omega) (fun _ _ _ => rfl) ⟨fun z => by omega, fun i a b => by omega, fun i a b => by omega, fun q hq i a b => by omega⟩
  have e1 : I1 240 1 = I 240 1 := h1 _ _ (by omega)
  refine Ok.seg mdX9_quicken [79] 12 ?_
  simp only [wp_nil, wp_cons, ↓stp, ↓lI, ↓lL, ↓lR, ↓lIn_0, ↓lIn_1, ↓lIn_2, ↓lIn_3, ↓lLn_0, ↓lLn_1, ↓lLn_2, ↓lLn_3, ↓lRn_0, ↓lRn_1, ↓lRn_2, ↓lRn_3, ↓pI, ↓pL, ↓pR, ↓pA, ↓pN, ↓pV, ↓fp, ↓tsw, ↓oS, ↓spMax, ↓spMin, ↓spAbs, ↓spObj, RI, RLg, b2i_lo, b2i_hi, getL, setL, ltL, killL, isLong, inl, cnd, br, tgt, rcv, rpl, mputI, mputL, mputP, fv, fr, mcat, mcs, entL, entA, rfit, nf_0, nf_1, nf_2, nf_3, nf2_0, nf2_1, b2i_0, b2i_1, RI_b2i, b2i_fit, List.append, List.length, List.replicate, List.cons_append, List.nil_append, List.length_cons, List.length_nil, List.replicate_succ, List.replicate_zero, List.tail_cons, reduceIte, if_true, if_false, ite_true, ite_false, Bool.false_eq_true, true_and, and_true, and_self, false_and, and_false, or_self, or_true, true_or, or_false, false_or, not_true_eq_false, not_false_eq_true, ne_eq, forall_const, implies_true, imp_self, true_implies, false_implies, Nat.reduceAdd, Nat.reduceSub, Nat.reduceMul, Nat.reduceDiv, Nat.reduceMod, Nat.reduceEqDiff, Nat.reduceLT, Nat.reduceLeDiff, Nat.reduceBEq, Nat.add_zero, Nat.zero_add, Nat.le_refl, Nat.not_lt_zero, Nat.succ_eq_add_one, Int.reduceNatCast, Int.cast_ofNat_Int, Int.reduceSub, Int.reduceMul, Int.reduceNeg, Int.reduceLE, Int.reduceLT, Int.reduceToNat, Int.reduceEq, Int.reduceNe, Int.reduceAdd, Option.some.injEq, kX9_quicken, rmX9_quicken, ↓ofX9_13, ↓ofX9_16, ↓ofX9_19, ↓ofX9_22, ↓ofX9_58, ↓ofX9_61, ↓ocX9_quicken_152, ↓spX9_reachOf, ↓ocX9_quicken_148, ↓spX9_limitOf, e1, G_240, G_241, G_242, G_243, G_244, G_245, G_246, G_247, G_248, G_249, G_250, G_251, G_252, G_253, G_254, G_255, G_256, G_257, G_258, G_259, G_260, G_261, G_262, G_263, G_264, G_265, G_266, G_267, G_268, G_269, G_270, G_271, G_272, PF_240_6, PF_240_7, PF_240_8, PF_240_9, PF_240_10, PF_240_11, PF_240_12, PF_240_13, PF_240_14, PF_240_15, PF_240_16, PF_240_17, PF_240_18, PF_240_19, PF_240_20, PF_240_21, PF_240_22, PF_240_23, PF_240_24, PF_240_26, PF_240_27, PF_240_28, PF_240_29, PF_240_30, PF_240_31, PF_240_32, PF_240_33, PF_240_34, PF_240_35, PF_240_36, PF_240_37]
  by_cases z : I 240 1 = 0
  · refine Ok.seg mdX9_quicken [] 10 ?_
    simp only [wp_nil, wp_cons, ↓stp, ↓lI, ↓lL, ↓lR, ↓lIn_0, ↓lIn_1, ↓lIn_2, ↓lIn_3, ↓lLn_0, ↓lLn_1, ↓lLn_2, ↓lLn_3, ↓lRn_0, ↓lRn_1, ↓lRn_2, ↓lRn_3, ↓pI, ↓pL, ↓pR, ↓pA, ↓pN, ↓pV, ↓fp, ↓tsw, ↓oS, ↓spMax, ↓spMin, ↓spAbs, ↓spObj, RI, RLg, b2i_lo, b2i_hi, getL, setL, ltL, killL, isLong, inl, cnd, br, tgt, rcv, rpl, mputI, mputL, mputP, fv, fr, mcat, mcs, entL, entA, rfit, nf_0, nf_1, nf_2, nf_3, nf2_0, nf2_1, b2i_0, b2i_1, RI_b2i, b2i_fit, List.append, List.length, List.replicate, List.cons_append, List.nil_append, List.length_cons, List.length_nil, List.replicate_succ, List.replicate_zero, List.tail_cons, reduceIte, if_true, if_false, ite_true, ite_false, Bool.false_eq_true, true_and, and_true, and_self, false_and, and_false, or_self, or_true, true_or, or_false, false_or, not_true_eq_false, not_false_eq_true, ne_eq, forall_const, implies_true, imp_self, true_implies, false_implies, Nat.reduceAdd, Nat.reduceSub, Nat.reduceMul, Nat.reduceDiv, Nat.reduceMod, Nat.reduceEqDiff, Nat.reduceLT, Nat.reduceLeDiff, Nat.reduceBEq, Nat.add_zero, Nat.zero_add, Nat.le_refl, Nat.not_lt_zero, Nat.succ_eq_add_one, Int.reduceNatCast, Int.cast_ofNat_Int, Int.reduceSub, Int.reduceMul, Int.reduceNeg, Int.reduceLE, Int.reduceLT, Int.reduceToNat, Int.reduceEq, Int.reduceNe, Int.reduceAdd, Option.some.injEq, kX9_quicken, rmX9_quicken, ↓ofX9_13, ↓ofX9_16, ↓ofX9_19, ↓ofX9_22, ↓ofX9_58, ↓ofX9_61, ↓ocX9_quicken_152, ↓spX9_reachOf, ↓ocX9_quicken_148, ↓spX9_limitOf, z, G_240, G_241, G_242, G_243, G_244, G_245, G_246, G_247, G_248, G_249, G_250, G_251, G_252, G_253, G_254, G_255, G_256, G_257, G_258, G_259, G_260, G_261, G_262, G_263, G_264, G_265, G_266, G_267, G_268, G_269, G_270, G_271, G_272, PF_240_6, PF_240_7, PF_240_8, PF_240_9, PF_240_10, PF_240_11, PF_240_12, PF_240_13, PF_240_14, PF_240_15, PF_240_16, PF_240_17, PF_240_18, PF_240_19, PF_240_20, PF_240_21, PF_240_22, PF_240_23, PF_240_24, PF_240_26, PF_240_27, PF_240_28, PF_240_29, PF_240_30, PF_240_31, PF_240_32, PF_240_33, PF_240_34, PF_240_35, PF_240_36, PF_240_37]
    exact h I1 h1 (qF_Mx h2 (fun j a b => by omega))
  · have := lpX9_q2 (post := fun r σ' => rfit none r ∧ K r σ') (U := fun _ => False) (N := N) (L := L) (t2 := t2) (t3 := t3) hn (by omega) hc.1.1 (fun I1 a b => ⟨trivial, h I1 a b⟩) (I 240 1 - 1).toNat I1 (by omega) h1 h2 (fun j a b => by omega)
    rw [show (((I 240 1 - 1).toNat : Nat) : Int) - 1 = I 240 1 - 2 by omega] at this
    exact this
def spX9_stay (As : List MV) (σ : MS) (K : Option MV → MS → Prop) : Prop := pR As fun a r => pI r fun l r => pN r (a = 240 ∧ σ.2.1 = PF ∧ tOK (VM σ.2.2.1) ∧ carOK (VM σ.2.2.1) ∧ 0 ≤ l ∧ l ≤ 2 ∧ ∀ I' : Int → Int → Int, (∀ b k, b ≠ 250 → b ≠ 251 → I' b k = σ.2.2.1 b k) → (∀ i, 0 ≤ i → i < σ.2.2.1 240 1 → I' 250 i = l) → stayV (VM σ.2.2.1) l (I' 251) → K none (σ.1, σ.2.1, I', σ.2.2.2))
def ciX9_stay : CI := (2, 9, 0, 0, spX9_stay)
def kX9_stay (pc : Nat) : List ME := match pc with
  | 0 => [(.iconst 0, 1, []), (.istore_n 2, 1, [])]
  | 2 => [(.iload_n 2, 1, []), (.aload_n 0, 1, []), (.getfield 13, 3, []), (.if_icmp .ge 16, 3, [23]), (.aload_n 0, 1, []), (.getfield 58, 3, []), (.iload_n 2, 1, []), (.iload_n 1, 1, []), (.iastore, 1, []), (.iinc 2 1, 3, []), (.goto (-18), 3, [2])]
  | 23 => [(.aload_n 0, 1, []), (.invokevirtual 160, 3, []), (.return_, 1, [])]
  | _ => []
theorem qX9_stay : ∀ pc, chk cX9_stay pc (kX9_stay pc) = true := by
  intro pc
  unfold kX9_stay
  split <;> first | decide +kernel | exact chk_nil
abbrev rmX9_stay : Room := { frames := 2, cells := 0, slots := 0, locals := 48 }
def aX9_stay (x : Nat) : Option CI := match x with
  | 160 => some ciX9_quicken
  | _ => none
theorem aokX9_stay : ∀ x ci, aX9_stay x = some ci → CalOK RX9 rmX9_stay x ci := by
  intro x ci h
  unfold aX9_stay at h
  split at h
  · cases h; exact cal_V mX9_quicken (by decide) rfl (List.forall_mem_cons.mpr ⟨(ws_mem (List.mem_of_getElem? (i := 1044) (by decide +kernel)) (by decide +kernel)), List.forall_mem_cons.mpr ⟨(ws_mem (List.mem_of_getElem? (i := 1046) (by decide +kernel)) (by decide +kernel)), List.forall_mem_cons.mpr ⟨(ws_mem (List.mem_of_getElem? (i := 28) (by decide +kernel)) (by decide +kernel)), List.forall_mem_cons.mpr ⟨(ws_mem (List.mem_of_getElem? (i := 64) (by decide +kernel)) (by decide +kernel)), List.forall_mem_cons.mpr ⟨(ws_mem (List.mem_of_getElem? (i := 1047) (by decide +kernel)) (by decide +kernel)), fun _ h => absurd h List.not_mem_nil⟩⟩⟩⟩⟩) rfl (by unfold nice; decide +kernel) (by unfold rfits; decide) ⟨rfl, rfl⟩
  · cases h
theorem ocX9_stay_160 (f : Nat → Nat → Nat → Nat → (List MV → MS → (Option MV → MS → Prop) → Prop) → Prop) : oC aX9_stay 160 f = f 1 9 0 0 spX9_quicken := propext Iff.rfl
theorem mdX9_stay : MD RX9 cX9_stay rmX9_stay kX9_stay fX9 aX9_stay zX9 uX9 := ⟨fokX9, zokX9, uokX9, aokX9_stay, qX9_stay⟩
set_option maxHeartbeats 1600000 in
set_option maxRecDepth 100000 in
theorem lpX9_s1 {post : Option MV → MS → Prop} {U : Pt → Prop} {N : Nat} {I L : Int → Int → Int} {l : Int} (hn : I 240 1 ≤ 30) (h : ∀ (I1 : Int → Int → Int), (∀ b k, b ≠ 250 → I1 b k = I b k) → (∀ j, 0 ≤ j → j < I 240 1 → I1 250 j = l) → Ok RX9 cX9_stay 3 rmX9_stay false none post U (23, [some (.inr (.inr (some 240))), some (.inl l), some (.inl (I 240 1))], [], (N, PF, I1, L), 0, 0)) :
    ∀ (m : Nat) (i : Int) (I1 : Int → Int → Int), i + m = I 240 1 → 0 ≤ i → (∀ b k, b ≠ 250 → I1 b k = I b k) → (∀ j, 0 ≤ j → j < i → I1 250 j = l) →
    Ok RX9 cX9_stay 3 rmX9_stay false none post U (2, [some (.inr (.inr (some 240))), some (.inl l), some (.inl i)], [], (N, PF, I1, L), 0, 0)
  | 0, i, I1, hi, i0, h1, h2 => by
    have e1 : I1 240 1 = I 240 1 := h1 _ _ (by omega)
    refine Ok.seg mdX9_stay [2, 23] 10 ?_
    simp only [wp_nil, wp_cons, ↓stp, ↓lI, ↓lL, ↓lR, ↓lIn_0, ↓lIn_1, ↓lIn_2, ↓lIn_3, ↓lLn_0, ↓lLn_1, ↓lLn_2, ↓lLn_3, ↓lRn_0, ↓lRn_1, ↓lRn_2, ↓lRn_3, ↓pI, ↓pL, ↓pR, ↓pA, ↓pN, ↓pV, ↓fp, ↓tsw, ↓oS, ↓spMax, ↓spMin, ↓spAbs, ↓spObj, RI, RLg, b2i_lo, b2i_hi, getL, setL, ltL, killL, isLong, inl, cnd, br, tgt, rcv, rpl, mputI, mputL, mputP, fv, fr, mcat, mcs, entL, entA, rfit, nf_0, nf_1, nf_2, nf_3, nf2_0, nf2_1, b2i_0, b2i_1, RI_b2i, b2i_fit, List.append, List.length, List.replicate, List.cons_append, List.nil_append, List.length_cons, List.length_nil, List.replicate_succ, List.replicate_zero, List.tail_cons, reduceIte, if_true, if_false, ite_true, ite_false, Bool.false_eq_true, true_and, and_true, and_self, false_and, and_false, or_self, or_true, true_or, or_false, false_or, not_true_eq_false, not_false_eq_true, ne_eq, forall_const, implies_true, imp_self, true_implies, false_implies, Nat.reduceAdd, Nat.reduceSub, Nat.reduceMul, Nat.reduceDiv, Nat.reduceMod, Nat.reduceEqDiff, Nat.reduceLT, Nat.reduceLeDiff, Nat.reduceBEq, Nat.add_zero, Nat.zero_add, Nat.le_refl, Nat.not_lt_zero, Nat.succ_eq_add_one, Int.reduceNatCast, Int.cast_ofNat_Int, Int.reduceSub, Int.reduceMul, Int.reduceNeg, Int.reduceLE, Int.reduceLT, Int.reduceToNat, Int.reduceEq, Int.reduceNe, Int.reduceAdd, Option.some.injEq, kX9_stay, rmX9_stay, ↓ofX9_13, ↓ofX9_58, ↓ocX9_stay_160, ↓spX9_quicken, e1, G_240, G_241, G_242, G_243, G_244, G_245, G_246, G_247, G_248, G_249, G_250, G_251, G_252, G_253, G_254, G_255, G_256, G_257, G_258, G_259, G_260, G_261, G_262, G_263, G_264, G_265, G_266, G_267, G_268, G_269, G_270, G_271, G_272, PF_240_6, PF_240_7, PF_240_8, PF_240_9, PF_240_10, PF_240_11, PF_240_12, PF_240_13, PF_240_14, PF_240_15, PF_240_16, PF_240_17, PF_240_18, PF_240_19, PF_240_20, PF_240_21, PF_240_22, PF_240_23, PF_240_24, PF_240_26, PF_240_27, PF_240_28, PF_240_29, PF_240_30, PF_240_31, PF_240_32, PF_240_33, PF_240_34, PF_240_35, PF_240_36, PF_240_37]
    rw [show i = I 240 1 by omega] at h2 ⊢
    exact ⟨by omega, by omega, fun _ => h I1 h1 h2, fun q => by omega⟩
  | m + 1, i, I1, hi, i0, h1, h2 => by
    have ih := lpX9_s1 (U := U) (post := post) (N := N) (L := L) hn h m (i + 1)
    have e1 : I1 240 1 = I 240 1 := h1 _ _ (by omega)
    refine Ok.seg mdX9_stay [2, 23] 20 ?_
    simp only [wp_nil, wp_cons, ↓stp, ↓lI, ↓lL, ↓lR, ↓lIn_0, ↓lIn_1, ↓lIn_2, ↓lIn_3, ↓lLn_0, ↓lLn_1, ↓lLn_2, ↓lLn_3, ↓lRn_0, ↓lRn_1, ↓lRn_2, ↓lRn_3, ↓pI, ↓pL, ↓pR, ↓pA, ↓pN, ↓pV, ↓fp, ↓tsw, ↓oS, ↓spMax, ↓spMin, ↓spAbs, ↓spObj, RI, RLg, b2i_lo, b2i_hi, getL, setL, ltL, killL, isLong, inl, cnd, br, tgt, rcv, rpl, mputI, mputL, mputP, fv, fr, mcat, mcs, entL, entA, rfit, nf_0, nf_1, nf_2, nf_3, nf2_0, nf2_1, b2i_0, b2i_1, RI_b2i, b2i_fit, List.append, List.length, List.replicate, List.cons_append, List.nil_append, List.length_cons, List.length_nil, List.replicate_succ, List.replicate_zero, List.tail_cons, reduceIte, if_true, if_false, ite_true, ite_false, Bool.false_eq_true, true_and, and_true, and_self, false_and, and_false, or_self, or_true, true_or, or_false, false_or, not_true_eq_false, not_false_eq_true, ne_eq, forall_const, implies_true, imp_self, true_implies, false_implies, Nat.reduceAdd, Nat.reduceSub, Nat.reduceMul, Nat.reduceDiv, Nat.reduceMod, Nat.reduceEqDiff, Nat.reduceLT, Nat.reduceLeDiff, Nat.reduceBEq, Nat.add_zero, Nat.zero_add, Nat.le_refl, Nat.not_lt_zero, Nat.succ_eq_add_one, Int.reduceNatCast, Int.cast_ofNat_Int, Int.reduceSub, Int.reduceMul, Int.reduceNeg, Int.reduceLE, Int.reduceLT, Int.reduceToNat, Int.reduceEq, Int.reduceNe, Int.reduceAdd, Option.some.injEq, kX9_stay, rmX9_stay, ↓ofX9_13, ↓ofX9_58, ↓ocX9_stay_160, ↓spX9_quicken, e1, G_240, G_241, G_242, G_243, G_244, G_245, G_246, G_247, G_248, G_249, G_250, G_251, G_252, G_253, G_254, G_255, G_256, G_257, G_258, G_259, G_260, G_261, G_262, G_263, G_264, G_265, G_266, G_267, G_268, G_269, G_270, G_271, G_272, PF_240_6, PF_240_7, PF_240_8, PF_240_9, PF_240_10, PF_240_11, PF_240_12, PF_240_13, PF_240_14, PF_240_15, PF_240_16, PF_240_17, PF_240_18, PF_240_19, PF_240_20, PF_240_21, PF_240_22, PF_240_23, PF_240_24, PF_240_26, PF_240_27, PF_240_28, PF_240_29, PF_240_30, PF_240_31, PF_240_32, PF_240_33, PF_240_34, PF_240_35, PF_240_36, PF_240_37]
    refine ⟨by omega, by omega, fun q => by omega, fun q => ⟨by omega, by omega, ih _ (by omega) (by omega) (fun b k hb => by rw [upI_ne hb]; exact h1 b k hb) (fun j j0 j1 => ?_)⟩⟩
    by_cases z : j = i
    · rw [z]; exact upI_same
    · rw [upI_nj z]; exact h2 j j0 (by omega)
set_option maxRecDepth 100000 in
set_option maxHeartbeats 800000 in
theorem mX9_stay : MOK yX9_stay cX9_stay 3 none rmX9_stay ciX9_stay := by
  refine mok_of (ini := false) (by decide +kernel) (by decide) rfl rfl ?_
  intro σ As K hrc hl h
  obtain ⟨N, P, I, L⟩ := σ
  have h9 := pR_iff.mp h
  clear h
  obtain ⟨a, r, e9, h⟩ := h9
  subst e9
  have h9 := pI_iff.mp h
  clear h
  obtain ⟨l, r, e9, h⟩ := h9
  subst e9
  have h9 := pN_iff.mp h
  clear h
  obtain ⟨e9, h⟩ := h9
  subst e9
  try dsimp only at h
  obtain ⟨rfl, rfl, ht, hc, l0, l1, h⟩ := h
  have hn : I 240 1 ≤ 30 := ht.2.1
  have hn0 : 0 ≤ I 240 1 := ht.1
  refine ⟨Nat.le_of_ble_eq_true rfl, Ok.seg mdX9_stay [2] 6 ?_⟩
  simp only [wp_nil, wp_cons, ↓stp, ↓lI, ↓lL, ↓lR, ↓lIn_0, ↓lIn_1, ↓lIn_2, ↓lIn_3, ↓lLn_0, ↓lLn_1, ↓lLn_2, ↓lLn_3, ↓lRn_0, ↓lRn_1, ↓lRn_2, ↓lRn_3, ↓pI, ↓pL, ↓pR, ↓pA, ↓pN, ↓pV, ↓fp, ↓tsw, ↓oS, ↓spMax, ↓spMin, ↓spAbs, ↓spObj, RI, RLg, b2i_lo, b2i_hi, getL, setL, ltL, killL, isLong, inl, cnd, br, tgt, rcv, rpl, mputI, mputL, mputP, fv, fr, mcat, mcs, entL, entA, rfit, nf_0, nf_1, nf_2, nf_3, nf2_0, nf2_1, b2i_0, b2i_1, RI_b2i, b2i_fit, List.append, List.length, List.replicate, List.cons_append, List.nil_append, List.length_cons, List.length_nil, List.replicate_succ, List.replicate_zero, List.tail_cons, reduceIte, if_true, if_false, ite_true, ite_false, Bool.false_eq_true, true_and, and_true, and_self, false_and, and_false, or_self, or_true, true_or, or_false, false_or, not_true_eq_false, not_false_eq_true, ne_eq, forall_const, implies_true, imp_self, true_implies, false_implies, Nat.reduceAdd, Nat.reduceSub, Nat.reduceMul, Nat.reduceDiv, Nat.reduceMod, Nat.reduceEqDiff, Nat.reduceLT, Nat.reduceLeDiff, Nat.reduceBEq, Nat.add_zero, Nat.zero_add, Nat.le_refl, Nat.not_lt_zero, Nat.succ_eq_add_one, Int.reduceNatCast, Int.cast_ofNat_Int, Int.reduceSub, Int.reduceMul, Int.reduceNeg, Int.reduceLE, Int.reduceLT, Int.reduceToNat, Int.reduceEq, Int.reduceNe, Int.reduceAdd, Option.some.injEq, kX9_stay, rmX9_stay, ↓ofX9_13, ↓ofX9_58, ↓ocX9_stay_160, ↓spX9_quicken, G_240, G_241, G_242, G_243, G_244, G_245, G_246, G_247, G_248, G_249, G_250, G_251, G_252, G_253, G_254, G_255, G_256, G_257, G_258, G_259, G_260, G_261, G_262, G_263, G_264, G_265, G_266, G_267, G_268, G_269, G_270, G_271, G_272, PF_240_6, PF_240_7, PF_240_8, PF_240_9, PF_240_10, PF_240_11, PF_240_12, PF_240_13, PF_240_14, PF_240_15, PF_240_16, PF_240_17, PF_240_18, PF_240_19, PF_240_20, PF_240_21, PF_240_22, PF_240_23, PF_240_24, PF_240_26, PF_240_27, PF_240_28, PF_240_29, PF_240_30, PF_240_31, PF_240_32, PF_240_33, PF_240_34, PF_240_35, PF_240_36, PF_240_37]
  refine lpX9_s1 hn (fun I1 h1 h2 => ?_) (I 240 1).toNat 0 I (by omega) (by omega) (fun _ _ _ => rfl) (fun j a b => by omega)
  have eV : VM I1 = VM I := VM_cg (fun k _ => h1 _ _ (by omega)) (fun b k _ _ => h1 _ _ (by omega)) (fun b k _ _ => h1 _ _ (by omega))
  have e1 : I1 240 1 = I 240 1 := h1 _ _ (by omega)
  refine Ok.seg mdX9_stay [] 12 ?_
  simp only [wp_nil, wp_cons, ↓stp, ↓lI, ↓lL, ↓lR, ↓lIn_0, ↓lIn_1, ↓lIn_2, ↓lIn_3, ↓lLn_0, ↓lLn_1, ↓lLn_2, ↓lLn_3, ↓lRn_0, ↓lRn_1, ↓lRn_2, ↓lRn_3, ↓pI, ↓pL, ↓pR, ↓pA, ↓pN, ↓pV, ↓fp, ↓tsw, ↓oS, ↓spMax, ↓spMin, ↓spAbs, ↓spObj, RI, RLg, b2i_lo, b2i_hi, getL, setL, ltL, killL, isLong, inl, cnd, br, tgt, rcv, rpl, mputI, mputL, mputP, fv, fr, mcat, mcs, entL, entA, rfit, nf_0, nf_1, nf_2, nf_3, nf2_0, nf2_1, b2i_0, b2i_1, RI_b2i, b2i_fit, List.append, List.length, List.replicate, List.cons_append, List.nil_append, List.length_cons, List.length_nil, List.replicate_succ, List.replicate_zero, List.tail_cons, reduceIte, if_true, if_false, ite_true, ite_false, Bool.false_eq_true, true_and, and_true, and_self, false_and, and_false, or_self, or_true, true_or, or_false, false_or, not_true_eq_false, not_false_eq_true, ne_eq, forall_const, implies_true, imp_self, true_implies, false_implies, Nat.reduceAdd, Nat.reduceSub, Nat.reduceMul, Nat.reduceDiv, Nat.reduceMod, Nat.reduceEqDiff, Nat.reduceLT, Nat.reduceLeDiff, Nat.reduceBEq, Nat.add_zero, Nat.zero_add, Nat.le_refl, Nat.not_lt_zero, Nat.succ_eq_add_one, Int.reduceNatCast, Int.cast_ofNat_Int, Int.reduceSub, Int.reduceMul, Int.reduceNeg, Int.reduceLE, Int.reduceLT, Int.reduceToNat, Int.reduceEq, Int.reduceNe, Int.reduceAdd, Option.some.injEq, kX9_stay, rmX9_stay, ↓ofX9_13, ↓ofX9_58, ↓ocX9_stay_160, ↓spX9_quicken, eV, ht, hc, G_240, G_241, G_242, G_243, G_244, G_245, G_246, G_247, G_248, G_249, G_250, G_251, G_252, G_253, G_254, G_255, G_256, G_257, G_258, G_259, G_260, G_261, G_262, G_263, G_264, G_265, G_266, G_267, G_268, G_269, G_270, G_271, G_272, PF_240_6, PF_240_7, PF_240_8, PF_240_9, PF_240_10, PF_240_11, PF_240_12, PF_240_13, PF_240_14, PF_240_15, PF_240_16, PF_240_17, PF_240_18, PF_240_19, PF_240_20, PF_240_21, PF_240_22, PF_240_23, PF_240_24, PF_240_26, PF_240_27, PF_240_28, PF_240_29, PF_240_30, PF_240_31, PF_240_32, PF_240_33, PF_240_34, PF_240_35, PF_240_36, PF_240_37]
  refine ⟨fun i i0 i1 => by rw [h2 i i0 (by omega)]; omega, fun I2 k1 k2 => ?_⟩
  refine h I2 (fun b k b0 b1 => by rw [k1 b k b1]; exact h1 b k b0) (fun i i0 i1 => by rw [k1 250 i (by omega)]; exact h2 i i0 i1) ?_
  unfold mMx at k2
  rw [e1, h1 240 3 (by omega), h1 240 4 (by omega), show I1 246 = I 246 from funext fun k => h1 _ _ (by omega), show I1 247 = I 247 from funext fun k => h1 _ _ (by omega)] at k2
  refine Mx.cg (fun i i0 i1 => ?_) (fun _ _ _ => rfl) k2
  unfold mlm
  rw [eV, h2 i i0 i1, h1 240 2 (by omega)]
  rfl
def spX9_quickest (As : List MV) (σ : MS) (K : Option MV → MS → Prop) : Prop := pR As fun a r => pI r fun l r => pI r fun s r => pN r (a = 240 ∧ σ.2.1 = PF ∧ RI l ∧ RI s ∧ mOK σ.2.2.1 σ.2.2.2 ∧ (¬ (0 ≤ s ∧ s < σ.2.2.1 240 1 ∧ 0 ≤ l ∧ l ≤ 2) → K (some (.inl (-1))) σ) ∧ (0 ≤ s ∧ s < σ.2.2.1 240 1 ∧ 0 ≤ l ∧ l ≤ 2 → ∀ (I' : Int → Int → Int) (q : Int → Int), frW σ.2.2.1 I' → mOK I' σ.2.2.2 → stayV (VM σ.2.2.1) l q → K (some (.inl (q s))) (σ.1, σ.2.1, I', σ.2.2.2)))
def ciX9_quickest : CI := (3, 9, 0, 0, spX9_quickest)
def kX9_quickest (pc : Nat) : List ME := match pc with
  | 0 => [(.aload_n 0, 1, []), (.iload_n 1, 1, []), (.iconst 0, 1, []), (.iconst 2, 1, []), (.invokevirtual 128, 3, []), (.ifCond .eq 11, 3, [18]), (.aload_n 0, 1, []), (.iload_n 2, 1, []), (.invokevirtual 135, 3, []), (.ifCond .ne 5, 3, [20])]
  | 18 => [(.iconst (-1), 1, []), (.ireturn, 1, [])]
  | 20 => [(.aload_n 0, 1, []), (.iload_n 1, 1, []), (.invokevirtual 163, 3, []), (.aload_n 0, 1, []), (.getfield 61, 3, []), (.iload_n 2, 1, []), (.iaload, 1, []), (.ireturn, 1, [])]
  | _ => []
theorem qX9_quickest : ∀ pc, chk cX9_quickest pc (kX9_quickest pc) = true := by
  intro pc
  unfold kX9_quickest
  split <;> first | decide +kernel | exact chk_nil
abbrev rmX9_quickest : Room := { frames := 3, cells := 0, slots := 0, locals := 70 }
def aX9_quickest (x : Nat) : Option CI := match x with
  | 128 => some ciX9_in
  | 135 => some ciX9_isStation
  | 163 => some ciX9_stay
  | _ => none
theorem aokX9_quickest : ∀ x ci, aX9_quickest x = some ci → CalOK RX9 rmX9_quickest x ci := by
  intro x ci h
  unfold aX9_quickest at h
  split at h
  · cases h; exact cal_V mX9_in (by decide) rfl (List.forall_mem_cons.mpr ⟨(ws_mem (List.mem_of_getElem? (i := 979) (by decide +kernel)) (by decide +kernel)), List.forall_mem_cons.mpr ⟨(ws_mem (List.mem_of_getElem? (i := 981) (by decide +kernel)) (by decide +kernel)), List.forall_mem_cons.mpr ⟨(ws_mem (List.mem_of_getElem? (i := 20) (by decide +kernel)) (by decide +kernel)), List.forall_mem_cons.mpr ⟨(ws_mem (List.mem_of_getElem? (i := 64) (by decide +kernel)) (by decide +kernel)), List.forall_mem_cons.mpr ⟨(ws_mem (List.mem_of_getElem? (i := 982) (by decide +kernel)) (by decide +kernel)), fun _ h => absurd h List.not_mem_nil⟩⟩⟩⟩⟩) rfl (by unfold nice; decide +kernel) (by unfold rfits; decide) ⟨rfl, rfl⟩
  · cases h; exact cal_V mX9_isStation (by decide) rfl (List.forall_mem_cons.mpr ⟨(ws_mem (List.mem_of_getElem? (i := 995) (by decide +kernel)) (by decide +kernel)), List.forall_mem_cons.mpr ⟨(ws_mem (List.mem_of_getElem? (i := 997) (by decide +kernel)) (by decide +kernel)), List.forall_mem_cons.mpr ⟨(ws_mem (List.mem_of_getElem? (i := 22) (by decide +kernel)) (by decide +kernel)), List.forall_mem_cons.mpr ⟨(ws_mem (List.mem_of_getElem? (i := 64) (by decide +kernel)) (by decide +kernel)), List.forall_mem_cons.mpr ⟨(ws_mem (List.mem_of_getElem? (i := 998) (by decide +kernel)) (by decide +kernel)), fun _ h => absurd h List.not_mem_nil⟩⟩⟩⟩⟩) rfl (by unfold nice; decide +kernel) (by unfold rfits; decide) ⟨rfl, rfl⟩
  · cases h; exact cal_V mX9_stay (by decide) rfl (List.forall_mem_cons.mpr ⟨(ws_mem (List.mem_of_getElem? (i := 1040) (by decide +kernel)) (by decide +kernel)), List.forall_mem_cons.mpr ⟨(ws_mem (List.mem_of_getElem? (i := 1042) (by decide +kernel)) (by decide +kernel)), List.forall_mem_cons.mpr ⟨(ws_mem (List.mem_of_getElem? (i := 27) (by decide +kernel)) (by decide +kernel)), List.forall_mem_cons.mpr ⟨(ws_mem (List.mem_of_getElem? (i := 64) (by decide +kernel)) (by decide +kernel)), List.forall_mem_cons.mpr ⟨(ws_mem (List.mem_of_getElem? (i := 1043) (by decide +kernel)) (by decide +kernel)), fun _ h => absurd h List.not_mem_nil⟩⟩⟩⟩⟩) rfl (by unfold nice; decide +kernel) (by unfold rfits; decide) ⟨rfl, rfl⟩
  · cases h
theorem ocX9_quickest_128 (f : Nat → Nat → Nat → Nat → (List MV → MS → (Option MV → MS → Prop) → Prop) → Prop) : oC aX9_quickest 128 f = f 4 9 0 0 spX9_in := propext Iff.rfl
theorem ocX9_quickest_135 (f : Nat → Nat → Nat → Nat → (List MV → MS → (Option MV → MS → Prop) → Prop) → Prop) : oC aX9_quickest 135 f = f 2 9 0 0 spX9_isStation := propext Iff.rfl
theorem ocX9_quickest_163 (f : Nat → Nat → Nat → Nat → (List MV → MS → (Option MV → MS → Prop) → Prop) → Prop) : oC aX9_quickest 163 f = f 2 9 0 0 spX9_stay := propext Iff.rfl
theorem mdX9_quickest : MD RX9 cX9_quickest rmX9_quickest kX9_quickest fX9 aX9_quickest zX9 uX9 := ⟨fokX9, zokX9, uokX9, aokX9_quickest, qX9_quickest⟩
/-- work rows beside those of the laps change alone -/
theorem mOK_w {I J L L' : Int → Int → Int} (h : mOK I L) (hf : frW I J) (h248 : ∀ k, J 248 k = I 248 k) (hL : ∀ k, L' 249 k = L 249 k) : mOK J L' := by
  obtain ⟨a, b, c, d, e⟩ := h
  refine ⟨by rw [hf.V]; exact a, by rw [hf.V]; exact b, by rw [hf.V]; exact c, fun g g0 g1 => ?_, fun d d0 d1 => msh_cg (fun b k _ _ => hf b k (by omega) (by omega) (by omega) (by omega)) (e d d0 d1)⟩
  rw [hf.V, h248, hL, hf 240 3 (by omega) (by omega) (by omega) (by omega), hf 240 4 (by omega) (by omega) (by omega) (by omega)]
  exact d g g0 g1
set_option maxRecDepth 100000 in
set_option maxHeartbeats 800000 in
theorem mX9_quickest : MOK yX9_quickest cX9_quickest 3 (some .int) rmX9_quickest ciX9_quickest := by
  refine mok_of (ini := false) (by decide +kernel) (by decide) rfl rfl ?_
  intro σ As K hrc hl h
  obtain ⟨N, P, I, L⟩ := σ
  have h9 := pR_iff.mp h
  clear h
  obtain ⟨a, r, e9, h⟩ := h9
  subst e9
  have h9 := pI_iff.mp h
  clear h
  obtain ⟨l, r, e9, h⟩ := h9
  subst e9
  have h9 := pI_iff.mp h
  clear h
  obtain ⟨s, r, e9, h⟩ := h9
  subst e9
  have h9 := pN_iff.mp h
  clear h
  obtain ⟨e9, h⟩ := h9
  subst e9
  try dsimp only at h
  obtain ⟨rfl, rfl, hl2, hs, hx, h1, h2⟩ := h
  unfold RI at hl2 hs
  have y1 := (nM hx).1
  have x1 := hx.1
  have x2 := hx.2.1
  refine ⟨Nat.le_of_ble_eq_true rfl, Ok.seg mdX9_quickest [] 30 ?_⟩
  simp only [wp_nil, wp_cons, ↓stp, ↓lI, ↓lL, ↓lR, ↓lIn_0, ↓lIn_1, ↓lIn_2, ↓lIn_3, ↓lLn_0, ↓lLn_1, ↓lLn_2, ↓lLn_3, ↓lRn_0, ↓lRn_1, ↓lRn_2, ↓lRn_3, ↓pI, ↓pL, ↓pR, ↓pA, ↓pN, ↓pV, ↓fp, ↓tsw, ↓oS, ↓spMax, ↓spMin, ↓spAbs, ↓spObj, RI, RLg, b2i_lo, b2i_hi, getL, setL, ltL, killL, isLong, inl, cnd, br, tgt, rcv, rpl, mputI, mputL, mputP, fv, fr, mcat, mcs, entL, entA, rfit, nf_0, nf_1, nf_2, nf_3, nf2_0, nf2_1, b2i_0, b2i_1, RI_b2i, b2i_fit, List.append, List.length, List.replicate, List.cons_append, List.nil_append, List.length_cons, List.length_nil, List.replicate_succ, List.replicate_zero, List.tail_cons, reduceIte, if_true, if_false, ite_true, ite_false, Bool.false_eq_true, true_and, and_true, and_self, false_and, and_false, or_self, or_true, true_or, or_false, false_or, not_true_eq_false, not_false_eq_true, ne_eq, forall_const, implies_true, imp_self, true_implies, false_implies, Nat.reduceAdd, Nat.reduceSub, Nat.reduceMul, Nat.reduceDiv, Nat.reduceMod, Nat.reduceEqDiff, Nat.reduceLT, Nat.reduceLeDiff, Nat.reduceBEq, Nat.add_zero, Nat.zero_add, Nat.le_refl, Nat.not_lt_zero, Nat.succ_eq_add_one, Int.reduceNatCast, Int.cast_ofNat_Int, Int.reduceSub, Int.reduceMul, Int.reduceNeg, Int.reduceLE, Int.reduceLT, Int.reduceToNat, Int.reduceEq, Int.reduceNe, Int.reduceAdd, Option.some.injEq, kX9_quickest, rmX9_quickest, ↓ofX9_61, ↓ocX9_quickest_128, ↓spX9_in, ↓ocX9_quickest_135, ↓spX9_isStation, ↓ocX9_quickest_163, ↓spX9_stay, y1.1, y1.2, x1, x2, G_240, G_241, G_242, G_243, G_244, G_245, G_246, G_247, G_248, G_249, G_250, G_251, G_252, G_253, G_254, G_255, G_256, G_257, G_258, G_259, G_260, G_261, G_262, G_263, G_264, G_265, G_266, G_267, G_268, G_269, G_270, G_271, G_272, PF_240_6, PF_240_7, PF_240_8, PF_240_9, PF_240_10, PF_240_11, PF_240_12, PF_240_13, PF_240_14, PF_240_15, PF_240_16, PF_240_17, PF_240_18, PF_240_19, PF_240_20, PF_240_21, PF_240_22, PF_240_23, PF_240_24, PF_240_26, PF_240_27, PF_240_28, PF_240_29, PF_240_30, PF_240_31, PF_240_32, PF_240_33, PF_240_34, PF_240_35, PF_240_36, PF_240_37]
  refine ⟨by omega, fun q => h1 (by omega), fun q => ⟨by omega, fun q2 => ⟨by omega, by omega, fun I' k1 k2 k3 => ⟨by omega, by omega, ?_⟩⟩, fun q2 => h1 (by omega)⟩⟩
  have hf : frW I I' := fun b k b0 b1 b2 b3 => k1 b k (by omega) (by omega)
  exact h2 (by omega) I' (I' 251) hf (mOK_w hx hf (fun k => k1 _ _ (by omega) (by omega)) (fun _ => rfl)) k3
def tmM (I : Int → Int → Int) (i : Int) : Int := tmv (I 242 i) (lch (I 250) i) (I 251 i)
def pacM (I : Int → Int → Int) : Prop := ∀ i, 0 ≤ i → i < I 240 1 → 1 ≤ I 251 i ∧ I 251 i ≤ 60
theorem tmM_rng {I : Int → Int → Int} (ht : tOK (VM I)) (hp : pacM I) {i : Int} (i0 : 0 ≤ i) (i1 : i < I 240 1) : 0 ≤ tmM I i ∧ tmM I i ≤ 101000 := by
  have a := stM ht i0 i1
  exact tmv_rng (by omega) (by omega) (hp i i0 i1).1
def spX9_timeInAll (As : List MV) (σ : MS) (K : Option MV → MS → Prop) : Prop := pR As fun a r => pN r (a = 240 ∧ σ.2.1 = PF ∧ tOK (VM σ.2.2.1) ∧ lanM σ.2.2.1 ∧ pacM σ.2.2.1 ∧ K (some (.inr (.inl (sumI (tmM σ.2.2.1) (σ.2.2.1 240 1).toNat)))) σ)
def ciX9_timeInAll : CI := (1, 9, 0, 0, spX9_timeInAll)
def kX9_timeInAll (pc : Nat) : List ME := match pc with
  | 0 => [(.lconst 0, 1, []), (.lstore_n 1, 1, []), (.iconst 0, 1, []), (.istore_n 3, 1, [])]
  | 4 => [(.iload_n 3, 1, []), (.aload_n 0, 1, []), (.getfield 13, 3, []), (.if_icmp .ge 18, 3, [27]), (.lload_n 1, 1, []), (.aload_n 0, 1, []), (.iload_n 3, 1, []), (.invokevirtual 167, 3, []), (.i2l, 1, []), (.ladd, 1, []), (.lstore_n 1, 1, []), (.iinc 3 1, 3, []), (.goto (-20), 3, [4])]
  | 27 => [(.lload_n 1, 1, []), (.lreturn, 1, [])]
  | _ => []
theorem qX9_timeInAll : ∀ pc, chk cX9_timeInAll pc (kX9_timeInAll pc) = true := by
  intro pc
  unfold kX9_timeInAll
  split <;> first | decide +kernel | exact chk_nil
abbrev rmX9_timeInAll : Room := { frames := 2, cells := 0, slots := 0, locals := 44 }
def aX9_timeInAll (x : Nat) : Option CI := match x with
  | 167 => some ciX9_timeAt
  | _ => none
theorem aokX9_timeInAll : ∀ x ci, aX9_timeInAll x = some ci → CalOK RX9 rmX9_timeInAll x ci := by
  intro x ci h
  unfold aX9_timeInAll at h
  split at h
  · cases h; exact cal_V mX9_timeAt (by decide) rfl (List.forall_mem_cons.mpr ⟨(ws_mem (List.mem_of_getElem? (i := 1056) (by decide +kernel)) (by decide +kernel)), List.forall_mem_cons.mpr ⟨(ws_mem (List.mem_of_getElem? (i := 1058) (by decide +kernel)) (by decide +kernel)), List.forall_mem_cons.mpr ⟨(ws_mem (List.mem_of_getElem? (i := 30) (by decide +kernel)) (by decide +kernel)), List.forall_mem_cons.mpr ⟨(ws_mem (List.mem_of_getElem? (i := 64) (by decide +kernel)) (by decide +kernel)), List.forall_mem_cons.mpr ⟨(ws_mem (List.mem_of_getElem? (i := 1059) (by decide +kernel)) (by decide +kernel)), fun _ h => absurd h List.not_mem_nil⟩⟩⟩⟩⟩) rfl (by unfold nice; decide +kernel) (by unfold rfits; decide) ⟨rfl, rfl⟩
  · cases h
theorem ocX9_timeInAll_167 (f : Nat → Nat → Nat → Nat → (List MV → MS → (Option MV → MS → Prop) → Prop) → Prop) : oC aX9_timeInAll 167 f = f 2 9 0 0 spX9_timeAt := propext Iff.rfl
theorem mdX9_timeInAll : MD RX9 cX9_timeInAll rmX9_timeInAll kX9_timeInAll fX9 aX9_timeInAll zX9 uX9 := ⟨fokX9, zokX9, uokX9, aokX9_timeInAll, qX9_timeInAll⟩
set_option maxHeartbeats 1600000 in
set_option maxRecDepth 100000 in
theorem lpX9_a1 {post : Option MV → MS → Prop} {U : Pt → Prop} {N : Nat} {I L : Int → Int → Int} (ht : tOK (VM I)) (hl : lanM I) (hp : pacM I) (h : post (some (.inr (.inl (sumI (tmM I) (I 240 1).toNat)))) (N, PF, I, L)) :
    ∀ (m i : Nat), ((i + m : Nat) : Int) = I 240 1 →
    Ok RX9 cX9_timeInAll 4 rmX9_timeInAll false none post U (4, [some (.inr (.inr (some 240))), some (.inr (.inl (sumI (tmM I) i))), none, some (.inl i)], [], (N, PF, I, L), 0, 0)
  | 0, i, hi => by
    have hn : I 240 1 ≤ 30 := ht.2.1
    refine Ok.seg mdX9_timeInAll [4] 10 ?_
    simp only [wp_nil, wp_cons, ↓stp, ↓lI, ↓lL, ↓lR, ↓lIn_0, ↓lIn_1, ↓lIn_2, ↓lIn_3, ↓lLn_0, ↓lLn_1, ↓lLn_2, ↓lLn_3, ↓lRn_0, ↓lRn_1, ↓lRn_2, ↓lRn_3, ↓pI, ↓pL, ↓pR, ↓pA, ↓pN, ↓pV, ↓fp, ↓tsw, ↓oS, ↓spMax, ↓spMin, ↓spAbs, ↓spObj, RI, RLg, b2i_lo, b2i_hi, getL, setL, ltL, killL, isLong, inl, cnd, br, tgt, rcv, rpl, mputI, mputL, mputP, fv, fr, mcat, mcs, entL, entA, rfit, nf_0, nf_1, nf_2, nf_3, nf2_0, nf2_1, b2i_0, b2i_1, RI_b2i, b2i_fit, List.append, List.length, List.replicate, List.cons_append, List.nil_append, List.length_cons, List.length_nil, List.replicate_succ, List.replicate_zero, List.tail_cons, reduceIte, if_true, if_false, ite_true, ite_false, Bool.false_eq_true, true_and, and_true, and_self, false_and, and_false, or_self, or_true, true_or, or_false, false_or, not_true_eq_false, not_false_eq_true, ne_eq, forall_const, implies_true, imp_self, true_implies, false_implies, Nat.reduceAdd, Nat.reduceSub, Nat.reduceMul, Nat.reduceDiv, Nat.reduceMod, Nat.reduceEqDiff, Nat.reduceLT, Nat.reduceLeDiff, Nat.reduceBEq, Nat.add_zero, Nat.zero_add, Nat.le_refl, Nat.not_lt_zero, Nat.succ_eq_add_one, Int.reduceNatCast, Int.cast_ofNat_Int, Int.reduceSub, Int.reduceMul, Int.reduceNeg, Int.reduceLE, Int.reduceLT, Int.reduceToNat, Int.reduceEq, Int.reduceNe, Int.reduceAdd, Option.some.injEq, kX9_timeInAll, rmX9_timeInAll, ↓ofX9_13, ↓ocX9_timeInAll_167, ↓spX9_timeAt, G_240, G_241, G_242, G_243, G_244, G_245, G_246, G_247, G_248, G_249, G_250, G_251, G_252, G_253, G_254, G_255, G_256, G_257, G_258, G_259, G_260, G_261, G_262, G_263, G_264, G_265, G_266, G_267, G_268, G_269, G_270, G_271, G_272, PF_240_6, PF_240_7, PF_240_8, PF_240_9, PF_240_10, PF_240_11, PF_240_12, PF_240_13, PF_240_14, PF_240_15, PF_240_16, PF_240_17, PF_240_18, PF_240_19, PF_240_20, PF_240_21, PF_240_22, PF_240_23, PF_240_24, PF_240_26, PF_240_27, PF_240_28, PF_240_29, PF_240_30, PF_240_31, PF_240_32, PF_240_33, PF_240_34, PF_240_35, PF_240_36, PF_240_37]
    rw [show (I 240 1).toNat = i by omega] at h
    exact ⟨by omega, by omega, fun _ => h, fun q => by omega⟩
  | m + 1, i, hi => by
    have hn : I 240 1 ≤ 30 := ht.2.1
    have ih := lpX9_a1 (U := U) (post := post) (N := N) (L := L) ht hl hp h m (i + 1) (by omega)
    rw [sumI_s, show ((i + 1 : Nat) : Int) = (i : Int) + 1 by omega] at ih
    have a := stM ht (i := i) (by omega) (by omega)
    have b := hp i (by omega) (by omega)
    have c := tmM_rng ht hp (i := i) (by omega) (by omega)
    have ec : tmv (I 242 i) (lch (I 250) i) (I 251 i) = tmM I i := rfl
    refine Ok.seg mdX9_timeInAll [4] 20 ?_
    simp only [wp_nil, wp_cons, ↓stp, ↓lI, ↓lL, ↓lR, ↓lIn_0, ↓lIn_1, ↓lIn_2, ↓lIn_3, ↓lLn_0, ↓lLn_1, ↓lLn_2, ↓lLn_3, ↓lRn_0, ↓lRn_1, ↓lRn_2, ↓lRn_3, ↓pI, ↓pL, ↓pR, ↓pA, ↓pN, ↓pV, ↓fp, ↓tsw, ↓oS, ↓spMax, ↓spMin, ↓spAbs, ↓spObj, RI, RLg, b2i_lo, b2i_hi, getL, setL, ltL, killL, isLong, inl, cnd, br, tgt, rcv, rpl, mputI, mputL, mputP, fv, fr, mcat, mcs, entL, entA, rfit, nf_0, nf_1, nf_2, nf_3, nf2_0, nf2_1, b2i_0, b2i_1, RI_b2i, b2i_fit, List.append, List.length, List.replicate, List.cons_append, List.nil_append, List.length_cons, List.length_nil, List.replicate_succ, List.replicate_zero, List.tail_cons, reduceIte, if_true, if_false, ite_true, ite_false, Bool.false_eq_true, true_and, and_true, and_self, false_and, and_false, or_self, or_true, true_or, or_false, false_or, not_true_eq_false, not_false_eq_true, ne_eq, forall_const, implies_true, imp_self, true_implies, false_implies, Nat.reduceAdd, Nat.reduceSub, Nat.reduceMul, Nat.reduceDiv, Nat.reduceMod, Nat.reduceEqDiff, Nat.reduceLT, Nat.reduceLeDiff, Nat.reduceBEq, Nat.add_zero, Nat.zero_add, Nat.le_refl, Nat.not_lt_zero, Nat.succ_eq_add_one, Int.reduceNatCast, Int.cast_ofNat_Int, Int.reduceSub, Int.reduceMul, Int.reduceNeg, Int.reduceLE, Int.reduceLT, Int.reduceToNat, Int.reduceEq, Int.reduceNe, Int.reduceAdd, Option.some.injEq, kX9_timeInAll, rmX9_timeInAll, ↓ofX9_13, ↓ocX9_timeInAll_167, ↓spX9_timeAt, ec, G_240, G_241, G_242, G_243, G_244, G_245, G_246, G_247, G_248, G_249, G_250, G_251, G_252, G_253, G_254, G_255, G_256, G_257, G_258, G_259, G_260, G_261, G_262, G_263, G_264, G_265, G_266, G_267, G_268, G_269, G_270, G_271, G_272, PF_240_6, PF_240_7, PF_240_8, PF_240_9, PF_240_10, PF_240_11, PF_240_12, PF_240_13, PF_240_14, PF_240_15, PF_240_16, PF_240_17, PF_240_18, PF_240_19, PF_240_20, PF_240_21, PF_240_22, PF_240_23, PF_240_24, PF_240_26, PF_240_27, PF_240_28, PF_240_29, PF_240_30, PF_240_31, PF_240_32, PF_240_33, PF_240_34, PF_240_35, PF_240_36, PF_240_37]
    exact ⟨by omega, by omega, fun q => by omega, fun q => ⟨by omega, by omega, by omega, by omega, fun j j0 j1 => hl j j0 (by omega), by omega, ih⟩⟩
set_option maxRecDepth 100000 in
set_option maxHeartbeats 800000 in
theorem mX9_timeInAll : MOK yX9_timeInAll cX9_timeInAll 4 (some .long) rmX9_timeInAll ciX9_timeInAll := by
  refine mok_of (ini := false) (by decide +kernel) (by decide) rfl rfl ?_
  intro σ As K hrc hl h
  obtain ⟨N, P, I, L⟩ := σ
  have h9 := pR_iff.mp h
  clear h
  obtain ⟨a, r, e9, h⟩ := h9
  subst e9
  have h9 := pN_iff.mp h
  clear h
  obtain ⟨e9, h⟩ := h9
  subst e9
  try dsimp only at h
  obtain ⟨rfl, rfl, ht, hl2, hp, h⟩ := h
  have hn0 : 0 ≤ I 240 1 := ht.1
  refine ⟨Nat.le_of_ble_eq_true rfl, Ok.seg mdX9_timeInAll [4] 6 ?_⟩
  simp only [wp_nil, wp_cons, ↓stp, ↓lI, ↓lL, ↓lR, ↓lIn_0, ↓lIn_1, ↓lIn_2, ↓lIn_3, ↓lLn_0, ↓lLn_1, ↓lLn_2, ↓lLn_3, ↓lRn_0, ↓lRn_1, ↓lRn_2, ↓lRn_3, ↓pI, ↓pL, ↓pR, ↓pA, ↓pN, ↓pV, ↓fp, ↓tsw, ↓oS, ↓spMax, ↓spMin, ↓spAbs, ↓spObj, RI, RLg, b2i_lo, b2i_hi, getL, setL, ltL, killL, isLong, inl, cnd, br, tgt, rcv, rpl, mputI, mputL, mputP, fv, fr, mcat, mcs, entL, entA, rfit, nf_0, nf_1, nf_2, nf_3, nf2_0, nf2_1, b2i_0, b2i_1, RI_b2i, b2i_fit, List.append, List.length, List.replicate, List.cons_append, List.nil_append, List.length_cons, List.length_nil, List.replicate_succ, List.replicate_zero, List.tail_cons, reduceIte, if_true, if_false, ite_true, ite_false, Bool.false_eq_true, true_and, and_true, and_self, false_and, and_false, or_self, or_true, true_or, or_false, false_or, not_true_eq_false, not_false_eq_true, ne_eq, forall_const, implies_true, imp_self, true_implies, false_implies, Nat.reduceAdd, Nat.reduceSub, Nat.reduceMul, Nat.reduceDiv, Nat.reduceMod, Nat.reduceEqDiff, Nat.reduceLT, Nat.reduceLeDiff, Nat.reduceBEq, Nat.add_zero, Nat.zero_add, Nat.le_refl, Nat.not_lt_zero, Nat.succ_eq_add_one, Int.reduceNatCast, Int.cast_ofNat_Int, Int.reduceSub, Int.reduceMul, Int.reduceNeg, Int.reduceLE, Int.reduceLT, Int.reduceToNat, Int.reduceEq, Int.reduceNe, Int.reduceAdd, Option.some.injEq, kX9_timeInAll, rmX9_timeInAll, ↓ofX9_13, ↓ocX9_timeInAll_167, ↓spX9_timeAt, G_240, G_241, G_242, G_243, G_244, G_245, G_246, G_247, G_248, G_249, G_250, G_251, G_252, G_253, G_254, G_255, G_256, G_257, G_258, G_259, G_260, G_261, G_262, G_263, G_264, G_265, G_266, G_267, G_268, G_269, G_270, G_271, G_272, PF_240_6, PF_240_7, PF_240_8, PF_240_9, PF_240_10, PF_240_11, PF_240_12, PF_240_13, PF_240_14, PF_240_15, PF_240_16, PF_240_17, PF_240_18, PF_240_19, PF_240_20, PF_240_21, PF_240_22, PF_240_23, PF_240_24, PF_240_26, PF_240_27, PF_240_28, PF_240_29, PF_240_30, PF_240_31, PF_240_32, PF_240_33, PF_240_34, PF_240_35, PF_240_36, PF_240_37]
  exact lpX9_a1 (post := fun r σ' => rfit (some .long) r ∧ K r σ') ht hl2 hp ⟨trivial, h⟩ (I 240 1).toNat 0 (by omega)
def spX9_along (As : List MV) (σ : MS) (K : Option MV → MS → Prop) : Prop := pR As fun a r => pI r fun l r => pN r (a = 240 ∧ σ.2.1 = PF ∧ RI l ∧ mOK σ.2.2.1 σ.2.2.2 ∧ (¬ (0 ≤ l ∧ l ≤ 2) → ∀ I' : Int → Int → Int, frW σ.2.2.1 I' → mOK I' σ.2.2.2 → I' 240 0 = 1 → K (some (.inr (.inl 0))) (σ.1, σ.2.1, I', σ.2.2.2)) ∧ (0 ≤ l ∧ l ≤ 2 → ∀ (I' : Int → Int → Int) (q : Int → Int), frW σ.2.2.1 I' → mOK I' σ.2.2.2 → I' 240 0 = 0 → stayV (VM σ.2.2.1) l q → K (some (.inr (.inl (sumI (fun i => tmv (σ.2.2.1 242 i) 0 (q i)) (σ.2.2.1 240 1).toNat)))) (σ.1, σ.2.1, I', σ.2.2.2)))
def ciX9_along : CI := (2, 9, 0, 0, spX9_along)
def kX9_along (pc : Nat) : List ME := match pc with
  | 0 => [(.aload_n 0, 1, []), (.aload_n 0, 1, []), (.iload_n 1, 1, []), (.iconst 0, 1, []), (.iconst 2, 1, []), (.invokevirtual 128, 3, []), (.ifCond .eq 7, 3, [15]), (.iconst 0, 1, []), (.goto 4, 3, [16])]
  | 15 => [(.iconst 1, 1, [])]
  | 16 => [(.putfield 7, 3, []), (.aload_n 0, 1, []), (.getfield 7, 3, []), (.ifCond .le 5, 3, [28]), (.lconst 0, 1, []), (.lreturn, 1, [])]
  | 28 => [(.aload_n 0, 1, []), (.iload_n 1, 1, []), (.invokevirtual 163, 3, []), (.aload_n 0, 1, []), (.invokevirtual 170, 3, []), (.lreturn, 1, [])]
  | _ => []
theorem qX9_along : ∀ pc, chk cX9_along pc (kX9_along pc) = true := by
  intro pc
  unfold kX9_along
  split <;> first | decide +kernel | exact chk_nil
abbrev rmX9_along : Room := { frames := 3, cells := 0, slots := 0, locals := 70 }
def aX9_along (x : Nat) : Option CI := match x with
  | 128 => some ciX9_in
  | 163 => some ciX9_stay
  | 170 => some ciX9_timeInAll
  | _ => none
theorem aokX9_along : ∀ x ci, aX9_along x = some ci → CalOK RX9 rmX9_along x ci := by
  intro x ci h
  unfold aX9_along at h
  split at h
  · cases h; exact cal_V mX9_in (by decide) rfl (List.forall_mem_cons.mpr ⟨(ws_mem (List.mem_of_getElem? (i := 979) (by decide +kernel)) (by decide +kernel)), List.forall_mem_cons.mpr ⟨(ws_mem (List.mem_of_getElem? (i := 981) (by decide +kernel)) (by decide +kernel)), List.forall_mem_cons.mpr ⟨(ws_mem (List.mem_of_getElem? (i := 20) (by decide +kernel)) (by decide +kernel)), List.forall_mem_cons.mpr ⟨(ws_mem (List.mem_of_getElem? (i := 64) (by decide +kernel)) (by decide +kernel)), List.forall_mem_cons.mpr ⟨(ws_mem (List.mem_of_getElem? (i := 982) (by decide +kernel)) (by decide +kernel)), fun _ h => absurd h List.not_mem_nil⟩⟩⟩⟩⟩) rfl (by unfold nice; decide +kernel) (by unfold rfits; decide) ⟨rfl, rfl⟩
  · cases h; exact cal_V mX9_stay (by decide) rfl (List.forall_mem_cons.mpr ⟨(ws_mem (List.mem_of_getElem? (i := 1040) (by decide +kernel)) (by decide +kernel)), List.forall_mem_cons.mpr ⟨(ws_mem (List.mem_of_getElem? (i := 1042) (by decide +kernel)) (by decide +kernel)), List.forall_mem_cons.mpr ⟨(ws_mem (List.mem_of_getElem? (i := 27) (by decide +kernel)) (by decide +kernel)), List.forall_mem_cons.mpr ⟨(ws_mem (List.mem_of_getElem? (i := 64) (by decide +kernel)) (by decide +kernel)), List.forall_mem_cons.mpr ⟨(ws_mem (List.mem_of_getElem? (i := 1043) (by decide +kernel)) (by decide +kernel)), fun _ h => absurd h List.not_mem_nil⟩⟩⟩⟩⟩) rfl (by unfold nice; decide +kernel) (by unfold rfits; decide) ⟨rfl, rfl⟩
  · cases h; exact cal_V mX9_timeInAll (by decide) rfl (List.forall_mem_cons.mpr ⟨(ws_mem (List.mem_of_getElem? (i := 1052) (by decide +kernel)) (by decide +kernel)), List.forall_mem_cons.mpr ⟨(ws_mem (List.mem_of_getElem? (i := 1054) (by decide +kernel)) (by decide +kernel)), List.forall_mem_cons.mpr ⟨(ws_mem (List.mem_of_getElem? (i := 29) (by decide +kernel)) (by decide +kernel)), List.forall_mem_cons.mpr ⟨(ws_mem (List.mem_of_getElem? (i := 64) (by decide +kernel)) (by decide +kernel)), List.forall_mem_cons.mpr ⟨(ws_mem (List.mem_of_getElem? (i := 1055) (by decide +kernel)) (by decide +kernel)), fun _ h => absurd h List.not_mem_nil⟩⟩⟩⟩⟩) rfl (by unfold nice; decide +kernel) (by unfold rfits; decide) ⟨rfl, rfl⟩
  · cases h
theorem ocX9_along_128 (f : Nat → Nat → Nat → Nat → (List MV → MS → (Option MV → MS → Prop) → Prop) → Prop) : oC aX9_along 128 f = f 4 9 0 0 spX9_in := propext Iff.rfl
theorem ocX9_along_163 (f : Nat → Nat → Nat → Nat → (List MV → MS → (Option MV → MS → Prop) → Prop) → Prop) : oC aX9_along 163 f = f 2 9 0 0 spX9_stay := propext Iff.rfl
theorem ocX9_along_170 (f : Nat → Nat → Nat → Nat → (List MV → MS → (Option MV → MS → Prop) → Prop) → Prop) : oC aX9_along 170 f = f 1 9 0 0 spX9_timeInAll := propext Iff.rfl
theorem mdX9_along : MD RX9 cX9_along rmX9_along kX9_along fX9 aX9_along zX9 uX9 := ⟨fokX9, zokX9, uokX9, aokX9_along, qX9_along⟩
set_option maxRecDepth 100000 in
set_option maxHeartbeats 800000 in
theorem mX9_along : MOK yX9_along cX9_along 2 (some .long) rmX9_along ciX9_along := by
  refine mok_of (ini := false) (by decide +kernel) (by decide) rfl rfl ?_
  intro σ As K hrc hl h
  obtain ⟨N, P, I, L⟩ := σ
  have h9 := pR_iff.mp h
  clear h
  obtain ⟨a, r, e9, h⟩ := h9
  subst e9
  have h9 := pI_iff.mp h
  clear h
  obtain ⟨l, r, e9, h⟩ := h9
  subst e9
  have h9 := pN_iff.mp h
  clear h
  obtain ⟨e9, h⟩ := h9
  subst e9
  try dsimp only at h
  obtain ⟨rfl, rfl, hl2, hx, h1, h2⟩ := h
  unfold RI at hl2
  have y1 := (nM hx).1
  have x1 := hx.1
  have x2 := hx.2.1
  have fu : ∀ v, frW I (upI I 240 0 v) := fun v b k b0 b1 b2 b3 => if_neg b3
  have mu : ∀ v, mOK (upI I 240 0 v) L := fun v => mOK_w hx (fu v) (fun k => upI_ne (by omega)) (fun _ => rfl)
  have u1 : ∀ v, tOK (VM (upI I 240 0 v)) := fun v => (mu v).1
  have u2 : ∀ v, carOK (VM (upI I 240 0 v)) := fun v => (mu v).2.1
  refine ⟨Nat.le_of_ble_eq_true rfl, Ok.seg mdX9_along [] 60 ?_⟩
  simp only [wp_nil, wp_cons, ↓stp, ↓lI, ↓lL, ↓lR, ↓lIn_0, ↓lIn_1, ↓lIn_2, ↓lIn_3, ↓lLn_0, ↓lLn_1, ↓lLn_2, ↓lLn_3, ↓lRn_0, ↓lRn_1, ↓lRn_2, ↓lRn_3, ↓pI, ↓pL, ↓pR, ↓pA, ↓pN, ↓pV, ↓fp, ↓tsw, ↓oS, ↓spMax, ↓spMin, ↓spAbs, ↓spObj, RI, RLg, b2i_lo, b2i_hi, getL, setL, ltL, killL, isLong, inl, cnd, br, tgt, rcv, rpl, mputI, mputL, mputP, fv, fr, mcat, mcs, entL, entA, rfit, nf_0, nf_1, nf_2, nf_3, nf2_0, nf2_1, b2i_0, b2i_1, RI_b2i, b2i_fit, List.append, List.length, List.replicate, List.cons_append, List.nil_append, List.length_cons, List.length_nil, List.replicate_succ, List.replicate_zero, List.tail_cons, reduceIte, if_true, if_false, ite_true, ite_false, Bool.false_eq_true, true_and, and_true, and_self, false_and, and_false, or_self, or_true, true_or, or_false, false_or, not_true_eq_false, not_false_eq_true, ne_eq, forall_const, implies_true, imp_self, true_implies, false_implies, Nat.reduceAdd, Nat.reduceSub, Nat.reduceMul, Nat.reduceDiv, Nat.reduceMod, Nat.reduceEqDiff, Nat.reduceLT, Nat.reduceLeDiff, Nat.reduceBEq, Nat.add_zero, Nat.zero_add, Nat.le_refl, Nat.not_lt_zero, Nat.succ_eq_add_one, Int.reduceNatCast, Int.cast_ofNat_Int, Int.reduceSub, Int.reduceMul, Int.reduceNeg, Int.reduceLE, Int.reduceLT, Int.reduceToNat, Int.reduceEq, Int.reduceNe, Int.reduceAdd, Option.some.injEq, kX9_along, rmX9_along, ↓ofX9_7, ↓ocX9_along_128, ↓spX9_in, ↓ocX9_along_163, ↓spX9_stay, ↓ocX9_along_170, ↓spX9_timeInAll, upI_same, upI_ne, u1, u2, G_240, G_241, G_242, G_243, G_244, G_245, G_246, G_247, G_248, G_249, G_250, G_251, G_252, G_253, G_254, G_255, G_256, G_257, G_258, G_259, G_260, G_261, G_262, G_263, G_264, G_265, G_266, G_267, G_268, G_269, G_270, G_271, G_272, PF_240_6, PF_240_7, PF_240_8, PF_240_9, PF_240_10, PF_240_11, PF_240_12, PF_240_13, PF_240_14, PF_240_15, PF_240_16, PF_240_17, PF_240_18, PF_240_19, PF_240_20, PF_240_21, PF_240_22, PF_240_23, PF_240_24, PF_240_26, PF_240_27, PF_240_28, PF_240_29, PF_240_30, PF_240_31, PF_240_32, PF_240_33, PF_240_34, PF_240_35, PF_240_36, PF_240_37]
  refine ⟨by omega, fun q => h1 (by omega) _ (fu 1) (mu 1) upI_same, fun q => ⟨by omega, by omega, fun J k1 k2 k3 => ?_⟩⟩
  have hf : frW I J := fun b k b0 b1 b2 b3 => by rw [k1 b k (by omega) (by omega)]; exact fu 0 b k b0 b1 b2 b3
  have hm : mOK J L := mOK_w hx hf (fun k => by rw [k1 _ _ (by omega) (by omega)]; exact upI_ne (by omega)) (fun _ => rfl)
  have e1 : upI I 240 0 0 240 1 = I 240 1 := upI_nj (by omega)
  rw [e1] at k2
  have e1' : J 240 1 = I 240 1 := (k1 _ _ (by omega) (by omega)).trans e1
  have eV := (fu 0).V
  rw [eV] at k3
  have hp : pacM J := fun i i0 i1 => by
    have a := k3.1.2.1 i i0 (by rw [VM_31]; omega)
    have b := lim_rng (VM I (5 + i) 0) (VM I (5 + i) 2) (VM I (5 + i) 3) l (VM I 36 0)
    dsimp only at a
    unfold lmv at a
    omega
  have hL : lanM J := fun i i0 i1 => by rw [k2 i i0 (by omega)]; omega
  refine ⟨hm.1, hL, hp, ?_⟩
  have := h2 (by omega) J (J 251) hf hm ((k1 240 0 (by omega) (by omega)).trans upI_same) k3
  rw [e1']
  rw [sumI_congr (g := fun i => tmv (I 242 i) 0 (J 251 i)) _ (fun i i0 i1 => ?_)]
  · exact this
  · unfold tmM
    rw [show lch (J 250) i = 0 by
      unfold lch
      rw [if_neg]
      rintro ⟨a, b⟩
      rw [k2 i i0 (by omega), k2 (i - 1) (by omega) (by omega)] at b
      exact b rfl, k1 242 i (by omega) (by omega), upI_ne (by omega)]
