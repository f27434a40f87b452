/-! LapBoardModel: leads, goOn -/
def ahdR (L : Int → Int → Int) : Prop := ∀ p, 1 ≤ p → p ≤ 60 → 0 ≤ L 255 p ∧ L 255 p ≤ 1000000000000
/-- pace p leads on to lane nx within the time B -/
def leaS (I L : Int → Int → Int) (i nx B p : Int) : Prop := L 255 p < 1000000000000 ∧ ∃ w, onV I L i (I 250 i) p nx w ∧ L 255 p + w = B
/-- all that onTo asks -/
def gnd (I L : Int → Int → Int) (g i : Int) : Prop := tOK (VM I) ∧ carOK (VM I) ∧ wrkOK I L g ∧ 0 ≤ i ∧ i + 1 < I 240 1 ∧ 0 ≤ I 250 i ∧ I 250 i ≤ 2
theorem gnd_r {I L : Int → Int → Int} {g i p nx : Int} (h : gnd I L g i) (p0 : 1 ≤ p) (p1 : p ≤ 60) (n0 : 0 ≤ nx) (n1 : nx ≤ 2) : i < 29 ∧ (1 ≤ I 240 3 ∧ I 240 3 ≤ 30) ∧ (1 ≤ I 253 p ∧ I 253 p ≤ 60) ∧ (1 ≤ I 254 (3 * (i + 1) + nx) ∧ I 254 (3 * (i + 1) + nx) ≤ 60) ∧ (1 ≤ I 242 (i + 1) ∧ I 242 (i + 1) ≤ 99) ∧ rowM L (i + 1) nx := by
  obtain ⟨ht, hc, hw, i0, i1, _⟩ := h
  have y2 : I 240 1 ≤ 30 := ht.2.1
  have hnn := hc.2
  unfold nOK at hnn
  rw [VM_36_0, VM_36_1, VM_36_2] at hnn
  have hst := stM ht (i := i + 1) (by omega) i1
  have hr := rch_rng (p := p) (show gOK (I 246) (I 247) from hc.1.1) p1
  have e := hw.1.1 p p0 p1
  exact ⟨by omega, by omega, by omega, wlOK_r hw.1 (by omega) i1 n0 n1, by omega, rw_rowM (fun q a b => hw.2 (i + 1) nx q (by omega) i1 n0 n1 a b)⟩
def spX9_leads (As : List MV) (σ : MS) (K : Option MV → MS → Prop) : Prop := pR As fun a r => pI r fun i r => pI r fun nx r => pL r fun B r => pN r (a = 240 ∧ σ.2.1 = PF ∧ 0 ≤ nx ∧ nx ≤ 2 ∧ 0 ≤ B ∧ B ≤ 1000000000000 ∧ ahdR σ.2.2.2 ∧ ∃ g, gnd σ.2.2.1 σ.2.2.2 g i ∧
  ∀ v, (v = 0 ∨ v = 1) → (v = 1 ↔ ∃ p, 1 ≤ p ∧ p ≤ 60 ∧ leaS σ.2.2.1 σ.2.2.2 i nx B p) → K (some (.inl v)) σ)
def ciX9_leads : CI := (4, 9, 0, 0, spX9_leads)
def kX9_leads (pc : Nat) : List ME := match pc with
  | 0 => [(.iconst 1, 1, []), (.istore 5, 2, [])]
  | 3 => [(.iload 5, 2, []), (.bipush 61, 2, []), (.if_icmp .ge 52, 3, [59]), (.aload_n 0, 1, []), (.getfield 73, 3, []), (.iload 5, 2, []), (.laload, 1, []), (.ldc2_w 174, 3, []), (.lcmp, 1, []), (.ifCond .ge 32, 3, [53]), (.aload_n 0, 1, []), (.getfield 73, 3, []), (.iload 5, 2, []), (.laload, 1, []), (.aload_n 0, 1, []), (.iload_n 1, 1, []), (.aload_n 0, 1, []), (.getfield 58, 3, []), (.iload_n 1, 1, []), (.iaload, 1, []), (.iload 5, 2, []), (.iload_n 2, 1, []), (.invokevirtual 182, 3, []), (.ladd, 1, []), (.lload_n 3, 1, []), (.lcmp, 1, []), (.ifCond .ne 5, 3, [53]), (.iconst 1, 1, []), (.ireturn, 1, [])]
  | 53 => [(.iinc 5 1, 3, []), (.goto (-53), 3, [3])]
  | 59 => [(.iconst 0, 1, []), (.ireturn, 1, [])]
  | _ => []
theorem qX9_leads : ∀ pc, chk cX9_leads pc (kX9_leads pc) = true := by
  intro pc
  unfold kX9_leads
  split <;> first | decide +kernel | exact chk_nil
abbrev rmX9_leads : Room := { frames := 2, cells := 0, slots := 0, locals := 54 }
def aX9_leads (x : Nat) : Option CI := match x with
  | 182 => some ciX9_onTo
  | _ => none
theorem aokX9_leads : ∀ x ci, aX9_leads x = some ci → CalOK RX9 rmX9_leads x ci := by
  intro x ci h
  unfold aX9_leads at h
  split at h
  · cases h; exact cal_V mX9_onTo (by decide) rfl (List.forall_mem_cons.mpr ⟨(ws_mem (List.mem_of_getElem? (i := 1077) (by decide +kernel)) (by decide +kernel)), List.forall_mem_cons.mpr ⟨(ws_mem (List.mem_of_getElem? (i := 1079) (by decide +kernel)) (by decide +kernel)), List.forall_mem_cons.mpr ⟨(ws_mem (List.mem_of_getElem? (i := 34) (by decide +kernel)) (by decide +kernel)), List.forall_mem_cons.mpr ⟨(ws_mem (List.mem_of_getElem? (i := 64) (by decide +kernel)) (by decide +kernel)), List.forall_mem_cons.mpr ⟨(ws_mem (List.mem_of_getElem? (i := 1080) (by decide +kernel)) (by decide +kernel)), fun _ h => absurd h List.not_mem_nil⟩⟩⟩⟩⟩) rfl (by unfold nice; decide +kernel) (by unfold rfits; decide) ⟨rfl, rfl⟩
  · cases h
theorem ocX9_leads_182 (f : Nat → Nat → Nat → Nat → (List MV → MS → (Option MV → MS → Prop) → Prop) → Prop) : oC aX9_leads 182 f = f 5 9 0 0 spX9_onTo := propext Iff.rfl
theorem mdX9_leads : MD RX9 cX9_leads rmX9_leads kX9_leads fX9 aX9_leads zX9 uX9 := ⟨fokX9, zokX9, uokX9, aokX9_leads, qX9_leads⟩
set_option maxHeartbeats 1600000 in
set_option maxRecDepth 100000 in
theorem lpX9_l1 {post : Option MV → MS → Prop} {U : Pt → Prop} {N : Nat} {I L : Int → Int → Int} {i nx B g : Int} (n0 : 0 ≤ nx) (n1 : nx ≤ 2) (b0 : 0 ≤ B) (b1 : B ≤ 1000000000000) (ha : ahdR L) (hg : gnd I L g i)
    (h : ∀ v, (v = 0 ∨ v = 1) → (v = 1 ↔ ∃ p, 1 ≤ p ∧ p ≤ 60 ∧ leaS I L i nx B p) → post (some (.inl v)) (N, PF, I, L)) :
    ∀ (m : Nat) (p : Int), p + m = 61 → 1 ≤ p → (∀ p', 1 ≤ p' → p' < p → ¬ leaS I L i nx B p') →
    Ok RX9 cX9_leads 6 rmX9_leads false none post U (3, [some (.inr (.inr (some 240))), some (.inl i), some (.inl nx), some (.inr (.inl B)), none, some (.inl p)], [], (N, PF, I, L), 0, 0)
  | 0, p, hp, p0, h1 => by
    refine Ok.seg mdX9_leads [3] 12 ?_
    simp only [wp_nil, wp_cons, ↓stp, ↓lI, ↓lL, ↓lR, ↓lIn_0, ↓lIn_1, ↓lIn_2, ↓lIn_3, ↓lLn_0, ↓lLn_1, ↓lLn_2, ↓lLn_3, ↓lRn_0, ↓lRn_1, ↓lRn_2, ↓lRn_3, ↓pI, ↓pL, ↓pR, ↓pA, ↓pN, ↓pV, ↓fp, ↓tsw, ↓oS, ↓spMax, ↓spMin, ↓spAbs, ↓spObj, RI, RLg, b2i_lo, b2i_hi, getL, setL, ltL, killL, isLong, inl, cnd, br, tgt, rcv, rpl, mputI, mputL, mputP, fv, fr, mcat, mcs, entL, entA, rfit, nf_0, nf_1, nf_2, nf_3, nf2_0, nf2_1, b2i_0, b2i_1, RI_b2i, b2i_fit, List.append, List.length, List.replicate, List.cons_append, List.nil_append, List.length_cons, List.length_nil, List.replicate_succ, List.replicate_zero, List.tail_cons, reduceIte, if_true, if_false, ite_true, ite_false, Bool.false_eq_true, true_and, and_true, and_self, false_and, and_false, or_self, or_true, true_or, or_false, false_or, not_true_eq_false, not_false_eq_true, ne_eq, forall_const, implies_true, imp_self, true_implies, false_implies, Nat.reduceAdd, Nat.reduceSub, Nat.reduceMul, Nat.reduceDiv, Nat.reduceMod, Nat.reduceEqDiff, Nat.reduceLT, Nat.reduceLeDiff, Nat.reduceBEq, Nat.add_zero, Nat.zero_add, Nat.le_refl, Nat.not_lt_zero, Nat.succ_eq_add_one, Int.reduceNatCast, Int.cast_ofNat_Int, Int.reduceSub, Int.reduceMul, Int.reduceNeg, Int.reduceLE, Int.reduceLT, Int.reduceToNat, Int.reduceEq, Int.reduceNe, Int.reduceAdd, Option.some.injEq, kX9_leads, rmX9_leads, ↓ofX9_58, ↓ofX9_73, ↓ozX9_174, ↓ocX9_leads_182, ↓spX9_onTo, G_240, G_241, G_242, G_243, G_244, G_245, G_246, G_247, G_248, G_249, G_250, G_251, G_252, G_253, G_254, G_255, G_256, G_257, G_258, G_259, G_260, G_261, G_262, G_263, G_264, G_265, G_266, G_267, G_268, G_269, G_270, G_271, G_272, PF_240_6, PF_240_7, PF_240_8, PF_240_9, PF_240_10, PF_240_11, PF_240_12, PF_240_13, PF_240_14, PF_240_15, PF_240_16, PF_240_17, PF_240_18, PF_240_19, PF_240_20, PF_240_21, PF_240_22, PF_240_23, PF_240_24, PF_240_26, PF_240_27, PF_240_28, PF_240_29, PF_240_30, PF_240_31, PF_240_32, PF_240_33, PF_240_34, PF_240_35, PF_240_36, PF_240_37]
    refine ⟨by omega, fun _ => h 0 (.inl rfl) ⟨fun z => by omega, fun ⟨p', a, b, c⟩ => (h1 p' a (by omega) c).elim⟩, fun q => by omega⟩
  | m + 1, p, hp, p0, h1 => by
    have ih := lpX9_l1 (U := U) (post := post) (N := N) n0 n1 b0 b1 ha hg h m (p + 1) (by omega) (by omega)
    obtain ⟨g1, g2, g3, g4, g5, g6⟩ := gnd_r hg p0 (show p ≤ 60 by omega) n0 n1
    have hap := ha p p0 (by omega)
    have hi := hg.2.2.2
    have no : ¬ leaS I L i nx B p → Ok RX9 cX9_leads 6 rmX9_leads false none post U (3, [some (.inr (.inr (some 240))), some (.inl i), some (.inl nx), some (.inr (.inl B)), none, some (.inl (p + 1))], [], (N, PF, I, L), 0, 0) := fun z => ih (fun p' a b => by
      by_cases e : p' = p
      · rw [e]; exact z
      · exact h1 p' a (by omega))
    refine Ok.seg mdX9_leads [3] 60 ?_
    simp only [wp_nil, wp_cons, ↓stp, ↓lI, ↓lL, ↓lR, ↓lIn_0, ↓lIn_1, ↓lIn_2, ↓lIn_3, ↓lLn_0, ↓lLn_1, ↓lLn_2, ↓lLn_3, ↓lRn_0, ↓lRn_1, ↓lRn_2, ↓lRn_3, ↓pI, ↓pL, ↓pR, ↓pA, ↓pN, ↓pV, ↓fp, ↓tsw, ↓oS, ↓spMax, ↓spMin, ↓spAbs, ↓spObj, RI, RLg, b2i_lo, b2i_hi, getL, setL, ltL, killL, isLong, inl, cnd, br, tgt, rcv, rpl, mputI, mputL, mputP, fv, fr, mcat, mcs, entL, entA, rfit, nf_0, nf_1, nf_2, nf_3, nf2_0, nf2_1, b2i_0, b2i_1, RI_b2i, b2i_fit, List.append, List.length, List.replicate, List.cons_append, List.nil_append, List.length_cons, List.length_nil, List.replicate_succ, List.replicate_zero, List.tail_cons, reduceIte, if_true, if_false, ite_true, ite_false, Bool.false_eq_true, true_and, and_true, and_self, false_and, and_false, or_self, or_true, true_or, or_false, false_or, not_true_eq_false, not_false_eq_true, ne_eq, forall_const, implies_true, imp_self, true_implies, false_implies, Nat.reduceAdd, Nat.reduceSub, Nat.reduceMul, Nat.reduceDiv, Nat.reduceMod, Nat.reduceEqDiff, Nat.reduceLT, Nat.reduceLeDiff, Nat.reduceBEq, Nat.add_zero, Nat.zero_add, Nat.le_refl, Nat.not_lt_zero, Nat.succ_eq_add_one, Int.reduceNatCast, Int.cast_ofNat_Int, Int.reduceSub, Int.reduceMul, Int.reduceNeg, Int.reduceLE, Int.reduceLT, Int.reduceToNat, Int.reduceEq, Int.reduceNe, Int.reduceAdd, Option.some.injEq, kX9_leads, rmX9_leads, ↓ofX9_58, ↓ofX9_73, ↓ozX9_174, ↓ocX9_leads_182, ↓spX9_onTo, lcm_lo, lcm_hi, lcm_ge, lcm_eq, g6, G_240, G_241, G_242, G_243, G_244, G_245, G_246, G_247, G_248, G_249, G_250, G_251, G_252, G_253, G_254, G_255, G_256, G_257, G_258, G_259, G_260, G_261, G_262, G_263, G_264, G_265, G_266, G_267, G_268, G_269, G_270, G_271, G_272, PF_240_6, PF_240_7, PF_240_8, PF_240_9, PF_240_10, PF_240_11, PF_240_12, PF_240_13, PF_240_14, PF_240_15, PF_240_16, PF_240_17, PF_240_18, PF_240_19, PF_240_20, PF_240_21, PF_240_22, PF_240_23, PF_240_24, PF_240_26, PF_240_27, PF_240_28, PF_240_29, PF_240_30, PF_240_31, PF_240_32, PF_240_33, PF_240_34, PF_240_35, PF_240_36, PF_240_37]
    refine ⟨by omega, fun q => by omega, fun q => ⟨by omega, by omega, by omega, fun q2 => no (fun z => by have := z.1; omega), fun q2 => ?_⟩⟩
    repeat refine ⟨by omega, ?_⟩
    refine fun w w0 w1 hw => ⟨by omega, by omega, fun q3 => no (fun z => ?_), fun q3 => ?_⟩
    · obtain ⟨_, w', z1, z2⟩ := z
      have := Lst.uniq hw z1
      omega
    · exact h 1 (.inr rfl) ⟨fun _ => ⟨p, p0, by omega, by omega, w, hw, by omega⟩, fun _ => rfl⟩
set_option maxRecDepth 100000 in
set_option maxHeartbeats 800000 in
theorem mX9_leads : MOK yX9_leads cX9_leads 6 (some .boolean) rmX9_leads ciX9_leads := by
  refine mok_of (ini := false) (by decide +kernel) (by decide) rfl rfl ?_
  intro σ As K hrc hl h
  obtain ⟨N, P, I, L⟩ := σ
  have h9 := pR_iff.mp h
  clear h
  obtain ⟨a, r, e9, h⟩ := h9
  subst e9
  have h9 := pI_iff.mp h
  clear h
  obtain ⟨i, r, e9, h⟩ := h9
  subst e9
  have h9 := pI_iff.mp h
  clear h
  obtain ⟨nx, r, e9, h⟩ := h9
  subst e9
  have h9 := pL_iff.mp h
  clear h
  obtain ⟨B, r, e9, h⟩ := h9
  subst e9
  have h9 := pN_iff.mp h
  clear h
  obtain ⟨e9, h⟩ := h9
  subst e9
  try dsimp only at h
  obtain ⟨rfl, rfl, n0, n1, b0, b1, ha, g, hg, h⟩ := h
  refine ⟨Nat.le_of_ble_eq_true rfl, Ok.seg mdX9_leads [3] 6 ?_⟩
  simp only [wp_nil, wp_cons, ↓stp, ↓lI, ↓lL, ↓lR, ↓lIn_0, ↓lIn_1, ↓lIn_2, ↓lIn_3, ↓lLn_0, ↓lLn_1, ↓lLn_2, ↓lLn_3, ↓lRn_0, ↓lRn_1, ↓lRn_2, ↓lRn_3, ↓pI, ↓pL, ↓pR, ↓pA, ↓pN, ↓pV, ↓fp, ↓tsw, ↓oS, ↓spMax, ↓spMin, ↓spAbs, ↓spObj, RI, RLg, b2i_lo, b2i_hi, getL, setL, ltL, killL, isLong, inl, cnd, br, tgt, rcv, rpl, mputI, mputL, mputP, fv, fr, mcat, mcs, entL, entA, rfit, nf_0, nf_1, nf_2, nf_3, nf2_0, nf2_1, b2i_0, b2i_1, RI_b2i, b2i_fit, List.append, List.length, List.replicate, List.cons_append, List.nil_append, List.length_cons, List.length_nil, List.replicate_succ, List.replicate_zero, List.tail_cons, reduceIte, if_true, if_false, ite_true, ite_false, Bool.false_eq_true, true_and, and_true, and_self, false_and, and_false, or_self, or_true, true_or, or_false, false_or, not_true_eq_false, not_false_eq_true, ne_eq, forall_const, implies_true, imp_self, true_implies, false_implies, Nat.reduceAdd, Nat.reduceSub, Nat.reduceMul, Nat.reduceDiv, Nat.reduceMod, Nat.reduceEqDiff, Nat.reduceLT, Nat.reduceLeDiff, Nat.reduceBEq, Nat.add_zero, Nat.zero_add, Nat.le_refl, Nat.not_lt_zero, Nat.succ_eq_add_one, Int.reduceNatCast, Int.cast_ofNat_Int, Int.reduceSub, Int.reduceMul, Int.reduceNeg, Int.reduceLE, Int.reduceLT, Int.reduceToNat, Int.reduceEq, Int.reduceNe, Int.reduceAdd, Option.some.injEq, kX9_leads, rmX9_leads, ↓ofX9_58, ↓ofX9_73, ↓ozX9_174, ↓ocX9_leads_182, ↓spX9_onTo, G_240, G_241, G_242, G_243, G_244, G_245, G_246, G_247, G_248, G_249, G_250, G_251, G_252, G_253, G_254, G_255, G_256, G_257, G_258, G_259, G_260, G_261, G_262, G_263, G_264, G_265, G_266, G_267, G_268, G_269, G_270, G_271, G_272, PF_240_6, PF_240_7, PF_240_8, PF_240_9, PF_240_10, PF_240_11, PF_240_12, PF_240_13, PF_240_14, PF_240_15, PF_240_16, PF_240_17, PF_240_18, PF_240_19, PF_240_20, PF_240_21, PF_240_22, PF_240_23, PF_240_24, PF_240_26, PF_240_27, PF_240_28, PF_240_29, PF_240_30, PF_240_31, PF_240_32, PF_240_33, PF_240_34, PF_240_35, PF_240_36, PF_240_37]
  exact lpX9_l1 (post := fun r σ' => rfit (some .boolean) r ∧ K r σ') n0 n1 b0 b1 ha hg (fun v a b => ⟨a, h v a b⟩) 60 1 (by omega) (by omega) (fun p' a b => by omega)
/-- times by which pace q at the next station is come to, from paces below x -/
def goS (I L : Int → Int → Int) (i nx x q y : Int) : Prop := ∃ p, 1 ≤ p ∧ p < x ∧ L 255 p < 1000000000000 ∧ p - I 240 3 ≤ q ∧ q ≤ I 253 p ∧ q ≤ I 254 (3 * (i + 1) + nx) ∧ y = L 255 p + tmv (I 242 (i + 1)) (dif (I 250 i) nx) q
theorem goS_no {I L : Int → Int → Int} {i nx x q y : Int} (h : ¬ (L 255 x < 1000000000000 ∧ x - I 240 3 ≤ q ∧ q ≤ I 253 x ∧ q ≤ I 254 (3 * (i + 1) + nx))) : goS I L i nx (x + 1) q y ↔ goS I L i nx x q y := by
  constructor
  · rintro ⟨p, a, b, c, d, e, f, k⟩
    by_cases z : p = x
    · subst z; exact (h ⟨c, d, e, f⟩).elim
    · exact ⟨p, a, by omega, c, d, e, f, k⟩
  · rintro ⟨p, a, b, c⟩
    exact ⟨p, a, by omega, c⟩
theorem goS_yes {I L : Int → Int → Int} {i nx x q y : Int} (x0 : 1 ≤ x) (h : L 255 x < 1000000000000 ∧ x - I 240 3 ≤ q ∧ q ≤ I 253 x ∧ q ≤ I 254 (3 * (i + 1) + nx)) : goS I L i nx (x + 1) q y ↔ goS I L i nx x q y ∨ y = L 255 x + tmv (I 242 (i + 1)) (dif (I 250 i) nx) q := by
  constructor
  · rintro ⟨p, a, b, c, d, e, f, k⟩
    by_cases z : p = x
    · subst z; exact .inr k
    · exact .inl ⟨p, a, by omega, c, d, e, f, k⟩
  · rintro (⟨p, a, b, c⟩ | k)
    · exact ⟨p, a, by omega, c⟩
    · exact ⟨x, x0, by omega, h.1, h.2.1, h.2.2.1, h.2.2.2, k⟩
def spX9_goOn (As : List MV) (σ : MS) (K : Option MV → MS → Prop) : Prop := pR As fun a r => pI r fun i r => pI r fun nx r => pN r (a = 240 ∧ σ.2.1 = PF ∧ 0 ≤ nx ∧ nx ≤ 2 ∧ ahdR σ.2.2.2 ∧ ∃ g, gnd σ.2.2.1 σ.2.2.2 g i ∧
  ∀ L' : Int → Int → Int, (∀ b k, b ≠ 255 → b ≠ 256 → L' b k = σ.2.2.2 b k) → ahdR L' → (∀ q, 1 ≤ q → q ≤ 60 → Lst (goS σ.2.2.1 σ.2.2.2 i nx 61 q) 1000000000000 (L' 255 q)) → K none (σ.1, σ.2.1, σ.2.2.1, L'))
def ciX9_goOn : CI := (3, 9, 0, 0, spX9_goOn)
def kX9_goOn (pc : Nat) : List ME := match pc with
  | 0 => [(.iconst 0, 1, []), (.istore_n 3, 1, [])]
  | 2 => [(.iload_n 3, 1, []), (.bipush 61, 2, []), (.if_icmp .ge 18, 3, [23]), (.aload_n 0, 1, []), (.getfield 76, 3, []), (.iload_n 3, 1, []), (.ldc2_w 174, 3, []), (.lastore, 1, []), (.iinc 3 1, 3, []), (.goto (-18), 3, [2])]
  | 23 => [(.iconst 1, 1, []), (.istore_n 3, 1, [])]
  | 25 => [(.iload_n 3, 1, []), (.bipush 61, 2, []), (.if_icmp .ge 174, 3, [202]), (.aload_n 0, 1, []), (.getfield 73, 3, []), (.iload_n 3, 1, []), (.laload, 1, []), (.ldc2_w 174, 3, []), (.lcmp, 1, []), (.ifCond .lt 6, 3, [47]), (.goto 152, 3, [196])]
  | 47 => [(.iload_n 3, 1, []), (.aload_n 0, 1, []), (.getfield 19, 3, []), (.isub, 1, []), (.iconst 1, 1, []), (.if_icmp .le 12, 3, [66]), (.iload_n 3, 1, []), (.aload_n 0, 1, []), (.getfield 19, 3, []), (.isub, 1, []), (.goto 4, 3, [67])]
  | 66 => [(.iconst 1, 1, [])]
  | 67 => [(.istore 4, 2, []), (.aload_n 0, 1, []), (.getfield 70, 3, []), (.iconst 3, 1, []), (.iload_n 1, 1, []), (.iconst 1, 1, []), (.iadd, 1, []), (.imul, 1, []), (.iload_n 2, 1, []), (.iadd, 1, []), (.iaload, 1, []), (.aload_n 0, 1, []), (.getfield 67, 3, []), (.iload_n 3, 1, []), (.iaload, 1, []), (.if_icmp .ge 18, 3, [105]), (.aload_n 0, 1, []), (.getfield 70, 3, []), (.iconst 3, 1, []), (.iload_n 1, 1, []), (.iconst 1, 1, []), (.iadd, 1, []), (.imul, 1, []), (.iload_n 2, 1, []), (.iadd, 1, []), (.iaload, 1, []), (.goto 9, 3, [111])]
  | 105 => [(.aload_n 0, 1, []), (.getfield 67, 3, []), (.iload_n 3, 1, []), (.iaload, 1, [])]
  | 111 => [(.istore 5, 2, []), (.iload 4, 2, []), (.istore 6, 2, [])]
  | 117 => [(.iload 6, 2, []), (.iload 5, 2, []), (.if_icmp .gt 75, 3, [196]), (.aload_n 0, 1, []), (.getfield 73, 3, []), (.iload_n 3, 1, []), (.laload, 1, []), (.aload_n 0, 1, []), (.iload_n 1, 1, []), (.iconst 1, 1, []), (.iadd, 1, []), (.iload_n 2, 1, []), (.aload_n 0, 1, []), (.getfield 58, 3, []), (.iload_n 1, 1, []), (.iaload, 1, []), (.if_icmp .eq 7, 3, [148]), (.iconst 1, 1, []), (.goto 4, 3, [149])]
  | 148 => [(.iconst 0, 1, [])]
  | 149 => [(.iload 6, 2, []), (.invokevirtual 156, 3, []), (.i2l, 1, []), (.ladd, 1, []), (.lstore 7, 2, []), (.aload_n 0, 1, []), (.getfield 76, 3, []), (.iload 6, 2, []), (.lload 7, 2, []), (.aload_n 0, 1, []), (.getfield 76, 3, []), (.iload 6, 2, []), (.laload, 1, []), (.lcmp, 1, []), (.ifCond .ge 8, 3, [182]), (.lload 7, 2, []), (.goto 10, 3, [189])]
  | 182 => [(.aload_n 0, 1, []), (.getfield 76, 3, []), (.iload 6, 2, []), (.laload, 1, [])]
  | 189 => [(.lastore, 1, []), (.iinc 6 1, 3, []), (.goto (-76), 3, [117])]
  | 196 => [(.iinc 3 1, 3, []), (.goto (-174), 3, [25])]
  | 202 => [(.iconst 0, 1, []), (.istore_n 3, 1, [])]
  | 204 => [(.iload_n 3, 1, []), (.bipush 61, 2, []), (.if_icmp .ge 21, 3, [228]), (.aload_n 0, 1, []), (.getfield 73, 3, []), (.iload_n 3, 1, []), (.aload_n 0, 1, []), (.getfield 76, 3, []), (.iload_n 3, 1, []), (.laload, 1, []), (.lastore, 1, []), (.iinc 3 1, 3, []), (.goto (-21), 3, [204])]
  | 228 => [(.return_, 1, [])]
  | _ => []
theorem qX9_goOn : ∀ pc, chk cX9_goOn pc (kX9_goOn pc) = true := by
  intro pc
  unfold kX9_goOn
  split <;> first | decide +kernel | exact chk_nil
abbrev rmX9_goOn : Room := { frames := 1, cells := 0, slots := 0, locals := 23 }
def aX9_goOn (x : Nat) : Option CI := match x with
  | 156 => some ciX9_timeOf
  | _ => none
theorem aokX9_goOn : ∀ x ci, aX9_goOn x = some ci → CalOK RX9 rmX9_goOn x ci := by
  intro x ci h
  unfold aX9_goOn at h
  split at h
  · cases h; exact cal_V mX9_timeOf (by decide) rfl (List.forall_mem_cons.mpr ⟨(ws_mem (List.mem_of_getElem? (i := 1060) (by decide +kernel)) (by decide +kernel)), List.forall_mem_cons.mpr ⟨(ws_mem (List.mem_of_getElem? (i := 1062) (by decide +kernel)) (by decide +kernel)), List.forall_mem_cons.mpr ⟨(ws_mem (List.mem_of_getElem? (i := 31) (by decide +kernel)) (by decide +kernel)), List.forall_mem_cons.mpr ⟨(ws_mem (List.mem_of_getElem? (i := 64) (by decide +kernel)) (by decide +kernel)), List.forall_mem_cons.mpr ⟨(ws_mem (List.mem_of_getElem? (i := 1063) (by decide +kernel)) (by decide +kernel)), fun _ h => absurd h List.not_mem_nil⟩⟩⟩⟩⟩) rfl (by unfold nice; decide +kernel) (by unfold rfits; decide) ⟨rfl, rfl⟩
  · cases h
theorem ocX9_goOn_156 (f : Nat → Nat → Nat → Nat → (List MV → MS → (Option MV → MS → Prop) → Prop) → Prop) : oC aX9_goOn 156 f = f 4 9 0 0 spX9_timeOf := propext Iff.rfl
theorem mdX9_goOn : MD RX9 cX9_goOn rmX9_goOn kX9_goOn fX9 aX9_goOn zX9 uX9 := ⟨fokX9, zokX9, uokX9, aokX9_goOn, qX9_goOn⟩
def aheN (L1 : Int → Int → Int) (S : Int → Int → Prop) (q : Int) : Prop := 0 ≤ L1 256 q ∧ L1 256 q ≤ 1000000000000 ∧ Lst (S q) 1000000000000 (L1 256 q)
set_option maxHeartbeats 1600000 in
set_option maxRecDepth 100000 in
theorem lpX9_gi {post : Option MV → MS → Prop} {U : Pt → Prop} {N : Nat} {I L : Int → Int → Int} {i nx p g lo hi : Int} (n0 : 0 ≤ nx) (n1 : nx ≤ 2) (ha : ahdR L) (hg : gnd I L g i) (p0 : 1 ≤ p) (p1 : p ≤ 60) (hp : L 255 p < 1000000000000) (hh : 1 ≤ hi ∧ hi ≤ 60) (hhi : ∀ q, q ≤ hi ↔ q ≤ I 253 p ∧ q ≤ I 254 (3 * (i + 1) + nx))
    (h : ∀ (L1 : Int → Int → Int) (t4 t5 t6 t7 t8 : Option MV), (∀ b k, b ≠ 256 → L1 b k = L b k) → (∀ q, 1 ≤ q → q ≤ 60 → aheN L1 (goS I L i nx (p + 1)) q) → Ok RX9 cX9_goOn 9 rmX9_goOn false none post U (196, [some (.inr (.inr (some 240))), some (.inl i), some (.inl nx), some (.inl p), t4, t5, t6, t7, t8], [], (N, PF, I, L1), 0, 0)) :
    ∀ (m : Nat) (q : Int) (L1 : Int → Int → Int) (t7 t8 : Option MV), q + m = 61 → 1 ≤ q → p - I 240 3 ≤ q → (∀ b k, b ≠ 256 → L1 b k = L b k) → (∀ q', 1 ≤ q' → q' < q → aheN L1 (goS I L i nx (p + 1)) q') → (∀ q', q ≤ q' → q' ≤ 60 → aheN L1 (goS I L i nx p) q') →
    Ok RX9 cX9_goOn 9 rmX9_goOn false none post U (117, [some (.inr (.inr (some 240))), some (.inl i), some (.inl nx), some (.inl p), some (.inl lo), some (.inl hi), some (.inl q), t7, t8], [], (N, PF, I, L1), 0, 0)
  | m, q, L1, t7, t8, hm, q0, q1, h1, h2, h3 => by
    obtain ⟨g1, g2, g3, g4, g5, g6⟩ := gnd_r hg p0 p1 n0 n1
    have fin : hi < q → Ok RX9 cX9_goOn 9 rmX9_goOn false none post U (196, [some (.inr (.inr (some 240))), some (.inl i), some (.inl nx), some (.inl p), some (.inl lo), some (.inl hi), some (.inl q), t7, t8], [], (N, PF, I, L1), 0, 0) := fun z => h L1 _ _ _ _ _ h1 (fun q' a b => by
      by_cases e : q' < q
      · exact h2 q' a e
      · obtain ⟨u, v, w⟩ := h3 q' (by omega) b
        exact ⟨u, v, w.cg (fun y => goS_no (fun t => by have := (hhi q').mpr ⟨t.2.2.1, t.2.2.2⟩; omega))⟩)
    rcases m with _ | m
    · refine Ok.seg mdX9_goOn [117, 196] 12 ?_
      simp only [wp_nil, wp_cons, ↓stp, ↓lI, ↓lL, ↓lR, ↓lIn_0, ↓lIn_1, ↓lIn_2, ↓lIn_3, ↓lLn_0, ↓lLn_1, ↓lLn_2, ↓lLn_3, ↓lRn_0, ↓lRn_1, ↓lRn_2, ↓lRn_3, ↓pI, ↓pL, ↓pR, ↓pA, ↓pN, ↓pV, ↓fp, ↓tsw, ↓oS, ↓spMax, ↓spMin, ↓spAbs, ↓spObj, RI, RLg, b2i_lo, b2i_hi, getL, setL, ltL, killL, isLong, inl, cnd, br, tgt, rcv, rpl, mputI, mputL, mputP, fv, fr, mcat, mcs, entL, entA, rfit, nf_0, nf_1, nf_2, nf_3, nf2_0, nf2_1, b2i_0, b2i_1, RI_b2i, b2i_fit, List.append, List.length, List.replicate, List.cons_append, List.nil_append, List.length_cons, List.length_nil, List.replicate_succ, List.replicate_zero, List.tail_cons, reduceIte, if_true, if_false, ite_true, ite_false, Bool.false_eq_true, true_and, and_true, and_self, false_and, and_false, or_self, or_true, true_or, or_false, false_or, not_true_eq_false, not_false_eq_true, ne_eq, forall_const, implies_true, imp_self, true_implies, false_implies, Nat.reduceAdd, Nat.reduceSub, Nat.reduceMul, Nat.reduceDiv, Nat.reduceMod, Nat.reduceEqDiff, Nat.reduceLT, Nat.reduceLeDiff, Nat.reduceBEq, Nat.add_zero, Nat.zero_add, Nat.le_refl, Nat.not_lt_zero, Nat.succ_eq_add_one, Int.reduceNatCast, Int.cast_ofNat_Int, Int.reduceSub, Int.reduceMul, Int.reduceNeg, Int.reduceLE, Int.reduceLT, Int.reduceToNat, Int.reduceEq, Int.reduceNe, Int.reduceAdd, Option.some.injEq, kX9_goOn, rmX9_goOn, ↓ofX9_19, ↓ofX9_58, ↓ofX9_67, ↓ofX9_70, ↓ofX9_73, ↓ofX9_76, ↓ozX9_174, ↓ocX9_goOn_156, ↓spX9_timeOf, G_240, G_241, G_242, G_243, G_244, G_245, G_246, G_247, G_248, G_249, G_250, G_251, G_252, G_253, G_254, G_255, G_256, G_257, G_258, G_259, G_260, G_261, G_262, G_263, G_264, G_265, G_266, G_267, G_268, G_269, G_270, G_271, G_272, PF_240_6, PF_240_7, PF_240_8, PF_240_9, PF_240_10, PF_240_11, PF_240_12, PF_240_13, PF_240_14, PF_240_15, PF_240_16, PF_240_17, PF_240_18, PF_240_19, PF_240_20, PF_240_21, PF_240_22, PF_240_23, PF_240_24, PF_240_26, PF_240_27, PF_240_28, PF_240_29, PF_240_30, PF_240_31, PF_240_32, PF_240_33, PF_240_34, PF_240_35, PF_240_36, PF_240_37]
      exact ⟨by omega, by omega, fun z => fin z, fun z => by omega⟩
    · have ih := lpX9_gi (U := U) (post := post) (N := N) (lo := lo) n0 n1 ha hg p0 p1 hp hh hhi h m (q + 1)
      have e255 : L1 255 p = L 255 p := h1 _ _ (by omega)
      have hap := ha p p0 p1
      have hi2 := hg.2.2.2
      obtain ⟨u, v, w⟩ := h3 q (by omega) (by omega)
      have tr := fun c => tmv_rng (ch := c) (p := q) g5.1 g5.2 q0
      have t0 := tr 0
      have t1 := tr 1
      have d1 : nx = I 250 i → dif (I 250 i) nx = 0 := fun z => if_pos z
      have d2 : ¬ nx = I 250 i → dif (I 250 i) nx = 1 := fun z => if_neg z
      have step : ∀ c x, dif (I 250 i) nx = c → q ≤ hi → x ≤ L1 256 q → x ≤ L 255 p + tmv (I 242 (i + 1)) c q → (x = L1 256 q ∨ x = L 255 p + tmv (I 242 (i + 1)) c q) → 0 ≤ x → ∀ t7 t8, Ok RX9 cX9_goOn 9 rmX9_goOn false none post U (117, [some (.inr (.inr (some 240))), some (.inl i), some (.inl nx), some (.inl p), some (.inl lo), some (.inl hi), some (.inl (q + 1)), t7, t8], [], (N, PF, I, upI L1 256 q x), 0, 0) := fun c x e a b d f x0 t7 t8 => by
        subst e
        have k := (hhi q).mp a
        refine ih _ t7 t8 (by omega) (by omega) (by omega) (fun b k hb => by rw [upI_ne hb]; exact h1 b k hb) (fun q' z0 z1 => ?_) (fun q' z0 z1 => ?_)
        · by_cases z : q' = q
          · subst z
            unfold aheN
            rw [upI_same]
            exact ⟨x0, by omega, w.jn (fun y => goS_yes p0 ⟨hp, q1, k⟩) b d f⟩
          · unfold aheN
            rw [upI_nj z]
            exact h2 q' z0 (by omega)
        · unfold aheN
          rw [upI_nj (by omega)]
          exact h3 q' (by omega) z1
      refine Ok.seg mdX9_goOn [117, 196] 80 ?_
      simp only [wp_nil, wp_cons, ↓stp, ↓lI, ↓lL, ↓lR, ↓lIn_0, ↓lIn_1, ↓lIn_2, ↓lIn_3, ↓lLn_0, ↓lLn_1, ↓lLn_2, ↓lLn_3, ↓lRn_0, ↓lRn_1, ↓lRn_2, ↓lRn_3, ↓pI, ↓pL, ↓pR, ↓pA, ↓pN, ↓pV, ↓fp, ↓tsw, ↓oS, ↓spMax, ↓spMin, ↓spAbs, ↓spObj, RI, RLg, b2i_lo, b2i_hi, getL, setL, ltL, killL, isLong, inl, cnd, br, tgt, rcv, rpl, mputI, mputL, mputP, fv, fr, mcat, mcs, entL, entA, rfit, nf_0, nf_1, nf_2, nf_3, nf2_0, nf2_1, b2i_0, b2i_1, RI_b2i, b2i_fit, List.append, List.length, List.replicate, List.cons_append, List.nil_append, List.length_cons, List.length_nil, List.replicate_succ, List.replicate_zero, List.tail_cons, reduceIte, if_true, if_false, ite_true, ite_false, Bool.false_eq_true, true_and, and_true, and_self, false_and, and_false, or_self, or_true, true_or, or_false, false_or, not_true_eq_false, not_false_eq_true, ne_eq, forall_const, implies_true, imp_self, true_implies, false_implies, Nat.reduceAdd, Nat.reduceSub, Nat.reduceMul, Nat.reduceDiv, Nat.reduceMod, Nat.reduceEqDiff, Nat.reduceLT, Nat.reduceLeDiff, Nat.reduceBEq, Nat.add_zero, Nat.zero_add, Nat.le_refl, Nat.not_lt_zero, Nat.succ_eq_add_one, Int.reduceNatCast, Int.cast_ofNat_Int, Int.reduceSub, Int.reduceMul, Int.reduceNeg, Int.reduceLE, Int.reduceLT, Int.reduceToNat, Int.reduceEq, Int.reduceNe, Int.reduceAdd, Option.some.injEq, kX9_goOn, rmX9_goOn, ↓ofX9_19, ↓ofX9_58, ↓ofX9_67, ↓ofX9_70, ↓ofX9_73, ↓ofX9_76, ↓ozX9_174, ↓ocX9_goOn_156, ↓spX9_timeOf, lcm_lo, lcm_hi, lcm_ge, e255, G_240, G_241, G_242, G_243, G_244, G_245, G_246, G_247, G_248, G_249, G_250, G_251, G_252, G_253, G_254, G_255, G_256, G_257, G_258, G_259, G_260, G_261, G_262, G_263, G_264, G_265, G_266, G_267, G_268, G_269, G_270, G_271, G_272, PF_240_6, PF_240_7, PF_240_8, PF_240_9, PF_240_10, PF_240_11, PF_240_12, PF_240_13, PF_240_14, PF_240_15, PF_240_16, PF_240_17, PF_240_18, PF_240_19, PF_240_20, PF_240_21, PF_240_22, PF_240_23, PF_240_24, PF_240_26, PF_240_27, PF_240_28, PF_240_29, PF_240_30, PF_240_31, PF_240_32, PF_240_33, PF_240_34, PF_240_35, PF_240_36, PF_240_37]
      refine ⟨by omega, by omega, fun z => fin z, fun z => ?_⟩
      repeat refine ⟨by omega, ?_⟩
      refine ⟨fun z2 => ?_, fun z2 => ?_⟩
      · repeat refine ⟨by omega, ?_⟩
        refine ⟨fun z3 => ?_, fun z3 => ?_⟩
        · repeat refine ⟨by omega, ?_⟩
          exact step 0 _ (d1 z2) (by omega) (by omega) (by omega) (.inl rfl) (by omega) _ _
        · exact ⟨by omega, by omega, step 0 _ (d1 z2) (by omega) (by omega) (by omega) (.inr rfl) (by omega) _ _⟩
      · repeat refine ⟨by omega, ?_⟩
        refine ⟨fun z3 => ?_, fun z3 => ?_⟩
        · repeat refine ⟨by omega, ?_⟩
          exact step 1 _ (d2 z2) (by omega) (by omega) (by omega) (.inl rfl) (by omega) _ _
        · exact ⟨by omega, by omega, step 1 _ (d2 z2) (by omega) (by omega) (by omega) (.inr rfl) (by omega) _ _⟩
set_option maxHeartbeats 1600000 in
set_option maxRecDepth 100000 in
theorem lpX9_go {post : Option MV → MS → Prop} {U : Pt → Prop} {N : Nat} {I L : Int → Int → Int} {i nx g : Int} (n0 : 0 ≤ nx) (n1 : nx ≤ 2) (ha : ahdR L) (hg : gnd I L g i)
    (h : ∀ (L1 : Int → Int → Int) (t4 t5 t6 t7 t8 : Option MV), (∀ b k, b ≠ 256 → L1 b k = L b k) → (∀ q, 1 ≤ q → q ≤ 60 → aheN L1 (goS I L i nx 61) q) → Ok RX9 cX9_goOn 9 rmX9_goOn false none post U (202, [some (.inr (.inr (some 240))), some (.inl i), some (.inl nx), some (.inl 61), t4, t5, t6, t7, t8], [], (N, PF, I, L1), 0, 0)) :
    ∀ (m : Nat) (p : Int) (L1 : Int → Int → Int) (t4 t5 t6 t7 t8 : Option MV), p + m = 61 → 1 ≤ p → (∀ b k, b ≠ 256 → L1 b k = L b k) → (∀ q, 1 ≤ q → q ≤ 60 → aheN L1 (goS I L i nx p) q) →
    Ok RX9 cX9_goOn 9 rmX9_goOn false none post U (25, [some (.inr (.inr (some 240))), some (.inl i), some (.inl nx), some (.inl p), t4, t5, t6, t7, t8], [], (N, PF, I, L1), 0, 0)
  | 0, p, L1, t4, t5, t6, t7, t8, hp, p0, h1, h2 => by
    refine Ok.seg mdX9_goOn [25, 202] 12 ?_
    simp only [wp_nil, wp_cons, ↓stp, ↓lI, ↓lL, ↓lR, ↓lIn_0, ↓lIn_1, ↓lIn_2, ↓lIn_3, ↓lLn_0, ↓lLn_1, ↓lLn_2, ↓lLn_3, ↓lRn_0, ↓lRn_1, ↓lRn_2, ↓lRn_3, ↓pI, ↓pL, ↓pR, ↓pA, ↓pN, ↓pV, ↓fp, ↓tsw, ↓oS, ↓spMax, ↓spMin, ↓spAbs, ↓spObj, RI, RLg, b2i_lo, b2i_hi, getL, setL, ltL, killL, isLong, inl, cnd, br, tgt, rcv, rpl, mputI, mputL, mputP, fv, fr, mcat, mcs, entL, entA, rfit, nf_0, nf_1, nf_2, nf_3, nf2_0, nf2_1, b2i_0, b2i_1, RI_b2i, b2i_fit, List.append, List.length, List.replicate, List.cons_append, List.nil_append, List.length_cons, List.length_nil, List.replicate_succ, List.replicate_zero, List.tail_cons, reduceIte, if_true, if_false, ite_true, ite_false, Bool.false_eq_true, true_and, and_true, and_self, false_and, and_false, or_self, or_true, true_or, or_false, false_or, not_true_eq_false, not_false_eq_true, ne_eq, forall_const, implies_true, imp_self, true_implies, false_implies, Nat.reduceAdd, Nat.reduceSub, Nat.reduceMul, Nat.reduceDiv, Nat.reduceMod, Nat.reduceEqDiff, Nat.reduceLT, Nat.reduceLeDiff, Nat.reduceBEq, Nat.add_zero, Nat.zero_add, Nat.le_refl, Nat.not_lt_zero, Nat.succ_eq_add_one, Int.reduceNatCast, Int.cast_ofNat_Int, Int.reduceSub, Int.reduceMul, Int.reduceNeg, Int.reduceLE, Int.reduceLT, Int.reduceToNat, Int.reduceEq, Int.reduceNe, Int.reduceAdd, Option.some.injEq, kX9_goOn, rmX9_goOn, ↓ofX9_19, ↓ofX9_58, ↓ofX9_67, ↓ofX9_70, ↓ofX9_73, ↓ofX9_76, ↓ozX9_174, ↓ocX9_goOn_156, ↓spX9_timeOf, G_240, G_241, G_242, G_243, G_244, G_245, G_246, G_247, G_248, G_249, G_250, G_251, G_252, G_253, G_254, G_255, G_256, G_257, G_258, G_259, G_260, G_261, G_262, G_263, G_264, G_265, G_266, G_267, G_268, G_269, G_270, G_271, G_272, PF_240_6, PF_240_7, PF_240_8, PF_240_9, PF_240_10, PF_240_11, PF_240_12, PF_240_13, PF_240_14, PF_240_15, PF_240_16, PF_240_17, PF_240_18, PF_240_19, PF_240_20, PF_240_21, PF_240_22, PF_240_23, PF_240_24, PF_240_26, PF_240_27, PF_240_28, PF_240_29, PF_240_30, PF_240_31, PF_240_32, PF_240_33, PF_240_34, PF_240_35, PF_240_36, PF_240_37]
    rw [show p = 61 by omega] at h2 ⊢
    exact ⟨by omega, fun _ => h L1 _ _ _ _ _ h1 h2, fun q => by omega⟩
  | m + 1, p, L1, t4, t5, t6, t7, t8, hp, p0, h1, h2 => by
    have ih := fun L1 t4 t5 t6 t7 t8 => lpX9_go (U := U) (post := post) (N := N) n0 n1 ha hg h m (p + 1) L1 t4 t5 t6 t7 t8 (by omega) (by omega)
    obtain ⟨g1, g2, g3, g4, g5, g6⟩ := gnd_r hg p0 (show p ≤ 60 by omega) n0 n1
    have e255 : L1 255 p = L 255 p := h1 _ _ (by omega)
    have hap := ha p p0 (by omega)
    have hi2 := hg.2.2.2
    have hgf : L 255 p < 1000000000000 → ∀ lo hi, 1 ≤ lo → p - I 240 3 ≤ lo → (lo = 1 ∨ lo = p - I 240 3) → hi ≤ I 253 p → hi ≤ I 254 (3 * (i + 1) + nx) → (hi = I 253 p ∨ hi = I 254 (3 * (i + 1) + nx)) → ∀ t7 t8, Ok RX9 cX9_goOn 9 rmX9_goOn false none post U (117, [some (.inr (.inr (some 240))), some (.inl i), some (.inl nx), some (.inl p), some (.inl lo), some (.inl hi), some (.inl lo), t7, t8], [], (N, PF, I, L1), 0, 0) := fun z lo hi a b c d e f t7 t8 => by
      refine lpX9_gi (L := L) n0 n1 ha hg p0 (by omega) z (by omega) (fun q => by omega) (fun L2 t4 t5 t6 t7 t8 k1 k2 => ?_) (61 - lo).toNat lo L1 t7 t8 (by omega) a b h1 (fun q' z0 z1 => ?_) (fun q' z0 z1 => h2 q' (by omega) z1)
      · refine Ok.seg mdX9_goOn [25] 12 ?_
        simp only [wp_nil, wp_cons, ↓stp, ↓lI, ↓lL, ↓lR, ↓lIn_0, ↓lIn_1, ↓lIn_2, ↓lIn_3, ↓lLn_0, ↓lLn_1, ↓lLn_2, ↓lLn_3, ↓lRn_0, ↓lRn_1, ↓lRn_2, ↓lRn_3, ↓pI, ↓pL, ↓pR, ↓pA, ↓pN, ↓pV, ↓fp, ↓tsw, ↓oS, ↓spMax, ↓spMin, ↓spAbs, ↓spObj, RI, RLg, b2i_lo, b2i_hi, getL, setL, ltL, killL, isLong, inl, cnd, br, tgt, rcv, rpl, mputI, mputL, mputP, fv, fr, mcat, mcs, entL, entA, rfit, nf_0, nf_1, nf_2, nf_3, nf2_0, nf2_1, b2i_0, b2i_1, RI_b2i, b2i_fit, List.append, List.length, List.replicate, List.cons_append, List.nil_append, List.length_cons, List.length_nil, List.replicate_succ, List.replicate_zero, List.tail_cons, reduceIte, if_true, if_false, ite_true, ite_false, Bool.false_eq_true, true_and, and_true, and_self, false_and, and_false, or_self, or_true, true_or, or_false, false_or, not_true_eq_false, not_false_eq_true, ne_eq, forall_const, implies_true, imp_self, true_implies, false_implies, Nat.reduceAdd, Nat.reduceSub, Nat.reduceMul, Nat.reduceDiv, Nat.reduceMod, Nat.reduceEqDiff, Nat.reduceLT, Nat.reduceLeDiff, Nat.reduceBEq, Nat.add_zero, Nat.zero_add, Nat.le_refl, Nat.not_lt_zero, Nat.succ_eq_add_one, Int.reduceNatCast, Int.cast_ofNat_Int, Int.reduceSub, Int.reduceMul, Int.reduceNeg, Int.reduceLE, Int.reduceLT, Int.reduceToNat, Int.reduceEq, Int.reduceNe, Int.reduceAdd, Option.some.injEq, kX9_goOn, rmX9_goOn, ↓ofX9_19, ↓ofX9_58, ↓ofX9_67, ↓ofX9_70, ↓ofX9_73, ↓ofX9_76, ↓ozX9_174, ↓ocX9_goOn_156, ↓spX9_timeOf, G_240, G_241, G_242, G_243, G_244, G_245, G_246, G_247, G_248, G_249, G_250, G_251, G_252, G_253, G_254, G_255, G_256, G_257, G_258, G_259, G_260, G_261, G_262, G_263, G_264, G_265, G_266, G_267, G_268, G_269, G_270, G_271, G_272, PF_240_6, PF_240_7, PF_240_8, PF_240_9, PF_240_10, PF_240_11, PF_240_12, PF_240_13, PF_240_14, PF_240_15, PF_240_16, PF_240_17, PF_240_18, PF_240_19, PF_240_20, PF_240_21, PF_240_22, PF_240_23, PF_240_24, PF_240_26, PF_240_27, PF_240_28, PF_240_29, PF_240_30, PF_240_31, PF_240_32, PF_240_33, PF_240_34, PF_240_35, PF_240_36, PF_240_37]
        exact ih L2 _ _ _ _ _ k1 k2
      · obtain ⟨u, v, w⟩ := h2 q' z0 (by omega)
        exact ⟨u, v, w.cg (fun y => goS_no (fun t => by omega))⟩
    refine Ok.seg mdX9_goOn [25, 117] 60 ?_
    simp only [wp_nil, wp_cons, ↓stp, ↓lI, ↓lL, ↓lR, ↓lIn_0, ↓lIn_1, ↓lIn_2, ↓lIn_3, ↓lLn_0, ↓lLn_1, ↓lLn_2, ↓lLn_3, ↓lRn_0, ↓lRn_1, ↓lRn_2, ↓lRn_3, ↓pI, ↓pL, ↓pR, ↓pA, ↓pN, ↓pV, ↓fp, ↓tsw, ↓oS, ↓spMax, ↓spMin, ↓spAbs, ↓spObj, RI, RLg, b2i_lo, b2i_hi, getL, setL, ltL, killL, isLong, inl, cnd, br, tgt, rcv, rpl, mputI, mputL, mputP, fv, fr, mcat, mcs, entL, entA, rfit, nf_0, nf_1, nf_2, nf_3, nf2_0, nf2_1, b2i_0, b2i_1, RI_b2i, b2i_fit, List.append, List.length, List.replicate, List.cons_append, List.nil_append, List.length_cons, List.length_nil, List.replicate_succ, List.replicate_zero, List.tail_cons, reduceIte, if_true, if_false, ite_true, ite_false, Bool.false_eq_true, true_and, and_true, and_self, false_and, and_false, or_self, or_true, true_or, or_false, false_or, not_true_eq_false, not_false_eq_true, ne_eq, forall_const, implies_true, imp_self, true_implies, false_implies, Nat.reduceAdd, Nat.reduceSub, Nat.reduceMul, Nat.reduceDiv, Nat.reduceMod, Nat.reduceEqDiff, Nat.reduceLT, Nat.reduceLeDiff, Nat.reduceBEq, Nat.add_zero, Nat.zero_add, Nat.le_refl, Nat.not_lt_zero, Nat.succ_eq_add_one, Int.reduceNatCast, Int.cast_ofNat_Int, Int.reduceSub, Int.reduceMul, Int.reduceNeg, Int.reduceLE, Int.reduceLT, Int.reduceToNat, Int.reduceEq, Int.reduceNe, Int.reduceAdd, Option.some.injEq, kX9_goOn, rmX9_goOn, ↓ofX9_19, ↓ofX9_58, ↓ofX9_67, ↓ofX9_70, ↓ofX9_73, ↓ofX9_76, ↓ozX9_174, ↓ocX9_goOn_156, ↓spX9_timeOf, lcm_lo, lcm_hi, lcm_lt, e255, G_240, G_241, G_242, G_243, G_244, G_245, G_246, G_247, G_248, G_249, G_250, G_251, G_252, G_253, G_254, G_255, G_256, G_257, G_258, G_259, G_260, G_261, G_262, G_263, G_264, G_265, G_266, G_267, G_268, G_269, G_270, G_271, G_272, PF_240_6, PF_240_7, PF_240_8, PF_240_9, PF_240_10, PF_240_11, PF_240_12, PF_240_13, PF_240_14, PF_240_15, PF_240_16, PF_240_17, PF_240_18, PF_240_19, PF_240_20, PF_240_21, PF_240_22, PF_240_23, PF_240_24, PF_240_26, PF_240_27, PF_240_28, PF_240_29, PF_240_30, PF_240_31, PF_240_32, PF_240_33, PF_240_34, PF_240_35, PF_240_36, PF_240_37]
    refine ⟨by omega, fun q => by omega, fun q => ⟨by omega, by omega, by omega, fun q2 => ⟨by omega, fun q3 => ?_, fun q3 => ?_⟩, fun q2 => ?_⟩⟩
    · refine ⟨by omega, by omega, by omega, by omega, by omega, by omega, fun q4 => ?_, fun q4 => ?_⟩
      · exact ⟨by omega, by omega, hgf q2 _ _ (by omega) (by omega) (.inl rfl) (by omega) (by omega) (.inl rfl) _ _⟩
      · exact ⟨by omega, by omega, hgf q2 _ _ (by omega) (by omega) (.inl rfl) (by omega) (by omega) (.inr rfl) _ _⟩
    · refine ⟨by omega, by omega, by omega, by omega, by omega, by omega, fun q4 => ?_, fun q4 => ?_⟩
      · exact ⟨by omega, by omega, hgf q2 _ _ (by omega) (by omega) (.inr rfl) (by omega) (by omega) (.inl rfl) _ _⟩
      · exact ⟨by omega, by omega, hgf q2 _ _ (by omega) (by omega) (.inr rfl) (by omega) (by omega) (.inr rfl) _ _⟩
    · exact ih L1 _ _ _ _ _ h1 (fun q' a b => by
        obtain ⟨u, v, w⟩ := h2 q' a b
        exact ⟨u, v, w.cg (fun y => goS_no (fun t => q2 t.1))⟩)
set_option maxHeartbeats 1600000 in
set_option maxRecDepth 100000 in
theorem lpX9_g0 {post : Option MV → MS → Prop} {U : Pt → Prop} {N : Nat} {I L : Int → Int → Int} {i nx : Int} {t4 t5 t6 t7 t8 : Option MV}
    (h : ∀ (L1 : Int → Int → Int) (t3 : Option MV), (∀ b k, b ≠ 256 → L1 b k = L b k) → (∀ q, 0 ≤ q → q ≤ 60 → L1 256 q = 1000000000000) → Ok RX9 cX9_goOn 9 rmX9_goOn false none post U (23, [some (.inr (.inr (some 240))), some (.inl i), some (.inl nx), t3, t4, t5, t6, t7, t8], [], (N, PF, I, L1), 0, 0)) :
    ∀ (m : Nat) (q : Int) (L1 : Int → Int → Int), q + m = 61 → 0 ≤ q → (∀ b k, b ≠ 256 → L1 b k = L b k) → (∀ q', 0 ≤ q' → q' < q → L1 256 q' = 1000000000000) →
    Ok RX9 cX9_goOn 9 rmX9_goOn false none post U (2, [some (.inr (.inr (some 240))), some (.inl i), some (.inl nx), some (.inl q), t4, t5, t6, t7, t8], [], (N, PF, I, L1), 0, 0)
  | 0, q, L1, hq, q0, h1, h2 => by
    refine Ok.seg mdX9_goOn [2, 23] 12 ?_
    simp only [wp_nil, wp_cons, ↓stp, ↓lI, ↓lL, ↓lR, ↓lIn_0, ↓lIn_1, ↓lIn_2, ↓lIn_3, ↓lLn_0, ↓lLn_1, ↓lLn_2, ↓lLn_3, ↓lRn_0, ↓lRn_1, ↓lRn_2, ↓lRn_3, ↓pI, ↓pL, ↓pR, ↓pA, ↓pN, ↓pV, ↓fp, ↓tsw, ↓oS, ↓spMax, ↓spMin, ↓spAbs, ↓spObj, RI, RLg, b2i_lo, b2i_hi, getL, setL, ltL, killL, isLong, inl, cnd, br, tgt, rcv, rpl, mputI, mputL, mputP, fv, fr, mcat, mcs, entL, entA, rfit, nf_0, nf_1, nf_2, nf_3, nf2_0, nf2_1, b2i_0, b2i_1, RI_b2i, b2i_fit, List.append, List.length, List.replicate, List.cons_append, List.nil_append, List.length_cons, List.length_nil, List.replicate_succ, List.replicate_zero, List.tail_cons, reduceIte, if_true, if_false, ite_true, ite_false, Bool.false_eq_true, true_and, and_true, and_self, false_and, and_false, or_self, or_true, true_or, or_false, false_or, not_true_eq_false, not_false_eq_true, ne_eq, forall_const, implies_true, imp_self, true_implies, false_implies, Nat.reduceAdd, Nat.reduceSub, Nat.reduceMul, Nat.reduceDiv, Nat.reduceMod, Nat.reduceEqDiff, Nat.reduceLT, Nat.reduceLeDiff, Nat.reduceBEq, Nat.add_zero, Nat.zero_add, Nat.le_refl, Nat.not_lt_zero, Nat.succ_eq_add_one, Int.reduceNatCast, Int.cast_ofNat_Int, Int.reduceSub, Int.reduceMul, Int.reduceNeg, Int.reduceLE, Int.reduceLT, Int.reduceToNat, Int.reduceEq, Int.reduceNe, Int.reduceAdd, Option.some.injEq, kX9_goOn, rmX9_goOn, ↓ofX9_19, ↓ofX9_58, ↓ofX9_67, ↓ofX9_70, ↓ofX9_73, ↓ofX9_76, ↓ozX9_174, ↓ocX9_goOn_156, ↓spX9_timeOf, G_240, G_241, G_242, G_243, G_244, G_245, G_246, G_247, G_248, G_249, G_250, G_251, G_252, G_253, G_254, G_255, G_256, G_257, G_258, G_259, G_260, G_261, G_262, G_263, G_264, G_265, G_266, G_267, G_268, G_269, G_270, G_271, G_272, PF_240_6, PF_240_7, PF_240_8, PF_240_9, PF_240_10, PF_240_11, PF_240_12, PF_240_13, PF_240_14, PF_240_15, PF_240_16, PF_240_17, PF_240_18, PF_240_19, PF_240_20, PF_240_21, PF_240_22, PF_240_23, PF_240_24, PF_240_26, PF_240_27, PF_240_28, PF_240_29, PF_240_30, PF_240_31, PF_240_32, PF_240_33, PF_240_34, PF_240_35, PF_240_36, PF_240_37]
    exact ⟨by omega, fun _ => h L1 _ h1 (fun q' a b => h2 q' a (by omega)), fun q => by omega⟩
  | m + 1, q, L1, hq, q0, h1, h2 => by
    have ih := lpX9_g0 (U := U) (post := post) (N := N) (I := I) (i := i) (nx := nx) (t4 := t4) (t5 := t5) (t6 := t6) (t7 := t7) (t8 := t8) h m (q + 1)
    refine Ok.seg mdX9_goOn [2, 23] 20 ?_
    simp only [wp_nil, wp_cons, ↓stp, ↓lI, ↓lL, ↓lR, ↓lIn_0, ↓lIn_1, ↓lIn_2, ↓lIn_3, ↓lLn_0, ↓lLn_1, ↓lLn_2, ↓lLn_3, ↓lRn_0, ↓lRn_1, ↓lRn_2, ↓lRn_3, ↓pI, ↓pL, ↓pR, ↓pA, ↓pN, ↓pV, ↓fp, ↓tsw, ↓oS, ↓spMax, ↓spMin, ↓spAbs, ↓spObj, RI, RLg, b2i_lo, b2i_hi, getL, setL, ltL, killL, isLong, inl, cnd, br, tgt, rcv, rpl, mputI, mputL, mputP, fv, fr, mcat, mcs, entL, entA, rfit, nf_0, nf_1, nf_2, nf_3, nf2_0, nf2_1, b2i_0, b2i_1, RI_b2i, b2i_fit, List.append, List.length, List.replicate, List.cons_append, List.nil_append, List.length_cons, List.length_nil, List.replicate_succ, List.replicate_zero, List.tail_cons, reduceIte, if_true, if_false, ite_true, ite_false, Bool.false_eq_true, true_and, and_true, and_self, false_and, and_false, or_self, or_true, true_or, or_false, false_or, not_true_eq_false, not_false_eq_true, ne_eq, forall_const, implies_true, imp_self, true_implies, false_implies, Nat.reduceAdd, Nat.reduceSub, Nat.reduceMul, Nat.reduceDiv, Nat.reduceMod, Nat.reduceEqDiff, Nat.reduceLT, Nat.reduceLeDiff, Nat.reduceBEq, Nat.add_zero, Nat.zero_add, Nat.le_refl, Nat.not_lt_zero, Nat.succ_eq_add_one, Int.reduceNatCast, Int.cast_ofNat_Int, Int.reduceSub, Int.reduceMul, Int.reduceNeg, Int.reduceLE, Int.reduceLT, Int.reduceToNat, Int.reduceEq, Int.reduceNe, Int.reduceAdd, Option.some.injEq, kX9_goOn, rmX9_goOn, ↓ofX9_19, ↓ofX9_58, ↓ofX9_67, ↓ofX9_70, ↓ofX9_73, ↓ofX9_76, ↓ozX9_174, ↓ocX9_goOn_156, ↓spX9_timeOf, G_240, G_241, G_242, G_243, G_244, G_245, G_246, G_247, G_248, G_249, G_250, G_251, G_252, G_253, G_254, G_255, G_256, G_257, G_258, G_259, G_260, G_261, G_262, G_263, G_264, G_265, G_266, G_267, G_268, G_269, G_270, G_271, G_272, PF_240_6, PF_240_7, PF_240_8, PF_240_9, PF_240_10, PF_240_11, PF_240_12, PF_240_13, PF_240_14, PF_240_15, PF_240_16, PF_240_17, PF_240_18, PF_240_19, PF_240_20, PF_240_21, PF_240_22, PF_240_23, PF_240_24, PF_240_26, PF_240_27, PF_240_28, PF_240_29, PF_240_30, PF_240_31, PF_240_32, PF_240_33, PF_240_34, PF_240_35, PF_240_36, PF_240_37]
    refine ⟨by omega, fun z => by omega, fun z => ⟨by omega, by omega, ih _ (by omega) (by omega) (fun b k hb => by rw [upI_ne hb]; exact h1 b k hb) (fun q' a b => ?_)⟩⟩
    by_cases e : q' = q
    · rw [e]; exact upI_same
    · rw [upI_nj e]; exact h2 q' a (by omega)
set_option maxHeartbeats 1600000 in
set_option maxRecDepth 100000 in
theorem lpX9_g9 {post : Option MV → MS → Prop} {U : Pt → Prop} {N : Nat} {I L : Int → Int → Int} {i nx : Int} {t4 t5 t6 t7 t8 : Option MV}
    (h : ∀ (L1 : Int → Int → Int), (∀ b k, b ≠ 255 → L1 b k = L b k) → (∀ q, 0 ≤ q → q ≤ 60 → L1 255 q = L 256 q) → post none (N, PF, I, L1)) :
    ∀ (m : Nat) (q : Int) (L1 : Int → Int → Int), q + m = 61 → 0 ≤ q → (∀ b k, b ≠ 255 → L1 b k = L b k) → (∀ q', 0 ≤ q' → q' < q → L1 255 q' = L 256 q') →
    Ok RX9 cX9_goOn 9 rmX9_goOn false none post U (204, [some (.inr (.inr (some 240))), some (.inl i), some (.inl nx), some (.inl q), t4, t5, t6, t7, t8], [], (N, PF, I, L1), 0, 0)
  | 0, q, L1, hq, q0, h1, h2 => by
    refine Ok.seg mdX9_goOn [204] 12 ?_
    simp only [wp_nil, wp_cons, ↓stp, ↓lI, ↓lL, ↓lR, ↓lIn_0, ↓lIn_1, ↓lIn_2, ↓lIn_3, ↓lLn_0, ↓lLn_1, ↓lLn_2, ↓lLn_3, ↓lRn_0, ↓lRn_1, ↓lRn_2, ↓lRn_3, ↓pI, ↓pL, ↓pR, ↓pA, ↓pN, ↓pV, ↓fp, ↓tsw, ↓oS, ↓spMax, ↓spMin, ↓spAbs, ↓spObj, RI, RLg, b2i_lo, b2i_hi, getL, setL, ltL, killL, isLong, inl, cnd, br, tgt, rcv, rpl, mputI, mputL, mputP, fv, fr, mcat, mcs, entL, entA, rfit, nf_0, nf_1, nf_2, nf_3, nf2_0, nf2_1, b2i_0, b2i_1, RI_b2i, b2i_fit, List.append, List.length, List.replicate, List.cons_append, List.nil_append, List.length_cons, List.length_nil, List.replicate_succ, List.replicate_zero, List.tail_cons, reduceIte, if_true, if_false, ite_true, ite_false, Bool.false_eq_true, true_and, and_true, and_self, false_and, and_false, or_self, or_true, true_or, or_false, false_or, not_true_eq_false, not_false_eq_true, ne_eq, forall_const, implies_true, imp_self, true_implies, false_implies, Nat.reduceAdd, Nat.reduceSub, Nat.reduceMul, Nat.reduceDiv, Nat.reduceMod, Nat.reduceEqDiff, Nat.reduceLT, Nat.reduceLeDiff, Nat.reduceBEq, Nat.add_zero, Nat.zero_add, Nat.le_refl, Nat.not_lt_zero, Nat.succ_eq_add_one, Int.reduceNatCast, Int.cast_ofNat_Int, Int.reduceSub, Int.reduceMul, Int.reduceNeg, Int.reduceLE, Int.reduceLT, Int.reduceToNat, Int.reduceEq, Int.reduceNe, Int.reduceAdd, Option.some.injEq, kX9_goOn, rmX9_goOn, ↓ofX9_19, ↓ofX9_58, ↓ofX9_67, ↓ofX9_70, ↓ofX9_73, ↓ofX9_76, ↓ozX9_174, ↓ocX9_goOn_156, ↓spX9_timeOf, G_240, G_241, G_242, G_243, G_244, G_245, G_246, G_247, G_248, G_249, G_250, G_251, G_252, G_253, G_254, G_255, G_256, G_257, G_258, G_259, G_260, G_261, G_262, G_263, G_264, G_265, G_266, G_267, G_268, G_269, G_270, G_271, G_272, PF_240_6, PF_240_7, PF_240_8, PF_240_9, PF_240_10, PF_240_11, PF_240_12, PF_240_13, PF_240_14, PF_240_15, PF_240_16, PF_240_17, PF_240_18, PF_240_19, PF_240_20, PF_240_21, PF_240_22, PF_240_23, PF_240_24, PF_240_26, PF_240_27, PF_240_28, PF_240_29, PF_240_30, PF_240_31, PF_240_32, PF_240_33, PF_240_34, PF_240_35, PF_240_36, PF_240_37]
    exact ⟨by omega, fun _ => h L1 h1 (fun q' a b => h2 q' a (by omega)), fun q => by omega⟩
  | m + 1, q, L1, hq, q0, h1, h2 => by
    have ih := lpX9_g9 (U := U) (post := post) (N := N) (I := I) (i := i) (nx := nx) (t4 := t4) (t5 := t5) (t6 := t6) (t7 := t7) (t8 := t8) h m (q + 1)
    have e : L1 256 q = L 256 q := h1 _ _ (by omega)
    refine Ok.seg mdX9_goOn [204] 20 ?_
    simp only [wp_nil, wp_cons, ↓stp, ↓lI, ↓lL, ↓lR, ↓lIn_0, ↓lIn_1, ↓lIn_2, ↓lIn_3, ↓lLn_0, ↓lLn_1, ↓lLn_2, ↓lLn_3, ↓lRn_0, ↓lRn_1, ↓lRn_2, ↓lRn_3, ↓pI, ↓pL, ↓pR, ↓pA, ↓pN, ↓pV, ↓fp, ↓tsw, ↓oS, ↓spMax, ↓spMin, ↓spAbs, ↓spObj, RI, RLg, b2i_lo, b2i_hi, getL, setL, ltL, killL, isLong, inl, cnd, br, tgt, rcv, rpl, mputI, mputL, mputP, fv, fr, mcat, mcs, entL, entA, rfit, nf_0, nf_1, nf_2, nf_3, nf2_0, nf2_1, b2i_0, b2i_1, RI_b2i, b2i_fit, List.append, List.length, List.replicate, List.cons_append, List.nil_append, List.length_cons, List.length_nil, List.replicate_succ, List.replicate_zero, List.tail_cons, reduceIte, if_true, if_false, ite_true, ite_false, Bool.false_eq_true, true_and, and_true, and_self, false_and, and_false, or_self, or_true, true_or, or_false, false_or, not_true_eq_false, not_false_eq_true, ne_eq, forall_const, implies_true, imp_self, true_implies, false_implies, Nat.reduceAdd, Nat.reduceSub, Nat.reduceMul, Nat.reduceDiv, Nat.reduceMod, Nat.reduceEqDiff, Nat.reduceLT, Nat.reduceLeDiff, Nat.reduceBEq, Nat.add_zero, Nat.zero_add, Nat.le_refl, Nat.not_lt_zero, Nat.succ_eq_add_one, Int.reduceNatCast, Int.cast_ofNat_Int, Int.reduceSub, Int.reduceMul, Int.reduceNeg, Int.reduceLE, Int.reduceLT, Int.reduceToNat, Int.reduceEq, Int.reduceNe, Int.reduceAdd, Option.some.injEq, kX9_goOn, rmX9_goOn, ↓ofX9_19, ↓ofX9_58, ↓ofX9_67, ↓ofX9_70, ↓ofX9_73, ↓ofX9_76, ↓ozX9_174, ↓ocX9_goOn_156, ↓spX9_timeOf, e, G_240, G_241, G_242, G_243, G_244, G_245, G_246, G_247, G_248, G_249, G_250, G_251, G_252, G_253, G_254, G_255, G_256, G_257, G_258, G_259, G_260, G_261, G_262, G_263, G_264, G_265, G_266, G_267, G_268, G_269, G_270, G_271, G_272, PF_240_6, PF_240_7, PF_240_8, PF_240_9, PF_240_10, PF_240_11, PF_240_12, PF_240_13, PF_240_14, PF_240_15, PF_240_16, PF_240_17, PF_240_18, PF_240_19, PF_240_20, PF_240_21, PF_240_22, PF_240_23, PF_240_24, PF_240_26, PF_240_27, PF_240_28, PF_240_29, PF_240_30, PF_240_31, PF_240_32, PF_240_33, PF_240_34, PF_240_35, PF_240_36, PF_240_37]
    refine ⟨by omega, fun z => by omega, fun z => ⟨by omega, by omega, by omega, by omega, ih _ (by omega) (by omega) (fun b k hb => by rw [upI_ne hb]; exact h1 b k hb) (fun q' a b => ?_)⟩⟩
    by_cases e : q' = q
    · rw [e]; exact upI_same
    · rw [upI_nj e]; exact h2 q' a (by omega)
set_option maxRecDepth 100000 in
set_option maxHeartbeats 800000 in
theorem mX9_goOn : MOK yX9_goOn cX9_goOn 9 none rmX9_goOn ciX9_goOn := by
  refine mok_of (ini := false) (by decide +kernel) (by decide) rfl rfl ?_
  intro σ As K hrc hl h
  obtain ⟨N, P, I, L⟩ := σ
  have h9 := pR_iff.mp h
  clear h
  obtain ⟨a, r, e9, h⟩ := h9
  subst e9
  have h9 := pI_iff.mp h
  clear h
  obtain ⟨i, r, e9, h⟩ := h9
  subst e9
  have h9 := pI_iff.mp h
  clear h
  obtain ⟨nx, r, e9, h⟩ := h9
  subst e9
  have h9 := pN_iff.mp h
  clear h
  obtain ⟨e9, h⟩ := h9
  subst e9
  try dsimp only at h
  obtain ⟨rfl, rfl, n0, n1, ha, g, hg, h⟩ := h
  refine ⟨Nat.le_of_ble_eq_true rfl, Ok.seg mdX9_goOn [2] 6 ?_⟩
  simp only [wp_nil, wp_cons, ↓stp, ↓lI, ↓lL, ↓lR, ↓lIn_0, ↓lIn_1, ↓lIn_2, ↓lIn_3, ↓lLn_0, ↓lLn_1, ↓lLn_2, ↓lLn_3, ↓lRn_0, ↓lRn_1, ↓lRn_2, ↓lRn_3, ↓pI, ↓pL, ↓pR, ↓pA, ↓pN, ↓pV, ↓fp, ↓tsw, ↓oS, ↓spMax, ↓spMin, ↓spAbs, ↓spObj, RI, RLg, b2i_lo, b2i_hi, getL, setL, ltL, killL, isLong, inl, cnd, br, tgt, rcv, rpl, mputI, mputL, mputP, fv, fr, mcat, mcs, entL, entA, rfit, nf_0, nf_1, nf_2, nf_3, nf2_0, nf2_1, b2i_0, b2i_1, RI_b2i, b2i_fit, List.append, List.length, List.replicate, List.cons_append, List.nil_append, List.length_cons, List.length_nil, List.replicate_succ, List.replicate_zero, List.tail_cons, reduceIte, if_true, if_false, ite_true, ite_false, Bool.false_eq_true, true_and, and_true, and_self, false_and, and_false, or_self, or_true, true_or, or_false, false_or, not_true_eq_false, not_false_eq_true, ne_eq, forall_const, implies_true, imp_self, true_implies, false_implies, Nat.reduceAdd, Nat.reduceSub, Nat.reduceMul, Nat.reduceDiv, Nat.reduceMod, Nat.reduceEqDiff, Nat.reduceLT, Nat.reduceLeDiff, Nat.reduceBEq, Nat.add_zero, Nat.zero_add, Nat.le_refl, Nat.not_lt_zero, Nat.succ_eq_add_one, Int.reduceNatCast, Int.cast_ofNat_Int, Int.reduceSub, Int.reduceMul, Int.reduceNeg, Int.reduceLE, Int.reduceLT, Int.reduceToNat, Int.reduceEq, Int.reduceNe, Int.reduceAdd, Option.some.injEq, kX9_goOn, rmX9_goOn, ↓ofX9_19, ↓ofX9_58, ↓ofX9_67, ↓ofX9_70, ↓ofX9_73, ↓ofX9_76, ↓ozX9_174, ↓ocX9_goOn_156, ↓spX9_timeOf, G_240, G_241, G_242, G_243, G_244, G_245, G_246, G_247, G_248, G_249, G_250, G_251, G_252, G_253, G_254, G_255, G_256, G_257, G_258, G_259, G_260, G_261, G_262, G_263, G_264, G_265, G_266, G_267, G_268, G_269, G_270, G_271, G_272, PF_240_6, PF_240_7, PF_240_8, PF_240_9, PF_240_10, PF_240_11, PF_240_12, PF_240_13, PF_240_14, PF_240_15, PF_240_16, PF_240_17, PF_240_18, PF_240_19, PF_240_20, PF_240_21, PF_240_22, PF_240_23, PF_240_24, PF_240_26, PF_240_27, PF_240_28, PF_240_29, PF_240_30, PF_240_31, PF_240_32, PF_240_33, PF_240_34, PF_240_35, PF_240_36, PF_240_37]
  refine lpX9_g0 (t4 := none) (t5 := none) (t6 := none) (t7 := none) (t8 := none) (fun L1 t3 h1 h2 => ?_) 61 0 L (by omega) (by omega) (fun _ _ _ => rfl) (fun q' a b => by omega)
  refine Ok.seg mdX9_goOn [25] 6 ?_
  simp only [wp_nil, wp_cons, ↓stp, ↓lI, ↓lL, ↓lR, ↓lIn_0, ↓lIn_1, ↓lIn_2, ↓lIn_3, ↓lLn_0, ↓lLn_1, ↓lLn_2, ↓lLn_3, ↓lRn_0, ↓lRn_1, ↓lRn_2, ↓lRn_3, ↓pI, ↓pL, ↓pR, ↓pA, ↓pN, ↓pV, ↓fp, ↓tsw, ↓oS, ↓spMax, ↓spMin, ↓spAbs, ↓spObj, RI, RLg, b2i_lo, b2i_hi, getL, setL, ltL, killL, isLong, inl, cnd, br, tgt, rcv, rpl, mputI, mputL, mputP, fv, fr, mcat, mcs, entL, entA, rfit, nf_0, nf_1, nf_2, nf_3, nf2_0, nf2_1, b2i_0, b2i_1, RI_b2i, b2i_fit, List.append, List.length, List.replicate, List.cons_append, List.nil_append, List.length_cons, List.length_nil, List.replicate_succ, List.replicate_zero, List.tail_cons, reduceIte, if_true, if_false, ite_true, ite_false, Bool.false_eq_true, true_and, and_true, and_self, false_and, and_false, or_self, or_true, true_or, or_false, false_or, not_true_eq_false, not_false_eq_true, ne_eq, forall_const, implies_true, imp_self, true_implies, false_implies, Nat.reduceAdd, Nat.reduceSub, Nat.reduceMul, Nat.reduceDiv, Nat.reduceMod, Nat.reduceEqDiff, Nat.reduceLT, Nat.reduceLeDiff, Nat.reduceBEq, Nat.add_zero, Nat.zero_add, Nat.le_refl, Nat.not_lt_zero, Nat.succ_eq_add_one, Int.reduceNatCast, Int.cast_ofNat_Int, Int.reduceSub, Int.reduceMul, Int.reduceNeg, Int.reduceLE, Int.reduceLT, Int.reduceToNat, Int.reduceEq, Int.reduceNe, Int.reduceAdd, Option.some.injEq, kX9_goOn, rmX9_goOn, ↓ofX9_19, ↓ofX9_58, ↓ofX9_67, ↓ofX9_70, ↓ofX9_73, ↓ofX9_76, ↓ozX9_174, ↓ocX9_goOn_156, ↓spX9_timeOf, G_240, G_241, G_242, G_243, G_244, G_245, G_246, G_247, G_248, G_249, G_250, G_251, G_252, G_253, G_254, G_255, G_256, G_257, G_258, G_259, G_260, G_261, G_262, G_263, G_264, G_265, G_266, G_267, G_268, G_269, G_270, G_271, G_272, PF_240_6, PF_240_7, PF_240_8, PF_240_9, PF_240_10, PF_240_11, PF_240_12, PF_240_13, PF_240_14, PF_240_15, PF_240_16, PF_240_17, PF_240_18, PF_240_19, PF_240_20, PF_240_21, PF_240_22, PF_240_23, PF_240_24, PF_240_26, PF_240_27, PF_240_28, PF_240_29, PF_240_30, PF_240_31, PF_240_32, PF_240_33, PF_240_34, PF_240_35, PF_240_36, PF_240_37]
  refine lpX9_go (L := L) n0 n1 ha hg (fun L2 t4 t5 t6 t7 t8 k1 k2 => ?_) 60 1 L1 _ _ _ _ _ (by omega) (by omega) h1 (fun q a b => by unfold aheN; rw [h2 q (by omega) b]; exact ⟨by omega, by omega, Lst.none (fun y ⟨p, z0, z1, _⟩ => by omega)⟩)
  refine Ok.seg mdX9_goOn [204] 6 ?_
  simp only [wp_nil, wp_cons, ↓stp, ↓lI, ↓lL, ↓lR, ↓lIn_0, ↓lIn_1, ↓lIn_2, ↓lIn_3, ↓lLn_0, ↓lLn_1, ↓lLn_2, ↓lLn_3, ↓lRn_0, ↓lRn_1, ↓lRn_2, ↓lRn_3, ↓pI, ↓pL, ↓pR, ↓pA, ↓pN, ↓pV, ↓fp, ↓tsw, ↓oS, ↓spMax, ↓spMin, ↓spAbs, ↓spObj, RI, RLg, b2i_lo, b2i_hi, getL, setL, ltL, killL, isLong, inl, cnd, br, tgt, rcv, rpl, mputI, mputL, mputP, fv, fr, mcat, mcs, entL, entA, rfit, nf_0, nf_1, nf_2, nf_3, nf2_0, nf2_1, b2i_0, b2i_1, RI_b2i, b2i_fit, List.append, List.length, List.replicate, List.cons_append, List.nil_append, List.length_cons, List.length_nil, List.replicate_succ, List.replicate_zero, List.tail_cons, reduceIte, if_true, if_false, ite_true, ite_false, Bool.false_eq_true, true_and, and_true, and_self, false_and, and_false, or_self, or_true, true_or, or_false, false_or, not_true_eq_false, not_false_eq_true, ne_eq, forall_const, implies_true, imp_self, true_implies, false_implies, Nat.reduceAdd, Nat.reduceSub, Nat.reduceMul, Nat.reduceDiv, Nat.reduceMod, Nat.reduceEqDiff, Nat.reduceLT, Nat.reduceLeDiff, Nat.reduceBEq, Nat.add_zero, Nat.zero_add, Nat.le_refl, Nat.not_lt_zero, Nat.succ_eq_add_one, Int.reduceNatCast, Int.cast_ofNat_Int, Int.reduceSub, Int.reduceMul, Int.reduceNeg, Int.reduceLE, Int.reduceLT, Int.reduceToNat, Int.reduceEq, Int.reduceNe, Int.reduceAdd, Option.some.injEq, kX9_goOn, rmX9_goOn, ↓ofX9_19, ↓ofX9_58, ↓ofX9_67, ↓ofX9_70, ↓ofX9_73, ↓ofX9_76, ↓ozX9_174, ↓ocX9_goOn_156, ↓spX9_timeOf, G_240, G_241, G_242, G_243, G_244, G_245, G_246, G_247, G_248, G_249, G_250, G_251, G_252, G_253, G_254, G_255, G_256, G_257, G_258, G_259, G_260, G_261, G_262, G_263, G_264, G_265, G_266, G_267, G_268, G_269, G_270, G_271, G_272, PF_240_6, PF_240_7, PF_240_8, PF_240_9, PF_240_10, PF_240_11, PF_240_12, PF_240_13, PF_240_14, PF_240_15, PF_240_16, PF_240_17, PF_240_18, PF_240_19, PF_240_20, PF_240_21, PF_240_22, PF_240_23, PF_240_24, PF_240_26, PF_240_27, PF_240_28, PF_240_29, PF_240_30, PF_240_31, PF_240_32, PF_240_33, PF_240_34, PF_240_35, PF_240_36, PF_240_37]
  refine lpX9_g9 (post := fun r σ' => rfit none r ∧ K r σ') (fun L3 m1 m2 => ⟨trivial, h L3 (fun b k b0 b1 => by rw [m1 b k b0]; exact k1 b k b1) (fun q a b => ?_) (fun q a b => ?_)⟩) 61 0 L2 (by omega) (by omega) (fun _ _ _ => rfl) (fun q' a b => by omega)
  · rw [m2 q (by omega) b]; exact ⟨(k2 q a b).1, (k2 q a b).2.1⟩
  · rw [m2 q (by omega) b]; exact (k2 q a b).2.2
