/-! LapBoard$Shelf, but its constructor; Arrays.fill over bytes -/
def spJ7_fill_031fb (As : List MV) (σ : MS) (K : Option MV → MS → Prop) : Prop := pR As fun a r => pI r fun v r => pN r ((G a).1 = 12 ∧ -128 ≤ v ∧ v ≤ 127 ∧ K none (σ.1, σ.2.1, filI σ.2.2.1 a v (G a).2, σ.2.2.2))
def ciJ7_fill_031fb : CI := (2, 10, 0, 0, spJ7_fill_031fb)
def kJ7_fill_031fb (pc : Nat) : List ME := match pc with
  | 0 => [(.iconst 0, 1, []), (.istore_n 2, 1, []), (.aload_n 0, 1, []), (.arraylength, 1, []), (.istore_n 3, 1, [])]
  | 5 => [(.iload_n 2, 1, []), (.iload_n 3, 1, []), (.if_icmp .ge 13, 3, [20]), (.aload_n 0, 1, []), (.iload_n 2, 1, []), (.iload_n 1, 1, []), (.bastore, 1, []), (.iinc 2 1, 3, []), (.goto (-12), 3, [5])]
  | 20 => [(.return_, 1, [])]
  | _ => []
theorem qJ7_fill_031fb : ∀ pc, chk cJ7_fill_031fb pc (kJ7_fill_031fb pc) = true := by
  intro pc
  unfold kJ7_fill_031fb
  split <;> first | decide +kernel | exact chk_nil
abbrev rmJ7_fill_031fb : Room := { frames := 0, cells := 0, slots := 0, locals := 0 }
def aJ7_fill_031fb (_ : Nat) : Option CI := none
theorem aokJ7_fill_031fb : ∀ x ci, aJ7_fill_031fb x = some ci → CalOK RJ7 rmJ7_fill_031fb x ci := fun _ _ h => by cases h
theorem mdJ7_fill_031fb : MD RJ7 cJ7_fill_031fb rmJ7_fill_031fb kJ7_fill_031fb fJ7 aJ7_fill_031fb zJ7 uJ7 := ⟨fokJ7, zokJ7, uokJ7, aokJ7_fill_031fb, qJ7_fill_031fb⟩
set_option maxHeartbeats 800000 in
theorem lpJ7_fillb {post : Option MV → MS → Prop} {T : Pt → Prop} {N : Nat} {P : Int → Int → Option Int} {I L : Int → Int → Int} {a v : Int} {n : Nat} (hG : G a = (12, n)) (hn : n ≤ 20000) (v0 : -128 ≤ v) (v1 : v ≤ 127) (h : post none (N, P, filI I a v n, L)) : ∀ (m : Nat) (i : Int), 0 ≤ i → i + m = n →
    Ok RJ7 cJ7_fill_031fb 4 rmJ7_fill_031fb false none post T (5, [some (.inr (.inr (some a))), some (.inl v), some (.inl i), some (.inl n)], [], (N, P, filI I a v i, L), 0, 0)
  | 0, i, h0, hi => by
    refine Ok.seg mdJ7_fill_031fb [5] 20 ?_
    simp only [wp_nil, wp_cons, ↓stp, ↓lI, ↓lL, ↓lR, ↓lIn_0, ↓lIn_1, ↓lIn_2, ↓lIn_3, ↓lLn_0, ↓lLn_1, ↓lLn_2, ↓lLn_3, ↓lRn_0, ↓lRn_1, ↓lRn_2, ↓lRn_3, ↓pI, ↓pL, ↓pR, ↓pA, ↓pN, ↓pV, ↓fp, ↓tsw, ↓oS, ↓spMax, ↓spMin, ↓spAbs, ↓spObj, RI, RLg, b2i_lo, b2i_hi, getL, setL, ltL, killL, isLong, inl, cnd, br, tgt, rcv, rpl, mputI, mputL, mputP, fv, fr, mcat, mcs, entL, entA, rfit, nf_0, nf_1, nf_2, nf_3, nf2_0, nf2_1, b2i_0, b2i_1, RI_b2i, b2i_fit, List.append, List.length, List.replicate, List.cons_append, List.nil_append, List.length_cons, List.length_nil, List.replicate_succ, List.replicate_zero, List.tail_cons, reduceIte, if_true, if_false, ite_true, ite_false, Bool.false_eq_true, true_and, and_true, and_self, false_and, and_false, or_self, or_true, true_or, or_false, false_or, not_true_eq_false, not_false_eq_true, ne_eq, forall_const, implies_true, imp_self, true_implies, false_implies, Nat.reduceAdd, Nat.reduceSub, Nat.reduceMul, Nat.reduceDiv, Nat.reduceMod, Nat.reduceEqDiff, Nat.reduceLT, Nat.reduceLeDiff, Nat.reduceBEq, Nat.add_zero, Nat.zero_add, Nat.le_refl, Nat.not_lt_zero, Nat.succ_eq_add_one, Int.reduceNatCast, Int.cast_ofNat_Int, Int.reduceSub, Int.reduceMul, Int.reduceNeg, Int.reduceLE, Int.reduceLT, Int.reduceToNat, Int.reduceEq, Int.reduceNe, Int.reduceAdd, Option.some.injEq, kJ7_fill_031fb, rmJ7_fill_031fb, hG]
    repeat' (first | apply And.intro | intro _)
    all_goals try omega
    rw [show i = (n : Int) by omega]; exact h
  | m + 1, i, h0, hi => by
    have ih := lpJ7_fillb (post := post) (T := T) (P := P) (I := I) (L := L) (v := v) hG hn v0 v1 h m (i + 1) (by omega) (by omega)
    rw [← filI_s I a v i h0] at ih
    refine Ok.seg mdJ7_fill_031fb [5] 20 ?_
    simp only [wp_nil, wp_cons, ↓stp, ↓lI, ↓lL, ↓lR, ↓lIn_0, ↓lIn_1, ↓lIn_2, ↓lIn_3, ↓lLn_0, ↓lLn_1, ↓lLn_2, ↓lLn_3, ↓lRn_0, ↓lRn_1, ↓lRn_2, ↓lRn_3, ↓pI, ↓pL, ↓pR, ↓pA, ↓pN, ↓pV, ↓fp, ↓tsw, ↓oS, ↓spMax, ↓spMin, ↓spAbs, ↓spObj, RI, RLg, b2i_lo, b2i_hi, getL, setL, ltL, killL, isLong, inl, cnd, br, tgt, rcv, rpl, mputI, mputL, mputP, fv, fr, mcat, mcs, entL, entA, rfit, nf_0, nf_1, nf_2, nf_3, nf2_0, nf2_1, b2i_0, b2i_1, RI_b2i, b2i_fit, List.append, List.length, List.replicate, List.cons_append, List.nil_append, List.length_cons, List.length_nil, List.replicate_succ, List.replicate_zero, List.tail_cons, reduceIte, if_true, if_false, ite_true, ite_false, Bool.false_eq_true, true_and, and_true, and_self, false_and, and_false, or_self, or_true, true_or, or_false, false_or, not_true_eq_false, not_false_eq_true, ne_eq, forall_const, implies_true, imp_self, true_implies, false_implies, Nat.reduceAdd, Nat.reduceSub, Nat.reduceMul, Nat.reduceDiv, Nat.reduceMod, Nat.reduceEqDiff, Nat.reduceLT, Nat.reduceLeDiff, Nat.reduceBEq, Nat.add_zero, Nat.zero_add, Nat.le_refl, Nat.not_lt_zero, Nat.succ_eq_add_one, Int.reduceNatCast, Int.cast_ofNat_Int, Int.reduceSub, Int.reduceMul, Int.reduceNeg, Int.reduceLE, Int.reduceLT, Int.reduceToNat, Int.reduceEq, Int.reduceNe, Int.reduceAdd, Option.some.injEq, kJ7_fill_031fb, rmJ7_fill_031fb, hG]
    repeat' (first | apply And.intro | intro _)
    all_goals first | omega | exact ih
set_option maxRecDepth 100000 in
set_option maxHeartbeats 800000 in
theorem mJ7_fill_031fb : MOK yJ7_fill_031fb cJ7_fill_031fb 4 none rmJ7_fill_031fb ciJ7_fill_031fb := by
  refine mok_of (ini := false) (by decide +kernel) (by decide) rfl rfl ?_
  intro σ As K hrc hl h
  obtain ⟨N, P, I, L⟩ := σ
  have h9 := pR_iff.mp h
  clear h
  obtain ⟨a, r, e9, h⟩ := h9
  subst e9
  have h9 := pI_iff.mp h
  clear h
  obtain ⟨v, r, e9, h⟩ := h9
  subst e9
  have h9 := pN_iff.mp h
  clear h
  obtain ⟨e9, h⟩ := h9
  subst e9
  dsimp only at h
  obtain ⟨hg, v0, v1, h⟩ := h
  obtain ⟨n, hG⟩ : ∃ n, G a = (12, n) := ⟨(G a).2, by rw [← hg]⟩
  have hn := G_small a
  rw [hG] at h hn
  refine ⟨Nat.le_of_ble_eq_true rfl, Ok.seg mdJ7_fill_031fb [5] 20 ?_⟩
  simp only [wp_nil, wp_cons, ↓stp, ↓lI, ↓lL, ↓lR, ↓lIn_0, ↓lIn_1, ↓lIn_2, ↓lIn_3, ↓lLn_0, ↓lLn_1, ↓lLn_2, ↓lLn_3, ↓lRn_0, ↓lRn_1, ↓lRn_2, ↓lRn_3, ↓pI, ↓pL, ↓pR, ↓pA, ↓pN, ↓pV, ↓fp, ↓tsw, ↓oS, ↓spMax, ↓spMin, ↓spAbs, ↓spObj, RI, RLg, b2i_lo, b2i_hi, getL, setL, ltL, killL, isLong, inl, cnd, br, tgt, rcv, rpl, mputI, mputL, mputP, fv, fr, mcat, mcs, entL, entA, rfit, nf_0, nf_1, nf_2, nf_3, nf2_0, nf2_1, b2i_0, b2i_1, RI_b2i, b2i_fit, List.append, List.length, List.replicate, List.cons_append, List.nil_append, List.length_cons, List.length_nil, List.replicate_succ, List.replicate_zero, List.tail_cons, reduceIte, if_true, if_false, ite_true, ite_false, Bool.false_eq_true, true_and, and_true, and_self, false_and, and_false, or_self, or_true, true_or, or_false, false_or, not_true_eq_false, not_false_eq_true, ne_eq, forall_const, implies_true, imp_self, true_implies, false_implies, Nat.reduceAdd, Nat.reduceSub, Nat.reduceMul, Nat.reduceDiv, Nat.reduceMod, Nat.reduceEqDiff, Nat.reduceLT, Nat.reduceLeDiff, Nat.reduceBEq, Nat.add_zero, Nat.zero_add, Nat.le_refl, Nat.not_lt_zero, Nat.succ_eq_add_one, Int.reduceNatCast, Int.cast_ofNat_Int, Int.reduceSub, Int.reduceMul, Int.reduceNeg, Int.reduceLE, Int.reduceLT, Int.reduceToNat, Int.reduceEq, Int.reduceNe, Int.reduceAdd, Option.some.injEq, kJ7_fill_031fb, rmJ7_fill_031fb, hG]
  have := lpJ7_fillb (post := fun r σ' => rfit none r ∧ K r σ') (T := fun _ => False) (P := P) (I := I) (L := L) (v := v) hG hn v0 v1 ⟨trivial, h⟩ n 0 (by omega) (by omega)
  rw [filI_0] at this
  exact this
/-- b is the cell of a shelf -/
def shB (b : Int) : Prop := ∃ d, 0 ≤ d ∧ d < 8 ∧ b = 208 + 4 * d
theorem shB_rows {b : Int} (h : shB b) : G b = (2, 5) ∧ G (b + 1) = (3, 5) ∧ G (b + 2) = (10, 60) ∧ G (b + 3) = (12, 60) ∧ PF b 2 = some (b + 1) ∧ PF b 3 = some (b + 2) ∧ PF b 4 = some (b + 3) ∧ 0 < b := by
  obtain ⟨d, d0, d1, rfl⟩ := h
  have := G_sh0 d0 d1
  rw [Int.add_zero] at this
  exact ⟨this, G_sh1 d0 d1, G_sh2 d0 d1, G_sh3 d0 d1, PF_sh2 d0 d1, PF_sh3 d0 d1, PF_sh4 d0 d1, by omega⟩
def spX2_holdStation (As : List MV) (σ : MS) (K : Option MV → MS → Prop) : Prop := pR As fun b r => pR r fun s r => pN r (shB b ∧ σ.2.1 = PF ∧ 5 ≤ s ∧ s ≤ 34 ∧ ∀ I' : Int → Int → Int, (∀ c k, ¬ (c = b + 1 ∧ k ≠ 4) → ¬ (c = b ∧ k = 0) → I' c k = σ.2.2.1 c k) → (∀ k, 0 ≤ k → k ≤ 3 → I' (b + 1) k = σ.2.2.1 s k) → I' b 0 = 1 → K (some (.inl 0)) (σ.1, σ.2.1, I', σ.2.2.2))
def ciX2_holdStation : CI := (2, 2, 0, 0, spX2_holdStation)
def kX2_holdStation (pc : Nat) : List ME := match pc with
  | 0 => [(.aload_n 0, 1, []), (.getfield 18, 3, []), (.aload_n 1, 1, []), (.invokevirtual 30, 3, []), (.aload_n 0, 1, []), (.iconst 1, 1, []), (.putfield 9, 3, []), (.iconst 0, 1, []), (.ireturn, 1, [])]
  | _ => []
theorem qX2_holdStation : ∀ pc, chk cX2_holdStation pc (kX2_holdStation pc) = true := by
  intro pc
  unfold kX2_holdStation
  split <;> first | decide +kernel | exact chk_nil
abbrev rmX2_holdStation : Room := { frames := 1, cells := 0, slots := 0, locals := 21 }
def aX2_holdStation (x : Nat) : Option CI := match x with
  | 30 => some ciX3_take
  | _ => none
theorem aokX2_holdStation : ∀ x ci, aX2_holdStation x = some ci → CalOK RX2 rmX2_holdStation x ci := by
  intro x ci h
  unfold aX2_holdStation at h
  split at h
  · cases h; exact cal_V mX3_take (by decide) rfl (List.forall_mem_cons.mpr ⟨(ws_mem (List.mem_of_getElem? (i := 646) (by decide +kernel)) (by decide +kernel)), List.forall_mem_cons.mpr ⟨(ws_mem (List.mem_of_getElem? (i := 647) (by decide +kernel)) (by decide +kernel)), List.forall_mem_cons.mpr ⟨(ws_mem (List.mem_of_getElem? (i := 648) (by decide +kernel)) (by decide +kernel)), List.forall_mem_cons.mpr ⟨(ws_mem (List.mem_of_getElem? (i := 56) (by decide +kernel)) (by decide +kernel)), List.forall_mem_cons.mpr ⟨(ws_mem (List.mem_of_getElem? (i := 649) (by decide +kernel)) (by decide +kernel)), fun _ h => absurd h List.not_mem_nil⟩⟩⟩⟩⟩) rfl (by unfold nice; decide +kernel) (by unfold rfits; decide) ⟨rfl, rfl⟩
  · cases h
theorem ocX2_holdStation_30 (f : Nat → Nat → Nat → Nat → (List MV → MS → (Option MV → MS → Prop) → Prop) → Prop) : oC aX2_holdStation 30 f = f 2 3 0 0 spX3_take := propext Iff.rfl
theorem mdX2_holdStation : MD RX2 cX2_holdStation rmX2_holdStation kX2_holdStation fX2 aX2_holdStation zX2 uX2 := ⟨fokX2, zokX2, uokX2, aokX2_holdStation, qX2_holdStation⟩
set_option maxRecDepth 100000 in
set_option maxHeartbeats 800000 in
theorem mX2_holdStation : MOK yX2_holdStation cX2_holdStation 2 (some .int) rmX2_holdStation ciX2_holdStation := by
  refine mok_of (ini := false) (by decide +kernel) (by decide) rfl rfl ?_
  intro σ As K hrc hl h
  obtain ⟨N, P, I, L⟩ := σ
  have h9 := pR_iff.mp h
  clear h
  obtain ⟨b, r, e9, h⟩ := h9
  subst e9
  have h9 := pR_iff.mp h
  clear h
  obtain ⟨s, r, e9, h⟩ := h9
  subst e9
  have h9 := pN_iff.mp h
  clear h
  obtain ⟨e9, h⟩ := h9
  subst e9
  dsimp only at h
  obtain ⟨hb, rfl, s0, s1, h⟩ := h
  obtain ⟨g0, g1, g2, g3, p2, p3, p4, b0⟩ := shB_rows hb
  obtain ⟨d, d0, d1, rfl⟩ := hb
  have gs := G_st s0 s1
  refine ⟨Nat.le_of_ble_eq_true rfl, Ok.seg mdX2_holdStation [] 20 ?_⟩
  simp only [wp_nil, wp_cons, ↓stp, ↓lI, ↓lL, ↓lR, ↓lIn_0, ↓lIn_1, ↓lIn_2, ↓lIn_3, ↓lLn_0, ↓lLn_1, ↓lLn_2, ↓lLn_3, ↓lRn_0, ↓lRn_1, ↓lRn_2, ↓lRn_3, ↓pI, ↓pL, ↓pR, ↓pA, ↓pN, ↓pV, ↓fp, ↓tsw, ↓oS, ↓spMax, ↓spMin, ↓spAbs, ↓spObj, RI, RLg, b2i_lo, b2i_hi, getL, setL, ltL, killL, isLong, inl, cnd, br, tgt, rcv, rpl, mputI, mputL, mputP, fv, fr, mcat, mcs, entL, entA, rfit, nf_0, nf_1, nf_2, nf_3, nf2_0, nf2_1, b2i_0, b2i_1, RI_b2i, b2i_fit, List.append, List.length, List.replicate, List.cons_append, List.nil_append, List.length_cons, List.length_nil, List.replicate_succ, List.replicate_zero, List.tail_cons, reduceIte, if_true, if_false, ite_true, ite_false, Bool.false_eq_true, true_and, and_true, and_self, false_and, and_false, or_self, or_true, true_or, or_false, false_or, not_true_eq_false, not_false_eq_true, ne_eq, forall_const, implies_true, imp_self, true_implies, false_implies, Nat.reduceAdd, Nat.reduceSub, Nat.reduceMul, Nat.reduceDiv, Nat.reduceMod, Nat.reduceEqDiff, Nat.reduceLT, Nat.reduceLeDiff, Nat.reduceBEq, Nat.add_zero, Nat.zero_add, Nat.le_refl, Nat.not_lt_zero, Nat.succ_eq_add_one, Int.reduceNatCast, Int.cast_ofNat_Int, Int.reduceSub, Int.reduceMul, Int.reduceNeg, Int.reduceLE, Int.reduceLT, Int.reduceToNat, Int.reduceEq, Int.reduceNe, Int.reduceAdd, Option.some.injEq, kX2_holdStation, rmX2_holdStation, ↓ofX2_18, ↓ofX2_9, ↓ocX2_holdStation_30, ↓spX3_take, g0, g1, p2, gs, G_1, G_2, G_3, G_4, G_35, G_36, G_37, G_38, G_39, G_40, G_41, G_42, G_43, G_44, G_45, G_46, G_47, G_48, G_49, G_140, G_141, G_142, G_143, G_144, G_145, G_146, G_178, G_179, G_180, G_181, G_182, G_183, G_184, G_189, G_198, G_207, PF_1_0, PF_1_1, PF_1_2, PF_1_3, PF_2_0, PF_2_1, PF_2_3, PF_2_4, PF_2_5, PF_2_6, PF_2_7, PF_2_8, PF_2_9, PF_2_10, PF_2_11, PF_3_0, PF_35_0, PF_35_1, PF_35_2, PF_35_3, PF_40_0, PF_40_1, PF_40_2, PF_44_0, PF_44_1, PF_44_2, PF_145_0, PF_145_1, PF_179_0, PF_179_1, PF_179_2, PF_179_3, PF_179_8, PF_179_9, PF_179_10]
  refine ⟨by omega, by omega, h _ (fun c k c1 c2 => ?_) (fun k k0 k1 => ?_) upI_same⟩
  · exact (if_neg c2).trans ((if_neg (show ¬ (c = 208 + 4 * d + 1 ∧ k = 3) by omega)).trans ((if_neg (show ¬ (c = 208 + 4 * d + 1 ∧ k = 2) by omega)).trans ((if_neg (show ¬ (c = 208 + 4 * d + 1 ∧ k = 1) by omega)).trans (if_neg (show ¬ (c = 208 + 4 * d + 1 ∧ k = 0) by omega)))))
  · rw [upI_ne (by omega)]
    rcases (show k = 0 ∨ k = 1 ∨ k = 2 ∨ k = 3 by omega) with rfl | rfl | rfl | rfl
    · rw [upI_nj (by omega), upI_nj (by omega), upI_nj (by omega), upI_same]
    · rw [upI_nj (by omega), upI_nj (by omega), upI_same]
    · rw [upI_nj (by omega), upI_same]
    · rw [upI_same]
def frS2 (I J : Int → Int → Int) (b : Int) : Prop := ∀ c k, c ≠ b + 2 → c ≠ b + 3 → ¬ (c = b ∧ (k = 0 ∨ k = 1)) → J c k = I c k
def spX2_holdZeros (As : List MV) (σ : MS) (K : Option MV → MS → Prop) : Prop := pR As fun b r => pI r fun w r => pI r fun n r => pN r (shB b ∧ σ.2.1 = PF ∧ ∀ I' : Int → Int → Int, frS2 σ.2.2.1 I' b → (∀ k, 0 ≤ k → k < 60 → I' (b + 2) k = 0 ∧ I' (b + 3) k = 0) → I' b 0 = w → I' b 1 = n → K (some (.inl 0)) (σ.1, σ.2.1, I', σ.2.2.2))
def ciX2_holdZeros : CI := (3, 2, 0, 0, spX2_holdZeros)
def kX2_holdZeros (pc : Nat) : List ME := match pc with
  | 0 => [(.aload_n 0, 1, []), (.getfield 22, 3, []), (.iconst 0, 1, []), (.invokestatic 34, 3, []), (.aload_n 0, 1, []), (.getfield 26, 3, []), (.iconst 0, 1, []), (.invokestatic 40, 3, []), (.aload_n 0, 1, []), (.iload_n 1, 1, []), (.putfield 9, 3, []), (.aload_n 0, 1, []), (.iload_n 2, 1, []), (.putfield 43, 3, []), (.iconst 0, 1, []), (.ireturn, 1, [])]
  | _ => []
theorem qX2_holdZeros : ∀ pc, chk cX2_holdZeros pc (kX2_holdZeros pc) = true := by
  intro pc
  unfold kX2_holdZeros
  split <;> first | decide +kernel | exact chk_nil
abbrev rmX2_holdZeros : Room := { frames := 1, cells := 0, slots := 0, locals := 23 }
def aX2_holdZeros (x : Nat) : Option CI := match x with
  | 34 => some ciJ7_fill_53178
  | 40 => some ciJ7_fill_031fb
  | _ => none
theorem aokX2_holdZeros : ∀ x ci, aX2_holdZeros x = some ci → CalOK RX2 rmX2_holdZeros x ci := by
  intro x ci h
  unfold aX2_holdZeros at h
  split at h
  · cases h; exact cal_S mJ7_fill_53178 rfl (List.forall_mem_cons.mpr ⟨(ws_mem (List.mem_of_getElem? (i := 662) (by decide +kernel)) (by decide +kernel)), List.forall_mem_cons.mpr ⟨(ws_mem (List.mem_of_getElem? (i := 208) (by decide +kernel)) (by decide +kernel)), List.forall_mem_cons.mpr ⟨(ws_mem (List.mem_of_getElem? (i := 60) (by decide +kernel)) (by decide +kernel)), List.forall_mem_cons.mpr ⟨(ws_mem (List.mem_of_getElem? (i := 209) (by decide +kernel)) (by decide +kernel)), fun _ h => absurd h List.not_mem_nil⟩⟩⟩⟩) rfl (by unfold nice; decide +kernel) (by unfold rfits; decide) ⟨rfl, rfl⟩
  · cases h; exact cal_S mJ7_fill_031fb rfl (List.forall_mem_cons.mpr ⟨(ws_mem (List.mem_of_getElem? (i := 663) (by decide +kernel)) (by decide +kernel)), List.forall_mem_cons.mpr ⟨(ws_mem (List.mem_of_getElem? (i := 664) (by decide +kernel)) (by decide +kernel)), List.forall_mem_cons.mpr ⟨(ws_mem (List.mem_of_getElem? (i := 60) (by decide +kernel)) (by decide +kernel)), List.forall_mem_cons.mpr ⟨(ws_mem (List.mem_of_getElem? (i := 665) (by decide +kernel)) (by decide +kernel)), fun _ h => absurd h List.not_mem_nil⟩⟩⟩⟩) rfl (by unfold nice; decide +kernel) (by unfold rfits; decide) ⟨rfl, rfl⟩
  · cases h
theorem ocX2_holdZeros_34 (f : Nat → Nat → Nat → Nat → (List MV → MS → (Option MV → MS → Prop) → Prop) → Prop) : oC aX2_holdZeros 34 f = f 2 10 0 0 spJ7_fill_53178 := propext Iff.rfl
theorem ocX2_holdZeros_40 (f : Nat → Nat → Nat → Nat → (List MV → MS → (Option MV → MS → Prop) → Prop) → Prop) : oC aX2_holdZeros 40 f = f 2 10 0 0 spJ7_fill_031fb := propext Iff.rfl
theorem mdX2_holdZeros : MD RX2 cX2_holdZeros rmX2_holdZeros kX2_holdZeros fX2 aX2_holdZeros zX2 uX2 := ⟨fokX2, zokX2, uokX2, aokX2_holdZeros, qX2_holdZeros⟩
set_option maxRecDepth 100000 in
set_option maxHeartbeats 800000 in
theorem mX2_holdZeros : MOK yX2_holdZeros cX2_holdZeros 3 (some .int) rmX2_holdZeros ciX2_holdZeros := by
  refine mok_of (ini := false) (by decide +kernel) (by decide) rfl rfl ?_
  intro σ As K hrc hl h
  obtain ⟨N, P, I, L⟩ := σ
  have h9 := pR_iff.mp h
  clear h
  obtain ⟨b, r, e9, h⟩ := h9
  subst e9
  have h9 := pI_iff.mp h
  clear h
  obtain ⟨w, r, e9, h⟩ := h9
  subst e9
  have h9 := pI_iff.mp h
  clear h
  obtain ⟨n, r, e9, h⟩ := h9
  subst e9
  have h9 := pN_iff.mp h
  clear h
  obtain ⟨e9, h⟩ := h9
  subst e9
  dsimp only at h
  obtain ⟨hb, rfl, h⟩ := h
  obtain ⟨g0, g1, g2, g3, p2, p3, p4, b0⟩ := shB_rows hb
  refine ⟨Nat.le_of_ble_eq_true rfl, Ok.seg mdX2_holdZeros [] 30 ?_⟩
  simp only [wp_nil, wp_cons, ↓stp, ↓lI, ↓lL, ↓lR, ↓lIn_0, ↓lIn_1, ↓lIn_2, ↓lIn_3, ↓lLn_0, ↓lLn_1, ↓lLn_2, ↓lLn_3, ↓lRn_0, ↓lRn_1, ↓lRn_2, ↓lRn_3, ↓pI, ↓pL, ↓pR, ↓pA, ↓pN, ↓pV, ↓fp, ↓tsw, ↓oS, ↓spMax, ↓spMin, ↓spAbs, ↓spObj, RI, RLg, b2i_lo, b2i_hi, getL, setL, ltL, killL, isLong, inl, cnd, br, tgt, rcv, rpl, mputI, mputL, mputP, fv, fr, mcat, mcs, entL, entA, rfit, nf_0, nf_1, nf_2, nf_3, nf2_0, nf2_1, b2i_0, b2i_1, RI_b2i, b2i_fit, List.append, List.length, List.replicate, List.cons_append, List.nil_append, List.length_cons, List.length_nil, List.replicate_succ, List.replicate_zero, List.tail_cons, reduceIte, if_true, if_false, ite_true, ite_false, Bool.false_eq_true, true_and, and_true, and_self, false_and, and_false, or_self, or_true, true_or, or_false, false_or, not_true_eq_false, not_false_eq_true, ne_eq, forall_const, implies_true, imp_self, true_implies, false_implies, Nat.reduceAdd, Nat.reduceSub, Nat.reduceMul, Nat.reduceDiv, Nat.reduceMod, Nat.reduceEqDiff, Nat.reduceLT, Nat.reduceLeDiff, Nat.reduceBEq, Nat.add_zero, Nat.zero_add, Nat.le_refl, Nat.not_lt_zero, Nat.succ_eq_add_one, Int.reduceNatCast, Int.cast_ofNat_Int, Int.reduceSub, Int.reduceMul, Int.reduceNeg, Int.reduceLE, Int.reduceLT, Int.reduceToNat, Int.reduceEq, Int.reduceNe, Int.reduceAdd, Option.some.injEq, kX2_holdZeros, rmX2_holdZeros, ↓ofX2_22, ↓ofX2_26, ↓ofX2_43, ↓ofX2_9, ↓ocX2_holdZeros_34, ↓spJ7_fill_53178, ↓ocX2_holdZeros_40, ↓spJ7_fill_031fb, g0, g1, g2, g3, p2, p3, p4, G_1, G_2, G_3, G_4, G_35, G_36, G_37, G_38, G_39, G_40, G_41, G_42, G_43, G_44, G_45, G_46, G_47, G_48, G_49, G_140, G_141, G_142, G_143, G_144, G_145, G_146, G_178, G_179, G_180, G_181, G_182, G_183, G_184, G_189, G_198, G_207, PF_1_0, PF_1_1, PF_1_2, PF_1_3, PF_2_0, PF_2_1, PF_2_3, PF_2_4, PF_2_5, PF_2_6, PF_2_7, PF_2_8, PF_2_9, PF_2_10, PF_2_11, PF_3_0, PF_35_0, PF_35_1, PF_35_2, PF_35_3, PF_40_0, PF_40_1, PF_40_2, PF_44_0, PF_44_1, PF_44_2, PF_145_0, PF_145_1, PF_179_0, PF_179_1, PF_179_2, PF_179_3, PF_179_8, PF_179_9, PF_179_10]
  refine h _ (fun c k c1 c2 c3 => ?_) (fun k k0 k1 => ?_) ?_ upI_same
  · rw [show upI (upI (filI (filI I (b + 2) 0 60) (b + 3) 0 60) b 0 w) b 1 n c k = upI (filI (filI I (b + 2) 0 60) (b + 3) 0 60) b 0 w c k from if_neg (fun z => c3 ⟨z.1, .inr z.2⟩), show upI (filI (filI I (b + 2) 0 60) (b + 3) 0 60) b 0 w c k = filI (filI I (b + 2) 0 60) (b + 3) 0 60 c k from if_neg (fun z => c3 ⟨z.1, .inl z.2⟩)]
    exact (if_neg (fun z => c2 z.1)).trans (if_neg (fun z => c1 z.1))
  · rw [upI_ne (by omega), upI_ne (by omega), upI_ne (by omega), upI_ne (by omega)]
    exact ⟨(if_neg (fun z => by omega)).trans (if_pos ⟨rfl, k0, k1⟩), if_pos ⟨rfl, k0, k1⟩⟩
  · rw [upI_nj (by omega)]; exact upI_same
def spX2_holdPaces (As : List MV) (σ : MS) (K : Option MV → MS → Prop) : Prop := pR As fun b r => pI r fun w r => pR r fun a r => pI r fun n r => pN r (shB b ∧ σ.2.1 = PF ∧ G a = (10, 30) ∧ a < 200 ∧ 0 ≤ n ∧ n ≤ 30 ∧ (∀ i, 0 ≤ i → i < n → 1 ≤ σ.2.2.1 a i ∧ σ.2.2.1 a i ≤ 60) ∧
  ∀ I' : Int → Int → Int, frS2 σ.2.2.1 I' b → (∀ k, 0 ≤ k → k < n → I' (b + 2) k = σ.2.2.1 a k ∧ I' (b + 3) k = σ.2.2.1 a k) → (∀ k, n ≤ k → I' (b + 3) k = σ.2.2.1 (b + 3) k) → I' b 0 = w → I' b 1 = n → K (some (.inl 0)) (σ.1, σ.2.1, I', σ.2.2.2))
def ciX2_holdPaces : CI := (4, 2, 0, 0, spX2_holdPaces)
def kX2_holdPaces (pc : Nat) : List ME := match pc with
  | 0 => [(.iconst 0, 1, []), (.istore 4, 2, [])]
  | 3 => [(.iload 4, 2, []), (.iload_n 3, 1, []), (.if_icmp .ge 46, 3, [52]), (.iload 4, 2, []), (.aload_n 2, 1, []), (.arraylength, 1, []), (.if_icmp .ge 39, 3, [52]), (.iload 4, 2, []), (.bipush 60, 2, []), (.if_icmp .ge 32, 3, [52]), (.aload_n 0, 1, []), (.getfield 22, 3, []), (.iload 4, 2, []), (.aload_n 2, 1, []), (.iload 4, 2, []), (.iaload, 1, []), (.iastore, 1, []), (.aload_n 0, 1, []), (.getfield 26, 3, []), (.iload 4, 2, []), (.aload_n 2, 1, []), (.iload 4, 2, []), (.iaload, 1, []), (.i2b, 1, []), (.bastore, 1, []), (.iinc 4 1, 3, []), (.goto (-46), 3, [3])]
  | 52 => [(.aload_n 0, 1, []), (.iload_n 1, 1, []), (.putfield 9, 3, []), (.aload_n 0, 1, []), (.iload_n 3, 1, []), (.putfield 43, 3, []), (.iconst 0, 1, []), (.ireturn, 1, [])]
  | _ => []
theorem qX2_holdPaces : ∀ pc, chk cX2_holdPaces pc (kX2_holdPaces pc) = true := by
  intro pc
  unfold kX2_holdPaces
  split <;> first | decide +kernel | exact chk_nil
abbrev rmX2_holdPaces : Room := { frames := 0, cells := 0, slots := 0, locals := 0 }
def aX2_holdPaces (_ : Nat) : Option CI := none
theorem aokX2_holdPaces : ∀ x ci, aX2_holdPaces x = some ci → CalOK RX2 rmX2_holdPaces x ci := fun _ _ h => by cases h
theorem mdX2_holdPaces : MD RX2 cX2_holdPaces rmX2_holdPaces kX2_holdPaces fX2 aX2_holdPaces zX2 uX2 := ⟨fokX2, zokX2, uokX2, aokX2_holdPaces, qX2_holdPaces⟩
set_option maxHeartbeats 1600000 in
set_option maxRecDepth 100000 in
theorem lpX2_p1 {post : Option MV → MS → Prop} {U : Pt → Prop} {N : Nat} {I L : Int → Int → Int} {a b n w : Int} (hb : shB b) (ha : G a = (10, 30)) (a1 : a < 200) (n1 : n ≤ 30) (hr : ∀ i, 0 ≤ i → i < n → 1 ≤ I a i ∧ I a i ≤ 60)
    (h : ∀ (I1 : Int → Int → Int) (t4 : Option MV), (∀ c k, c ≠ b + 2 → c ≠ b + 3 → I1 c k = I c k) → (∀ k, 0 ≤ k → k < n → I1 (b + 2) k = I a k ∧ I1 (b + 3) k = I a k) → (∀ k, n ≤ k → I1 (b + 3) k = I (b + 3) k) → Ok RX2 cX2_holdPaces 5 rmX2_holdPaces false none post U (52, [some (.inr (.inr (some b))), some (.inl w), some (.inr (.inr (some a))), some (.inl n), t4], [], (N, PF, I1, L), 0, 0)) :
    ∀ (m : Nat) (i : Int) (I1 : Int → Int → Int), i + m = n → 0 ≤ i → (∀ c k, c ≠ b + 2 → c ≠ b + 3 → I1 c k = I c k) → (∀ k, 0 ≤ k → k < i → I1 (b + 2) k = I a k ∧ I1 (b + 3) k = I a k) → (∀ k, i ≤ k → I1 (b + 3) k = I (b + 3) k) →
    Ok RX2 cX2_holdPaces 5 rmX2_holdPaces false none post U (3, [some (.inr (.inr (some b))), some (.inl w), some (.inr (.inr (some a))), some (.inl n), some (.inl i)], [], (N, PF, I1, L), 0, 0)
  | 0, i, I1, hi, i0, h1, h2, h3 => by
    refine Ok.seg mdX2_holdPaces [3, 52] 10 ?_
    simp only [wp_nil, wp_cons, ↓stp, ↓lI, ↓lL, ↓lR, ↓lIn_0, ↓lIn_1, ↓lIn_2, ↓lIn_3, ↓lLn_0, ↓lLn_1, ↓lLn_2, ↓lLn_3, ↓lRn_0, ↓lRn_1, ↓lRn_2, ↓lRn_3, ↓pI, ↓pL, ↓pR, ↓pA, ↓pN, ↓pV, ↓fp, ↓tsw, ↓oS, ↓spMax, ↓spMin, ↓spAbs, ↓spObj, RI, RLg, b2i_lo, b2i_hi, getL, setL, ltL, killL, isLong, inl, cnd, br, tgt, rcv, rpl, mputI, mputL, mputP, fv, fr, mcat, mcs, entL, entA, rfit, nf_0, nf_1, nf_2, nf_3, nf2_0, nf2_1, b2i_0, b2i_1, RI_b2i, b2i_fit, List.append, List.length, List.replicate, List.cons_append, List.nil_append, List.length_cons, List.length_nil, List.replicate_succ, List.replicate_zero, List.tail_cons, reduceIte, if_true, if_false, ite_true, ite_false, Bool.false_eq_true, true_and, and_true, and_self, false_and, and_false, or_self, or_true, true_or, or_false, false_or, not_true_eq_false, not_false_eq_true, ne_eq, forall_const, implies_true, imp_self, true_implies, false_implies, Nat.reduceAdd, Nat.reduceSub, Nat.reduceMul, Nat.reduceDiv, Nat.reduceMod, Nat.reduceEqDiff, Nat.reduceLT, Nat.reduceLeDiff, Nat.reduceBEq, Nat.add_zero, Nat.zero_add, Nat.le_refl, Nat.not_lt_zero, Nat.succ_eq_add_one, Int.reduceNatCast, Int.cast_ofNat_Int, Int.reduceSub, Int.reduceMul, Int.reduceNeg, Int.reduceLE, Int.reduceLT, Int.reduceToNat, Int.reduceEq, Int.reduceNe, Int.reduceAdd, Option.some.injEq, kX2_holdPaces, rmX2_holdPaces, ↓ofX2_22, ↓ofX2_26, ↓ofX2_43, ↓ofX2_9, G_1, G_2, G_3, G_4, G_35, G_36, G_37, G_38, G_39, G_40, G_41, G_42, G_43, G_44, G_45, G_46, G_47, G_48, G_49, G_140, G_141, G_142, G_143, G_144, G_145, G_146, G_178, G_179, G_180, G_181, G_182, G_183, G_184, G_189, G_198, G_207, PF_1_0, PF_1_1, PF_1_2, PF_1_3, PF_2_0, PF_2_1, PF_2_3, PF_2_4, PF_2_5, PF_2_6, PF_2_7, PF_2_8, PF_2_9, PF_2_10, PF_2_11, PF_3_0, PF_35_0, PF_35_1, PF_35_2, PF_35_3, PF_40_0, PF_40_1, PF_40_2, PF_44_0, PF_44_1, PF_44_2, PF_145_0, PF_145_1, PF_179_0, PF_179_1, PF_179_2, PF_179_3, PF_179_8, PF_179_9, PF_179_10]
    exact ⟨by omega, by omega, fun q => h I1 _ h1 (fun k a b => h2 k a (by omega)) (fun k a => h3 k (by omega)), fun q => by omega⟩
  | m + 1, i, I1, hi, i0, h1, h2, h3 => by
    have ih := lpX2_p1 (U := U) (post := post) (w := w) (N := N) (L := L) hb ha a1 n1 hr h m (i + 1)
    obtain ⟨g0, g1, g2, g3, p2, p3, p4, b0⟩ := shB_rows hb
    obtain ⟨d, d0, d1, rfl⟩ := hb
    have ea : I1 a i = I a i := h1 a i (by omega) (by omega)
    have ea2 : upI I1 (208 + 4 * d + 2) i (I a i) a i = I a i := by rw [upI_ne (by omega)]; exact ea
    have hri := hr i i0 (by omega)
    refine Ok.seg mdX2_holdPaces [3, 52] 40 ?_
    simp only [wp_nil, wp_cons, ↓stp, ↓lI, ↓lL, ↓lR, ↓lIn_0, ↓lIn_1, ↓lIn_2, ↓lIn_3, ↓lLn_0, ↓lLn_1, ↓lLn_2, ↓lLn_3, ↓lRn_0, ↓lRn_1, ↓lRn_2, ↓lRn_3, ↓pI, ↓pL, ↓pR, ↓pA, ↓pN, ↓pV, ↓fp, ↓tsw, ↓oS, ↓spMax, ↓spMin, ↓spAbs, ↓spObj, RI, RLg, b2i_lo, b2i_hi, getL, setL, ltL, killL, isLong, inl, cnd, br, tgt, rcv, rpl, mputI, mputL, mputP, fv, fr, mcat, mcs, entL, entA, rfit, nf_0, nf_1, nf_2, nf_3, nf2_0, nf2_1, b2i_0, b2i_1, RI_b2i, b2i_fit, List.append, List.length, List.replicate, List.cons_append, List.nil_append, List.length_cons, List.length_nil, List.replicate_succ, List.replicate_zero, List.tail_cons, reduceIte, if_true, if_false, ite_true, ite_false, Bool.false_eq_true, true_and, and_true, and_self, false_and, and_false, or_self, or_true, true_or, or_false, false_or, not_true_eq_false, not_false_eq_true, ne_eq, forall_const, implies_true, imp_self, true_implies, false_implies, Nat.reduceAdd, Nat.reduceSub, Nat.reduceMul, Nat.reduceDiv, Nat.reduceMod, Nat.reduceEqDiff, Nat.reduceLT, Nat.reduceLeDiff, Nat.reduceBEq, Nat.add_zero, Nat.zero_add, Nat.le_refl, Nat.not_lt_zero, Nat.succ_eq_add_one, Int.reduceNatCast, Int.cast_ofNat_Int, Int.reduceSub, Int.reduceMul, Int.reduceNeg, Int.reduceLE, Int.reduceLT, Int.reduceToNat, Int.reduceEq, Int.reduceNe, Int.reduceAdd, Option.some.injEq, kX2_holdPaces, rmX2_holdPaces, ↓ofX2_22, ↓ofX2_26, ↓ofX2_43, ↓ofX2_9, g0, g1, g2, g3, p2, p3, p4, ha, ea, ea2, G_1, G_2, G_3, G_4, G_35, G_36, G_37, G_38, G_39, G_40, G_41, G_42, G_43, G_44, G_45, G_46, G_47, G_48, G_49, G_140, G_141, G_142, G_143, G_144, G_145, G_146, G_178, G_179, G_180, G_181, G_182, G_183, G_184, G_189, G_198, G_207, PF_1_0, PF_1_1, PF_1_2, PF_1_3, PF_2_0, PF_2_1, PF_2_3, PF_2_4, PF_2_5, PF_2_6, PF_2_7, PF_2_8, PF_2_9, PF_2_10, PF_2_11, PF_3_0, PF_35_0, PF_35_1, PF_35_2, PF_35_3, PF_40_0, PF_40_1, PF_40_2, PF_44_0, PF_44_1, PF_44_2, PF_145_0, PF_145_1, PF_179_0, PF_179_1, PF_179_2, PF_179_3, PF_179_8, PF_179_9, PF_179_10]
    refine ⟨by omega, by omega, fun q => by omega, fun q => ?_⟩
    have fin := ih (upI (upI I1 (208 + 4 * d + 2) i (I a i)) (208 + 4 * d + 3) i (I a i)) (by omega) (by omega) (fun c k c1 c2 => by rw [upI_ne c2, upI_ne c1]; exact h1 c k c1 c2) (fun k k0 k1 => ?_) (fun k k0 => by rw [upI_nj (by omega), upI_ne (by omega)]; exact h3 k (by omega))
    · repeat' (first | apply And.intro | intro _)
      all_goals first | omega | exact fin
    · rw [upI_ne (show 208 + 4 * d + 2 ≠ 208 + 4 * d + 3 by omega)]
      by_cases e : k = i
      · rw [e, upI_same, upI_same]; exact ⟨rfl, rfl⟩
      · rw [upI_nj e, upI_nj e, upI_ne (show 208 + 4 * d + 3 ≠ 208 + 4 * d + 2 by omega)]; exact h2 k k0 (by omega)
set_option maxRecDepth 100000 in
set_option maxHeartbeats 800000 in
theorem mX2_holdPaces : MOK yX2_holdPaces cX2_holdPaces 5 (some .int) rmX2_holdPaces ciX2_holdPaces := by
  refine mok_of (ini := false) (by decide +kernel) (by decide) rfl rfl ?_
  intro σ As K hrc hl h
  obtain ⟨N, P, I, L⟩ := σ
  have h9 := pR_iff.mp h
  clear h
  obtain ⟨b, r, e9, h⟩ := h9
  subst e9
  have h9 := pI_iff.mp h
  clear h
  obtain ⟨w, r, e9, h⟩ := h9
  subst e9
  have h9 := pR_iff.mp h
  clear h
  obtain ⟨a, r, e9, h⟩ := h9
  subst e9
  have h9 := pI_iff.mp h
  clear h
  obtain ⟨n, r, e9, h⟩ := h9
  subst e9
  have h9 := pN_iff.mp h
  clear h
  obtain ⟨e9, h⟩ := h9
  subst e9
  dsimp only at h
  obtain ⟨hb, rfl, ha, a1, n0, n1, hr, h⟩ := h
  have hb' := hb
  obtain ⟨g0, g1, g2, g3, p2, p3, p4, b0⟩ := shB_rows hb
  refine ⟨Nat.le_of_ble_eq_true rfl, Ok.seg mdX2_holdPaces [3, 52] 6 ?_⟩
  simp only [wp_nil, wp_cons, ↓stp, ↓lI, ↓lL, ↓lR, ↓lIn_0, ↓lIn_1, ↓lIn_2, ↓lIn_3, ↓lLn_0, ↓lLn_1, ↓lLn_2, ↓lLn_3, ↓lRn_0, ↓lRn_1, ↓lRn_2, ↓lRn_3, ↓pI, ↓pL, ↓pR, ↓pA, ↓pN, ↓pV, ↓fp, ↓tsw, ↓oS, ↓spMax, ↓spMin, ↓spAbs, ↓spObj, RI, RLg, b2i_lo, b2i_hi, getL, setL, ltL, killL, isLong, inl, cnd, br, tgt, rcv, rpl, mputI, mputL, mputP, fv, fr, mcat, mcs, entL, entA, rfit, nf_0, nf_1, nf_2, nf_3, nf2_0, nf2_1, b2i_0, b2i_1, RI_b2i, b2i_fit, List.append, List.length, List.replicate, List.cons_append, List.nil_append, List.length_cons, List.length_nil, List.replicate_succ, List.replicate_zero, List.tail_cons, reduceIte, if_true, if_false, ite_true, ite_false, Bool.false_eq_true, true_and, and_true, and_self, false_and, and_false, or_self, or_true, true_or, or_false, false_or, not_true_eq_false, not_false_eq_true, ne_eq, forall_const, implies_true, imp_self, true_implies, false_implies, Nat.reduceAdd, Nat.reduceSub, Nat.reduceMul, Nat.reduceDiv, Nat.reduceMod, Nat.reduceEqDiff, Nat.reduceLT, Nat.reduceLeDiff, Nat.reduceBEq, Nat.add_zero, Nat.zero_add, Nat.le_refl, Nat.not_lt_zero, Nat.succ_eq_add_one, Int.reduceNatCast, Int.cast_ofNat_Int, Int.reduceSub, Int.reduceMul, Int.reduceNeg, Int.reduceLE, Int.reduceLT, Int.reduceToNat, Int.reduceEq, Int.reduceNe, Int.reduceAdd, Option.some.injEq, kX2_holdPaces, rmX2_holdPaces, ↓ofX2_22, ↓ofX2_26, ↓ofX2_43, ↓ofX2_9, G_1, G_2, G_3, G_4, G_35, G_36, G_37, G_38, G_39, G_40, G_41, G_42, G_43, G_44, G_45, G_46, G_47, G_48, G_49, G_140, G_141, G_142, G_143, G_144, G_145, G_146, G_178, G_179, G_180, G_181, G_182, G_183, G_184, G_189, G_198, G_207, PF_1_0, PF_1_1, PF_1_2, PF_1_3, PF_2_0, PF_2_1, PF_2_3, PF_2_4, PF_2_5, PF_2_6, PF_2_7, PF_2_8, PF_2_9, PF_2_10, PF_2_11, PF_3_0, PF_35_0, PF_35_1, PF_35_2, PF_35_3, PF_40_0, PF_40_1, PF_40_2, PF_44_0, PF_44_1, PF_44_2, PF_145_0, PF_145_1, PF_179_0, PF_179_1, PF_179_2, PF_179_3, PF_179_8, PF_179_9, PF_179_10]
  refine lpX2_p1 hb' ha a1 n1 hr (fun I1 t4 k1 k2 k3 => ?_) n.toNat 0 I (by omega) (by omega) (fun _ _ _ _ => rfl) (fun k a b => by omega) (fun _ _ => rfl)
  refine Ok.seg mdX2_holdPaces [3] 20 ?_
  simp only [wp_nil, wp_cons, ↓stp, ↓lI, ↓lL, ↓lR, ↓lIn_0, ↓lIn_1, ↓lIn_2, ↓lIn_3, ↓lLn_0, ↓lLn_1, ↓lLn_2, ↓lLn_3, ↓lRn_0, ↓lRn_1, ↓lRn_2, ↓lRn_3, ↓pI, ↓pL, ↓pR, ↓pA, ↓pN, ↓pV, ↓fp, ↓tsw, ↓oS, ↓spMax, ↓spMin, ↓spAbs, ↓spObj, RI, RLg, b2i_lo, b2i_hi, getL, setL, ltL, killL, isLong, inl, cnd, br, tgt, rcv, rpl, mputI, mputL, mputP, fv, fr, mcat, mcs, entL, entA, rfit, nf_0, nf_1, nf_2, nf_3, nf2_0, nf2_1, b2i_0, b2i_1, RI_b2i, b2i_fit, List.append, List.length, List.replicate, List.cons_append, List.nil_append, List.length_cons, List.length_nil, List.replicate_succ, List.replicate_zero, List.tail_cons, reduceIte, if_true, if_false, ite_true, ite_false, Bool.false_eq_true, true_and, and_true, and_self, false_and, and_false, or_self, or_true, true_or, or_false, false_or, not_true_eq_false, not_false_eq_true, ne_eq, forall_const, implies_true, imp_self, true_implies, false_implies, Nat.reduceAdd, Nat.reduceSub, Nat.reduceMul, Nat.reduceDiv, Nat.reduceMod, Nat.reduceEqDiff, Nat.reduceLT, Nat.reduceLeDiff, Nat.reduceBEq, Nat.add_zero, Nat.zero_add, Nat.le_refl, Nat.not_lt_zero, Nat.succ_eq_add_one, Int.reduceNatCast, Int.cast_ofNat_Int, Int.reduceSub, Int.reduceMul, Int.reduceNeg, Int.reduceLE, Int.reduceLT, Int.reduceToNat, Int.reduceEq, Int.reduceNe, Int.reduceAdd, Option.some.injEq, kX2_holdPaces, rmX2_holdPaces, ↓ofX2_22, ↓ofX2_26, ↓ofX2_43, ↓ofX2_9, g0, G_1, G_2, G_3, G_4, G_35, G_36, G_37, G_38, G_39, G_40, G_41, G_42, G_43, G_44, G_45, G_46, G_47, G_48, G_49, G_140, G_141, G_142, G_143, G_144, G_145, G_146, G_178, G_179, G_180, G_181, G_182, G_183, G_184, G_189, G_198, G_207, PF_1_0, PF_1_1, PF_1_2, PF_1_3, PF_2_0, PF_2_1, PF_2_3, PF_2_4, PF_2_5, PF_2_6, PF_2_7, PF_2_8, PF_2_9, PF_2_10, PF_2_11, PF_3_0, PF_35_0, PF_35_1, PF_35_2, PF_35_3, PF_40_0, PF_40_1, PF_40_2, PF_44_0, PF_44_1, PF_44_2, PF_145_0, PF_145_1, PF_179_0, PF_179_1, PF_179_2, PF_179_3, PF_179_8, PF_179_9, PF_179_10]
  refine h _ (fun c k c1 c2 c3 => ?_) (fun k k0 k1 => ?_) (fun k k0 => ?_) ?_ upI_same
  · rw [show upI (upI I1 b 0 w) b 1 n c k = upI I1 b 0 w c k from if_neg (fun z => c3 ⟨z.1, .inr z.2⟩), show upI I1 b 0 w c k = I1 c k from if_neg (fun z => c3 ⟨z.1, .inl z.2⟩)]
    exact k1 c k c1 c2
  · rw [upI_ne (by omega), upI_ne (by omega), upI_ne (by omega), upI_ne (by omega)]; exact k2 k k0 k1
  · rw [upI_ne (by omega), upI_ne (by omega)]; exact k3 k k0
  · rw [upI_nj (by omega)]; exact upI_same
def spX2_holdsRow (As : List MV) (σ : MS) (K : Option MV → MS → Prop) : Prop := pR As fun b r => pN r (shB b ∧ 0 ≤ σ.2.2.1 b 0 ∧ σ.2.2.1 b 0 ≤ 4 ∧ K (some (.inl (b2i (3 ≤ σ.2.2.1 b 0)))) σ)
def ciX2_holdsRow : CI := (1, 2, 0, 0, spX2_holdsRow)
def kX2_holdsRow (pc : Nat) : List ME := match pc with
  | 0 => [(.aload_n 0, 1, []), (.getfield 9, 3, []), (.iconst 3, 1, []), (.if_icmp .eq 11, 3, [16]), (.aload_n 0, 1, []), (.getfield 9, 3, []), (.iconst 4, 1, []), (.if_icmp .ne 7, 3, [20])]
  | 16 => [(.iconst 1, 1, []), (.goto 4, 3, [21])]
  | 20 => [(.iconst 0, 1, [])]
  | 21 => [(.ireturn, 1, [])]
  | _ => []
theorem qX2_holdsRow : ∀ pc, chk cX2_holdsRow pc (kX2_holdsRow pc) = true := by
  intro pc
  unfold kX2_holdsRow
  split <;> first | decide +kernel | exact chk_nil
abbrev rmX2_holdsRow : Room := { frames := 0, cells := 0, slots := 0, locals := 0 }
def aX2_holdsRow (_ : Nat) : Option CI := none
theorem aokX2_holdsRow : ∀ x ci, aX2_holdsRow x = some ci → CalOK RX2 rmX2_holdsRow x ci := fun _ _ h => by cases h
theorem mdX2_holdsRow : MD RX2 cX2_holdsRow rmX2_holdsRow kX2_holdsRow fX2 aX2_holdsRow zX2 uX2 := ⟨fokX2, zokX2, uokX2, aokX2_holdsRow, qX2_holdsRow⟩
set_option maxRecDepth 100000 in
set_option maxHeartbeats 800000 in
theorem mX2_holdsRow : MOK yX2_holdsRow cX2_holdsRow 1 (some .boolean) rmX2_holdsRow ciX2_holdsRow := by
  refine mok_of (ini := false) (by decide +kernel) (by decide) rfl rfl ?_
  intro σ As K hrc hl h
  obtain ⟨N, P, I, L⟩ := σ
  have h9 := pR_iff.mp h
  clear h
  obtain ⟨b, r, e9, h⟩ := h9
  subst e9
  have h9 := pN_iff.mp h
  clear h
  obtain ⟨e9, h⟩ := h9
  subst e9
  dsimp only at h
  obtain ⟨hb, h0, h1, h⟩ := h
  obtain ⟨g0, g1, g2, g3, p2, p3, p4, b0⟩ := shB_rows hb
  have hs := b2i_split (F := fun x => K (some (.inl x)) (N, P, I, L)) h
  refine ⟨Nat.le_of_ble_eq_true rfl, Ok.seg mdX2_holdsRow [] 20 ?_⟩
  simp only [wp_nil, wp_cons, ↓stp, ↓lI, ↓lL, ↓lR, ↓lIn_0, ↓lIn_1, ↓lIn_2, ↓lIn_3, ↓lLn_0, ↓lLn_1, ↓lLn_2, ↓lLn_3, ↓lRn_0, ↓lRn_1, ↓lRn_2, ↓lRn_3, ↓pI, ↓pL, ↓pR, ↓pA, ↓pN, ↓pV, ↓fp, ↓tsw, ↓oS, ↓spMax, ↓spMin, ↓spAbs, ↓spObj, RI, RLg, b2i_lo, b2i_hi, getL, setL, ltL, killL, isLong, inl, cnd, br, tgt, rcv, rpl, mputI, mputL, mputP, fv, fr, mcat, mcs, entL, entA, rfit, nf_0, nf_1, nf_2, nf_3, nf2_0, nf2_1, b2i_0, b2i_1, RI_b2i, b2i_fit, List.append, List.length, List.replicate, List.cons_append, List.nil_append, List.length_cons, List.length_nil, List.replicate_succ, List.replicate_zero, List.tail_cons, reduceIte, if_true, if_false, ite_true, ite_false, Bool.false_eq_true, true_and, and_true, and_self, false_and, and_false, or_self, or_true, true_or, or_false, false_or, not_true_eq_false, not_false_eq_true, ne_eq, forall_const, implies_true, imp_self, true_implies, false_implies, Nat.reduceAdd, Nat.reduceSub, Nat.reduceMul, Nat.reduceDiv, Nat.reduceMod, Nat.reduceEqDiff, Nat.reduceLT, Nat.reduceLeDiff, Nat.reduceBEq, Nat.add_zero, Nat.zero_add, Nat.le_refl, Nat.not_lt_zero, Nat.succ_eq_add_one, Int.reduceNatCast, Int.cast_ofNat_Int, Int.reduceSub, Int.reduceMul, Int.reduceNeg, Int.reduceLE, Int.reduceLT, Int.reduceToNat, Int.reduceEq, Int.reduceNe, Int.reduceAdd, Option.some.injEq, kX2_holdsRow, rmX2_holdsRow, ↓ofX2_9, g0]
  exact ⟨by omega, fun q => hs.2 (by omega), fun q => ⟨by omega, fun q2 => hs.1 (by omega), fun q2 => hs.2 (by omega)⟩⟩
def spX2_hasPlaces (As : List MV) (σ : MS) (K : Option MV → MS → Prop) : Prop := pR As fun b r => pI r fun i r => pI r fun n r => pN r (shB b ∧ RI i ∧ RI n ∧ 0 ≤ σ.2.2.1 b 1 ∧ σ.2.2.1 b 1 ≤ 60 ∧ K (some (.inl (b2i (0 ≤ i ∧ 0 ≤ n ∧ i + n ≤ σ.2.2.1 b 1)))) σ)
def ciX2_hasPlaces : CI := (3, 2, 0, 0, spX2_hasPlaces)
def kX2_hasPlaces (pc : Nat) : List ME := match pc with
  | 0 => [(.iload_n 1, 1, []), (.ifCond .lt 29, 3, [30]), (.iload_n 2, 1, []), (.ifCond .lt 25, 3, [30]), (.iload_n 2, 1, []), (.aload_n 0, 1, []), (.getfield 43, 3, []), (.if_icmp .gt 17, 3, [30]), (.iload_n 1, 1, []), (.aload_n 0, 1, []), (.getfield 43, 3, []), (.iload_n 2, 1, []), (.isub, 1, []), (.if_icmp .gt 7, 3, [30]), (.iconst 1, 1, []), (.goto 4, 3, [31])]
  | 30 => [(.iconst 0, 1, [])]
  | 31 => [(.ireturn, 1, [])]
  | _ => []
theorem qX2_hasPlaces : ∀ pc, chk cX2_hasPlaces pc (kX2_hasPlaces pc) = true := by
  intro pc
  unfold kX2_hasPlaces
  split <;> first | decide +kernel | exact chk_nil
abbrev rmX2_hasPlaces : Room := { frames := 0, cells := 0, slots := 0, locals := 0 }
def aX2_hasPlaces (_ : Nat) : Option CI := none
theorem aokX2_hasPlaces : ∀ x ci, aX2_hasPlaces x = some ci → CalOK RX2 rmX2_hasPlaces x ci := fun _ _ h => by cases h
theorem mdX2_hasPlaces : MD RX2 cX2_hasPlaces rmX2_hasPlaces kX2_hasPlaces fX2 aX2_hasPlaces zX2 uX2 := ⟨fokX2, zokX2, uokX2, aokX2_hasPlaces, qX2_hasPlaces⟩
set_option maxRecDepth 100000 in
set_option maxHeartbeats 800000 in
theorem mX2_hasPlaces : MOK yX2_hasPlaces cX2_hasPlaces 3 (some .boolean) rmX2_hasPlaces ciX2_hasPlaces := by
  refine mok_of (ini := false) (by decide +kernel) (by decide) rfl rfl ?_
  intro σ As K hrc hl h
  obtain ⟨N, P, I, L⟩ := σ
  have h9 := pR_iff.mp h
  clear h
  obtain ⟨b, r, e9, h⟩ := h9
  subst e9
  have h9 := pI_iff.mp h
  clear h
  obtain ⟨i, r, e9, h⟩ := h9
  subst e9
  have h9 := pI_iff.mp h
  clear h
  obtain ⟨n, r, e9, h⟩ := h9
  subst e9
  have h9 := pN_iff.mp h
  clear h
  obtain ⟨e9, h⟩ := h9
  subst e9
  dsimp only at h
  obtain ⟨hb, hi, hn, h0, h1, h⟩ := h
  obtain ⟨g0, g1, g2, g3, p2, p3, p4, b0⟩ := shB_rows hb
  have hs := b2i_split (F := fun x => K (some (.inl x)) (N, P, I, L)) h
  unfold RI at hi hn
  refine ⟨Nat.le_of_ble_eq_true rfl, Ok.seg mdX2_hasPlaces [] 30 ?_⟩
  simp only [wp_nil, wp_cons, ↓stp, ↓lI, ↓lL, ↓lR, ↓lIn_0, ↓lIn_1, ↓lIn_2, ↓lIn_3, ↓lLn_0, ↓lLn_1, ↓lLn_2, ↓lLn_3, ↓lRn_0, ↓lRn_1, ↓lRn_2, ↓lRn_3, ↓pI, ↓pL, ↓pR, ↓pA, ↓pN, ↓pV, ↓fp, ↓tsw, ↓oS, ↓spMax, ↓spMin, ↓spAbs, ↓spObj, RI, RLg, b2i_lo, b2i_hi, getL, setL, ltL, killL, isLong, inl, cnd, br, tgt, rcv, rpl, mputI, mputL, mputP, fv, fr, mcat, mcs, entL, entA, rfit, nf_0, nf_1, nf_2, nf_3, nf2_0, nf2_1, b2i_0, b2i_1, RI_b2i, b2i_fit, List.append, List.length, List.replicate, List.cons_append, List.nil_append, List.length_cons, List.length_nil, List.replicate_succ, List.replicate_zero, List.tail_cons, reduceIte, if_true, if_false, ite_true, ite_false, Bool.false_eq_true, true_and, and_true, and_self, false_and, and_false, or_self, or_true, true_or, or_false, false_or, not_true_eq_false, not_false_eq_true, ne_eq, forall_const, implies_true, imp_self, true_implies, false_implies, Nat.reduceAdd, Nat.reduceSub, Nat.reduceMul, Nat.reduceDiv, Nat.reduceMod, Nat.reduceEqDiff, Nat.reduceLT, Nat.reduceLeDiff, Nat.reduceBEq, Nat.add_zero, Nat.zero_add, Nat.le_refl, Nat.not_lt_zero, Nat.succ_eq_add_one, Int.reduceNatCast, Int.cast_ofNat_Int, Int.reduceSub, Int.reduceMul, Int.reduceNeg, Int.reduceLE, Int.reduceLT, Int.reduceToNat, Int.reduceEq, Int.reduceNe, Int.reduceAdd, Option.some.injEq, kX2_hasPlaces, rmX2_hasPlaces, ↓ofX2_43, g0]
  refine ⟨by omega, fun q => hs.1 (by omega), fun q => ⟨by omega, fun q => hs.1 (by omega), fun q => ⟨by omega, by omega, fun q => hs.1 (by omega), fun q => ⟨by omega, by omega, fun q => hs.1 (by omega), fun q => hs.2 (by omega)⟩⟩⟩⟩
/-- element i of the row on a shelf -/
def itm (I : Int → Int → Int) (b i : Int) : Int := if I b 0 = 3 then I (b + 2) i else I (b + 3) i
def spX2_at (As : List MV) (σ : MS) (K : Option MV → MS → Prop) : Prop := pR As fun b r => pI r fun i r => pN r (shB b ∧ σ.2.1 = PF ∧ 0 ≤ σ.2.2.1 b 0 ∧ σ.2.2.1 b 0 ≤ 4 ∧ 0 ≤ i ∧ i < 60 ∧ K (some (.inl (itm σ.2.2.1 b i))) σ)
def ciX2_at : CI := (2, 2, 0, 0, spX2_at)
def kX2_at (pc : Nat) : List ME := match pc with
  | 0 => [(.aload_n 0, 1, []), (.getfield 9, 3, []), (.iconst 3, 1, []), (.if_icmp .ne 12, 3, [17]), (.aload_n 0, 1, []), (.getfield 22, 3, []), (.iload_n 1, 1, []), (.iaload, 1, []), (.goto 9, 3, [23])]
  | 17 => [(.aload_n 0, 1, []), (.getfield 26, 3, []), (.iload_n 1, 1, []), (.baload, 1, [])]
  | 23 => [(.ireturn, 1, [])]
  | _ => []
theorem qX2_at : ∀ pc, chk cX2_at pc (kX2_at pc) = true := by
  intro pc
  unfold kX2_at
  split <;> first | decide +kernel | exact chk_nil
abbrev rmX2_at : Room := { frames := 0, cells := 0, slots := 0, locals := 0 }
def aX2_at (_ : Nat) : Option CI := none
theorem aokX2_at : ∀ x ci, aX2_at x = some ci → CalOK RX2 rmX2_at x ci := fun _ _ h => by cases h
theorem mdX2_at : MD RX2 cX2_at rmX2_at kX2_at fX2 aX2_at zX2 uX2 := ⟨fokX2, zokX2, uokX2, aokX2_at, qX2_at⟩
set_option maxRecDepth 100000 in
set_option maxHeartbeats 800000 in
theorem mX2_at : MOK yX2_at cX2_at 2 (some .int) rmX2_at ciX2_at := by
  refine mok_of (ini := false) (by decide +kernel) (by decide) rfl rfl ?_
  intro σ As K hrc hl h
  obtain ⟨N, P, I, L⟩ := σ
  have h9 := pR_iff.mp h
  clear h
  obtain ⟨b, r, e9, h⟩ := h9
  subst e9
  have h9 := pI_iff.mp h
  clear h
  obtain ⟨i, r, e9, h⟩ := h9
  subst e9
  have h9 := pN_iff.mp h
  clear h
  obtain ⟨e9, h⟩ := h9
  subst e9
  dsimp only at h
  obtain ⟨hb, rfl, h0, h1, i0, i1, h⟩ := h
  obtain ⟨g0, g1, g2, g3, p2, p3, p4, b0⟩ := shB_rows hb
  unfold itm at h
  refine ⟨Nat.le_of_ble_eq_true rfl, Ok.seg mdX2_at [] 20 ?_⟩
  simp only [wp_nil, wp_cons, ↓stp, ↓lI, ↓lL, ↓lR, ↓lIn_0, ↓lIn_1, ↓lIn_2, ↓lIn_3, ↓lLn_0, ↓lLn_1, ↓lLn_2, ↓lLn_3, ↓lRn_0, ↓lRn_1, ↓lRn_2, ↓lRn_3, ↓pI, ↓pL, ↓pR, ↓pA, ↓pN, ↓pV, ↓fp, ↓tsw, ↓oS, ↓spMax, ↓spMin, ↓spAbs, ↓spObj, RI, RLg, b2i_lo, b2i_hi, getL, setL, ltL, killL, isLong, inl, cnd, br, tgt, rcv, rpl, mputI, mputL, mputP, fv, fr, mcat, mcs, entL, entA, rfit, nf_0, nf_1, nf_2, nf_3, nf2_0, nf2_1, b2i_0, b2i_1, RI_b2i, b2i_fit, List.append, List.length, List.replicate, List.cons_append, List.nil_append, List.length_cons, List.length_nil, List.replicate_succ, List.replicate_zero, List.tail_cons, reduceIte, if_true, if_false, ite_true, ite_false, Bool.false_eq_true, true_and, and_true, and_self, false_and, and_false, or_self, or_true, true_or, or_false, false_or, not_true_eq_false, not_false_eq_true, ne_eq, forall_const, implies_true, imp_self, true_implies, false_implies, Nat.reduceAdd, Nat.reduceSub, Nat.reduceMul, Nat.reduceDiv, Nat.reduceMod, Nat.reduceEqDiff, Nat.reduceLT, Nat.reduceLeDiff, Nat.reduceBEq, Nat.add_zero, Nat.zero_add, Nat.le_refl, Nat.not_lt_zero, Nat.succ_eq_add_one, Int.reduceNatCast, Int.cast_ofNat_Int, Int.reduceSub, Int.reduceMul, Int.reduceNeg, Int.reduceLE, Int.reduceLT, Int.reduceToNat, Int.reduceEq, Int.reduceNe, Int.reduceAdd, Option.some.injEq, kX2_at, rmX2_at, ↓ofX2_22, ↓ofX2_26, ↓ofX2_9, g0, g1, g2, g3, p2, p3, p4, G_1, G_2, G_3, G_4, G_35, G_36, G_37, G_38, G_39, G_40, G_41, G_42, G_43, G_44, G_45, G_46, G_47, G_48, G_49, G_140, G_141, G_142, G_143, G_144, G_145, G_146, G_178, G_179, G_180, G_181, G_182, G_183, G_184, G_189, G_198, G_207, PF_1_0, PF_1_1, PF_1_2, PF_1_3, PF_2_0, PF_2_1, PF_2_3, PF_2_4, PF_2_5, PF_2_6, PF_2_7, PF_2_8, PF_2_9, PF_2_10, PF_2_11, PF_3_0, PF_35_0, PF_35_1, PF_35_2, PF_35_3, PF_40_0, PF_40_1, PF_40_2, PF_44_0, PF_44_1, PF_44_2, PF_145_0, PF_145_1, PF_179_0, PF_179_1, PF_179_2, PF_179_3, PF_179_8, PF_179_9, PF_179_10]
  refine ⟨by omega, fun q => ⟨by omega, by omega, ?_⟩, fun q => ⟨by omega, by omega, ?_⟩⟩
  · rwa [if_neg q] at h
  · rwa [if_pos (by omega)] at h
def spX2_copyPlaces (As : List MV) (σ : MS) (K : Option MV → MS → Prop) : Prop := pR As fun b r => pI r fun i r => pR r fun e r => pI r fun j r => pI r fun n r => pN r (shB b ∧ shB e ∧ σ.2.1 = PF ∧ 3 ≤ σ.2.2.1 b 0 ∧ σ.2.2.1 b 0 ≤ 4 ∧ 0 ≤ i ∧ 0 ≤ j ∧ 0 ≤ n ∧ i + n ≤ 60 ∧ j + n ≤ 60 ∧ (∀ k, 0 ≤ k → k < 60 → -128 ≤ σ.2.2.1 (b + 3) k ∧ σ.2.2.1 (b + 3) k ≤ 127) ∧
  K none (σ.1, σ.2.1, cpyI σ.2.2.1 (b + (if σ.2.2.1 b 0 = 3 then 2 else 3)) i (e + (if σ.2.2.1 b 0 = 3 then 2 else 3)) j n, σ.2.2.2))
def ciX2_copyPlaces : CI := (5, 2, 0, 0, spX2_copyPlaces)
def kX2_copyPlaces (pc : Nat) : List ME := match pc with
  | 0 => [(.aload_n 0, 1, []), (.getfield 9, 3, []), (.iconst 3, 1, []), (.if_icmp .ne 21, 3, [26]), (.aload_n 0, 1, []), (.getfield 22, 3, []), (.iload_n 1, 1, []), (.aload_n 2, 1, []), (.getfield 22, 3, []), (.iload_n 3, 1, []), (.iload 4, 2, []), (.invokestatic 46, 3, []), (.goto 18, 3, [41])]
  | 26 => [(.aload_n 0, 1, []), (.getfield 26, 3, []), (.iload_n 1, 1, []), (.aload_n 2, 1, []), (.getfield 26, 3, []), (.iload_n 3, 1, []), (.iload 4, 2, []), (.invokestatic 46, 3, [])]
  | 41 => [(.return_, 1, [])]
  | _ => []
theorem qX2_copyPlaces : ∀ pc, chk cX2_copyPlaces pc (kX2_copyPlaces pc) = true := by
  intro pc
  unfold kX2_copyPlaces
  split <;> first | decide +kernel | exact chk_nil
abbrev rmX2_copyPlaces : Room := { frames := 1, cells := 0, slots := 0, locals := 26 }
def aX2_copyPlaces (x : Nat) : Option CI := match x with
  | 46 => some ciCopy
  | _ => none
theorem aokX2_copyPlaces : ∀ x ci, aX2_copyPlaces x = some ci → CalOK RX2 rmX2_copyPlaces x ci := by
  intro x ci h
  unfold aX2_copyPlaces at h
  split at h
  · cases h; exact cal_copy (List.forall_mem_cons.mpr ⟨(ws_mem (List.mem_of_getElem? (i := 682) (by decide +kernel)) (by decide +kernel)), List.forall_mem_cons.mpr ⟨(ws_mem (List.mem_of_getElem? (i := 512) (by decide +kernel)) (by decide +kernel)), List.forall_mem_cons.mpr ⟨(ws_mem (List.mem_of_getElem? (i := 511) (by decide +kernel)) (by decide +kernel)), List.forall_mem_cons.mpr ⟨(ws_mem (List.mem_of_getElem? (i := 69) (by decide +kernel)) (by decide +kernel)), fun _ h => absurd h List.not_mem_nil⟩⟩⟩⟩) (by decide +kernel)
  · cases h
theorem ocX2_copyPlaces_46 (f : Nat → Nat → Nat → Nat → (List MV → MS → (Option MV → MS → Prop) → Prop) → Prop) : oC aX2_copyPlaces 46 f = f 5 10 0 0 spCopy := propext Iff.rfl
theorem mdX2_copyPlaces : MD RX2 cX2_copyPlaces rmX2_copyPlaces kX2_copyPlaces fX2 aX2_copyPlaces zX2 uX2 := ⟨fokX2, zokX2, uokX2, aokX2_copyPlaces, qX2_copyPlaces⟩
set_option maxRecDepth 100000 in
set_option maxHeartbeats 800000 in
theorem mX2_copyPlaces : MOK yX2_copyPlaces cX2_copyPlaces 5 none rmX2_copyPlaces ciX2_copyPlaces := by
  refine mok_of (ini := false) (by decide +kernel) (by decide) rfl rfl ?_
  intro σ As K hrc hl h
  obtain ⟨N, P, I, L⟩ := σ
  have h9 := pR_iff.mp h
  clear h
  obtain ⟨b, r, e9, h⟩ := h9
  subst e9
  have h9 := pI_iff.mp h
  clear h
  obtain ⟨i, r, e9, h⟩ := h9
  subst e9
  have h9 := pR_iff.mp h
  clear h
  obtain ⟨e, r, e9, h⟩ := h9
  subst e9
  have h9 := pI_iff.mp h
  clear h
  obtain ⟨j, r, e9, h⟩ := h9
  subst e9
  have h9 := pI_iff.mp h
  clear h
  obtain ⟨n, r, e9, h⟩ := h9
  subst e9
  have h9 := pN_iff.mp h
  clear h
  obtain ⟨e9, h⟩ := h9
  subst e9
  dsimp only at h
  obtain ⟨hb, he, rfl, h0, h1, i0, j0, n0, hi, hj, hr, h⟩ := h
  obtain ⟨g0, g1, g2, g3, p2, p3, p4, b0⟩ := shB_rows hb
  obtain ⟨g0', g1', g2', g3', p2', p3', p4', b0'⟩ := shB_rows he
  refine ⟨Nat.le_of_ble_eq_true rfl, Ok.seg mdX2_copyPlaces [] 30 ?_⟩
  simp only [wp_nil, wp_cons, ↓stp, ↓lI, ↓lL, ↓lR, ↓lIn_0, ↓lIn_1, ↓lIn_2, ↓lIn_3, ↓lLn_0, ↓lLn_1, ↓lLn_2, ↓lLn_3, ↓lRn_0, ↓lRn_1, ↓lRn_2, ↓lRn_3, ↓pI, ↓pL, ↓pR, ↓pA, ↓pN, ↓pV, ↓fp, ↓tsw, ↓oS, ↓spMax, ↓spMin, ↓spAbs, ↓spObj, RI, RLg, b2i_lo, b2i_hi, getL, setL, ltL, killL, isLong, inl, cnd, br, tgt, rcv, rpl, mputI, mputL, mputP, fv, fr, mcat, mcs, entL, entA, rfit, nf_0, nf_1, nf_2, nf_3, nf2_0, nf2_1, b2i_0, b2i_1, RI_b2i, b2i_fit, List.append, List.length, List.replicate, List.cons_append, List.nil_append, List.length_cons, List.length_nil, List.replicate_succ, List.replicate_zero, List.tail_cons, reduceIte, if_true, if_false, ite_true, ite_false, Bool.false_eq_true, true_and, and_true, and_self, false_and, and_false, or_self, or_true, true_or, or_false, false_or, not_true_eq_false, not_false_eq_true, ne_eq, forall_const, implies_true, imp_self, true_implies, false_implies, Nat.reduceAdd, Nat.reduceSub, Nat.reduceMul, Nat.reduceDiv, Nat.reduceMod, Nat.reduceEqDiff, Nat.reduceLT, Nat.reduceLeDiff, Nat.reduceBEq, Nat.add_zero, Nat.zero_add, Nat.le_refl, Nat.not_lt_zero, Nat.succ_eq_add_one, Int.reduceNatCast, Int.cast_ofNat_Int, Int.reduceSub, Int.reduceMul, Int.reduceNeg, Int.reduceLE, Int.reduceLT, Int.reduceToNat, Int.reduceEq, Int.reduceNe, Int.reduceAdd, Option.some.injEq, kX2_copyPlaces, rmX2_copyPlaces, ↓ofX2_22, ↓ofX2_26, ↓ofX2_9, ↓ocX2_copyPlaces_46, ↓spCopy, g0, g1, g2, g3, p2, p3, p4, g0', g1', g2', g3', p2', p3', p4', G_1, G_2, G_3, G_4, G_35, G_36, G_37, G_38, G_39, G_40, G_41, G_42, G_43, G_44, G_45, G_46, G_47, G_48, G_49, G_140, G_141, G_142, G_143, G_144, G_145, G_146, G_178, G_179, G_180, G_181, G_182, G_183, G_184, G_189, G_198, G_207, PF_1_0, PF_1_1, PF_1_2, PF_1_3, PF_2_0, PF_2_1, PF_2_3, PF_2_4, PF_2_5, PF_2_6, PF_2_7, PF_2_8, PF_2_9, PF_2_10, PF_2_11, PF_3_0, PF_35_0, PF_35_1, PF_35_2, PF_35_3, PF_40_0, PF_40_1, PF_40_2, PF_44_0, PF_44_1, PF_44_2, PF_145_0, PF_145_1, PF_179_0, PF_179_1, PF_179_2, PF_179_3, PF_179_8, PF_179_9, PF_179_10]
  refine ⟨by omega, fun q => ?_, fun q => ?_⟩
  · rw [if_neg q] at h
    exact ⟨fun k a b => hr (i + k) (by omega) (by omega), i0, j0, n0, by omega, by omega, h⟩
  · rw [if_pos (by omega)] at h
    exact ⟨i0, j0, n0, by omega, by omega, h⟩
