/-! LapBoard$Race: fillAfter, longestStint, nextState -/
theorem frV {I : Int → Int → Int} {lp : Int → Int → Int} {m : Nat} {t w : Int} (hB : rcB I lp) (hm : 1 ≤ m) (m1 : m ≤ 40) (t0 : 0 ≤ t) (t1 : t ≤ 3) {v : Int} (h : Lst (Fr lp (I 179 4) (I 179 11 ≠ 0) (m - 1) t w) 536870912 v) : 0 ≤ v ∧ v ≤ 536870912 := by
  refine ⟨?_, h.2.1⟩
  rcases h.1 with q | q
  · omega
  · exact (Fr_rng hB.1 hB.2.2 (by omega) t0 t1 q).1
theorem afV {I : Int → Int → Int} {lp : Int → Int → Int} {m : Nat} {t w : Int} (hB : rcB I lp) (hm : 1 ≤ m) (m1 : m ≤ 40) {v : Int} (h : Lst (Af lp (I 179 4) (I 179 11 ≠ 0) (m - 1) t w) 536870912 v) : 0 ≤ v ∧ v < 536870912 ∧ Lt (Af lp (I 179 4) (I 179 11 ≠ 0) (m - 1) t w) v := by
  obtain ⟨x, hx⟩ := Af_ex (lp := lp) (sp := I 179 4) (mu := I 179 11 ≠ 0) (m - 1) t w
  have xr := Af_rng hB.1 hB.2.2 (by omega) hx
  have a2 := h.lt ⟨x, hx, by omega⟩
  have := Af_rng hB.1 hB.2.2 (by omega) a2.1
  exact ⟨by omega, by omega, a2⟩
theorem tw_01 (w t k : Int) : tw w t k = 0 ∨ tw w t k = 1 := by unfold tw; split <;> simp
def spX1_fillAfter (As : List MV) (σ : MS) (K : Option MV → MS → Prop) : Prop := pR As fun a r => pI r fun n r => pN r (a = 179 ∧ σ.2.1 = PF ∧ ∃ (m : Nat) (lp : Int → Int → Int), n = m ∧ 1 ≤ m ∧ m ≤ 40 ∧ rcB σ.2.2.1 lp ∧ frR σ.2.2.1 lp m ∧
  ∀ I' : Int → Int → Int, frF σ.2.2.1 I' 199 m → afR I' lp m → K none (σ.1, σ.2.1, I', σ.2.2.2))
def ciX1_fillAfter : CI := (2, 1, 0, 0, spX1_fillAfter)
def kX1_fillAfter (pc : Nat) : List ME := match pc with
  | 0 => [(.iconst 0, 1, []), (.istore_n 2, 1, [])]
  | 2 => [(.iload_n 2, 1, []), (.bipush 8, 2, []), (.if_icmp .ge 54, 3, [59]), (.ldc 80, 2, []), (.istore_n 3, 1, []), (.iconst 0, 1, []), (.istore 4, 2, [])]
  | 14 => [(.iload 4, 2, []), (.iconst 4, 1, []), (.if_icmp .ge 27, 3, [44]), (.iload_n 3, 1, []), (.aload_n 0, 1, []), (.getfield 37, 3, []), (.iload_n 2, 1, []), (.iload 4, 2, []), (.invokestatic 88, 3, []), (.aaload, 1, []), (.iload_n 1, 1, []), (.iaload, 1, []), (.invokestatic 85, 3, []), (.istore_n 3, 1, []), (.iinc 4 1, 3, []), (.goto (-27), 3, [14])]
  | 44 => [(.aload_n 0, 1, []), (.getfield 40, 3, []), (.iload_n 2, 1, []), (.aaload, 1, []), (.iload_n 1, 1, []), (.iload_n 3, 1, []), (.iastore, 1, []), (.iinc 2 1, 3, []), (.goto (-54), 3, [2])]
  | 59 => [(.return_, 1, [])]
  | _ => []
theorem qX1_fillAfter : ∀ pc, chk cX1_fillAfter pc (kX1_fillAfter pc) = true := by
  intro pc
  unfold kX1_fillAfter
  split <;> first | decide +kernel | exact chk_nil
abbrev rmX1_fillAfter : Room := { frames := 1, cells := 0, slots := 0, locals := 21 }
def aX1_fillAfter (x : Nat) : Option CI := match x with
  | 88 => some ciX1_stateOn
  | 85 => some ciMin
  | _ => none
theorem aokX1_fillAfter : ∀ x ci, aX1_fillAfter x = some ci → CalOK RX1 rmX1_fillAfter x ci := by
  intro x ci h
  unfold aX1_fillAfter at h
  split at h
  · cases h; exact cal_S mX1_stateOn rfl (List.forall_mem_cons.mpr ⟨(ws_mem (List.mem_of_getElem? (i := 599) (by decide +kernel)) (by decide +kernel)), List.forall_mem_cons.mpr ⟨(ws_mem (List.mem_of_getElem? (i := 600) (by decide +kernel)) (by decide +kernel)), List.forall_mem_cons.mpr ⟨(ws_mem (List.mem_of_getElem? (i := 62) (by decide +kernel)) (by decide +kernel)), List.forall_mem_cons.mpr ⟨(ws_mem (List.mem_of_getElem? (i := 601) (by decide +kernel)) (by decide +kernel)), fun _ h => absurd h List.not_mem_nil⟩⟩⟩⟩) rfl (by unfold nice; decide +kernel) (by unfold rfits; decide) ⟨rfl, rfl⟩
  · cases h; exact cal_min (List.forall_mem_cons.mpr ⟨(ws_mem (List.mem_of_getElem? (i := 594) (by decide +kernel)) (by decide +kernel)), List.forall_mem_cons.mpr ⟨(ws_mem (List.mem_of_getElem? (i := 154) (by decide +kernel)) (by decide +kernel)), List.forall_mem_cons.mpr ⟨(ws_mem (List.mem_of_getElem? (i := 58) (by decide +kernel)) (by decide +kernel)), List.forall_mem_cons.mpr ⟨(ws_mem (List.mem_of_getElem? (i := 155) (by decide +kernel)) (by decide +kernel)), fun _ h => absurd h List.not_mem_nil⟩⟩⟩⟩) (by decide)
  · cases h
theorem ocX1_fillAfter_88 (f : Nat → Nat → Nat → Nat → (List MV → MS → (Option MV → MS → Prop) → Prop) → Prop) : oC aX1_fillAfter 88 f = f 2 10 0 0 spX1_stateOn := propext Iff.rfl
theorem ocX1_fillAfter_85 (f : Nat → Nat → Nat → Nat → (List MV → MS → (Option MV → MS → Prop) → Prop) → Prop) : oC aX1_fillAfter 85 f = f 2 10 0 0 spMin := propext Iff.rfl
theorem mdX1_fillAfter : MD RX1 cX1_fillAfter rmX1_fillAfter kX1_fillAfter fX1 aX1_fillAfter zX1 uX1 := ⟨fokX1, zokX1, uokX1, aokX1_fillAfter, qX1_fillAfter⟩
set_option maxHeartbeats 1600000 in
set_option maxRecDepth 100000 in
theorem lpX1_a1 {post : Option MV → MS → Prop} {U : Pt → Prop} {N n : Nat} {I L : Int → Int → Int} {lp : Int → Int → Int} {s t w : Int} (es : s = 2 * t + w) (t0 : 0 ≤ t) (t1 : t ≤ 3) (hw : w = 0 ∨ w = 1) (n1 : n ≤ 40) (hn : 1 ≤ n) (hB : rcB I lp) (hf : ∀ t w, 0 ≤ t → t ≤ 3 → (w = 0 ∨ w = 1) → Lst (Fr lp (I 179 4) (I 179 11 ≠ 0) (n - 1) t w) 536870912 (I (190 + (2 * t + w)) n))
    (h : ∀ (v : Int) (t4 : Option MV), Lst (Af lp (I 179 4) (I 179 11 ≠ 0) (n - 1) t w) 536870912 v → Ok RX1 cX1_fillAfter 5 rmX1_fillAfter false none post U (44, [some (.inr (.inr (some 179))), some (.inl n), some (.inl s), some (.inl v), t4], [], (N, PF, I, L), 0, 0)) :
    ∀ (m : Nat) (k v : Int), k + m = 4 → 0 ≤ k → 0 ≤ v → Lst (fun x => ∃ k', 0 ≤ k' ∧ k' < k ∧ Fr lp (I 179 4) (I 179 11 ≠ 0) (n - 1) k' (tw w t k') x) 536870912 v →
    Ok RX1 cX1_fillAfter 5 rmX1_fillAfter false none post U (14, [some (.inr (.inr (some 179))), some (.inl n), some (.inl s), some (.inl v), some (.inl k)], [], (N, PF, I, L), 0, 0)
  | 0, k, v, hl, l0, v0, h1 => by
    refine Ok.seg mdX1_fillAfter [14, 44] 10 ?_
    simp only [wp_nil, wp_cons, ↓stp, ↓lI, ↓lL, ↓lR, ↓lIn_0, ↓lIn_1, ↓lIn_2, ↓lIn_3, ↓lLn_0, ↓lLn_1, ↓lLn_2, ↓lLn_3, ↓lRn_0, ↓lRn_1, ↓lRn_2, ↓lRn_3, ↓pI, ↓pL, ↓pR, ↓pA, ↓pN, ↓pV, ↓fp, ↓tsw, ↓oS, ↓spMax, ↓spMin, ↓spAbs, ↓spObj, RI, RLg, b2i_lo, b2i_hi, getL, setL, ltL, killL, isLong, inl, cnd, br, tgt, rcv, rpl, mputI, mputL, mputP, fv, fr, mcat, mcs, entL, entA, rfit, nf_0, nf_1, nf_2, nf_3, nf2_0, nf2_1, b2i_0, b2i_1, RI_b2i, b2i_fit, List.append, List.length, List.replicate, List.cons_append, List.nil_append, List.length_cons, List.length_nil, List.replicate_succ, List.replicate_zero, List.tail_cons, reduceIte, if_true, if_false, ite_true, ite_false, Bool.false_eq_true, true_and, and_true, and_self, false_and, and_false, or_self, or_true, true_or, or_false, false_or, not_true_eq_false, not_false_eq_true, ne_eq, forall_const, implies_true, imp_self, true_implies, false_implies, Nat.reduceAdd, Nat.reduceSub, Nat.reduceMul, Nat.reduceDiv, Nat.reduceMod, Nat.reduceEqDiff, Nat.reduceLT, Nat.reduceLeDiff, Nat.reduceBEq, Nat.add_zero, Nat.zero_add, Nat.le_refl, Nat.not_lt_zero, Nat.succ_eq_add_one, Int.reduceNatCast, Int.cast_ofNat_Int, Int.reduceSub, Int.reduceMul, Int.reduceNeg, Int.reduceLE, Int.reduceLT, Int.reduceToNat, Int.reduceEq, Int.reduceNe, Int.reduceAdd, Option.some.injEq, kX1_fillAfter, rmX1_fillAfter, ↓ofX1_37, ↓ofX1_40, ↓ozX1_80, ↓ocX1_fillAfter_88, ↓spX1_stateOn, ↓ocX1_fillAfter_85, G_1, G_2, G_3, G_4, G_35, G_36, G_37, G_38, G_39, G_40, G_41, G_42, G_43, G_44, G_45, G_46, G_47, G_48, G_49, G_140, G_141, G_142, G_143, G_144, G_145, G_146, G_178, G_179, G_180, G_181, G_182, G_183, G_184, G_189, G_198, G_207, PF_1_0, PF_1_1, PF_1_2, PF_1_3, PF_2_0, PF_2_1, PF_2_3, PF_2_4, PF_2_5, PF_2_6, PF_2_7, PF_2_8, PF_2_9, PF_2_10, PF_2_11, PF_3_0, PF_35_0, PF_35_1, PF_35_2, PF_35_3, PF_40_0, PF_40_1, PF_40_2, PF_44_0, PF_44_1, PF_44_2, PF_145_0, PF_145_1, PF_179_0, PF_179_1, PF_179_2, PF_179_3, PF_179_8, PF_179_9, PF_179_10]
    refine ⟨by omega, fun q => h v _ (h1.cg (fun y => ?_)), fun q => by omega⟩
    exact ⟨fun ⟨a, b, c, d⟩ => ⟨a, b, by omega, d⟩, fun ⟨a, b, c, d⟩ => ⟨a, b, by omega, d⟩⟩
  | m + 1, k, v, hl, l0, v0, h1 => by
    have ih := lpX1_a1 (U := U) es t0 t1 hw n1 hn hB hf h m (k + 1)
    have hz := tw_01 w t k
    have a := hf k (tw w t k) l0 (by omega) hz
    have ar := frV hB hn n1 l0 (by omega) a
    have hp := PF_fresh (i := 2 * k + tw w t k) (by omega) (by omega)
    have hg := G_fresh (a := 190 + (2 * k + tw w t k)) (by omega) (by omega)
    have hv1 := h1.2.1
    refine Ok.seg mdX1_fillAfter [14, 44] 30 ?_
    simp only [wp_nil, wp_cons, ↓stp, ↓lI, ↓lL, ↓lR, ↓lIn_0, ↓lIn_1, ↓lIn_2, ↓lIn_3, ↓lLn_0, ↓lLn_1, ↓lLn_2, ↓lLn_3, ↓lRn_0, ↓lRn_1, ↓lRn_2, ↓lRn_3, ↓pI, ↓pL, ↓pR, ↓pA, ↓pN, ↓pV, ↓fp, ↓tsw, ↓oS, ↓spMax, ↓spMin, ↓spAbs, ↓spObj, RI, RLg, b2i_lo, b2i_hi, getL, setL, ltL, killL, isLong, inl, cnd, br, tgt, rcv, rpl, mputI, mputL, mputP, fv, fr, mcat, mcs, entL, entA, rfit, nf_0, nf_1, nf_2, nf_3, nf2_0, nf2_1, b2i_0, b2i_1, RI_b2i, b2i_fit, List.append, List.length, List.replicate, List.cons_append, List.nil_append, List.length_cons, List.length_nil, List.replicate_succ, List.replicate_zero, List.tail_cons, reduceIte, if_true, if_false, ite_true, ite_false, Bool.false_eq_true, true_and, and_true, and_self, false_and, and_false, or_self, or_true, true_or, or_false, false_or, not_true_eq_false, not_false_eq_true, ne_eq, forall_const, implies_true, imp_self, true_implies, false_implies, Nat.reduceAdd, Nat.reduceSub, Nat.reduceMul, Nat.reduceDiv, Nat.reduceMod, Nat.reduceEqDiff, Nat.reduceLT, Nat.reduceLeDiff, Nat.reduceBEq, Nat.add_zero, Nat.zero_add, Nat.le_refl, Nat.not_lt_zero, Nat.succ_eq_add_one, Int.reduceNatCast, Int.cast_ofNat_Int, Int.reduceSub, Int.reduceMul, Int.reduceNeg, Int.reduceLE, Int.reduceLT, Int.reduceToNat, Int.reduceEq, Int.reduceNe, Int.reduceAdd, Option.some.injEq, kX1_fillAfter, rmX1_fillAfter, ↓ofX1_37, ↓ofX1_40, ↓ozX1_80, ↓ocX1_fillAfter_88, ↓spX1_stateOn, ↓ocX1_fillAfter_85, hp, hg, G_1, G_2, G_3, G_4, G_35, G_36, G_37, G_38, G_39, G_40, G_41, G_42, G_43, G_44, G_45, G_46, G_47, G_48, G_49, G_140, G_141, G_142, G_143, G_144, G_145, G_146, G_178, G_179, G_180, G_181, G_182, G_183, G_184, G_189, G_198, G_207, PF_1_0, PF_1_1, PF_1_2, PF_1_3, PF_2_0, PF_2_1, PF_2_3, PF_2_4, PF_2_5, PF_2_6, PF_2_7, PF_2_8, PF_2_9, PF_2_10, PF_2_11, PF_3_0, PF_35_0, PF_35_1, PF_35_2, PF_35_3, PF_40_0, PF_40_1, PF_40_2, PF_44_0, PF_44_1, PF_44_2, PF_145_0, PF_145_1, PF_179_0, PF_179_1, PF_179_2, PF_179_3, PF_179_8, PF_179_9, PF_179_10]
    refine ⟨by omega, fun q => by omega, fun q => ⟨t, w, es, t0, t1, hw, by omega, by omega, ?_⟩⟩
    simp only [wp_nil, wp_cons, ↓stp, ↓lI, ↓lL, ↓lR, ↓lIn_0, ↓lIn_1, ↓lIn_2, ↓lIn_3, ↓lLn_0, ↓lLn_1, ↓lLn_2, ↓lLn_3, ↓lRn_0, ↓lRn_1, ↓lRn_2, ↓lRn_3, ↓pI, ↓pL, ↓pR, ↓pA, ↓pN, ↓pV, ↓fp, ↓tsw, ↓oS, ↓spMax, ↓spMin, ↓spAbs, ↓spObj, RI, RLg, b2i_lo, b2i_hi, getL, setL, ltL, killL, isLong, inl, cnd, br, tgt, rcv, rpl, mputI, mputL, mputP, fv, fr, mcat, mcs, entL, entA, rfit, nf_0, nf_1, nf_2, nf_3, nf2_0, nf2_1, b2i_0, b2i_1, RI_b2i, b2i_fit, List.append, List.length, List.replicate, List.cons_append, List.nil_append, List.length_cons, List.length_nil, List.replicate_succ, List.replicate_zero, List.tail_cons, reduceIte, if_true, if_false, ite_true, ite_false, Bool.false_eq_true, true_and, and_true, and_self, false_and, and_false, or_self, or_true, true_or, or_false, false_or, not_true_eq_false, not_false_eq_true, ne_eq, forall_const, implies_true, imp_self, true_implies, false_implies, Nat.reduceAdd, Nat.reduceSub, Nat.reduceMul, Nat.reduceDiv, Nat.reduceMod, Nat.reduceEqDiff, Nat.reduceLT, Nat.reduceLeDiff, Nat.reduceBEq, Nat.add_zero, Nat.zero_add, Nat.le_refl, Nat.not_lt_zero, Nat.succ_eq_add_one, Int.reduceNatCast, Int.cast_ofNat_Int, Int.reduceSub, Int.reduceMul, Int.reduceNeg, Int.reduceLE, Int.reduceLT, Int.reduceToNat, Int.reduceEq, Int.reduceNe, Int.reduceAdd, Option.some.injEq, kX1_fillAfter, rmX1_fillAfter, ↓ofX1_37, ↓ofX1_40, ↓ozX1_80, ↓ocX1_fillAfter_88, ↓spX1_stateOn, ↓ocX1_fillAfter_85, hp, hg, G_1, G_2, G_3, G_4, G_35, G_36, G_37, G_38, G_39, G_40, G_41, G_42, G_43, G_44, G_45, G_46, G_47, G_48, G_49, G_140, G_141, G_142, G_143, G_144, G_145, G_146, G_178, G_179, G_180, G_181, G_182, G_183, G_184, G_189, G_198, G_207, PF_1_0, PF_1_1, PF_1_2, PF_1_3, PF_2_0, PF_2_1, PF_2_3, PF_2_4, PF_2_5, PF_2_6, PF_2_7, PF_2_8, PF_2_9, PF_2_10, PF_2_11, PF_3_0, PF_35_0, PF_35_1, PF_35_2, PF_35_3, PF_40_0, PF_40_1, PF_40_2, PF_44_0, PF_44_1, PF_44_2, PF_145_0, PF_145_1, PF_179_0, PF_179_1, PF_179_2, PF_179_3, PF_179_8, PF_179_9, PF_179_10]
    repeat refine ⟨by omega, ?_⟩
    refine fun r r0 r1 r2 => ?_
    refine ih r (by omega) (by omega) (by omega) (h1.two a (fun y => ?_) r0 r1 r2)
    constructor
    · rintro ⟨l', a, b, c⟩
      by_cases q : l' = k
      · exact .inr (q ▸ c)
      · exact .inl ⟨l', a, by omega, c⟩
    · rintro (⟨l', a, b, c⟩ | c)
      · exact ⟨l', a, by omega, c⟩
      · exact ⟨k, l0, by omega, c⟩
set_option maxHeartbeats 1600000 in
set_option maxRecDepth 100000 in
theorem lpX1_a2 {post : Option MV → MS → Prop} {U : Pt → Prop} {N n : Nat} {I L : Int → Int → Int} {lp : Int → Int → Int} (n1 : n ≤ 40) (hn : 1 ≤ n) (hB : rcB I lp) (hf : frR I lp n)
    (h : ∀ I1 : Int → Int → Int, frF I I1 199 n → afR I1 lp n → post none (N, PF, I1, L)) :
    ∀ (m : Nat) (s : Int) (I1 : Int → Int → Int) (t3 t4 : Option MV), s + m = 8 → 0 ≤ s → frF I I1 199 n → (∀ t w, 0 ≤ t → t ≤ 3 → (w = 0 ∨ w = 1) → 2 * t + w < s → Lst (Af lp (I 179 4) (I 179 11 ≠ 0) (n - 1) t w) 536870912 (I1 (199 + (2 * t + w)) n)) →
    Ok RX1 cX1_fillAfter 5 rmX1_fillAfter false none post U (2, [some (.inr (.inr (some 179))), some (.inl n), some (.inl s), t3, t4], [], (N, PF, I1, L), 0, 0)
  | 0, s, I1, t3, t4, hm, s0, h1, h2 => by
    refine Ok.seg mdX1_fillAfter [2, 14, 44] 10 ?_
    simp only [wp_nil, wp_cons, ↓stp, ↓lI, ↓lL, ↓lR, ↓lIn_0, ↓lIn_1, ↓lIn_2, ↓lIn_3, ↓lLn_0, ↓lLn_1, ↓lLn_2, ↓lLn_3, ↓lRn_0, ↓lRn_1, ↓lRn_2, ↓lRn_3, ↓pI, ↓pL, ↓pR, ↓pA, ↓pN, ↓pV, ↓fp, ↓tsw, ↓oS, ↓spMax, ↓spMin, ↓spAbs, ↓spObj, RI, RLg, b2i_lo, b2i_hi, getL, setL, ltL, killL, isLong, inl, cnd, br, tgt, rcv, rpl, mputI, mputL, mputP, fv, fr, mcat, mcs, entL, entA, rfit, nf_0, nf_1, nf_2, nf_3, nf2_0, nf2_1, b2i_0, b2i_1, RI_b2i, b2i_fit, List.append, List.length, List.replicate, List.cons_append, List.nil_append, List.length_cons, List.length_nil, List.replicate_succ, List.replicate_zero, List.tail_cons, reduceIte, if_true, if_false, ite_true, ite_false, Bool.false_eq_true, true_and, and_true, and_self, false_and, and_false, or_self, or_true, true_or, or_false, false_or, not_true_eq_false, not_false_eq_true, ne_eq, forall_const, implies_true, imp_self, true_implies, false_implies, Nat.reduceAdd, Nat.reduceSub, Nat.reduceMul, Nat.reduceDiv, Nat.reduceMod, Nat.reduceEqDiff, Nat.reduceLT, Nat.reduceLeDiff, Nat.reduceBEq, Nat.add_zero, Nat.zero_add, Nat.le_refl, Nat.not_lt_zero, Nat.succ_eq_add_one, Int.reduceNatCast, Int.cast_ofNat_Int, Int.reduceSub, Int.reduceMul, Int.reduceNeg, Int.reduceLE, Int.reduceLT, Int.reduceToNat, Int.reduceEq, Int.reduceNe, Int.reduceAdd, Option.some.injEq, kX1_fillAfter, rmX1_fillAfter, ↓ofX1_37, ↓ofX1_40, ↓ozX1_80, ↓ocX1_fillAfter_88, ↓spX1_stateOn, ↓ocX1_fillAfter_85, G_1, G_2, G_3, G_4, G_35, G_36, G_37, G_38, G_39, G_40, G_41, G_42, G_43, G_44, G_45, G_46, G_47, G_48, G_49, G_140, G_141, G_142, G_143, G_144, G_145, G_146, G_178, G_179, G_180, G_181, G_182, G_183, G_184, G_189, G_198, G_207, PF_1_0, PF_1_1, PF_1_2, PF_1_3, PF_2_0, PF_2_1, PF_2_3, PF_2_4, PF_2_5, PF_2_6, PF_2_7, PF_2_8, PF_2_9, PF_2_10, PF_2_11, PF_3_0, PF_35_0, PF_35_1, PF_35_2, PF_35_3, PF_40_0, PF_40_1, PF_40_2, PF_44_0, PF_44_1, PF_44_2, PF_145_0, PF_145_1, PF_179_0, PF_179_1, PF_179_2, PF_179_3, PF_179_8, PF_179_9, PF_179_10]
    refine ⟨by omega, fun q => h I1 h1 (fun t w t0 t1 hw => ?_), fun q => by omega⟩
    rw [h1 179 4 (by omega), h1 179 11 (by omega)]
    exact h2 t w t0 t1 hw (by omega)
  | m + 1, s, I1, t3, t4, hm, s0, h1, h2 => by
    have ih := lpX1_a2 (U := U) (post := post) n1 hn hB hf h m (s + 1)
    have hp := PF_after (i := s) (by omega) (by omega)
    have hg := G_after (a := 199 + s) (by omega) (by omega)
    have e1 := h1 179 4 (by omega)
    have e2 := h1 179 11 (by omega)
    refine Ok.seg mdX1_fillAfter [2, 14, 44] 10 ?_
    simp only [wp_nil, wp_cons, ↓stp, ↓lI, ↓lL, ↓lR, ↓lIn_0, ↓lIn_1, ↓lIn_2, ↓lIn_3, ↓lLn_0, ↓lLn_1, ↓lLn_2, ↓lLn_3, ↓lRn_0, ↓lRn_1, ↓lRn_2, ↓lRn_3, ↓pI, ↓pL, ↓pR, ↓pA, ↓pN, ↓pV, ↓fp, ↓tsw, ↓oS, ↓spMax, ↓spMin, ↓spAbs, ↓spObj, RI, RLg, b2i_lo, b2i_hi, getL, setL, ltL, killL, isLong, inl, cnd, br, tgt, rcv, rpl, mputI, mputL, mputP, fv, fr, mcat, mcs, entL, entA, rfit, nf_0, nf_1, nf_2, nf_3, nf2_0, nf2_1, b2i_0, b2i_1, RI_b2i, b2i_fit, List.append, List.length, List.replicate, List.cons_append, List.nil_append, List.length_cons, List.length_nil, List.replicate_succ, List.replicate_zero, List.tail_cons, reduceIte, if_true, if_false, ite_true, ite_false, Bool.false_eq_true, true_and, and_true, and_self, false_and, and_false, or_self, or_true, true_or, or_false, false_or, not_true_eq_false, not_false_eq_true, ne_eq, forall_const, implies_true, imp_self, true_implies, false_implies, Nat.reduceAdd, Nat.reduceSub, Nat.reduceMul, Nat.reduceDiv, Nat.reduceMod, Nat.reduceEqDiff, Nat.reduceLT, Nat.reduceLeDiff, Nat.reduceBEq, Nat.add_zero, Nat.zero_add, Nat.le_refl, Nat.not_lt_zero, Nat.succ_eq_add_one, Int.reduceNatCast, Int.cast_ofNat_Int, Int.reduceSub, Int.reduceMul, Int.reduceNeg, Int.reduceLE, Int.reduceLT, Int.reduceToNat, Int.reduceEq, Int.reduceNe, Int.reduceAdd, Option.some.injEq, kX1_fillAfter, rmX1_fillAfter, ↓ofX1_37, ↓ofX1_40, ↓ozX1_80, ↓ocX1_fillAfter_88, ↓spX1_stateOn, ↓ocX1_fillAfter_85, G_1, G_2, G_3, G_4, G_35, G_36, G_37, G_38, G_39, G_40, G_41, G_42, G_43, G_44, G_45, G_46, G_47, G_48, G_49, G_140, G_141, G_142, G_143, G_144, G_145, G_146, G_178, G_179, G_180, G_181, G_182, G_183, G_184, G_189, G_198, G_207, PF_1_0, PF_1_1, PF_1_2, PF_1_3, PF_2_0, PF_2_1, PF_2_3, PF_2_4, PF_2_5, PF_2_6, PF_2_7, PF_2_8, PF_2_9, PF_2_10, PF_2_11, PF_3_0, PF_35_0, PF_35_1, PF_35_2, PF_35_3, PF_40_0, PF_40_1, PF_40_2, PF_44_0, PF_44_1, PF_44_2, PF_145_0, PF_145_1, PF_179_0, PF_179_1, PF_179_2, PF_179_3, PF_179_8, PF_179_9, PF_179_10]
    refine ⟨by omega, fun q => by omega, fun q => ?_⟩
    refine lpX1_a1 (lp := lp) (I := I1) (t := s / 2) (w := s % 2) (by omega) (by omega) (by omega) (by omega) n1 hn (by unfold rcB; rw [e1, e2]; exact hB) (fun t w t0 t1 hw => ?_) (fun v t4 hv => ?_) 4 0 536870912 (by omega) (by omega) (by omega) (Lst.none (fun y ⟨l', a, b, _⟩ => by omega))
    · rw [e1, e2, h1 (190 + (2 * t + w)) n (by omega)]; exact hf t w t0 t1 hw
    · rw [e1, e2] at hv
      refine Ok.seg mdX1_fillAfter [2, 14, 44] 20 ?_
      simp only [wp_nil, wp_cons, ↓stp, ↓lI, ↓lL, ↓lR, ↓lIn_0, ↓lIn_1, ↓lIn_2, ↓lIn_3, ↓lLn_0, ↓lLn_1, ↓lLn_2, ↓lLn_3, ↓lRn_0, ↓lRn_1, ↓lRn_2, ↓lRn_3, ↓pI, ↓pL, ↓pR, ↓pA, ↓pN, ↓pV, ↓fp, ↓tsw, ↓oS, ↓spMax, ↓spMin, ↓spAbs, ↓spObj, RI, RLg, b2i_lo, b2i_hi, getL, setL, ltL, killL, isLong, inl, cnd, br, tgt, rcv, rpl, mputI, mputL, mputP, fv, fr, mcat, mcs, entL, entA, rfit, nf_0, nf_1, nf_2, nf_3, nf2_0, nf2_1, b2i_0, b2i_1, RI_b2i, b2i_fit, List.append, List.length, List.replicate, List.cons_append, List.nil_append, List.length_cons, List.length_nil, List.replicate_succ, List.replicate_zero, List.tail_cons, reduceIte, if_true, if_false, ite_true, ite_false, Bool.false_eq_true, true_and, and_true, and_self, false_and, and_false, or_self, or_true, true_or, or_false, false_or, not_true_eq_false, not_false_eq_true, ne_eq, forall_const, implies_true, imp_self, true_implies, false_implies, Nat.reduceAdd, Nat.reduceSub, Nat.reduceMul, Nat.reduceDiv, Nat.reduceMod, Nat.reduceEqDiff, Nat.reduceLT, Nat.reduceLeDiff, Nat.reduceBEq, Nat.add_zero, Nat.zero_add, Nat.le_refl, Nat.not_lt_zero, Nat.succ_eq_add_one, Int.reduceNatCast, Int.cast_ofNat_Int, Int.reduceSub, Int.reduceMul, Int.reduceNeg, Int.reduceLE, Int.reduceLT, Int.reduceToNat, Int.reduceEq, Int.reduceNe, Int.reduceAdd, Option.some.injEq, kX1_fillAfter, rmX1_fillAfter, ↓ofX1_37, ↓ofX1_40, ↓ozX1_80, ↓ocX1_fillAfter_88, ↓spX1_stateOn, ↓ocX1_fillAfter_85, hp, hg, G_1, G_2, G_3, G_4, G_35, G_36, G_37, G_38, G_39, G_40, G_41, G_42, G_43, G_44, G_45, G_46, G_47, G_48, G_49, G_140, G_141, G_142, G_143, G_144, G_145, G_146, G_178, G_179, G_180, G_181, G_182, G_183, G_184, G_189, G_198, G_207, PF_1_0, PF_1_1, PF_1_2, PF_1_3, PF_2_0, PF_2_1, PF_2_3, PF_2_4, PF_2_5, PF_2_6, PF_2_7, PF_2_8, PF_2_9, PF_2_10, PF_2_11, PF_3_0, PF_35_0, PF_35_1, PF_35_2, PF_35_3, PF_40_0, PF_40_1, PF_40_2, PF_44_0, PF_44_1, PF_44_2, PF_145_0, PF_145_1, PF_179_0, PF_179_1, PF_179_2, PF_179_3, PF_179_8, PF_179_9, PF_179_10]
      refine ⟨by omega, by omega, by omega, by omega, ih _ _ _ (by omega) (by omega) (fun b k hb => ?_) (fun t w t0 t1 hw hq => ?_)⟩
      · rw [show upI I1 (199 + s) n v b k = I1 b k from if_neg (fun z => hb ⟨by omega, by omega, z.2⟩)]; exact h1 b k hb
      · by_cases q2 : 2 * t + w = s
        · rw [q2, upI_same]
          rwa [show s / 2 = t by omega, show s % 2 = w by omega] at hv
        · rw [upI_ne (by omega)]; exact h2 t w t0 t1 hw (by omega)
set_option maxRecDepth 100000 in
set_option maxHeartbeats 800000 in
theorem mX1_fillAfter : MOK yX1_fillAfter cX1_fillAfter 5 none rmX1_fillAfter ciX1_fillAfter := by
  refine mok_of (ini := false) (by decide +kernel) (by decide) rfl rfl ?_
  intro σ As K hrc hl h
  obtain ⟨N, P, I, L⟩ := σ
  have h9 := pR_iff.mp h
  clear h
  obtain ⟨a, r, e9, h⟩ := h9
  subst e9
  have h9 := pI_iff.mp h
  clear h
  obtain ⟨n, r, e9, h⟩ := h9
  subst e9
  have h9 := pN_iff.mp h
  clear h
  obtain ⟨e9, h⟩ := h9
  subst e9
  dsimp only at h
  obtain ⟨rfl, rfl, m, lp, rfl, m0, m1, hB, hf, h⟩ := h
  refine ⟨Nat.le_of_ble_eq_true rfl, Ok.seg mdX1_fillAfter [2] 6 ?_⟩
  simp only [wp_nil, wp_cons, ↓stp, ↓lI, ↓lL, ↓lR, ↓lIn_0, ↓lIn_1, ↓lIn_2, ↓lIn_3, ↓lLn_0, ↓lLn_1, ↓lLn_2, ↓lLn_3, ↓lRn_0, ↓lRn_1, ↓lRn_2, ↓lRn_3, ↓pI, ↓pL, ↓pR, ↓pA, ↓pN, ↓pV, ↓fp, ↓tsw, ↓oS, ↓spMax, ↓spMin, ↓spAbs, ↓spObj, RI, RLg, b2i_lo, b2i_hi, getL, setL, ltL, killL, isLong, inl, cnd, br, tgt, rcv, rpl, mputI, mputL, mputP, fv, fr, mcat, mcs, entL, entA, rfit, nf_0, nf_1, nf_2, nf_3, nf2_0, nf2_1, b2i_0, b2i_1, RI_b2i, b2i_fit, List.append, List.length, List.replicate, List.cons_append, List.nil_append, List.length_cons, List.length_nil, List.replicate_succ, List.replicate_zero, List.tail_cons, reduceIte, if_true, if_false, ite_true, ite_false, Bool.false_eq_true, true_and, and_true, and_self, false_and, and_false, or_self, or_true, true_or, or_false, false_or, not_true_eq_false, not_false_eq_true, ne_eq, forall_const, implies_true, imp_self, true_implies, false_implies, Nat.reduceAdd, Nat.reduceSub, Nat.reduceMul, Nat.reduceDiv, Nat.reduceMod, Nat.reduceEqDiff, Nat.reduceLT, Nat.reduceLeDiff, Nat.reduceBEq, Nat.add_zero, Nat.zero_add, Nat.le_refl, Nat.not_lt_zero, Nat.succ_eq_add_one, Int.reduceNatCast, Int.cast_ofNat_Int, Int.reduceSub, Int.reduceMul, Int.reduceNeg, Int.reduceLE, Int.reduceLT, Int.reduceToNat, Int.reduceEq, Int.reduceNe, Int.reduceAdd, Option.some.injEq, kX1_fillAfter, rmX1_fillAfter, ↓ofX1_37, ↓ofX1_40, ↓ozX1_80, ↓ocX1_fillAfter_88, ↓spX1_stateOn, ↓ocX1_fillAfter_85, G_1, G_2, G_3, G_4, G_35, G_36, G_37, G_38, G_39, G_40, G_41, G_42, G_43, G_44, G_45, G_46, G_47, G_48, G_49, G_140, G_141, G_142, G_143, G_144, G_145, G_146, G_178, G_179, G_180, G_181, G_182, G_183, G_184, G_189, G_198, G_207, PF_1_0, PF_1_1, PF_1_2, PF_1_3, PF_2_0, PF_2_1, PF_2_3, PF_2_4, PF_2_5, PF_2_6, PF_2_7, PF_2_8, PF_2_9, PF_2_10, PF_2_11, PF_3_0, PF_35_0, PF_35_1, PF_35_2, PF_35_3, PF_40_0, PF_40_1, PF_40_2, PF_44_0, PF_44_1, PF_44_2, PF_145_0, PF_145_1, PF_179_0, PF_179_1, PF_179_2, PF_179_3, PF_179_8, PF_179_9, PF_179_10]
  exact lpX1_a2 m1 m0 hB hf (fun I1 a b => ⟨trivial, h I1 a b⟩) 8 0 I none none (by omega) (by omega) (fun _ _ _ => rfl) (fun t w a b c d => by omega)
def spX1_longestStint (As : List MV) (σ : MS) (K : Option MV → MS → Prop) : Prop := pR As fun a r => pI r fun s r => pI r fun n r => pN r (a = 179 ∧ σ.2.1 = PF ∧ ∃ (t w : Int) (m : Nat) (lp : Int → Int → Int), s = 2 * t + w ∧ n = m ∧ 0 ≤ t ∧ t ≤ 3 ∧ (w = 0 ∨ w = 1) ∧ 1 ≤ m ∧ m ≤ 40 ∧ rcB σ.2.2.1 lp ∧ stiOK σ.2.2.1 lp m ∧ (∀ j, 1 ≤ j → j < m → afR σ.2.2.1 lp j) ∧ Lt (Fr lp (σ.2.2.1 179 4) (σ.2.2.1 179 11 ≠ 0) (m - 1) t w) (σ.2.2.1 (190 + s) m) ∧
  ∀ l : Nat, 1 ≤ l → l ≤ m → stS lp (σ.2.2.1 179 4) (σ.2.2.1 179 11 ≠ 0) t w l m (σ.2.2.1 (190 + s) m) → (∀ l', l < l' → l' ≤ m → ¬ stS lp (σ.2.2.1 179 4) (σ.2.2.1 179 11 ≠ 0) t w l' m (σ.2.2.1 (190 + s) m)) → K (some (.inl l)) σ)
def ciX1_longestStint : CI := (3, 1, 0, 0, spX1_longestStint)
def kX1_longestStint (pc : Nat) : List ME := match pc with
  | 0 => [(.iload_n 2, 1, []), (.istore_n 3, 1, [])]
  | 2 => [(.iload_n 3, 1, []), (.iconst 1, 1, []), (.if_icmp .le 29, 3, [33]), (.aload_n 0, 1, []), (.iload_n 1, 1, []), (.iload_n 3, 1, []), (.iload_n 2, 1, []), (.invokevirtual 81, 3, []), (.aload_n 0, 1, []), (.getfield 37, 3, []), (.iload_n 1, 1, []), (.aaload, 1, []), (.iload_n 2, 1, []), (.iaload, 1, []), (.if_icmp .ne 5, 3, [27]), (.iload_n 3, 1, []), (.ireturn, 1, [])]
  | 27 => [(.iinc 3 (-1), 3, []), (.goto (-28), 3, [2])]
  | 33 => [(.iconst 1, 1, []), (.ireturn, 1, [])]
  | _ => []
theorem qX1_longestStint : ∀ pc, chk cX1_longestStint pc (kX1_longestStint pc) = true := by
  intro pc
  unfold kX1_longestStint
  split <;> first | decide +kernel | exact chk_nil
abbrev rmX1_longestStint : Room := { frames := 1, cells := 0, slots := 0, locals := 24 }
def aX1_longestStint (x : Nat) : Option CI := match x with
  | 81 => some ciX1_stintThenRest
  | _ => none
theorem aokX1_longestStint : ∀ x ci, aX1_longestStint x = some ci → CalOK RX1 rmX1_longestStint x ci := by
  intro x ci h
  unfold aX1_longestStint at h
  split at h
  · cases h; exact cal_V mX1_stintThenRest (by decide) rfl (List.forall_mem_cons.mpr ⟨(ws_mem (List.mem_of_getElem? (i := 590) (by decide +kernel)) (by decide +kernel)), List.forall_mem_cons.mpr ⟨(ws_mem (List.mem_of_getElem? (i := 592) (by decide +kernel)) (by decide +kernel)), List.forall_mem_cons.mpr ⟨(ws_mem (List.mem_of_getElem? (i := 13) (by decide +kernel)) (by decide +kernel)), List.forall_mem_cons.mpr ⟨(ws_mem (List.mem_of_getElem? (i := 62) (by decide +kernel)) (by decide +kernel)), List.forall_mem_cons.mpr ⟨(ws_mem (List.mem_of_getElem? (i := 593) (by decide +kernel)) (by decide +kernel)), fun _ h => absurd h List.not_mem_nil⟩⟩⟩⟩⟩) rfl (by unfold nice; decide +kernel) (by unfold rfits; decide) ⟨rfl, rfl⟩
  · cases h
theorem ocX1_longestStint_81 (f : Nat → Nat → Nat → Nat → (List MV → MS → (Option MV → MS → Prop) → Prop) → Prop) : oC aX1_longestStint 81 f = f 4 1 0 0 spX1_stintThenRest := propext Iff.rfl
theorem mdX1_longestStint : MD RX1 cX1_longestStint rmX1_longestStint kX1_longestStint fX1 aX1_longestStint zX1 uX1 := ⟨fokX1, zokX1, uokX1, aokX1_longestStint, qX1_longestStint⟩
set_option maxHeartbeats 1600000 in
set_option maxRecDepth 100000 in
theorem lpX1_s1 {post : Option MV → MS → Prop} {U : Pt → Prop} {N n : Nat} {I L : Int → Int → Int} {lp : Int → Int → Int} {s t w f : Int} (es : s = 2 * t + w) (t0 : 0 ≤ t) (t1 : t ≤ 3) (hw : w = 0 ∨ w = 1) (n1 : n ≤ 40) (hn : 1 ≤ n) (hb : I 179 11 = 0 ∨ I 179 11 = 1) (ef : I (190 + s) n = f) (f0 : 0 ≤ f ∧ f < 536870912)
    (hv : ∀ l : Nat, 1 ≤ l → l ≤ n → (0 ≤ strV I t w l n ∧ strV I t w l n ≤ 536870912) ∧ (strV I t w l n = f ↔ stS lp (I 179 4) (I 179 11 ≠ 0) t w l n f)) (hx : ∃ l, 1 ≤ l ∧ l ≤ n ∧ stS lp (I 179 4) (I 179 11 ≠ 0) t w l n f)
    (h : ∀ l : Nat, 1 ≤ l → l ≤ n → stS lp (I 179 4) (I 179 11 ≠ 0) t w l n f → (∀ l', l < l' → l' ≤ n → ¬ stS lp (I 179 4) (I 179 11 ≠ 0) t w l' n f) → post (some (.inl l)) (N, PF, I, L)) :
    ∀ (l : Nat), 1 ≤ l → l ≤ n → (∀ l', l < l' → l' ≤ n → ¬ stS lp (I 179 4) (I 179 11 ≠ 0) t w l' n f) →
    Ok RX1 cX1_longestStint 4 rmX1_longestStint false none post U (2, [some (.inr (.inr (some 179))), some (.inl s), some (.inl n), some (.inl l)], [], (N, PF, I, L), 0, 0)
  | 0, l0, l1, h1 => by omega
  | 1, l0, l1, h1 => by
    refine Ok.seg mdX1_longestStint [2] 10 ?_
    simp only [wp_nil, wp_cons, ↓stp, ↓lI, ↓lL, ↓lR, ↓lIn_0, ↓lIn_1, ↓lIn_2, ↓lIn_3, ↓lLn_0, ↓lLn_1, ↓lLn_2, ↓lLn_3, ↓lRn_0, ↓lRn_1, ↓lRn_2, ↓lRn_3, ↓pI, ↓pL, ↓pR, ↓pA, ↓pN, ↓pV, ↓fp, ↓tsw, ↓oS, ↓spMax, ↓spMin, ↓spAbs, ↓spObj, RI, RLg, b2i_lo, b2i_hi, getL, setL, ltL, killL, isLong, inl, cnd, br, tgt, rcv, rpl, mputI, mputL, mputP, fv, fr, mcat, mcs, entL, entA, rfit, nf_0, nf_1, nf_2, nf_3, nf2_0, nf2_1, b2i_0, b2i_1, RI_b2i, b2i_fit, List.append, List.length, List.replicate, List.cons_append, List.nil_append, List.length_cons, List.length_nil, List.replicate_succ, List.replicate_zero, List.tail_cons, reduceIte, if_true, if_false, ite_true, ite_false, Bool.false_eq_true, true_and, and_true, and_self, false_and, and_false, or_self, or_true, true_or, or_false, false_or, not_true_eq_false, not_false_eq_true, ne_eq, forall_const, implies_true, imp_self, true_implies, false_implies, Nat.reduceAdd, Nat.reduceSub, Nat.reduceMul, Nat.reduceDiv, Nat.reduceMod, Nat.reduceEqDiff, Nat.reduceLT, Nat.reduceLeDiff, Nat.reduceBEq, Nat.add_zero, Nat.zero_add, Nat.le_refl, Nat.not_lt_zero, Nat.succ_eq_add_one, Int.reduceNatCast, Int.cast_ofNat_Int, Int.reduceSub, Int.reduceMul, Int.reduceNeg, Int.reduceLE, Int.reduceLT, Int.reduceToNat, Int.reduceEq, Int.reduceNe, Int.reduceAdd, Option.some.injEq, kX1_longestStint, rmX1_longestStint, ↓ofX1_37, ↓ocX1_longestStint_81, ↓spX1_stintThenRest, G_1, G_2, G_3, G_4, G_35, G_36, G_37, G_38, G_39, G_40, G_41, G_42, G_43, G_44, G_45, G_46, G_47, G_48, G_49, G_140, G_141, G_142, G_143, G_144, G_145, G_146, G_178, G_179, G_180, G_181, G_182, G_183, G_184, G_189, G_198, G_207, PF_1_0, PF_1_1, PF_1_2, PF_1_3, PF_2_0, PF_2_1, PF_2_3, PF_2_4, PF_2_5, PF_2_6, PF_2_7, PF_2_8, PF_2_9, PF_2_10, PF_2_11, PF_3_0, PF_35_0, PF_35_1, PF_35_2, PF_35_3, PF_40_0, PF_40_1, PF_40_2, PF_44_0, PF_44_1, PF_44_2, PF_145_0, PF_145_1, PF_179_0, PF_179_1, PF_179_2, PF_179_3, PF_179_8, PF_179_9, PF_179_10]
    obtain ⟨l', a, b, c⟩ := hx
    have e : l' = 1 := by
      by_cases q : 1 < l'
      · exact (h1 l' q b c).elim
      · omega
    subst e
    exact h 1 l0 l1 c h1
  | l + 2, l0, l1, h1 => by
    have ih := lpX1_s1 (U := U) (post := post) es t0 t1 hw n1 hn hb ef f0 hv hx h (l + 1)
    have hp := PF_fresh (i := s) (by omega) (by omega)
    have hg := G_fresh (a := 190 + s) (by omega) (by omega)
    obtain ⟨a, b⟩ := hv (l + 2) (by omega) l1
    refine Ok.seg mdX1_longestStint [2] 30 ?_
    simp only [wp_nil, wp_cons, ↓stp, ↓lI, ↓lL, ↓lR, ↓lIn_0, ↓lIn_1, ↓lIn_2, ↓lIn_3, ↓lLn_0, ↓lLn_1, ↓lLn_2, ↓lLn_3, ↓lRn_0, ↓lRn_1, ↓lRn_2, ↓lRn_3, ↓pI, ↓pL, ↓pR, ↓pA, ↓pN, ↓pV, ↓fp, ↓tsw, ↓oS, ↓spMax, ↓spMin, ↓spAbs, ↓spObj, RI, RLg, b2i_lo, b2i_hi, getL, setL, ltL, killL, isLong, inl, cnd, br, tgt, rcv, rpl, mputI, mputL, mputP, fv, fr, mcat, mcs, entL, entA, rfit, nf_0, nf_1, nf_2, nf_3, nf2_0, nf2_1, b2i_0, b2i_1, RI_b2i, b2i_fit, List.append, List.length, List.replicate, List.cons_append, List.nil_append, List.length_cons, List.length_nil, List.replicate_succ, List.replicate_zero, List.tail_cons, reduceIte, if_true, if_false, ite_true, ite_false, Bool.false_eq_true, true_and, and_true, and_self, false_and, and_false, or_self, or_true, true_or, or_false, false_or, not_true_eq_false, not_false_eq_true, ne_eq, forall_const, implies_true, imp_self, true_implies, false_implies, Nat.reduceAdd, Nat.reduceSub, Nat.reduceMul, Nat.reduceDiv, Nat.reduceMod, Nat.reduceEqDiff, Nat.reduceLT, Nat.reduceLeDiff, Nat.reduceBEq, Nat.add_zero, Nat.zero_add, Nat.le_refl, Nat.not_lt_zero, Nat.succ_eq_add_one, Int.reduceNatCast, Int.cast_ofNat_Int, Int.reduceSub, Int.reduceMul, Int.reduceNeg, Int.reduceLE, Int.reduceLT, Int.reduceToNat, Int.reduceEq, Int.reduceNe, Int.reduceAdd, Option.some.injEq, kX1_longestStint, rmX1_longestStint, ↓ofX1_37, ↓ocX1_longestStint_81, ↓spX1_stintThenRest, hp, hg, ef, G_1, G_2, G_3, G_4, G_35, G_36, G_37, G_38, G_39, G_40, G_41, G_42, G_43, G_44, G_45, G_46, G_47, G_48, G_49, G_140, G_141, G_142, G_143, G_144, G_145, G_146, G_178, G_179, G_180, G_181, G_182, G_183, G_184, G_189, G_198, G_207, PF_1_0, PF_1_1, PF_1_2, PF_1_3, PF_2_0, PF_2_1, PF_2_3, PF_2_4, PF_2_5, PF_2_6, PF_2_7, PF_2_8, PF_2_9, PF_2_10, PF_2_11, PF_3_0, PF_35_0, PF_35_1, PF_35_2, PF_35_3, PF_40_0, PF_40_1, PF_40_2, PF_44_0, PF_44_1, PF_44_2, PF_145_0, PF_145_1, PF_179_0, PF_179_1, PF_179_2, PF_179_3, PF_179_8, PF_179_9, PF_179_10]
    refine ⟨by omega, fun q => by omega, fun q => ⟨t, w, es, t0, t1, hw, by omega, by omega, by omega, hb, by omega, by omega, by omega, by omega, by omega, by omega, fun q2 => ?_, fun q2 => ?_⟩⟩
    · have := ih (by omega) (by omega) (fun l' a' b' => ?_)
      · rwa [show ((l + 1 : Nat) : Int) = ((l + 2 : Nat) : Int) + -1 by omega] at this
      · by_cases q3 : l' = l + 2
        · rw [q3]; exact fun z => q2 (b.mpr z)
        · exact h1 l' (by omega) b'
    · exact h (l + 2) l0 l1 (b.mp (by omega)) h1
set_option maxRecDepth 100000 in
set_option maxHeartbeats 800000 in
theorem mX1_longestStint : MOK yX1_longestStint cX1_longestStint 4 (some .int) rmX1_longestStint ciX1_longestStint := by
  refine mok_of (ini := false) (by decide +kernel) (by decide) rfl rfl ?_
  intro σ As K hrc hl h
  obtain ⟨N, P, I, L⟩ := σ
  have h9 := pR_iff.mp h
  clear h
  obtain ⟨a, r, e9, h⟩ := h9
  subst e9
  have h9 := pI_iff.mp h
  clear h
  obtain ⟨s, r, e9, h⟩ := h9
  subst e9
  have h9 := pI_iff.mp h
  clear h
  obtain ⟨n, r, e9, h⟩ := h9
  subst e9
  have h9 := pN_iff.mp h
  clear h
  obtain ⟨e9, h⟩ := h9
  subst e9
  dsimp only at h
  obtain ⟨rfl, rfl, t, w, m, lp, rfl, rfl, t0, t1, hw, m0, m1, hB, hs, ha, hf, h⟩ := h
  refine ⟨Nat.le_of_ble_eq_true rfl, Ok.seg mdX1_longestStint [2] 6 ?_⟩
  simp only [wp_nil, wp_cons, ↓stp, ↓lI, ↓lL, ↓lR, ↓lIn_0, ↓lIn_1, ↓lIn_2, ↓lIn_3, ↓lLn_0, ↓lLn_1, ↓lLn_2, ↓lLn_3, ↓lRn_0, ↓lRn_1, ↓lRn_2, ↓lRn_3, ↓pI, ↓pL, ↓pR, ↓pA, ↓pN, ↓pV, ↓fp, ↓tsw, ↓oS, ↓spMax, ↓spMin, ↓spAbs, ↓spObj, RI, RLg, b2i_lo, b2i_hi, getL, setL, ltL, killL, isLong, inl, cnd, br, tgt, rcv, rpl, mputI, mputL, mputP, fv, fr, mcat, mcs, entL, entA, rfit, nf_0, nf_1, nf_2, nf_3, nf2_0, nf2_1, b2i_0, b2i_1, RI_b2i, b2i_fit, List.append, List.length, List.replicate, List.cons_append, List.nil_append, List.length_cons, List.length_nil, List.replicate_succ, List.replicate_zero, List.tail_cons, reduceIte, if_true, if_false, ite_true, ite_false, Bool.false_eq_true, true_and, and_true, and_self, false_and, and_false, or_self, or_true, true_or, or_false, false_or, not_true_eq_false, not_false_eq_true, ne_eq, forall_const, implies_true, imp_self, true_implies, false_implies, Nat.reduceAdd, Nat.reduceSub, Nat.reduceMul, Nat.reduceDiv, Nat.reduceMod, Nat.reduceEqDiff, Nat.reduceLT, Nat.reduceLeDiff, Nat.reduceBEq, Nat.add_zero, Nat.zero_add, Nat.le_refl, Nat.not_lt_zero, Nat.succ_eq_add_one, Int.reduceNatCast, Int.cast_ofNat_Int, Int.reduceSub, Int.reduceMul, Int.reduceNeg, Int.reduceLE, Int.reduceLT, Int.reduceToNat, Int.reduceEq, Int.reduceNe, Int.reduceAdd, Option.some.injEq, kX1_longestStint, rmX1_longestStint, ↓ofX1_37, ↓ocX1_longestStint_81, ↓spX1_stintThenRest, G_1, G_2, G_3, G_4, G_35, G_36, G_37, G_38, G_39, G_40, G_41, G_42, G_43, G_44, G_45, G_46, G_47, G_48, G_49, G_140, G_141, G_142, G_143, G_144, G_145, G_146, G_178, G_179, G_180, G_181, G_182, G_183, G_184, G_189, G_198, G_207, PF_1_0, PF_1_1, PF_1_2, PF_1_3, PF_2_0, PF_2_1, PF_2_3, PF_2_4, PF_2_5, PF_2_6, PF_2_7, PF_2_8, PF_2_9, PF_2_10, PF_2_11, PF_3_0, PF_35_0, PF_35_1, PF_35_2, PF_35_3, PF_40_0, PF_40_1, PF_40_2, PF_44_0, PF_44_1, PF_44_2, PF_145_0, PF_145_1, PF_179_0, PF_179_1, PF_179_2, PF_179_3, PF_179_8, PF_179_9, PF_179_10]
  have fr := Fr_rng hB.1 hB.2.2 (by omega) t0 t1 hf.1
  refine lpX1_s1 (lp := lp) rfl t0 t1 hw m1 m0 hB.2.1 rfl (by omega) (fun l l0 l1 => ?_) ((Fr_stS m0).mp hf.1) (fun l a b c d => ⟨trivial, h l a b c d⟩) m m0 (Nat.le_refl _) (fun l' a b => by omega)
  obtain ⟨a, b, c⟩ := strV_Lst hB hs ha t0 t1 hw l0 l1 m1
  refine ⟨⟨b, c⟩, fun e => ?_, fun e => ?_⟩
  · rcases a.1 with q | q
    · omega
    · rwa [e] at q
  · have := a.2.2 _ e
    rcases a.1 with q | q
    · omega
    · have := hf.2 _ ((Fr_stS m0).mpr ⟨l, l0, l1, q⟩)
      omega
def spX1_nextState (As : List MV) (σ : MS) (K : Option MV → MS → Prop) : Prop := pR As fun a r => pI r fun s r => pI r fun n r => pN r (a = 179 ∧ σ.2.1 = PF ∧ ∃ (t w : Int) (m : Nat) (lp : Int → Int → Int), s = 2 * t + w ∧ n = m ∧ 0 ≤ t ∧ t ≤ 3 ∧ (w = 0 ∨ w = 1) ∧ 1 ≤ m ∧ m ≤ 40 ∧ rcB σ.2.2.1 lp ∧ frR σ.2.2.1 lp m ∧ Lt (Af lp (σ.2.2.1 179 4) (σ.2.2.1 179 11 ≠ 0) (m - 1) t w) (σ.2.2.1 (199 + s) m) ∧
  ∀ k, 0 ≤ k → k ≤ 3 → Fr lp (σ.2.2.1 179 4) (σ.2.2.1 179 11 ≠ 0) (m - 1) k (tw w t k) (σ.2.2.1 (199 + s) m) → σ.2.2.1 (190 + (2 * k + tw w t k)) m = σ.2.2.1 (199 + s) m → (∀ k', 0 ≤ k' → k' < k → ¬ Fr lp (σ.2.2.1 179 4) (σ.2.2.1 179 11 ≠ 0) (m - 1) k' (tw w t k') (σ.2.2.1 (199 + s) m)) → K (some (.inl (2 * k + tw w t k))) σ)
def ciX1_nextState : CI := (3, 1, 0, 0, spX1_nextState)
def kX1_nextState (pc : Nat) : List ME := match pc with
  | 0 => [(.iconst 0, 1, []), (.istore_n 3, 1, [])]
  | 2 => [(.iload_n 3, 1, []), (.iconst 4, 1, []), (.if_icmp .ge 38, 3, [42]), (.aload_n 0, 1, []), (.getfield 37, 3, []), (.iload_n 1, 1, []), (.iload_n 3, 1, []), (.invokestatic 88, 3, []), (.aaload, 1, []), (.iload_n 2, 1, []), (.iaload, 1, []), (.aload_n 0, 1, []), (.getfield 40, 3, []), (.iload_n 1, 1, []), (.aaload, 1, []), (.iload_n 2, 1, []), (.iaload, 1, []), (.if_icmp .ne 9, 3, [36]), (.iload_n 1, 1, []), (.iload_n 3, 1, []), (.invokestatic 88, 3, []), (.ireturn, 1, [])]
  | 36 => [(.iinc 3 1, 3, []), (.goto (-37), 3, [2])]
  | 42 => [(.iload_n 1, 1, []), (.ireturn, 1, [])]
  | _ => []
theorem qX1_nextState : ∀ pc, chk cX1_nextState pc (kX1_nextState pc) = true := by
  intro pc
  unfold kX1_nextState
  split <;> first | decide +kernel | exact chk_nil
abbrev rmX1_nextState : Room := { frames := 1, cells := 0, slots := 0, locals := 21 }
def aX1_nextState (x : Nat) : Option CI := match x with
  | 88 => some ciX1_stateOn
  | _ => none
theorem aokX1_nextState : ∀ x ci, aX1_nextState x = some ci → CalOK RX1 rmX1_nextState x ci := by
  intro x ci h
  unfold aX1_nextState at h
  split at h
  · cases h; exact cal_S mX1_stateOn rfl (List.forall_mem_cons.mpr ⟨(ws_mem (List.mem_of_getElem? (i := 599) (by decide +kernel)) (by decide +kernel)), List.forall_mem_cons.mpr ⟨(ws_mem (List.mem_of_getElem? (i := 600) (by decide +kernel)) (by decide +kernel)), List.forall_mem_cons.mpr ⟨(ws_mem (List.mem_of_getElem? (i := 62) (by decide +kernel)) (by decide +kernel)), List.forall_mem_cons.mpr ⟨(ws_mem (List.mem_of_getElem? (i := 601) (by decide +kernel)) (by decide +kernel)), fun _ h => absurd h List.not_mem_nil⟩⟩⟩⟩) rfl (by unfold nice; decide +kernel) (by unfold rfits; decide) ⟨rfl, rfl⟩
  · cases h
theorem ocX1_nextState_88 (f : Nat → Nat → Nat → Nat → (List MV → MS → (Option MV → MS → Prop) → Prop) → Prop) : oC aX1_nextState 88 f = f 2 10 0 0 spX1_stateOn := propext Iff.rfl
theorem mdX1_nextState : MD RX1 cX1_nextState rmX1_nextState kX1_nextState fX1 aX1_nextState zX1 uX1 := ⟨fokX1, zokX1, uokX1, aokX1_nextState, qX1_nextState⟩
set_option maxHeartbeats 1600000 in
set_option maxRecDepth 100000 in
theorem lpX1_n1 {post : Option MV → MS → Prop} {U : Pt → Prop} {N n : Nat} {I L : Int → Int → Int} {s t w : Int} {P : Int → Prop} (es : s = 2 * t + w) (t0 : 0 ≤ t) (t1 : t ≤ 3) (hw : w = 0 ∨ w = 1) (n1 : n ≤ 40) (hn : 1 ≤ n) (hv : ∀ k, 0 ≤ k → k ≤ 3 → (0 ≤ I (190 + (2 * k + tw w t k)) n ∧ I (190 + (2 * k + tw w t k)) n ≤ 536870912) ∧ (I (190 + (2 * k + tw w t k)) n = I (199 + s) n ↔ P k)) (hr : 0 ≤ I (199 + s) n ∧ I (199 + s) n < 536870912) (hx : ∃ k, 0 ≤ k ∧ k ≤ 3 ∧ P k)
    (h : ∀ k, 0 ≤ k → k ≤ 3 → P k → (∀ k', 0 ≤ k' → k' < k → ¬ P k') → post (some (.inl (2 * k + tw w t k))) (N, PF, I, L)) :
    ∀ (m : Nat) (k : Int), k + m = 4 → 0 ≤ k → (∀ k', 0 ≤ k' → k' < k → ¬ P k') →
    Ok RX1 cX1_nextState 4 rmX1_nextState false none post U (2, [some (.inr (.inr (some 179))), some (.inl s), some (.inl n), some (.inl k)], [], (N, PF, I, L), 0, 0)
  | 0, k, hm, k0, h1 => by
    obtain ⟨k', a, b, c⟩ := hx
    exact (h1 k' a (by omega) c).elim
  | m + 1, k, hm, k0, h1 => by
    have ih := lpX1_n1 (U := U) (post := post) es t0 t1 hw n1 hn hv hr hx h m (k + 1)
    have hz := tw_01 w t k
    have hp := PF_fresh (i := 2 * k + tw w t k) (by omega) (by omega)
    have hg := G_fresh (a := 190 + (2 * k + tw w t k)) (by omega) (by omega)
    have hp2 := PF_after (i := s) (by omega) (by omega)
    have hg2 := G_after (a := 199 + s) (by omega) (by omega)
    obtain ⟨a, b⟩ := hv k k0 (by omega)
    refine Ok.seg mdX1_nextState [2] 40 ?_
    simp only [wp_nil, wp_cons, ↓stp, ↓lI, ↓lL, ↓lR, ↓lIn_0, ↓lIn_1, ↓lIn_2, ↓lIn_3, ↓lLn_0, ↓lLn_1, ↓lLn_2, ↓lLn_3, ↓lRn_0, ↓lRn_1, ↓lRn_2, ↓lRn_3, ↓pI, ↓pL, ↓pR, ↓pA, ↓pN, ↓pV, ↓fp, ↓tsw, ↓oS, ↓spMax, ↓spMin, ↓spAbs, ↓spObj, RI, RLg, b2i_lo, b2i_hi, getL, setL, ltL, killL, isLong, inl, cnd, br, tgt, rcv, rpl, mputI, mputL, mputP, fv, fr, mcat, mcs, entL, entA, rfit, nf_0, nf_1, nf_2, nf_3, nf2_0, nf2_1, b2i_0, b2i_1, RI_b2i, b2i_fit, List.append, List.length, List.replicate, List.cons_append, List.nil_append, List.length_cons, List.length_nil, List.replicate_succ, List.replicate_zero, List.tail_cons, reduceIte, if_true, if_false, ite_true, ite_false, Bool.false_eq_true, true_and, and_true, and_self, false_and, and_false, or_self, or_true, true_or, or_false, false_or, not_true_eq_false, not_false_eq_true, ne_eq, forall_const, implies_true, imp_self, true_implies, false_implies, Nat.reduceAdd, Nat.reduceSub, Nat.reduceMul, Nat.reduceDiv, Nat.reduceMod, Nat.reduceEqDiff, Nat.reduceLT, Nat.reduceLeDiff, Nat.reduceBEq, Nat.add_zero, Nat.zero_add, Nat.le_refl, Nat.not_lt_zero, Nat.succ_eq_add_one, Int.reduceNatCast, Int.cast_ofNat_Int, Int.reduceSub, Int.reduceMul, Int.reduceNeg, Int.reduceLE, Int.reduceLT, Int.reduceToNat, Int.reduceEq, Int.reduceNe, Int.reduceAdd, Option.some.injEq, kX1_nextState, rmX1_nextState, ↓ofX1_37, ↓ofX1_40, ↓ocX1_nextState_88, ↓spX1_stateOn, G_1, G_2, G_3, G_4, G_35, G_36, G_37, G_38, G_39, G_40, G_41, G_42, G_43, G_44, G_45, G_46, G_47, G_48, G_49, G_140, G_141, G_142, G_143, G_144, G_145, G_146, G_178, G_179, G_180, G_181, G_182, G_183, G_184, G_189, G_198, G_207, PF_1_0, PF_1_1, PF_1_2, PF_1_3, PF_2_0, PF_2_1, PF_2_3, PF_2_4, PF_2_5, PF_2_6, PF_2_7, PF_2_8, PF_2_9, PF_2_10, PF_2_11, PF_3_0, PF_35_0, PF_35_1, PF_35_2, PF_35_3, PF_40_0, PF_40_1, PF_40_2, PF_44_0, PF_44_1, PF_44_2, PF_145_0, PF_145_1, PF_179_0, PF_179_1, PF_179_2, PF_179_3, PF_179_8, PF_179_9, PF_179_10]
    refine ⟨by omega, fun q => by omega, fun q => ⟨t, w, es, t0, t1, hw, by omega, by omega, ?_⟩⟩
    simp only [wp_nil, wp_cons, ↓stp, ↓lI, ↓lL, ↓lR, ↓lIn_0, ↓lIn_1, ↓lIn_2, ↓lIn_3, ↓lLn_0, ↓lLn_1, ↓lLn_2, ↓lLn_3, ↓lRn_0, ↓lRn_1, ↓lRn_2, ↓lRn_3, ↓pI, ↓pL, ↓pR, ↓pA, ↓pN, ↓pV, ↓fp, ↓tsw, ↓oS, ↓spMax, ↓spMin, ↓spAbs, ↓spObj, RI, RLg, b2i_lo, b2i_hi, getL, setL, ltL, killL, isLong, inl, cnd, br, tgt, rcv, rpl, mputI, mputL, mputP, fv, fr, mcat, mcs, entL, entA, rfit, nf_0, nf_1, nf_2, nf_3, nf2_0, nf2_1, b2i_0, b2i_1, RI_b2i, b2i_fit, List.append, List.length, List.replicate, List.cons_append, List.nil_append, List.length_cons, List.length_nil, List.replicate_succ, List.replicate_zero, List.tail_cons, reduceIte, if_true, if_false, ite_true, ite_false, Bool.false_eq_true, true_and, and_true, and_self, false_and, and_false, or_self, or_true, true_or, or_false, false_or, not_true_eq_false, not_false_eq_true, ne_eq, forall_const, implies_true, imp_self, true_implies, false_implies, Nat.reduceAdd, Nat.reduceSub, Nat.reduceMul, Nat.reduceDiv, Nat.reduceMod, Nat.reduceEqDiff, Nat.reduceLT, Nat.reduceLeDiff, Nat.reduceBEq, Nat.add_zero, Nat.zero_add, Nat.le_refl, Nat.not_lt_zero, Nat.succ_eq_add_one, Int.reduceNatCast, Int.cast_ofNat_Int, Int.reduceSub, Int.reduceMul, Int.reduceNeg, Int.reduceLE, Int.reduceLT, Int.reduceToNat, Int.reduceEq, Int.reduceNe, Int.reduceAdd, Option.some.injEq, kX1_nextState, rmX1_nextState, ↓ofX1_37, ↓ofX1_40, ↓ocX1_nextState_88, ↓spX1_stateOn, hp, hg, hp2, hg2, G_1, G_2, G_3, G_4, G_35, G_36, G_37, G_38, G_39, G_40, G_41, G_42, G_43, G_44, G_45, G_46, G_47, G_48, G_49, G_140, G_141, G_142, G_143, G_144, G_145, G_146, G_178, G_179, G_180, G_181, G_182, G_183, G_184, G_189, G_198, G_207, PF_1_0, PF_1_1, PF_1_2, PF_1_3, PF_2_0, PF_2_1, PF_2_3, PF_2_4, PF_2_5, PF_2_6, PF_2_7, PF_2_8, PF_2_9, PF_2_10, PF_2_11, PF_3_0, PF_35_0, PF_35_1, PF_35_2, PF_35_3, PF_40_0, PF_40_1, PF_40_2, PF_44_0, PF_44_1, PF_44_2, PF_145_0, PF_145_1, PF_179_0, PF_179_1, PF_179_2, PF_179_3, PF_179_8, PF_179_9, PF_179_10]
    refine ⟨by omega, by omega, by omega, by omega, by omega, by omega, by omega, by omega, by omega, by omega, fun q2 => ?_, fun q2 => ⟨t, w, es, t0, t1, hw, by omega, by omega, h k k0 (by omega) (b.mp (by omega)) h1⟩⟩
    refine ih (by omega) (by omega) (fun k' a' b' => ?_)
    by_cases q3 : k' = k
    · rw [q3]; exact fun z => q2 (b.mpr z)
    · exact h1 k' a' (by omega)
set_option maxRecDepth 100000 in
set_option maxHeartbeats 800000 in
theorem mX1_nextState : MOK yX1_nextState cX1_nextState 4 (some .int) rmX1_nextState ciX1_nextState := by
  refine mok_of (ini := false) (by decide +kernel) (by decide) rfl rfl ?_
  intro σ As K hrc hl h
  obtain ⟨N, P, I, L⟩ := σ
  have h9 := pR_iff.mp h
  clear h
  obtain ⟨a, r, e9, h⟩ := h9
  subst e9
  have h9 := pI_iff.mp h
  clear h
  obtain ⟨s, r, e9, h⟩ := h9
  subst e9
  have h9 := pI_iff.mp h
  clear h
  obtain ⟨n, r, e9, h⟩ := h9
  subst e9
  have h9 := pN_iff.mp h
  clear h
  obtain ⟨e9, h⟩ := h9
  subst e9
  dsimp only at h
  obtain ⟨rfl, rfl, t, w, m, lp, rfl, rfl, t0, t1, hw, m0, m1, hB, hf, hA, h⟩ := h
  refine ⟨Nat.le_of_ble_eq_true rfl, Ok.seg mdX1_nextState [2] 6 ?_⟩
  simp only [wp_nil, wp_cons, ↓stp, ↓lI, ↓lL, ↓lR, ↓lIn_0, ↓lIn_1, ↓lIn_2, ↓lIn_3, ↓lLn_0, ↓lLn_1, ↓lLn_2, ↓lLn_3, ↓lRn_0, ↓lRn_1, ↓lRn_2, ↓lRn_3, ↓pI, ↓pL, ↓pR, ↓pA, ↓pN, ↓pV, ↓fp, ↓tsw, ↓oS, ↓spMax, ↓spMin, ↓spAbs, ↓spObj, RI, RLg, b2i_lo, b2i_hi, getL, setL, ltL, killL, isLong, inl, cnd, br, tgt, rcv, rpl, mputI, mputL, mputP, fv, fr, mcat, mcs, entL, entA, rfit, nf_0, nf_1, nf_2, nf_3, nf2_0, nf2_1, b2i_0, b2i_1, RI_b2i, b2i_fit, List.append, List.length, List.replicate, List.cons_append, List.nil_append, List.length_cons, List.length_nil, List.replicate_succ, List.replicate_zero, List.tail_cons, reduceIte, if_true, if_false, ite_true, ite_false, Bool.false_eq_true, true_and, and_true, and_self, false_and, and_false, or_self, or_true, true_or, or_false, false_or, not_true_eq_false, not_false_eq_true, ne_eq, forall_const, implies_true, imp_self, true_implies, false_implies, Nat.reduceAdd, Nat.reduceSub, Nat.reduceMul, Nat.reduceDiv, Nat.reduceMod, Nat.reduceEqDiff, Nat.reduceLT, Nat.reduceLeDiff, Nat.reduceBEq, Nat.add_zero, Nat.zero_add, Nat.le_refl, Nat.not_lt_zero, Nat.succ_eq_add_one, Int.reduceNatCast, Int.cast_ofNat_Int, Int.reduceSub, Int.reduceMul, Int.reduceNeg, Int.reduceLE, Int.reduceLT, Int.reduceToNat, Int.reduceEq, Int.reduceNe, Int.reduceAdd, Option.some.injEq, kX1_nextState, rmX1_nextState, ↓ofX1_37, ↓ofX1_40, ↓ocX1_nextState_88, ↓spX1_stateOn, G_1, G_2, G_3, G_4, G_35, G_36, G_37, G_38, G_39, G_40, G_41, G_42, G_43, G_44, G_45, G_46, G_47, G_48, G_49, G_140, G_141, G_142, G_143, G_144, G_145, G_146, G_178, G_179, G_180, G_181, G_182, G_183, G_184, G_189, G_198, G_207, PF_1_0, PF_1_1, PF_1_2, PF_1_3, PF_2_0, PF_2_1, PF_2_3, PF_2_4, PF_2_5, PF_2_6, PF_2_7, PF_2_8, PF_2_9, PF_2_10, PF_2_11, PF_3_0, PF_35_0, PF_35_1, PF_35_2, PF_35_3, PF_40_0, PF_40_1, PF_40_2, PF_44_0, PF_44_1, PF_44_2, PF_145_0, PF_145_1, PF_179_0, PF_179_1, PF_179_2, PF_179_3, PF_179_8, PF_179_9, PF_179_10]
  have ar := Af_rng hB.1 hB.2.2 (by omega) hA.1
  have key : ∀ k, 0 ≤ k → k ≤ 3 → (I (190 + (2 * k + tw w t k)) m = I (199 + (2 * t + w)) m ↔ Fr lp (I 179 4) (I 179 11 ≠ 0) (m - 1) k (tw w t k) (I (199 + (2 * t + w)) m)) := fun k k0 k1 => by
    have a := hf k (tw w t k) k0 k1 (tw_01 _ _ _)
    refine ⟨fun e => ?_, fun e => ?_⟩
    · rcases a.1 with q | q
      · omega
      · rwa [e] at q
    · have := a.2.2 _ e
      rcases a.1 with q | q
      · omega
      · have := hA.2 _ ⟨k, k0, k1, q⟩
        omega
  refine lpX1_n1 (P := fun k => Fr lp (I 179 4) (I 179 11 ≠ 0) (m - 1) k (tw w t k) (I (199 + (2 * t + w)) m)) rfl t0 t1 hw m1 m0 (fun k k0 k1 => ⟨frV hB m0 m1 k0 k1 (hf k _ k0 k1 (tw_01 _ _ _)), key k k0 k1⟩) (by omega) ?_ (fun k a b c d => ⟨trivial, h k a b c ((key k a b).mpr c) d⟩) 4 0 (by omega) (by omega) (fun k a b => by omega)
  obtain ⟨k, k0, k1, q⟩ := hA.1
  exact ⟨k, k0, k1, q⟩
