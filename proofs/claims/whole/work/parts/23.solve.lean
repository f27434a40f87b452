/-! LapBoard$Ways: leastLap, solve -/
theorem Lst.join {S S' T : Int → Prop} {F v r c m : Int} (h : Lst S F v) (hT : Lst T F r) (hc : 0 ≤ c) (e : ∀ y, S' y ↔ S y ∨ ∃ t, T t ∧ y = c + t) (h1 : m ≤ v) (h2 : m ≤ c + r) (h3 : m = v ∨ m = c + r) : Lst S' F m := by
  obtain ⟨a, b, d⟩ := h
  obtain ⟨a', b', d'⟩ := hT
  refine ⟨?_, by omega, fun x hx => ?_⟩
  · by_cases q : m = v
    · rw [q]; exact a.imp id (fun z => (e _).mpr (.inl z))
    · rcases a' with a' | a'
      · omega
      · exact .inr ((e _).mpr (.inr ⟨r, a', by omega⟩))
  · rcases (e x).mp hx with q | ⟨t, q, q2⟩
    · have := d x q; omega
    · have := d' t q; omega
/-- t may be the time of a lap -/
def LapI (I : Int → Int → Int) (bk st t : Int) : Prop := ∃ l p t', 0 ≤ l ∧ l ≤ 2 ∧ (1 ≤ p ∧ p ≤ st ∧ p ≤ I 48 l) ∧ AchI I bk (kk I 0) 0 l p t' ∧ t = tmv (I 5 1) 0 p + t'
def lapS (I : Int → Int → Int) (bk st x p t : Int) : Prop := ∃ l q t', 0 ≤ l ∧ l ≤ 2 ∧ (l < x ∨ l = x ∧ q < p) ∧ (1 ≤ q ∧ q ≤ st ∧ q ≤ I 48 l) ∧ AchI I bk (kk I 0) 0 l q t' ∧ t = tmv (I 5 1) 0 q + t'
def lapV (I : Int → Int → Int) (bk st v : Int) : Prop := 0 ≤ v ∧ (I 3 1 = 0 → v = 0) ∧ (0 < I 3 1 → Lst (LapI I bk st) 536870912 v)
def spX7_leastLap (As : List MV) (σ : MS) (K : Option MV → MS → Prop) : Prop := pR As fun s r => pI r fun st r => pN r (s = 2 ∧ σ.2.1 = PF ∧ 1 ≤ st ∧ st ≤ 60 ∧ tOK σ.2.2.1 ∧ limR σ.2.2.1 ∧ ∃ bk, (∀ l, 0 < σ.2.2.1 3 1 → 0 ≤ l → l ≤ 2 → rowOK σ.2.2.1 bk 0 l) ∧
  ∀ v, lapV σ.2.2.1 bk st v → K (some (.inl v)) σ)
def ciX7_leastLap : CI := (2, 7, 0, 0, spX7_leastLap)
def kX7_leastLap (pc : Nat) : List ME := match pc with
  | 0 => [(.aload_n 0, 1, []), (.getfield 12, 3, []), (.getfield 108, 3, []), (.ifCond .le 8, 3, [15]), (.ldc 139, 2, []), (.goto 4, 3, [16])]
  | 15 => [(.iconst 0, 1, [])]
  | 16 => [(.istore_n 2, 1, []), (.iconst 0, 1, []), (.istore_n 3, 1, [])]
  | 19 => [(.aload_n 0, 1, []), (.getfield 12, 3, []), (.getfield 108, 3, []), (.ifCond .le 68, 3, [94]), (.iload_n 3, 1, []), (.iconst 3, 1, []), (.if_icmp .ge 63, 3, [94]), (.iconst 1, 1, []), (.istore 4, 2, [])]
  | 37 => [(.iload 4, 2, []), (.iload_n 1, 1, []), (.aload_n 0, 1, []), (.getfield 35, 3, []), (.iload_n 3, 1, []), (.iaload, 1, []), (.invokestatic 114, 3, []), (.if_icmp .gt 39, 3, [88]), (.iload_n 2, 1, []), (.aload_n 0, 1, []), (.getfield 12, 3, []), (.getfield 87, 3, []), (.iconst 0, 1, []), (.aaload, 1, []), (.iload 4, 2, []), (.iconst 0, 1, []), (.invokevirtual 143, 3, []), (.aload_n 0, 1, []), (.getfield 41, 3, []), (.iload_n 3, 1, []), (.aaload, 1, []), (.iload 4, 2, []), (.iaload, 1, []), (.iadd, 1, []), (.invokestatic 114, 3, []), (.istore_n 2, 1, []), (.iinc 4 1, 3, []), (.goto (-48), 3, [37])]
  | 88 => [(.iinc 3 1, 3, []), (.goto (-72), 3, [19])]
  | 94 => [(.iload_n 2, 1, []), (.ireturn, 1, [])]
  | _ => []
theorem qX7_leastLap : ∀ pc, chk cX7_leastLap pc (kX7_leastLap pc) = true := by
  intro pc
  unfold kX7_leastLap
  split <;> first | decide +kernel | exact chk_nil
abbrev rmX7_leastLap : Room := { frames := 1, cells := 0, slots := 0, locals := 23 }
def aX7_leastLap (x : Nat) : Option CI := match x with
  | 114 => some ciMin
  | 143 => some ciX3_timeAt
  | _ => none
theorem aokX7_leastLap : ∀ x ci, aX7_leastLap x = some ci → CalOK RX7 rmX7_leastLap x ci := by
  intro x ci h
  unfold aX7_leastLap at h
  split at h
  · cases h; exact cal_min (List.forall_mem_cons.mpr ⟨(ws_mem (List.mem_of_getElem? (i := 489) (by decide +kernel)) (by decide +kernel)), List.forall_mem_cons.mpr ⟨(ws_mem (List.mem_of_getElem? (i := 154) (by decide +kernel)) (by decide +kernel)), List.forall_mem_cons.mpr ⟨(ws_mem (List.mem_of_getElem? (i := 58) (by decide +kernel)) (by decide +kernel)), List.forall_mem_cons.mpr ⟨(ws_mem (List.mem_of_getElem? (i := 155) (by decide +kernel)) (by decide +kernel)), fun _ h => absurd h List.not_mem_nil⟩⟩⟩⟩) (by decide)
  · cases h; exact cal_V mX3_timeAt (by decide) rfl (List.forall_mem_cons.mpr ⟨(ws_mem (List.mem_of_getElem? (i := 488) (by decide +kernel)) (by decide +kernel)), List.forall_mem_cons.mpr ⟨(ws_mem (List.mem_of_getElem? (i := 458) (by decide +kernel)) (by decide +kernel)), List.forall_mem_cons.mpr ⟨(ws_mem (List.mem_of_getElem? (i := 459) (by decide +kernel)) (by decide +kernel)), List.forall_mem_cons.mpr ⟨(ws_mem (List.mem_of_getElem? (i := 56) (by decide +kernel)) (by decide +kernel)), List.forall_mem_cons.mpr ⟨(ws_mem (List.mem_of_getElem? (i := 460) (by decide +kernel)) (by decide +kernel)), fun _ h => absurd h List.not_mem_nil⟩⟩⟩⟩⟩) rfl (by unfold nice; decide +kernel) (by unfold rfits; decide) ⟨rfl, rfl⟩
  · cases h
theorem ocX7_leastLap_114 (f : Nat → Nat → Nat → Nat → (List MV → MS → (Option MV → MS → Prop) → Prop) → Prop) : oC aX7_leastLap 114 f = f 2 10 0 0 spMin := propext Iff.rfl
theorem ocX7_leastLap_143 (f : Nat → Nat → Nat → Nat → (List MV → MS → (Option MV → MS → Prop) → Prop) → Prop) : oC aX7_leastLap 143 f = f 3 3 0 0 spX3_timeAt := propext Iff.rfl
theorem mdX7_leastLap : MD RX7 cX7_leastLap rmX7_leastLap kX7_leastLap fX7 aX7_leastLap zX7 uX7 := ⟨fokX7, zokX7, uokX7, aokX7_leastLap, qX7_leastLap⟩
theorem lapS_s {I : Int → Int → Int} {bk st x p : Int} (x0 : 0 ≤ x) (x1 : x ≤ 2) (hp : 1 ≤ p ∧ p ≤ st ∧ p ≤ I 48 x) (y : Int) : lapS I bk st x (p + 1) y ↔ lapS I bk st x p y ∨ ∃ t, AchI I bk (kk I 0) 0 x p t ∧ y = tmv (I 5 1) 0 p + t := by
  unfold lapS
  constructor
  · rintro ⟨l, q, t', a, b, c, d, e, f⟩
    by_cases g : l = x ∧ q = p
    · obtain ⟨rfl, rfl⟩ := g; exact .inr ⟨t', e, f⟩
    · exact .inl ⟨l, q, t', a, b, by omega, d, e, f⟩
  · rintro (⟨l, q, t', a, b, c, d, e, f⟩ | ⟨t, e, f⟩)
    · exact ⟨l, q, t', a, b, by omega, d, e, f⟩
    · exact ⟨x, p, t, x0, x1, by omega, hp, e, f⟩
set_option maxHeartbeats 1600000 in
set_option maxRecDepth 100000 in
theorem lpX7_l1 {post : Option MV → MS → Prop} {U : Pt → Prop} {N : Nat} {I L : Int → Int → Int} {st bk x : Int} (s0 : 1 ≤ st) (s1 : st ≤ 60) (ht : tOK I) (hl : limR I) (hR : ∀ l, 0 ≤ l → l ≤ 2 → rowOK I bk 0 l) (hn : 0 < I 3 1) (x0 : 0 ≤ x) (x1 : x ≤ 2)
    (h : ∀ (v : Int) (t : Option MV), 0 ≤ v → Lst (lapS I bk st (x + 1) 1) 536870912 v → Ok RX7 cX7_leastLap 5 rmX7_leastLap false none post U (19, [some (.inr (.inr (some 2))), some (.inl st), some (.inl v), some (.inl (x + 1)), t], [], (N, PF, I, L), 0, 0)) :
    ∀ (m : Nat) (p v : Int), p + m = 61 → 1 ≤ p → 0 ≤ v → Lst (lapS I bk st x p) 536870912 v →
    Ok RX7 cX7_leastLap 5 rmX7_leastLap false none post U (37, [some (.inr (.inr (some 2))), some (.inl st), some (.inl v), some (.inl x), some (.inl p)], [], (N, PF, I, L), 0, 0)
  | m, p, v, hm, p1, v0, h1 => by
    have hlx := hl 0 x (by omega) (by omega) x0 x1
    rw [show 3 * 0 + x = x by omega] at hlx
    have fin : st < p ∨ I 48 x < p → Ok RX7 cX7_leastLap 5 rmX7_leastLap false none post U (19, [some (.inr (.inr (some 2))), some (.inl st), some (.inl v), some (.inl (x + 1)), some (.inl p)], [], (N, PF, I, L), 0, 0) := fun q => by
      refine h v _ v0 (h1.cg (fun y => ?_))
      unfold lapS
      constructor
      · rintro ⟨l, q, t', a, b, c, d, e, f⟩
        exact ⟨l, q, t', a, b, by by_cases g : l = x; subst g; omega; omega, d, e, f⟩
      · rintro ⟨l, q, t', a, b, c, d, e, f⟩
        exact ⟨l, q, t', a, b, by omega, d, e, f⟩
    have hg5 := G_st (a := 5) (by omega) (by omega)
    have hp5 : PF 4 0 = some 5 := PF_st (i := 0) (by omega) (by omega)
    have hpr : PF 49 x = some (50 + x) := PF_rest (i := x) (by omega) (by omega)
    have hgr := G_row (a := 50 + x) (by omega) (by omega)
    have hst : stOK I 5 := ht.2.2 0 (by omega) hn
    rcases m with _ | m
    · refine Ok.seg mdX7_leastLap [19, 37] 14 ?_
      simp only [wp_nil, wp_cons, ↓stp, ↓lI, ↓lL, ↓lR, ↓lIn_0, ↓lIn_1, ↓lIn_2, ↓lIn_3, ↓lLn_0, ↓lLn_1, ↓lLn_2, ↓lLn_3, ↓lRn_0, ↓lRn_1, ↓lRn_2, ↓lRn_3, ↓pI, ↓pL, ↓pR, ↓pA, ↓pN, ↓pV, ↓fp, ↓tsw, ↓oS, ↓spMax, ↓spMin, ↓spAbs, ↓spObj, RI, RLg, b2i_lo, b2i_hi, getL, setL, ltL, killL, isLong, inl, cnd, br, tgt, rcv, rpl, mputI, mputL, mputP, fv, fr, mcat, mcs, entL, entA, rfit, nf_0, nf_1, nf_2, nf_3, nf2_0, nf2_1, b2i_0, b2i_1, RI_b2i, b2i_fit, List.append, List.length, List.replicate, List.cons_append, List.nil_append, List.length_cons, List.length_nil, List.replicate_succ, List.replicate_zero, List.tail_cons, reduceIte, if_true, if_false, ite_true, ite_false, Bool.false_eq_true, true_and, and_true, and_self, false_and, and_false, or_self, or_true, true_or, or_false, false_or, not_true_eq_false, not_false_eq_true, ne_eq, forall_const, implies_true, imp_self, true_implies, false_implies, Nat.reduceAdd, Nat.reduceSub, Nat.reduceMul, Nat.reduceDiv, Nat.reduceMod, Nat.reduceEqDiff, Nat.reduceLT, Nat.reduceLeDiff, Nat.reduceBEq, Nat.add_zero, Nat.zero_add, Nat.le_refl, Nat.not_lt_zero, Nat.succ_eq_add_one, Int.reduceNatCast, Int.cast_ofNat_Int, Int.reduceSub, Int.reduceMul, Int.reduceNeg, Int.reduceLE, Int.reduceLT, Int.reduceToNat, Int.reduceEq, Int.reduceNe, Int.reduceAdd, Option.some.injEq, kX7_leastLap, rmX7_leastLap, ↓ofX7_108, ↓ofX7_12, ↓ofX7_35, ↓ofX7_41, ↓ofX7_87, ↓ozX7_139, ↓ocX7_leastLap_114, ↓ocX7_leastLap_143, ↓spX3_timeAt, hg5, hp5, hpr, hgr, hst, G_1, G_2, G_3, G_4, G_35, G_36, G_37, G_38, G_39, G_40, G_41, G_42, G_43, G_44, G_45, G_46, G_47, G_48, G_49, G_140, G_141, G_142, G_143, G_144, G_145, G_146, G_178, G_179, G_180, G_181, G_182, G_183, G_184, G_189, G_198, G_207, PF_1_0, PF_1_1, PF_1_2, PF_1_3, PF_2_0, PF_2_1, PF_2_3, PF_2_4, PF_2_5, PF_2_6, PF_2_7, PF_2_8, PF_2_9, PF_2_10, PF_2_11, PF_3_0, PF_35_0, PF_35_1, PF_35_2, PF_35_3, PF_40_0, PF_40_1, PF_40_2, PF_44_0, PF_44_1, PF_44_2, PF_145_0, PF_145_1, PF_179_0, PF_179_1, PF_179_2, PF_179_3, PF_179_8, PF_179_9, PF_179_10]
      have hv := h1.2.1
      refine ⟨by omega, by omega, by omega, by omega, fun r r1 r2 r3 => ⟨by omega, by omega, fun q => fin (by omega), fun q => by omega⟩⟩
    · have ih := lpX7_l1 (U := U) s0 s1 ht hl hR hn x0 x1 h m (p + 1)
      refine Ok.seg mdX7_leastLap [19, 37] 40 ?_
      simp only [wp_nil, wp_cons, ↓stp, ↓lI, ↓lL, ↓lR, ↓lIn_0, ↓lIn_1, ↓lIn_2, ↓lIn_3, ↓lLn_0, ↓lLn_1, ↓lLn_2, ↓lLn_3, ↓lRn_0, ↓lRn_1, ↓lRn_2, ↓lRn_3, ↓pI, ↓pL, ↓pR, ↓pA, ↓pN, ↓pV, ↓fp, ↓tsw, ↓oS, ↓spMax, ↓spMin, ↓spAbs, ↓spObj, RI, RLg, b2i_lo, b2i_hi, getL, setL, ltL, killL, isLong, inl, cnd, br, tgt, rcv, rpl, mputI, mputL, mputP, fv, fr, mcat, mcs, entL, entA, rfit, nf_0, nf_1, nf_2, nf_3, nf2_0, nf2_1, b2i_0, b2i_1, RI_b2i, b2i_fit, List.append, List.length, List.replicate, List.cons_append, List.nil_append, List.length_cons, List.length_nil, List.replicate_succ, List.replicate_zero, List.tail_cons, reduceIte, if_true, if_false, ite_true, ite_false, Bool.false_eq_true, true_and, and_true, and_self, false_and, and_false, or_self, or_true, true_or, or_false, false_or, not_true_eq_false, not_false_eq_true, ne_eq, forall_const, implies_true, imp_self, true_implies, false_implies, Nat.reduceAdd, Nat.reduceSub, Nat.reduceMul, Nat.reduceDiv, Nat.reduceMod, Nat.reduceEqDiff, Nat.reduceLT, Nat.reduceLeDiff, Nat.reduceBEq, Nat.add_zero, Nat.zero_add, Nat.le_refl, Nat.not_lt_zero, Nat.succ_eq_add_one, Int.reduceNatCast, Int.cast_ofNat_Int, Int.reduceSub, Int.reduceMul, Int.reduceNeg, Int.reduceLE, Int.reduceLT, Int.reduceToNat, Int.reduceEq, Int.reduceNe, Int.reduceAdd, Option.some.injEq, kX7_leastLap, rmX7_leastLap, ↓ofX7_108, ↓ofX7_12, ↓ofX7_35, ↓ofX7_41, ↓ofX7_87, ↓ozX7_139, ↓ocX7_leastLap_114, ↓ocX7_leastLap_143, ↓spX3_timeAt, hg5, hp5, hpr, hgr, hst, G_1, G_2, G_3, G_4, G_35, G_36, G_37, G_38, G_39, G_40, G_41, G_42, G_43, G_44, G_45, G_46, G_47, G_48, G_49, G_140, G_141, G_142, G_143, G_144, G_145, G_146, G_178, G_179, G_180, G_181, G_182, G_183, G_184, G_189, G_198, G_207, PF_1_0, PF_1_1, PF_1_2, PF_1_3, PF_2_0, PF_2_1, PF_2_3, PF_2_4, PF_2_5, PF_2_6, PF_2_7, PF_2_8, PF_2_9, PF_2_10, PF_2_11, PF_3_0, PF_35_0, PF_35_1, PF_35_2, PF_35_3, PF_40_0, PF_40_1, PF_40_2, PF_44_0, PF_44_1, PF_44_2, PF_145_0, PF_145_1, PF_179_0, PF_179_1, PF_179_2, PF_179_3, PF_179_8, PF_179_9, PF_179_10]
      have hv := h1.2.1
      have hs := hst
      unfold stOK at hs
      have htm := tmv_rng (len := I 5 1) (ch := 0) (p := p) (by omega) (by omega) p1
      have hr0 := hR x x0 x1 p p1 (by omega)
      rw [show 50 + (3 * 0 + x) = 50 + x by omega] at hr0
      have hrF := hr0.2.2.1
      refine ⟨by omega, by omega, by omega, by omega, fun r r1 r2 r3 => ⟨by omega, by omega, fun q => fin (by omega), fun q => ⟨by omega, by omega, by omega, by omega, by omega, by omega, by omega, by omega, fun z z1 z2 z3 => ?_⟩⟩⟩
      exact ih z (by omega) (by omega) (by omega) (h1.join hr0.2 htm.1 (lapS_s x0 x1 ⟨p1, by omega, by omega⟩) z1 z2 z3)
set_option maxHeartbeats 1600000 in
set_option maxRecDepth 100000 in
theorem lpX7_l2 {K : Option MV → MS → Prop} {U : Pt → Prop} {N : Nat} {I L : Int → Int → Int} {st bk : Int} (s0 : 1 ≤ st) (s1 : st ≤ 60) (ht : tOK I) (hl : limR I) (hR : ∀ l, 0 ≤ l → l ≤ 2 → rowOK I bk 0 l) (hn : 0 < I 3 1)
    (h : ∀ v, lapV I bk st v → K (some (.inl v)) (N, PF, I, L)) :
    ∀ (m : Nat) (x v : Int) (t : Option MV), x + m = 3 → 0 ≤ x → 0 ≤ v → Lst (lapS I bk st x 1) 536870912 v →
    Ok RX7 cX7_leastLap 5 rmX7_leastLap false none (fun r σ' => rfit (some .int) r ∧ K r σ') U (19, [some (.inr (.inr (some 2))), some (.inl st), some (.inl v), some (.inl x), t], [], (N, PF, I, L), 0, 0)
  | 0, x, v, t, hm, x0, v0, h1 => by
    have h3 := ht.2.1
    refine Ok.seg mdX7_leastLap [19, 37] 14 ?_
    simp only [wp_nil, wp_cons, ↓stp, ↓lI, ↓lL, ↓lR, ↓lIn_0, ↓lIn_1, ↓lIn_2, ↓lIn_3, ↓lLn_0, ↓lLn_1, ↓lLn_2, ↓lLn_3, ↓lRn_0, ↓lRn_1, ↓lRn_2, ↓lRn_3, ↓pI, ↓pL, ↓pR, ↓pA, ↓pN, ↓pV, ↓fp, ↓tsw, ↓oS, ↓spMax, ↓spMin, ↓spAbs, ↓spObj, RI, RLg, b2i_lo, b2i_hi, getL, setL, ltL, killL, isLong, inl, cnd, br, tgt, rcv, rpl, mputI, mputL, mputP, fv, fr, mcat, mcs, entL, entA, rfit, nf_0, nf_1, nf_2, nf_3, nf2_0, nf2_1, b2i_0, b2i_1, RI_b2i, b2i_fit, List.append, List.length, List.replicate, List.cons_append, List.nil_append, List.length_cons, List.length_nil, List.replicate_succ, List.replicate_zero, List.tail_cons, reduceIte, if_true, if_false, ite_true, ite_false, Bool.false_eq_true, true_and, and_true, and_self, false_and, and_false, or_self, or_true, true_or, or_false, false_or, not_true_eq_false, not_false_eq_true, ne_eq, forall_const, implies_true, imp_self, true_implies, false_implies, Nat.reduceAdd, Nat.reduceSub, Nat.reduceMul, Nat.reduceDiv, Nat.reduceMod, Nat.reduceEqDiff, Nat.reduceLT, Nat.reduceLeDiff, Nat.reduceBEq, Nat.add_zero, Nat.zero_add, Nat.le_refl, Nat.not_lt_zero, Nat.succ_eq_add_one, Int.reduceNatCast, Int.cast_ofNat_Int, Int.reduceSub, Int.reduceMul, Int.reduceNeg, Int.reduceLE, Int.reduceLT, Int.reduceToNat, Int.reduceEq, Int.reduceNe, Int.reduceAdd, Option.some.injEq, kX7_leastLap, rmX7_leastLap, ↓ofX7_108, ↓ofX7_12, ↓ofX7_35, ↓ofX7_41, ↓ofX7_87, ↓ozX7_139, ↓ocX7_leastLap_114, ↓ocX7_leastLap_143, ↓spX3_timeAt, G_1, G_2, G_3, G_4, G_35, G_36, G_37, G_38, G_39, G_40, G_41, G_42, G_43, G_44, G_45, G_46, G_47, G_48, G_49, G_140, G_141, G_142, G_143, G_144, G_145, G_146, G_178, G_179, G_180, G_181, G_182, G_183, G_184, G_189, G_198, G_207, PF_1_0, PF_1_1, PF_1_2, PF_1_3, PF_2_0, PF_2_1, PF_2_3, PF_2_4, PF_2_5, PF_2_6, PF_2_7, PF_2_8, PF_2_9, PF_2_10, PF_2_11, PF_3_0, PF_35_0, PF_35_1, PF_35_2, PF_35_3, PF_40_0, PF_40_1, PF_40_2, PF_44_0, PF_44_1, PF_44_2, PF_145_0, PF_145_1, PF_179_0, PF_179_1, PF_179_2, PF_179_3, PF_179_8, PF_179_9, PF_179_10]
    refine ⟨by omega, fun q => by omega, fun q => ⟨by omega, fun q => h v ⟨v0, fun z => by omega, fun _ => h1.cg (fun y => ?_)⟩, fun q => by omega⟩⟩
    unfold lapS LapI
    constructor
    · rintro ⟨l, p, t', a, b, c, d, e⟩; exact ⟨l, p, t', a, b, by omega, c, d, e⟩
    · rintro ⟨l, p, t', a, b, _, c, d, e⟩; exact ⟨l, p, t', a, b, c, d, e⟩
  | m + 1, x, v, t, hm, x0, v0, h1 => by
    have h3 := ht.2.1
    have ih := lpX7_l2 (U := U) (K := K) s0 s1 ht hl hR hn h m (x + 1)
    refine Ok.seg mdX7_leastLap [19, 37] 14 ?_
    simp only [wp_nil, wp_cons, ↓stp, ↓lI, ↓lL, ↓lR, ↓lIn_0, ↓lIn_1, ↓lIn_2, ↓lIn_3, ↓lLn_0, ↓lLn_1, ↓lLn_2, ↓lLn_3, ↓lRn_0, ↓lRn_1, ↓lRn_2, ↓lRn_3, ↓pI, ↓pL, ↓pR, ↓pA, ↓pN, ↓pV, ↓fp, ↓tsw, ↓oS, ↓spMax, ↓spMin, ↓spAbs, ↓spObj, RI, RLg, b2i_lo, b2i_hi, getL, setL, ltL, killL, isLong, inl, cnd, br, tgt, rcv, rpl, mputI, mputL, mputP, fv, fr, mcat, mcs, entL, entA, rfit, nf_0, nf_1, nf_2, nf_3, nf2_0, nf2_1, b2i_0, b2i_1, RI_b2i, b2i_fit, List.append, List.length, List.replicate, List.cons_append, List.nil_append, List.length_cons, List.length_nil, List.replicate_succ, List.replicate_zero, List.tail_cons, reduceIte, if_true, if_false, ite_true, ite_false, Bool.false_eq_true, true_and, and_true, and_self, false_and, and_false, or_self, or_true, true_or, or_false, false_or, not_true_eq_false, not_false_eq_true, ne_eq, forall_const, implies_true, imp_self, true_implies, false_implies, Nat.reduceAdd, Nat.reduceSub, Nat.reduceMul, Nat.reduceDiv, Nat.reduceMod, Nat.reduceEqDiff, Nat.reduceLT, Nat.reduceLeDiff, Nat.reduceBEq, Nat.add_zero, Nat.zero_add, Nat.le_refl, Nat.not_lt_zero, Nat.succ_eq_add_one, Int.reduceNatCast, Int.cast_ofNat_Int, Int.reduceSub, Int.reduceMul, Int.reduceNeg, Int.reduceLE, Int.reduceLT, Int.reduceToNat, Int.reduceEq, Int.reduceNe, Int.reduceAdd, Option.some.injEq, kX7_leastLap, rmX7_leastLap, ↓ofX7_108, ↓ofX7_12, ↓ofX7_35, ↓ofX7_41, ↓ofX7_87, ↓ozX7_139, ↓ocX7_leastLap_114, ↓ocX7_leastLap_143, ↓spX3_timeAt, G_1, G_2, G_3, G_4, G_35, G_36, G_37, G_38, G_39, G_40, G_41, G_42, G_43, G_44, G_45, G_46, G_47, G_48, G_49, G_140, G_141, G_142, G_143, G_144, G_145, G_146, G_178, G_179, G_180, G_181, G_182, G_183, G_184, G_189, G_198, G_207, PF_1_0, PF_1_1, PF_1_2, PF_1_3, PF_2_0, PF_2_1, PF_2_3, PF_2_4, PF_2_5, PF_2_6, PF_2_7, PF_2_8, PF_2_9, PF_2_10, PF_2_11, PF_3_0, PF_35_0, PF_35_1, PF_35_2, PF_35_3, PF_40_0, PF_40_1, PF_40_2, PF_44_0, PF_44_1, PF_44_2, PF_145_0, PF_145_1, PF_179_0, PF_179_1, PF_179_2, PF_179_3, PF_179_8, PF_179_9, PF_179_10]
    refine ⟨by omega, fun q => by omega, fun q => ⟨by omega, fun q => by omega, fun q => ?_⟩⟩
    exact lpX7_l1 s0 s1 ht hl hR hn x0 (by omega) (fun v t v0 h => ih v t (by omega) (by omega) v0 h) 60 1 v (by omega) (by omega) v0 h1
set_option maxRecDepth 100000 in
set_option maxHeartbeats 800000 in
theorem mX7_leastLap : MOK yX7_leastLap cX7_leastLap 5 (some .int) rmX7_leastLap ciX7_leastLap := by
  refine mok_of (ini := false) (by decide +kernel) (by decide) rfl rfl ?_
  intro σ As K hrc hl h
  obtain ⟨N, P, I, L⟩ := σ
  have h9 := pR_iff.mp h
  clear h
  obtain ⟨s, r, e9, h⟩ := h9
  subst e9
  have h9 := pI_iff.mp h
  clear h
  obtain ⟨st, r, e9, h⟩ := h9
  subst e9
  have h9 := pN_iff.mp h
  clear h
  obtain ⟨e9, h⟩ := h9
  subst e9
  dsimp only at h
  obtain ⟨rfl, rfl, s0, s1, ht, hl, bk, hR, h⟩ := h
  have h3 := ht.1
  have h4 := ht.2.1
  refine ⟨Nat.le_of_ble_eq_true rfl, Ok.seg mdX7_leastLap [19] 12 ?_⟩
  simp only [wp_nil, wp_cons, ↓stp, ↓lI, ↓lL, ↓lR, ↓lIn_0, ↓lIn_1, ↓lIn_2, ↓lIn_3, ↓lLn_0, ↓lLn_1, ↓lLn_2, ↓lLn_3, ↓lRn_0, ↓lRn_1, ↓lRn_2, ↓lRn_3, ↓pI, ↓pL, ↓pR, ↓pA, ↓pN, ↓pV, ↓fp, ↓tsw, ↓oS, ↓spMax, ↓spMin, ↓spAbs, ↓spObj, RI, RLg, b2i_lo, b2i_hi, getL, setL, ltL, killL, isLong, inl, cnd, br, tgt, rcv, rpl, mputI, mputL, mputP, fv, fr, mcat, mcs, entL, entA, rfit, nf_0, nf_1, nf_2, nf_3, nf2_0, nf2_1, b2i_0, b2i_1, RI_b2i, b2i_fit, List.append, List.length, List.replicate, List.cons_append, List.nil_append, List.length_cons, List.length_nil, List.replicate_succ, List.replicate_zero, List.tail_cons, reduceIte, if_true, if_false, ite_true, ite_false, Bool.false_eq_true, true_and, and_true, and_self, false_and, and_false, or_self, or_true, true_or, or_false, false_or, not_true_eq_false, not_false_eq_true, ne_eq, forall_const, implies_true, imp_self, true_implies, false_implies, Nat.reduceAdd, Nat.reduceSub, Nat.reduceMul, Nat.reduceDiv, Nat.reduceMod, Nat.reduceEqDiff, Nat.reduceLT, Nat.reduceLeDiff, Nat.reduceBEq, Nat.add_zero, Nat.zero_add, Nat.le_refl, Nat.not_lt_zero, Nat.succ_eq_add_one, Int.reduceNatCast, Int.cast_ofNat_Int, Int.reduceSub, Int.reduceMul, Int.reduceNeg, Int.reduceLE, Int.reduceLT, Int.reduceToNat, Int.reduceEq, Int.reduceNe, Int.reduceAdd, Option.some.injEq, kX7_leastLap, rmX7_leastLap, ↓ofX7_108, ↓ofX7_12, ↓ofX7_35, ↓ofX7_41, ↓ofX7_87, ↓ozX7_139, ↓ocX7_leastLap_114, ↓ocX7_leastLap_143, ↓spX3_timeAt, G_1, G_2, G_3, G_4, G_35, G_36, G_37, G_38, G_39, G_40, G_41, G_42, G_43, G_44, G_45, G_46, G_47, G_48, G_49, G_140, G_141, G_142, G_143, G_144, G_145, G_146, G_178, G_179, G_180, G_181, G_182, G_183, G_184, G_189, G_198, G_207, PF_1_0, PF_1_1, PF_1_2, PF_1_3, PF_2_0, PF_2_1, PF_2_3, PF_2_4, PF_2_5, PF_2_6, PF_2_7, PF_2_8, PF_2_9, PF_2_10, PF_2_11, PF_3_0, PF_35_0, PF_35_1, PF_35_2, PF_35_3, PF_40_0, PF_40_1, PF_40_2, PF_44_0, PF_44_1, PF_44_2, PF_145_0, PF_145_1, PF_179_0, PF_179_1, PF_179_2, PF_179_3, PF_179_8, PF_179_9, PF_179_10]
  refine ⟨by omega, fun q => ?_, fun q => ?_⟩
  · refine Ok.seg mdX7_leastLap [] 14 ?_
    simp only [wp_nil, wp_cons, ↓stp, ↓lI, ↓lL, ↓lR, ↓lIn_0, ↓lIn_1, ↓lIn_2, ↓lIn_3, ↓lLn_0, ↓lLn_1, ↓lLn_2, ↓lLn_3, ↓lRn_0, ↓lRn_1, ↓lRn_2, ↓lRn_3, ↓pI, ↓pL, ↓pR, ↓pA, ↓pN, ↓pV, ↓fp, ↓tsw, ↓oS, ↓spMax, ↓spMin, ↓spAbs, ↓spObj, RI, RLg, b2i_lo, b2i_hi, getL, setL, ltL, killL, isLong, inl, cnd, br, tgt, rcv, rpl, mputI, mputL, mputP, fv, fr, mcat, mcs, entL, entA, rfit, nf_0, nf_1, nf_2, nf_3, nf2_0, nf2_1, b2i_0, b2i_1, RI_b2i, b2i_fit, List.append, List.length, List.replicate, List.cons_append, List.nil_append, List.length_cons, List.length_nil, List.replicate_succ, List.replicate_zero, List.tail_cons, reduceIte, if_true, if_false, ite_true, ite_false, Bool.false_eq_true, true_and, and_true, and_self, false_and, and_false, or_self, or_true, true_or, or_false, false_or, not_true_eq_false, not_false_eq_true, ne_eq, forall_const, implies_true, imp_self, true_implies, false_implies, Nat.reduceAdd, Nat.reduceSub, Nat.reduceMul, Nat.reduceDiv, Nat.reduceMod, Nat.reduceEqDiff, Nat.reduceLT, Nat.reduceLeDiff, Nat.reduceBEq, Nat.add_zero, Nat.zero_add, Nat.le_refl, Nat.not_lt_zero, Nat.succ_eq_add_one, Int.reduceNatCast, Int.cast_ofNat_Int, Int.reduceSub, Int.reduceMul, Int.reduceNeg, Int.reduceLE, Int.reduceLT, Int.reduceToNat, Int.reduceEq, Int.reduceNe, Int.reduceAdd, Option.some.injEq, kX7_leastLap, rmX7_leastLap, ↓ofX7_108, ↓ofX7_12, ↓ofX7_35, ↓ofX7_41, ↓ofX7_87, ↓ozX7_139, ↓ocX7_leastLap_114, ↓ocX7_leastLap_143, ↓spX3_timeAt, G_1, G_2, G_3, G_4, G_35, G_36, G_37, G_38, G_39, G_40, G_41, G_42, G_43, G_44, G_45, G_46, G_47, G_48, G_49, G_140, G_141, G_142, G_143, G_144, G_145, G_146, G_178, G_179, G_180, G_181, G_182, G_183, G_184, G_189, G_198, G_207, PF_1_0, PF_1_1, PF_1_2, PF_1_3, PF_2_0, PF_2_1, PF_2_3, PF_2_4, PF_2_5, PF_2_6, PF_2_7, PF_2_8, PF_2_9, PF_2_10, PF_2_11, PF_3_0, PF_35_0, PF_35_1, PF_35_2, PF_35_3, PF_40_0, PF_40_1, PF_40_2, PF_44_0, PF_44_1, PF_44_2, PF_145_0, PF_145_1, PF_179_0, PF_179_1, PF_179_2, PF_179_3, PF_179_8, PF_179_9, PF_179_10]
    exact ⟨by omega, fun q => h 0 ⟨by omega, fun _ => rfl, fun z => by omega⟩, fun q => by omega⟩
  · refine lpX7_l2 s0 s1 ht hl (fun l => hR l (by omega)) (by omega) h 3 0 _ none (by omega) (by omega) (by omega) (Lst.none (fun y => ?_))
    rintro ⟨l, p, t', a, b, c, d, e⟩
    omega
/-- all limits by a grip -/
def limOK (I : Int → Int → Int) (g : Int) : Prop := ∀ i l, 0 ≤ i → i < I 3 1 → 0 ≤ l → l ≤ 2 → I 48 (3 * i + l) = lmv I g i l
theorem limOK.R {I : Int → Int → Int} {g : Int} (h : limOK I g) : limR I := fun i l a b c d => by rw [h i l a b c d]; exact lim_rng _ _ _ _ _
/-- rows and limits stand -/
def slvOK (I : Int → Int → Int) (g bk : Int) : Prop := limOK I g ∧ ∀ i l, 0 ≤ i → i < I 3 1 → 0 ≤ l → l ≤ 2 → rowOK I bk i l
def spX7_solve (As : List MV) (σ : MS) (K : Option MV → MS → Prop) : Prop := pR As fun s r => pI r fun g r => pI r fun bk r => pI r fun st r => pN r (s = 2 ∧ σ.2.1 = PF ∧ -20 ≤ g ∧ g ≤ 20 ∧ 1 ≤ bk ∧ bk ≤ 30 ∧ 1 ≤ st ∧ st ≤ 60 ∧ tOK σ.2.2.1 ∧ carOK σ.2.2.1 ∧
  ∀ (I' : Int → Int → Int) (v : Int), (∀ b k, b ≠ 48 → b ≠ 140 → b ≠ 141 → ¬ (50 ≤ b ∧ b ≤ 139) → I' b k = σ.2.2.1 b k) → slvOK I' g bk → lapV I' bk st v → K (some (.inl v)) (σ.1, σ.2.1, I', σ.2.2.2))
def ciX7_solve : CI := (4, 7, 0, 0, spX7_solve)
def kX7_solve (pc : Nat) : List ME := match pc with
  | 0 => [(.iconst 0, 1, []), (.istore 4, 2, [])]
  | 3 => [(.iload 4, 2, []), (.aload_n 0, 1, []), (.getfield 12, 3, []), (.getfield 108, 3, []), (.if_icmp .ge 16, 3, [28]), (.aload_n 0, 1, []), (.iload 4, 2, []), (.iload_n 1, 1, []), (.invokevirtual 120, 3, []), (.iinc 4 1, 3, []), (.goto (-22), 3, [3])]
  | 28 => [(.aload_n 0, 1, []), (.aload_n 0, 1, []), (.getfield 12, 3, []), (.getfield 108, 3, []), (.iconst 1, 1, []), (.isub, 1, []), (.iload_n 2, 1, []), (.invokevirtual 124, 3, []), (.aload_n 0, 1, []), (.iload_n 3, 1, []), (.invokevirtual 127, 3, []), (.ireturn, 1, [])]
  | _ => []
theorem qX7_solve : ∀ pc, chk cX7_solve pc (kX7_solve pc) = true := by
  intro pc
  unfold kX7_solve
  split <;> first | decide +kernel | exact chk_nil
abbrev rmX7_solve : Room := { frames := 3, cells := 0, slots := 0, locals := 75 }
def aX7_solve (x : Nat) : Option CI := match x with
  | 120 => some ciX7_fillLimits
  | 124 => some ciX7_fillRests
  | 127 => some ciX7_leastLap
  | _ => none
theorem aokX7_solve : ∀ x ci, aX7_solve x = some ci → CalOK RX7 rmX7_solve x ci := by
  intro x ci h
  unfold aX7_solve at h
  split at h
  · cases h; exact cal_V mX7_fillLimits (by decide) rfl (List.forall_mem_cons.mpr ⟨(ws_mem (List.mem_of_getElem? (i := 473) (by decide +kernel)) (by decide +kernel)), List.forall_mem_cons.mpr ⟨(ws_mem (List.mem_of_getElem? (i := 475) (by decide +kernel)) (by decide +kernel)), List.forall_mem_cons.mpr ⟨(ws_mem (List.mem_of_getElem? (i := 4) (by decide +kernel)) (by decide +kernel)), List.forall_mem_cons.mpr ⟨(ws_mem (List.mem_of_getElem? (i := 54) (by decide +kernel)) (by decide +kernel)), List.forall_mem_cons.mpr ⟨(ws_mem (List.mem_of_getElem? (i := 476) (by decide +kernel)) (by decide +kernel)), fun _ h => absurd h List.not_mem_nil⟩⟩⟩⟩⟩) rfl (by unfold nice; decide +kernel) (by unfold rfits; decide) ⟨rfl, rfl⟩
  · cases h; exact cal_V mX7_fillRests (by decide) rfl (List.forall_mem_cons.mpr ⟨(ws_mem (List.mem_of_getElem? (i := 478) (by decide +kernel)) (by decide +kernel)), List.forall_mem_cons.mpr ⟨(ws_mem (List.mem_of_getElem? (i := 480) (by decide +kernel)) (by decide +kernel)), List.forall_mem_cons.mpr ⟨(ws_mem (List.mem_of_getElem? (i := 5) (by decide +kernel)) (by decide +kernel)), List.forall_mem_cons.mpr ⟨(ws_mem (List.mem_of_getElem? (i := 54) (by decide +kernel)) (by decide +kernel)), List.forall_mem_cons.mpr ⟨(ws_mem (List.mem_of_getElem? (i := 481) (by decide +kernel)) (by decide +kernel)), fun _ h => absurd h List.not_mem_nil⟩⟩⟩⟩⟩) rfl (by unfold nice; decide +kernel) (by unfold rfits; decide) ⟨rfl, rfl⟩
  · cases h; exact cal_V mX7_leastLap (by decide) rfl (List.forall_mem_cons.mpr ⟨(ws_mem (List.mem_of_getElem? (i := 494) (by decide +kernel)) (by decide +kernel)), List.forall_mem_cons.mpr ⟨(ws_mem (List.mem_of_getElem? (i := 496) (by decide +kernel)) (by decide +kernel)), List.forall_mem_cons.mpr ⟨(ws_mem (List.mem_of_getElem? (i := 8) (by decide +kernel)) (by decide +kernel)), List.forall_mem_cons.mpr ⟨(ws_mem (List.mem_of_getElem? (i := 54) (by decide +kernel)) (by decide +kernel)), List.forall_mem_cons.mpr ⟨(ws_mem (List.mem_of_getElem? (i := 497) (by decide +kernel)) (by decide +kernel)), fun _ h => absurd h List.not_mem_nil⟩⟩⟩⟩⟩) rfl (by unfold nice; decide +kernel) (by unfold rfits; decide) ⟨rfl, rfl⟩
  · cases h
theorem ocX7_solve_120 (f : Nat → Nat → Nat → Nat → (List MV → MS → (Option MV → MS → Prop) → Prop) → Prop) : oC aX7_solve 120 f = f 3 7 0 0 spX7_fillLimits := propext Iff.rfl
theorem ocX7_solve_124 (f : Nat → Nat → Nat → Nat → (List MV → MS → (Option MV → MS → Prop) → Prop) → Prop) : oC aX7_solve 124 f = f 3 7 0 0 spX7_fillRests := propext Iff.rfl
theorem ocX7_solve_127 (f : Nat → Nat → Nat → Nat → (List MV → MS → (Option MV → MS → Prop) → Prop) → Prop) : oC aX7_solve 127 f = f 2 7 0 0 spX7_leastLap := propext Iff.rfl
theorem mdX7_solve : MD RX7 cX7_solve rmX7_solve kX7_solve fX7 aX7_solve zX7 uX7 := ⟨fokX7, zokX7, uokX7, aokX7_solve, qX7_solve⟩
theorem lmv_cg {I J : Int → Int → Int} {g i l : Int} (h : ∀ k, J (5 + i) k = I (5 + i) k) : lmv J g i l = lmv I g i l := by unfold lmv; rw [h, h, h]
set_option maxHeartbeats 1600000 in
set_option maxRecDepth 100000 in
theorem lpX7_s1 {post : Option MV → MS → Prop} {U : Pt → Prop} {N : Nat} {I L : Int → Int → Int} {g bk st : Int} (ht : tOK I) (hg : -20 ≤ g ∧ g ≤ 20)
    (h : ∀ (I1 : Int → Int → Int), (∀ b k, b ≠ 48 → I1 b k = I b k) → limOK I1 g → Ok RX7 cX7_solve 5 rmX7_solve false none post U (28, [some (.inr (.inr (some 2))), some (.inl g), some (.inl bk), some (.inl st), some (.inl (I 3 1))], [], (N, PF, I1, L), 0, 0)) :
    ∀ (m : Nat) (i : Int) (I1 : Int → Int → Int), i + m = I 3 1 → 0 ≤ i → (∀ b k, b ≠ 48 → I1 b k = I b k) → (∀ j l, 0 ≤ j → j < i → 0 ≤ l → l ≤ 2 → I1 48 (3 * j + l) = lmv I g j l) →
    Ok RX7 cX7_solve 5 rmX7_solve false none post U (3, [some (.inr (.inr (some 2))), some (.inl g), some (.inl bk), some (.inl st), some (.inl i)], [], (N, PF, I1, L), 0, 0)
  | 0, i, I1, hm, i0, h1, h2 => by
    have h3 := ht.2.1
    have e31 : I1 3 1 = I 3 1 := h1 3 1 (by omega)
    refine Ok.seg mdX7_solve [3, 28] 14 ?_
    simp only [wp_nil, wp_cons, ↓stp, ↓lI, ↓lL, ↓lR, ↓lIn_0, ↓lIn_1, ↓lIn_2, ↓lIn_3, ↓lLn_0, ↓lLn_1, ↓lLn_2, ↓lLn_3, ↓lRn_0, ↓lRn_1, ↓lRn_2, ↓lRn_3, ↓pI, ↓pL, ↓pR, ↓pA, ↓pN, ↓pV, ↓fp, ↓tsw, ↓oS, ↓spMax, ↓spMin, ↓spAbs, ↓spObj, RI, RLg, b2i_lo, b2i_hi, getL, setL, ltL, killL, isLong, inl, cnd, br, tgt, rcv, rpl, mputI, mputL, mputP, fv, fr, mcat, mcs, entL, entA, rfit, nf_0, nf_1, nf_2, nf_3, nf2_0, nf2_1, b2i_0, b2i_1, RI_b2i, b2i_fit, List.append, List.length, List.replicate, List.cons_append, List.nil_append, List.length_cons, List.length_nil, List.replicate_succ, List.replicate_zero, List.tail_cons, reduceIte, if_true, if_false, ite_true, ite_false, Bool.false_eq_true, true_and, and_true, and_self, false_and, and_false, or_self, or_true, true_or, or_false, false_or, not_true_eq_false, not_false_eq_true, ne_eq, forall_const, implies_true, imp_self, true_implies, false_implies, Nat.reduceAdd, Nat.reduceSub, Nat.reduceMul, Nat.reduceDiv, Nat.reduceMod, Nat.reduceEqDiff, Nat.reduceLT, Nat.reduceLeDiff, Nat.reduceBEq, Nat.add_zero, Nat.zero_add, Nat.le_refl, Nat.not_lt_zero, Nat.succ_eq_add_one, Int.reduceNatCast, Int.cast_ofNat_Int, Int.reduceSub, Int.reduceMul, Int.reduceNeg, Int.reduceLE, Int.reduceLT, Int.reduceToNat, Int.reduceEq, Int.reduceNe, Int.reduceAdd, Option.some.injEq, kX7_solve, rmX7_solve, ↓ofX7_108, ↓ofX7_12, ↓ocX7_solve_120, ↓spX7_fillLimits, ↓ocX7_solve_124, ↓spX7_fillRests, ↓ocX7_solve_127, ↓spX7_leastLap, e31, G_1, G_2, G_3, G_4, G_35, G_36, G_37, G_38, G_39, G_40, G_41, G_42, G_43, G_44, G_45, G_46, G_47, G_48, G_49, G_140, G_141, G_142, G_143, G_144, G_145, G_146, G_178, G_179, G_180, G_181, G_182, G_183, G_184, G_189, G_198, G_207, PF_1_0, PF_1_1, PF_1_2, PF_1_3, PF_2_0, PF_2_1, PF_2_3, PF_2_4, PF_2_5, PF_2_6, PF_2_7, PF_2_8, PF_2_9, PF_2_10, PF_2_11, PF_3_0, PF_35_0, PF_35_1, PF_35_2, PF_35_3, PF_40_0, PF_40_1, PF_40_2, PF_44_0, PF_44_1, PF_44_2, PF_145_0, PF_145_1, PF_179_0, PF_179_1, PF_179_2, PF_179_3, PF_179_8, PF_179_9, PF_179_10]
    refine ⟨by omega, by omega, fun q => ?_, fun q => by omega⟩
    rw [show i = I 3 1 by omega]
    refine h I1 h1 (fun j l a b c d => ?_)
    rw [h2 j l a (by omega) c d]
    exact (lmv_cg (fun k => h1 _ k (by omega))).symm
  | m + 1, i, I1, hm, i0, h1, h2 => by
    have h3 := ht.2.1
    have ih := lpX7_s1 (U := U) ht hg h m (i + 1)
    have e31 : I1 3 1 = I 3 1 := h1 3 1 (by omega)
    have hst : stOK I1 (5 + i) := stOK_cg (fun k => h1 _ k (by omega)) (ht.2.2 i i0 (by omega))
    refine Ok.seg mdX7_solve [3, 28] 18 ?_
    simp only [wp_nil, wp_cons, ↓stp, ↓lI, ↓lL, ↓lR, ↓lIn_0, ↓lIn_1, ↓lIn_2, ↓lIn_3, ↓lLn_0, ↓lLn_1, ↓lLn_2, ↓lLn_3, ↓lRn_0, ↓lRn_1, ↓lRn_2, ↓lRn_3, ↓pI, ↓pL, ↓pR, ↓pA, ↓pN, ↓pV, ↓fp, ↓tsw, ↓oS, ↓spMax, ↓spMin, ↓spAbs, ↓spObj, RI, RLg, b2i_lo, b2i_hi, getL, setL, ltL, killL, isLong, inl, cnd, br, tgt, rcv, rpl, mputI, mputL, mputP, fv, fr, mcat, mcs, entL, entA, rfit, nf_0, nf_1, nf_2, nf_3, nf2_0, nf2_1, b2i_0, b2i_1, RI_b2i, b2i_fit, List.append, List.length, List.replicate, List.cons_append, List.nil_append, List.length_cons, List.length_nil, List.replicate_succ, List.replicate_zero, List.tail_cons, reduceIte, if_true, if_false, ite_true, ite_false, Bool.false_eq_true, true_and, and_true, and_self, false_and, and_false, or_self, or_true, true_or, or_false, false_or, not_true_eq_false, not_false_eq_true, ne_eq, forall_const, implies_true, imp_self, true_implies, false_implies, Nat.reduceAdd, Nat.reduceSub, Nat.reduceMul, Nat.reduceDiv, Nat.reduceMod, Nat.reduceEqDiff, Nat.reduceLT, Nat.reduceLeDiff, Nat.reduceBEq, Nat.add_zero, Nat.zero_add, Nat.le_refl, Nat.not_lt_zero, Nat.succ_eq_add_one, Int.reduceNatCast, Int.cast_ofNat_Int, Int.reduceSub, Int.reduceMul, Int.reduceNeg, Int.reduceLE, Int.reduceLT, Int.reduceToNat, Int.reduceEq, Int.reduceNe, Int.reduceAdd, Option.some.injEq, kX7_solve, rmX7_solve, ↓ofX7_108, ↓ofX7_12, ↓ocX7_solve_120, ↓spX7_fillLimits, ↓ocX7_solve_124, ↓spX7_fillRests, ↓ocX7_solve_127, ↓spX7_leastLap, e31, hst, G_1, G_2, G_3, G_4, G_35, G_36, G_37, G_38, G_39, G_40, G_41, G_42, G_43, G_44, G_45, G_46, G_47, G_48, G_49, G_140, G_141, G_142, G_143, G_144, G_145, G_146, G_178, G_179, G_180, G_181, G_182, G_183, G_184, G_189, G_198, G_207, PF_1_0, PF_1_1, PF_1_2, PF_1_3, PF_2_0, PF_2_1, PF_2_3, PF_2_4, PF_2_5, PF_2_6, PF_2_7, PF_2_8, PF_2_9, PF_2_10, PF_2_11, PF_3_0, PF_35_0, PF_35_1, PF_35_2, PF_35_3, PF_40_0, PF_40_1, PF_40_2, PF_44_0, PF_44_1, PF_44_2, PF_145_0, PF_145_1, PF_179_0, PF_179_1, PF_179_2, PF_179_3, PF_179_8, PF_179_9, PF_179_10]
    refine ⟨by omega, by omega, fun q => by omega, fun q => ⟨i0, by omega, by omega, by omega, fun J j1 j2 => ih J (by omega) (by omega) (fun b k hb => by rw [j1 b k (by omega)]; exact h1 b k hb) (fun j l a b c d => ?_)⟩⟩
    by_cases e : j = i
    · subst e
      rw [j2 l c d]; exact lmv_cg (fun k => h1 _ k (by omega))
    · rw [j1 48 _ (by omega)]; exact h2 j l a (by omega) c d
theorem limOK_cg {I J : Int → Int → Int} {g : Int} (hs : rsame I J) (h3 : I 3 1 ≤ 30) (h : limOK I g) : limOK J g := fun i l a b c d => by
  rw [hs.1 3 1 (by omega)] at b
  rw [hs.2, h i l a b c d]
  exact (lmv_cg (fun k => hs.1 _ k (by omega))).symm
theorem slv_frame {I J : Int → Int → Int} (h : ∀ b k, b ≠ 48 → b ≠ 140 → b ≠ 141 → ¬ (50 ≤ b ∧ b ≤ 139) → J b k = I b k) : ∀ b k, b < 40 → J b k = I b k := fun b k hb => h b k (by omega) (by omega) (by omega) (by omega)
set_option maxRecDepth 100000 in
set_option maxHeartbeats 800000 in
theorem mX7_solve : MOK yX7_solve cX7_solve 5 (some .int) rmX7_solve ciX7_solve := by
  refine mok_of (ini := false) (by decide +kernel) (by decide) rfl rfl ?_
  intro σ As K hrc hl h
  obtain ⟨N, P, I, L⟩ := σ
  have h9 := pR_iff.mp h
  clear h
  obtain ⟨s, r, e9, h⟩ := h9
  subst e9
  have h9 := pI_iff.mp h
  clear h
  obtain ⟨g, r, e9, h⟩ := h9
  subst e9
  have h9 := pI_iff.mp h
  clear h
  obtain ⟨bk, r, e9, h⟩ := h9
  subst e9
  have h9 := pI_iff.mp h
  clear h
  obtain ⟨st, r, e9, h⟩ := h9
  subst e9
  have h9 := pN_iff.mp h
  clear h
  obtain ⟨e9, h⟩ := h9
  subst e9
  dsimp only at h
  obtain ⟨rfl, rfl, g0, g1, b0, b1, s0, s1, ht, hc, h⟩ := h
  have h3 := ht.1
  have h4 := ht.2.1
  refine ⟨Nat.le_of_ble_eq_true rfl, Ok.seg mdX7_solve [3, 28] 6 ?_⟩
  simp only [wp_nil, wp_cons, ↓stp, ↓lI, ↓lL, ↓lR, ↓lIn_0, ↓lIn_1, ↓lIn_2, ↓lIn_3, ↓lLn_0, ↓lLn_1, ↓lLn_2, ↓lLn_3, ↓lRn_0, ↓lRn_1, ↓lRn_2, ↓lRn_3, ↓pI, ↓pL, ↓pR, ↓pA, ↓pN, ↓pV, ↓fp, ↓tsw, ↓oS, ↓spMax, ↓spMin, ↓spAbs, ↓spObj, RI, RLg, b2i_lo, b2i_hi, getL, setL, ltL, killL, isLong, inl, cnd, br, tgt, rcv, rpl, mputI, mputL, mputP, fv, fr, mcat, mcs, entL, entA, rfit, nf_0, nf_1, nf_2, nf_3, nf2_0, nf2_1, b2i_0, b2i_1, RI_b2i, b2i_fit, List.append, List.length, List.replicate, List.cons_append, List.nil_append, List.length_cons, List.length_nil, List.replicate_succ, List.replicate_zero, List.tail_cons, reduceIte, if_true, if_false, ite_true, ite_false, Bool.false_eq_true, true_and, and_true, and_self, false_and, and_false, or_self, or_true, true_or, or_false, false_or, not_true_eq_false, not_false_eq_true, ne_eq, forall_const, implies_true, imp_self, true_implies, false_implies, Nat.reduceAdd, Nat.reduceSub, Nat.reduceMul, Nat.reduceDiv, Nat.reduceMod, Nat.reduceEqDiff, Nat.reduceLT, Nat.reduceLeDiff, Nat.reduceBEq, Nat.add_zero, Nat.zero_add, Nat.le_refl, Nat.not_lt_zero, Nat.succ_eq_add_one, Int.reduceNatCast, Int.cast_ofNat_Int, Int.reduceSub, Int.reduceMul, Int.reduceNeg, Int.reduceLE, Int.reduceLT, Int.reduceToNat, Int.reduceEq, Int.reduceNe, Int.reduceAdd, Option.some.injEq, kX7_solve, rmX7_solve, ↓ofX7_108, ↓ofX7_12, ↓ocX7_solve_120, ↓spX7_fillLimits, ↓ocX7_solve_124, ↓spX7_fillRests, ↓ocX7_solve_127, ↓spX7_leastLap, G_1, G_2, G_3, G_4, G_35, G_36, G_37, G_38, G_39, G_40, G_41, G_42, G_43, G_44, G_45, G_46, G_47, G_48, G_49, G_140, G_141, G_142, G_143, G_144, G_145, G_146, G_178, G_179, G_180, G_181, G_182, G_183, G_184, G_189, G_198, G_207, PF_1_0, PF_1_1, PF_1_2, PF_1_3, PF_2_0, PF_2_1, PF_2_3, PF_2_4, PF_2_5, PF_2_6, PF_2_7, PF_2_8, PF_2_9, PF_2_10, PF_2_11, PF_3_0, PF_35_0, PF_35_1, PF_35_2, PF_35_3, PF_40_0, PF_40_1, PF_40_2, PF_44_0, PF_44_1, PF_44_2, PF_145_0, PF_145_1, PF_179_0, PF_179_1, PF_179_2, PF_179_3, PF_179_8, PF_179_9, PF_179_10]
  refine lpX7_s1 ht ⟨g0, g1⟩ (fun I1 h1 h2 => ?_) (I 3 1).toNat 0 I (by omega) (by omega) (fun _ _ _ => rfl) (fun j l a b => by omega)
  have e31 : I1 3 1 = I 3 1 := h1 3 1 (by omega)
  have ht1 := tOK_cg (J := I1) (fun b k hb => h1 b k (by omega)) ht
  have hc1 := carOK_cg (J := I1) (fun b k hb => h1 b k (by omega)) hc
  refine Ok.seg mdX7_solve [3, 28] 20 ?_
  simp only [wp_nil, wp_cons, ↓stp, ↓lI, ↓lL, ↓lR, ↓lIn_0, ↓lIn_1, ↓lIn_2, ↓lIn_3, ↓lLn_0, ↓lLn_1, ↓lLn_2, ↓lLn_3, ↓lRn_0, ↓lRn_1, ↓lRn_2, ↓lRn_3, ↓pI, ↓pL, ↓pR, ↓pA, ↓pN, ↓pV, ↓fp, ↓tsw, ↓oS, ↓spMax, ↓spMin, ↓spAbs, ↓spObj, RI, RLg, b2i_lo, b2i_hi, getL, setL, ltL, killL, isLong, inl, cnd, br, tgt, rcv, rpl, mputI, mputL, mputP, fv, fr, mcat, mcs, entL, entA, rfit, nf_0, nf_1, nf_2, nf_3, nf2_0, nf2_1, b2i_0, b2i_1, RI_b2i, b2i_fit, List.append, List.length, List.replicate, List.cons_append, List.nil_append, List.length_cons, List.length_nil, List.replicate_succ, List.replicate_zero, List.tail_cons, reduceIte, if_true, if_false, ite_true, ite_false, Bool.false_eq_true, true_and, and_true, and_self, false_and, and_false, or_self, or_true, true_or, or_false, false_or, not_true_eq_false, not_false_eq_true, ne_eq, forall_const, implies_true, imp_self, true_implies, false_implies, Nat.reduceAdd, Nat.reduceSub, Nat.reduceMul, Nat.reduceDiv, Nat.reduceMod, Nat.reduceEqDiff, Nat.reduceLT, Nat.reduceLeDiff, Nat.reduceBEq, Nat.add_zero, Nat.zero_add, Nat.le_refl, Nat.not_lt_zero, Nat.succ_eq_add_one, Int.reduceNatCast, Int.cast_ofNat_Int, Int.reduceSub, Int.reduceMul, Int.reduceNeg, Int.reduceLE, Int.reduceLT, Int.reduceToNat, Int.reduceEq, Int.reduceNe, Int.reduceAdd, Option.some.injEq, kX7_solve, rmX7_solve, ↓ofX7_108, ↓ofX7_12, ↓ocX7_solve_120, ↓spX7_fillLimits, ↓ocX7_solve_124, ↓spX7_fillRests, ↓ocX7_solve_127, ↓spX7_leastLap, e31, ht1, hc1, h2.R, G_1, G_2, G_3, G_4, G_35, G_36, G_37, G_38, G_39, G_40, G_41, G_42, G_43, G_44, G_45, G_46, G_47, G_48, G_49, G_140, G_141, G_142, G_143, G_144, G_145, G_146, G_178, G_179, G_180, G_181, G_182, G_183, G_184, G_189, G_198, G_207, PF_1_0, PF_1_1, PF_1_2, PF_1_3, PF_2_0, PF_2_1, PF_2_3, PF_2_4, PF_2_5, PF_2_6, PF_2_7, PF_2_8, PF_2_9, PF_2_10, PF_2_11, PF_3_0, PF_35_0, PF_35_1, PF_35_2, PF_35_3, PF_40_0, PF_40_1, PF_40_2, PF_44_0, PF_44_1, PF_44_2, PF_145_0, PF_145_1, PF_179_0, PF_179_1, PF_179_2, PF_179_3, PF_179_8, PF_179_9, PF_179_10]
  refine ⟨by omega, by omega, b0, b1, fun i l a b c d => by omega, fun I' k1 k2 k3 => ?_⟩
  have hs : rsame I1 I' := ⟨fun b k hb => k1 b k (by omega) (by omega) (by omega), fun k => k1 _ k (by omega) (by omega) (by omega)⟩
  have e32 : I' 3 1 = I 3 1 := (hs.1 3 1 (by omega)).trans e31
  have hlo := limOK_cg hs (by omega) h2
  refine ⟨s0, s1, tOK_cg hs.1 ht1, hlo.R, bk, fun l z a b => k2 0 l (by omega) (by omega) a b, fun v hv => ?_⟩
  exact h I' v (fun b k b1 b2 b3 b4 => by rw [k1 b k b2 b3 b4]; exact h1 b k b1) ⟨hlo, fun i l a b c d => k2 i l a (by omega) c d⟩ hv
