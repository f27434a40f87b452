/-! LapBoard$Station -/
def clp (x : Int) : Int := if x < 1 then 1 else if 60 < x then 60 else x
/-- LIMIT by kind, base, line, on a lane, by a grip -/
def lim (k b ln lane g : Int) : Int := clp ((if k = 0 then 60 else b) + (if k = 1 ∨ k = 2 then g - 3 * (if 0 ≤ lane - ln then lane - ln else ln - lane) else 0) - (if k = 2 then 4 else 0))
theorem lim_rng (k b ln lane g : Int) : 1 ≤ lim k b ln lane g ∧ lim k b ln lane g ≤ 60 := by
  unfold lim clp
  split
  · omega
  · split <;> omega
def ab (x : Int) : Int := if 0 ≤ x then x else -x
theorem ab_of {x r : Int} (h0 : 0 ≤ r) (h : r = x ∨ r = -x) : ab x = r := by unfold ab; split <;> omega
theorem lim_0 (b ln lane g : Int) : lim 0 b ln lane g = 60 := by
  unfold lim clp
  simp
theorem lim_3 (b ln lane g : Int) : lim 3 b ln lane g = clp b := by
  unfold lim
  simp
theorem lim_12 {k : Int} (h : k = 1 ∨ k = 2) (b ln lane g : Int) : lim k b ln lane g = clp (b + (g - 3 * ab (lane - ln)) - (if k = 2 then 4 else 0)) := by
  have e : (if 0 ≤ lane - ln then lane - ln else ln - lane) = ab (lane - ln) := by unfold ab; split <;> omega
  unfold lim
  rw [e, if_neg (by omega), if_pos h]
theorem clp_of {x m r : Int} (h1 : m ≤ 60) (h2 : m ≤ x) (h3 : m = 60 ∨ m = x) (h4 : 1 ≤ r) (h5 : m ≤ r) (h6 : r = 1 ∨ r = m) : r = clp x := by
  unfold clp
  split
  · omega
  · split <;> omega
/-- TIME by length, change (0: none), pace -/
def tmv (len ch p : Int) : Int := if 0 < p then (len + (if ch = 0 then 0 else 2)) * 1000 / p else 0
/-- a station's numbers are in their ranges -/
def stOK (I : Int → Int → Int) (a : Int) : Prop := 0 ≤ I a 0 ∧ I a 0 ≤ 3 ∧ 1 ≤ I a 1 ∧ I a 1 ≤ 99 ∧ 1 ≤ I a 2 ∧ I a 2 ≤ 60 ∧ 0 ≤ I a 3 ∧ I a 3 ≤ 2 ∧ 0 ≤ I a 4 ∧ I a 4 ≤ 200000
def spX3_bends (As : List MV) (σ : MS) (K : Option MV → MS → Prop) : Prop := pR As fun a r => pN r (stOK σ.2.2.1 a ∧ K (some (.inl (b2i (σ.2.2.1 a 0 = 1 ∨ σ.2.2.1 a 0 = 2)))) σ)
def ciX3_bends : CI := (1, 3, 0, 0, spX3_bends)
def kX3_bends (pc : Nat) : List ME := match pc with
  | 0 => [(.aload_n 0, 1, []), (.getfield 9, 3, []), (.iconst 1, 1, []), (.if_icmp .eq 11, 3, [16]), (.aload_n 0, 1, []), (.getfield 9, 3, []), (.iconst 2, 1, []), (.if_icmp .ne 7, 3, [20])]
  | 16 => [(.iconst 1, 1, []), (.goto 4, 3, [21])]
  | 20 => [(.iconst 0, 1, [])]
  | 21 => [(.ireturn, 1, [])]
  | _ => []
theorem qX3_bends : ∀ pc, chk cX3_bends pc (kX3_bends pc) = true := by
  intro pc
  unfold kX3_bends
  split <;> first | decide +kernel | exact chk_nil
abbrev rmX3_bends : Room := { frames := 0, cells := 0, slots := 0, locals := 0 }
def aX3_bends (_ : Nat) : Option CI := none
theorem aokX3_bends : ∀ x ci, aX3_bends x = some ci → CalOK RX3 rmX3_bends x ci := fun _ _ h => by cases h
theorem mdX3_bends : MD RX3 cX3_bends rmX3_bends kX3_bends fX3 aX3_bends zX3 uX3 := ⟨fokX3, zokX3, uokX3, aokX3_bends, qX3_bends⟩
set_option maxRecDepth 100000 in
set_option maxHeartbeats 800000 in
theorem mX3_bends : MOK yX3_bends cX3_bends 1 (some .boolean) rmX3_bends ciX3_bends := by
  refine mok_of (ini := false) (by decide +kernel) (by decide) rfl rfl ?_
  intro σ As K hrc hl h
  obtain ⟨N, P, I, L⟩ := σ
  have h9 := pR_iff.mp h
  clear h
  obtain ⟨a, r, e9, h⟩ := h9
  subst e9
  have h9 := pN_iff.mp h
  clear h
  obtain ⟨e9, h⟩ := h9
  subst e9
  dsimp only at h
  obtain ⟨hg, -⟩ : (G a).1 = 3 ∧ 0 < a := hrc
  obtain ⟨hs, h⟩ := h
  obtain ⟨h0, h1⟩ := b2i_split (F := fun z => K (some (.inl z)) (N, P, I, L)) h
  refine ⟨Nat.le_of_ble_eq_true rfl, Ok.seg mdX3_bends [] 40 ?_⟩
  simp only [wp_nil, wp_cons, ↓stp, ↓lI, ↓lL, ↓lR, ↓lIn_0, ↓lIn_1, ↓lIn_2, ↓lIn_3, ↓lLn_0, ↓lLn_1, ↓lLn_2, ↓lLn_3, ↓lRn_0, ↓lRn_1, ↓lRn_2, ↓lRn_3, ↓pI, ↓pL, ↓pR, ↓pA, ↓pN, ↓pV, ↓fp, ↓tsw, ↓oS, ↓spMax, ↓spMin, ↓spAbs, ↓spObj, RI, RLg, b2i_lo, b2i_hi, getL, setL, ltL, killL, isLong, inl, cnd, br, tgt, rcv, rpl, mputI, mputL, mputP, fv, fr, mcat, mcs, entL, entA, rfit, nf_0, nf_1, nf_2, nf_3, nf2_0, nf2_1, b2i_0, b2i_1, RI_b2i, b2i_fit, List.append, List.length, List.replicate, List.cons_append, List.nil_append, List.length_cons, List.length_nil, List.replicate_succ, List.replicate_zero, List.tail_cons, reduceIte, if_true, if_false, ite_true, ite_false, Bool.false_eq_true, true_and, and_true, and_self, false_and, and_false, or_self, or_true, true_or, or_false, false_or, not_true_eq_false, not_false_eq_true, ne_eq, forall_const, implies_true, imp_self, true_implies, false_implies, Nat.reduceAdd, Nat.reduceSub, Nat.reduceMul, Nat.reduceDiv, Nat.reduceMod, Nat.reduceEqDiff, Nat.reduceLT, Nat.reduceLeDiff, Nat.reduceBEq, Nat.add_zero, Nat.zero_add, Nat.le_refl, Nat.not_lt_zero, Nat.succ_eq_add_one, Int.reduceNatCast, Int.cast_ofNat_Int, Int.reduceSub, Int.reduceMul, Int.reduceNeg, Int.reduceLE, Int.reduceLT, Int.reduceToNat, Int.reduceEq, Int.reduceNe, Int.reduceAdd, Option.some.injEq, kX3_bends, rmX3_bends, ↓ofX3_9, hg]
  unfold stOK at hs
  repeat' (first | apply And.intro | intro _)
  all_goals first | omega | exact h0 (by omega) | exact h1 (by omega)
def spX3_limitOn (As : List MV) (σ : MS) (K : Option MV → MS → Prop) : Prop := pR As fun a r => pI r fun lane r => pI r fun g r => pN r (stOK σ.2.2.1 a ∧ -50 ≤ lane ∧ lane ≤ 50 ∧ -100 ≤ g ∧ g ≤ 100 ∧ K (some (.inl (lim (σ.2.2.1 a 0) (σ.2.2.1 a 2) (σ.2.2.1 a 3) lane g))) σ)
def ciX3_limitOn : CI := (3, 3, 0, 0, spX3_limitOn)
def kX3_limitOn (pc : Nat) : List ME := match pc with
  | 0 => [(.aload_n 0, 1, []), (.getfield 9, 3, []), (.ifCond .ne 8, 3, [12]), (.bipush 60, 2, []), (.goto 7, 3, [16])]
  | 12 => [(.aload_n 0, 1, []), (.getfield 18, 3, [])]
  | 16 => [(.istore_n 3, 1, []), (.aload_n 0, 1, []), (.invokevirtual 24, 3, []), (.ifCond .eq 19, 3, [40]), (.iload_n 3, 1, []), (.iload_n 2, 1, []), (.iconst 3, 1, []), (.iload_n 1, 1, []), (.aload_n 0, 1, []), (.getfield 21, 3, []), (.isub, 1, []), (.invokestatic 28, 3, []), (.imul, 1, []), (.isub, 1, []), (.iadd, 1, []), (.istore_n 3, 1, [])]
  | 40 => [(.aload_n 0, 1, []), (.getfield 9, 3, []), (.iconst 2, 1, []), (.if_icmp .ne 6, 3, [51]), (.iinc 3 (-4), 3, [])]
  | 51 => [(.iconst 1, 1, []), (.bipush 60, 2, []), (.iload_n 3, 1, []), (.invokestatic 34, 3, []), (.invokestatic 38, 3, []), (.ireturn, 1, [])]
  | _ => []
theorem qX3_limitOn : ∀ pc, chk cX3_limitOn pc (kX3_limitOn pc) = true := by
  intro pc
  unfold kX3_limitOn
  split <;> first | decide +kernel | exact chk_nil
abbrev rmX3_limitOn : Room := { frames := 1, cells := 0, slots := 0, locals := 21 }
def aX3_limitOn (x : Nat) : Option CI := match x with
  | 24 => some ciX3_bends
  | 28 => some ciAbs
  | 34 => some ciMin
  | 38 => some ciMax
  | _ => none
theorem aokX3_limitOn : ∀ x ci, aX3_limitOn x = some ci → CalOK RX3 rmX3_limitOn x ci := by
  intro x ci h
  unfold aX3_limitOn at h
  split at h
  · cases h; exact cal_V mX3_bends (by decide) rfl (List.forall_mem_cons.mpr ⟨(ws_mem (List.mem_of_getElem? (i := 418) (by decide +kernel)) (by decide +kernel)), List.forall_mem_cons.mpr ⟨(ws_mem (List.mem_of_getElem? (i := 419) (by decide +kernel)) (by decide +kernel)), List.forall_mem_cons.mpr ⟨(ws_mem (List.mem_of_getElem? (i := 420) (by decide +kernel)) (by decide +kernel)), List.forall_mem_cons.mpr ⟨(ws_mem (List.mem_of_getElem? (i := 56) (by decide +kernel)) (by decide +kernel)), List.forall_mem_cons.mpr ⟨(ws_mem (List.mem_of_getElem? (i := 421) (by decide +kernel)) (by decide +kernel)), fun _ h => absurd h List.not_mem_nil⟩⟩⟩⟩⟩) rfl (by unfold nice; decide +kernel) (by unfold rfits; decide) ⟨rfl, rfl⟩
  · cases h; exact cal_abs (List.forall_mem_cons.mpr ⟨(ws_mem (List.mem_of_getElem? (i := 422) (by decide +kernel)) (by decide +kernel)), List.forall_mem_cons.mpr ⟨(ws_mem (List.mem_of_getElem? (i := 423) (by decide +kernel)) (by decide +kernel)), List.forall_mem_cons.mpr ⟨(ws_mem (List.mem_of_getElem? (i := 58) (by decide +kernel)) (by decide +kernel)), List.forall_mem_cons.mpr ⟨(ws_mem (List.mem_of_getElem? (i := 424) (by decide +kernel)) (by decide +kernel)), fun _ h => absurd h List.not_mem_nil⟩⟩⟩⟩) (by decide)
  · cases h; exact cal_min (List.forall_mem_cons.mpr ⟨(ws_mem (List.mem_of_getElem? (i := 425) (by decide +kernel)) (by decide +kernel)), List.forall_mem_cons.mpr ⟨(ws_mem (List.mem_of_getElem? (i := 154) (by decide +kernel)) (by decide +kernel)), List.forall_mem_cons.mpr ⟨(ws_mem (List.mem_of_getElem? (i := 58) (by decide +kernel)) (by decide +kernel)), List.forall_mem_cons.mpr ⟨(ws_mem (List.mem_of_getElem? (i := 155) (by decide +kernel)) (by decide +kernel)), fun _ h => absurd h List.not_mem_nil⟩⟩⟩⟩) (by decide)
  · cases h; exact cal_max (List.forall_mem_cons.mpr ⟨(ws_mem (List.mem_of_getElem? (i := 426) (by decide +kernel)) (by decide +kernel)), List.forall_mem_cons.mpr ⟨(ws_mem (List.mem_of_getElem? (i := 157) (by decide +kernel)) (by decide +kernel)), List.forall_mem_cons.mpr ⟨(ws_mem (List.mem_of_getElem? (i := 58) (by decide +kernel)) (by decide +kernel)), List.forall_mem_cons.mpr ⟨(ws_mem (List.mem_of_getElem? (i := 158) (by decide +kernel)) (by decide +kernel)), fun _ h => absurd h List.not_mem_nil⟩⟩⟩⟩) (by decide)
  · cases h
theorem ocX3_limitOn_24 (f : Nat → Nat → Nat → Nat → (List MV → MS → (Option MV → MS → Prop) → Prop) → Prop) : oC aX3_limitOn 24 f = f 1 3 0 0 spX3_bends := propext Iff.rfl
theorem ocX3_limitOn_28 (f : Nat → Nat → Nat → Nat → (List MV → MS → (Option MV → MS → Prop) → Prop) → Prop) : oC aX3_limitOn 28 f = f 1 10 0 0 spAbs := propext Iff.rfl
theorem ocX3_limitOn_34 (f : Nat → Nat → Nat → Nat → (List MV → MS → (Option MV → MS → Prop) → Prop) → Prop) : oC aX3_limitOn 34 f = f 2 10 0 0 spMin := propext Iff.rfl
theorem ocX3_limitOn_38 (f : Nat → Nat → Nat → Nat → (List MV → MS → (Option MV → MS → Prop) → Prop) → Prop) : oC aX3_limitOn 38 f = f 2 10 0 0 spMax := propext Iff.rfl
theorem mdX3_limitOn : MD RX3 cX3_limitOn rmX3_limitOn kX3_limitOn fX3 aX3_limitOn zX3 uX3 := ⟨fokX3, zokX3, uokX3, aokX3_limitOn, qX3_limitOn⟩
theorem K_eq {K : Option MV → MS → Prop} {x y : Int} {σ : MS} (h : K (some (.inl y)) σ) (e : x = y) : K (some (.inl x)) σ := e ▸ h
set_option maxRecDepth 100000 in
set_option maxHeartbeats 800000 in
theorem mX3_limitOn : MOK yX3_limitOn cX3_limitOn 4 (some .int) rmX3_limitOn ciX3_limitOn := by
  refine mok_of (ini := false) (by decide +kernel) (by decide) rfl rfl ?_
  intro σ As K hrc hl h
  obtain ⟨N, P, I, L⟩ := σ
  have h9 := pR_iff.mp h
  clear h
  obtain ⟨a, r, e9, h⟩ := h9
  subst e9
  have h9 := pI_iff.mp h
  clear h
  obtain ⟨lane, r, e9, h⟩ := h9
  subst e9
  have h9 := pI_iff.mp h
  clear h
  obtain ⟨g, r, e9, h⟩ := h9
  subst e9
  have h9 := pN_iff.mp h
  clear h
  obtain ⟨e9, h⟩ := h9
  subst e9
  dsimp only at h
  obtain ⟨hg, a0⟩ : (G a).1 = 3 ∧ 0 < a := hrc
  obtain ⟨hs, q1, q2, q3, q4, h⟩ := h
  refine ⟨Nat.le_of_ble_eq_true rfl, Ok.seg mdX3_limitOn [] 60 ?_⟩
  have hs2 := hs
  unfold stOK at hs2
  rcases (show I a 0 = 0 ∨ I a 0 = 1 ∨ I a 0 = 2 ∨ I a 0 = 3 by omega) with hk | hk | hk | hk
  · rw [hk, lim_0] at h
    simp only [wp_nil, wp_cons, ↓stp, ↓lI, ↓lL, ↓lR, ↓lIn_0, ↓lIn_1, ↓lIn_2, ↓lIn_3, ↓lLn_0, ↓lLn_1, ↓lLn_2, ↓lLn_3, ↓lRn_0, ↓lRn_1, ↓lRn_2, ↓lRn_3, ↓pI, ↓pL, ↓pR, ↓pA, ↓pN, ↓pV, ↓fp, ↓tsw, ↓oS, ↓spMax, ↓spMin, ↓spAbs, ↓spObj, RI, RLg, b2i_lo, b2i_hi, getL, setL, ltL, killL, isLong, inl, cnd, br, tgt, rcv, rpl, mputI, mputL, mputP, fv, fr, mcat, mcs, entL, entA, rfit, nf_0, nf_1, nf_2, nf_3, nf2_0, nf2_1, b2i_0, b2i_1, RI_b2i, b2i_fit, List.append, List.length, List.replicate, List.cons_append, List.nil_append, List.length_cons, List.length_nil, List.replicate_succ, List.replicate_zero, List.tail_cons, reduceIte, if_true, if_false, ite_true, ite_false, Bool.false_eq_true, true_and, and_true, and_self, false_and, and_false, or_self, or_true, true_or, or_false, false_or, not_true_eq_false, not_false_eq_true, ne_eq, forall_const, implies_true, imp_self, true_implies, false_implies, Nat.reduceAdd, Nat.reduceSub, Nat.reduceMul, Nat.reduceDiv, Nat.reduceMod, Nat.reduceEqDiff, Nat.reduceLT, Nat.reduceLeDiff, Nat.reduceBEq, Nat.add_zero, Nat.zero_add, Nat.le_refl, Nat.not_lt_zero, Nat.succ_eq_add_one, Int.reduceNatCast, Int.cast_ofNat_Int, Int.reduceSub, Int.reduceMul, Int.reduceNeg, Int.reduceLE, Int.reduceLT, Int.reduceToNat, Int.reduceEq, Int.reduceNe, Int.reduceAdd, Option.some.injEq, kX3_limitOn, rmX3_limitOn, ↓ofX3_18, ↓ofX3_21, ↓ofX3_9, ↓ocX3_limitOn_24, ↓spX3_bends, ↓ocX3_limitOn_28, ↓ocX3_limitOn_34, ↓ocX3_limitOn_38, hg, hs, a0, hk]
    repeat' (first | apply And.intro | intro _)
    all_goals first | omega | exact K_eq h (by omega)
  · rw [hk, lim_12 (.inl rfl)] at h
    simp only [wp_nil, wp_cons, ↓stp, ↓lI, ↓lL, ↓lR, ↓lIn_0, ↓lIn_1, ↓lIn_2, ↓lIn_3, ↓lLn_0, ↓lLn_1, ↓lLn_2, ↓lLn_3, ↓lRn_0, ↓lRn_1, ↓lRn_2, ↓lRn_3, ↓pI, ↓pL, ↓pR, ↓pA, ↓pN, ↓pV, ↓fp, ↓tsw, ↓oS, ↓spMax, ↓spMin, ↓spAbs, ↓spObj, RI, RLg, b2i_lo, b2i_hi, getL, setL, ltL, killL, isLong, inl, cnd, br, tgt, rcv, rpl, mputI, mputL, mputP, fv, fr, mcat, mcs, entL, entA, rfit, nf_0, nf_1, nf_2, nf_3, nf2_0, nf2_1, b2i_0, b2i_1, RI_b2i, b2i_fit, List.append, List.length, List.replicate, List.cons_append, List.nil_append, List.length_cons, List.length_nil, List.replicate_succ, List.replicate_zero, List.tail_cons, reduceIte, if_true, if_false, ite_true, ite_false, Bool.false_eq_true, true_and, and_true, and_self, false_and, and_false, or_self, or_true, true_or, or_false, false_or, not_true_eq_false, not_false_eq_true, ne_eq, forall_const, implies_true, imp_self, true_implies, false_implies, Nat.reduceAdd, Nat.reduceSub, Nat.reduceMul, Nat.reduceDiv, Nat.reduceMod, Nat.reduceEqDiff, Nat.reduceLT, Nat.reduceLeDiff, Nat.reduceBEq, Nat.add_zero, Nat.zero_add, Nat.le_refl, Nat.not_lt_zero, Nat.succ_eq_add_one, Int.reduceNatCast, Int.cast_ofNat_Int, Int.reduceSub, Int.reduceMul, Int.reduceNeg, Int.reduceLE, Int.reduceLT, Int.reduceToNat, Int.reduceEq, Int.reduceNe, Int.reduceAdd, Option.some.injEq, kX3_limitOn, rmX3_limitOn, ↓ofX3_18, ↓ofX3_21, ↓ofX3_9, ↓ocX3_limitOn_24, ↓spX3_bends, ↓ocX3_limitOn_28, ↓ocX3_limitOn_34, ↓ocX3_limitOn_38, hg, hs, a0, hk]
    refine ⟨by omega, fun d d0 d1 => ?_⟩
    rw [ab_of d0 d1] at h
    refine ⟨by omega, fun m m1 m2 m3 => ⟨by omega, fun r r1 r2 r3 => K_eq h (clp_of (m := m) (by omega) (by omega) (by omega) (by omega) (by omega) (by omega))⟩⟩
  · rw [hk, lim_12 (.inr rfl)] at h
    simp only [wp_nil, wp_cons, ↓stp, ↓lI, ↓lL, ↓lR, ↓lIn_0, ↓lIn_1, ↓lIn_2, ↓lIn_3, ↓lLn_0, ↓lLn_1, ↓lLn_2, ↓lLn_3, ↓lRn_0, ↓lRn_1, ↓lRn_2, ↓lRn_3, ↓pI, ↓pL, ↓pR, ↓pA, ↓pN, ↓pV, ↓fp, ↓tsw, ↓oS, ↓spMax, ↓spMin, ↓spAbs, ↓spObj, RI, RLg, b2i_lo, b2i_hi, getL, setL, ltL, killL, isLong, inl, cnd, br, tgt, rcv, rpl, mputI, mputL, mputP, fv, fr, mcat, mcs, entL, entA, rfit, nf_0, nf_1, nf_2, nf_3, nf2_0, nf2_1, b2i_0, b2i_1, RI_b2i, b2i_fit, List.append, List.length, List.replicate, List.cons_append, List.nil_append, List.length_cons, List.length_nil, List.replicate_succ, List.replicate_zero, List.tail_cons, reduceIte, if_true, if_false, ite_true, ite_false, Bool.false_eq_true, true_and, and_true, and_self, false_and, and_false, or_self, or_true, true_or, or_false, false_or, not_true_eq_false, not_false_eq_true, ne_eq, forall_const, implies_true, imp_self, true_implies, false_implies, Nat.reduceAdd, Nat.reduceSub, Nat.reduceMul, Nat.reduceDiv, Nat.reduceMod, Nat.reduceEqDiff, Nat.reduceLT, Nat.reduceLeDiff, Nat.reduceBEq, Nat.add_zero, Nat.zero_add, Nat.le_refl, Nat.not_lt_zero, Nat.succ_eq_add_one, Int.reduceNatCast, Int.cast_ofNat_Int, Int.reduceSub, Int.reduceMul, Int.reduceNeg, Int.reduceLE, Int.reduceLT, Int.reduceToNat, Int.reduceEq, Int.reduceNe, Int.reduceAdd, Option.some.injEq, kX3_limitOn, rmX3_limitOn, ↓ofX3_18, ↓ofX3_21, ↓ofX3_9, ↓ocX3_limitOn_24, ↓spX3_bends, ↓ocX3_limitOn_28, ↓ocX3_limitOn_34, ↓ocX3_limitOn_38, hg, hs, a0, hk]
    refine ⟨by omega, fun d d0 d1 => ?_⟩
    rw [ab_of d0 d1] at h
    refine ⟨by omega, fun m m1 m2 m3 => ⟨by omega, fun r r1 r2 r3 => K_eq h (clp_of (m := m) (by omega) (by omega) (by omega) (by omega) (by omega) (by omega))⟩⟩
  · rw [hk, lim_3] at h
    simp only [wp_nil, wp_cons, ↓stp, ↓lI, ↓lL, ↓lR, ↓lIn_0, ↓lIn_1, ↓lIn_2, ↓lIn_3, ↓lLn_0, ↓lLn_1, ↓lLn_2, ↓lLn_3, ↓lRn_0, ↓lRn_1, ↓lRn_2, ↓lRn_3, ↓pI, ↓pL, ↓pR, ↓pA, ↓pN, ↓pV, ↓fp, ↓tsw, ↓oS, ↓spMax, ↓spMin, ↓spAbs, ↓spObj, RI, RLg, b2i_lo, b2i_hi, getL, setL, ltL, killL, isLong, inl, cnd, br, tgt, rcv, rpl, mputI, mputL, mputP, fv, fr, mcat, mcs, entL, entA, rfit, nf_0, nf_1, nf_2, nf_3, nf2_0, nf2_1, b2i_0, b2i_1, RI_b2i, b2i_fit, List.append, List.length, List.replicate, List.cons_append, List.nil_append, List.length_cons, List.length_nil, List.replicate_succ, List.replicate_zero, List.tail_cons, reduceIte, if_true, if_false, ite_true, ite_false, Bool.false_eq_true, true_and, and_true, and_self, false_and, and_false, or_self, or_true, true_or, or_false, false_or, not_true_eq_false, not_false_eq_true, ne_eq, forall_const, implies_true, imp_self, true_implies, false_implies, Nat.reduceAdd, Nat.reduceSub, Nat.reduceMul, Nat.reduceDiv, Nat.reduceMod, Nat.reduceEqDiff, Nat.reduceLT, Nat.reduceLeDiff, Nat.reduceBEq, Nat.add_zero, Nat.zero_add, Nat.le_refl, Nat.not_lt_zero, Nat.succ_eq_add_one, Int.reduceNatCast, Int.cast_ofNat_Int, Int.reduceSub, Int.reduceMul, Int.reduceNeg, Int.reduceLE, Int.reduceLT, Int.reduceToNat, Int.reduceEq, Int.reduceNe, Int.reduceAdd, Option.some.injEq, kX3_limitOn, rmX3_limitOn, ↓ofX3_18, ↓ofX3_21, ↓ofX3_9, ↓ocX3_limitOn_24, ↓spX3_bends, ↓ocX3_limitOn_28, ↓ocX3_limitOn_34, ↓ocX3_limitOn_38, hg, hs, a0, hk]
    refine ⟨by omega, fun m m1 m2 m3 => ⟨by omega, fun r r1 r2 r3 => K_eq h (clp_of (m := m) (by omega) (by omega) (by omega) (by omega) (by omega) (by omega))⟩⟩
def spX3_timeAt (As : List MV) (σ : MS) (K : Option MV → MS → Prop) : Prop := pR As fun a r => pI r fun p r => pI r fun ch r => pN r (stOK σ.2.2.1 a ∧ -1000 ≤ p ∧ p ≤ 1000 ∧ (ch = 0 ∨ ch = 1) ∧ K (some (.inl (tmv (σ.2.2.1 a 1) ch p))) σ)
def ciX3_timeAt : CI := (3, 3, 0, 0, spX3_timeAt)
def kX3_timeAt (pc : Nat) : List ME := match pc with
  | 0 => [(.iload_n 2, 1, []), (.ifCond .eq 12, 3, [13]), (.aload_n 0, 1, []), (.getfield 15, 3, []), (.iconst 2, 1, []), (.iadd, 1, []), (.goto 7, 3, [17])]
  | 13 => [(.aload_n 0, 1, []), (.getfield 15, 3, [])]
  | 17 => [(.istore_n 3, 1, []), (.iload_n 1, 1, []), (.ifCond .le 13, 3, [32]), (.iload_n 3, 1, []), (.sipush 1000, 3, []), (.imul, 1, []), (.iload_n 1, 1, []), (.idiv, 1, []), (.goto 4, 3, [33])]
  | 32 => [(.iconst 0, 1, [])]
  | 33 => [(.ireturn, 1, [])]
  | _ => []
theorem qX3_timeAt : ∀ pc, chk cX3_timeAt pc (kX3_timeAt pc) = true := by
  intro pc
  unfold kX3_timeAt
  split <;> first | decide +kernel | exact chk_nil
abbrev rmX3_timeAt : Room := { frames := 0, cells := 0, slots := 0, locals := 0 }
def aX3_timeAt (_ : Nat) : Option CI := none
theorem aokX3_timeAt : ∀ x ci, aX3_timeAt x = some ci → CalOK RX3 rmX3_timeAt x ci := fun _ _ h => by cases h
theorem mdX3_timeAt : MD RX3 cX3_timeAt rmX3_timeAt kX3_timeAt fX3 aX3_timeAt zX3 uX3 := ⟨fokX3, zokX3, uokX3, aokX3_timeAt, qX3_timeAt⟩
set_option maxRecDepth 100000 in
set_option maxHeartbeats 800000 in
theorem mX3_timeAt : MOK yX3_timeAt cX3_timeAt 4 (some .int) rmX3_timeAt ciX3_timeAt := by
  refine mok_of (ini := false) (by decide +kernel) (by decide) rfl rfl ?_
  intro σ As K hrc hl h
  obtain ⟨N, P, I, L⟩ := σ
  have h9 := pR_iff.mp h
  clear h
  obtain ⟨a, r, e9, h⟩ := h9
  subst e9
  have h9 := pI_iff.mp h
  clear h
  obtain ⟨p, r, e9, h⟩ := h9
  subst e9
  have h9 := pI_iff.mp h
  clear h
  obtain ⟨ch, r, e9, h⟩ := h9
  subst e9
  have h9 := pN_iff.mp h
  clear h
  obtain ⟨e9, h⟩ := h9
  subst e9
  dsimp only at h
  obtain ⟨hg, a0⟩ : (G a).1 = 3 ∧ 0 < a := hrc
  obtain ⟨hs, q1, q2, q3, h⟩ := h
  refine ⟨Nat.le_of_ble_eq_true rfl, Ok.seg mdX3_timeAt [] 40 ?_⟩
  unfold stOK at hs
  have e1 : ∀ x : Int, 0 < p → 0 ≤ x → x = (I a 1 + (if ch = 0 then 0 else 2)) → (x * 1000).tdiv p = tmv (I a 1) ch p := fun x hp hx e => by
    subst e
    unfold tmv
    rw [if_pos hp, Int.tdiv_eq_ediv_of_nonneg (by omega)]
  have e0 : ¬ 0 < p → 0 = tmv (I a 1) ch p := fun hp => by
    unfold tmv
    rw [if_neg hp]
  simp only [wp_nil, wp_cons, ↓stp, ↓lI, ↓lL, ↓lR, ↓lIn_0, ↓lIn_1, ↓lIn_2, ↓lIn_3, ↓lLn_0, ↓lLn_1, ↓lLn_2, ↓lLn_3, ↓lRn_0, ↓lRn_1, ↓lRn_2, ↓lRn_3, ↓pI, ↓pL, ↓pR, ↓pA, ↓pN, ↓pV, ↓fp, ↓tsw, ↓oS, ↓spMax, ↓spMin, ↓spAbs, ↓spObj, RI, RLg, b2i_lo, b2i_hi, getL, setL, ltL, killL, isLong, inl, cnd, br, tgt, rcv, rpl, mputI, mputL, mputP, fv, fr, mcat, mcs, entL, entA, rfit, nf_0, nf_1, nf_2, nf_3, nf2_0, nf2_1, b2i_0, b2i_1, RI_b2i, b2i_fit, List.append, List.length, List.replicate, List.cons_append, List.nil_append, List.length_cons, List.length_nil, List.replicate_succ, List.replicate_zero, List.tail_cons, reduceIte, if_true, if_false, ite_true, ite_false, Bool.false_eq_true, true_and, and_true, and_self, false_and, and_false, or_self, or_true, true_or, or_false, false_or, not_true_eq_false, not_false_eq_true, ne_eq, forall_const, implies_true, imp_self, true_implies, false_implies, Nat.reduceAdd, Nat.reduceSub, Nat.reduceMul, Nat.reduceDiv, Nat.reduceMod, Nat.reduceEqDiff, Nat.reduceLT, Nat.reduceLeDiff, Nat.reduceBEq, Nat.add_zero, Nat.zero_add, Nat.le_refl, Nat.not_lt_zero, Nat.succ_eq_add_one, Int.reduceNatCast, Int.cast_ofNat_Int, Int.reduceSub, Int.reduceMul, Int.reduceNeg, Int.reduceLE, Int.reduceLT, Int.reduceToNat, Int.reduceEq, Int.reduceNe, Int.reduceAdd, Option.some.injEq, kX3_timeAt, rmX3_timeAt, ↓ofX3_15, hg]
  rcases q3 with rfl | rfl
  · simp only [Int.reduceLE, Int.reduceLT, Int.reduceEq, and_self, true_and, forall_const, not_true_eq_false, false_implies, and_true, if_true] at e1 ⊢
    refine ⟨by omega, fun q => K_eq h (e0 (by omega)), fun q => ⟨by omega, by omega, by omega, K_eq h (e1 _ (by omega) (by omega) (by omega))⟩⟩
  · simp only [Int.reduceLE, Int.reduceLT, Int.reduceEq, and_self, true_and, forall_const, not_false_eq_true, false_implies, and_true, if_false] at e1 ⊢
    refine ⟨by omega, fun q => K_eq h (e0 (by omega)), fun q => ⟨by omega, by omega, by omega, K_eq h (e1 _ (by omega) (by omega) (by omega))⟩⟩
def heft (k len b ln : Int) : Int := (10 + len + (if k = 1 ∨ k = 2 then b + 100 else 0)) * (if k = 2 then 2 else 1) + (if k = 3 then ln else 0)
def spX3_heft (As : List MV) (σ : MS) (K : Option MV → MS → Prop) : Prop := pR As fun a r => pN r (stOK σ.2.2.1 a ∧ K (some (.inl (heft (σ.2.2.1 a 0) (σ.2.2.1 a 1) (σ.2.2.1 a 2) (σ.2.2.1 a 3)))) σ)
def ciX3_heft : CI := (1, 3, 0, 0, spX3_heft)
def kX3_heft (pc : Nat) : List ME := match pc with
  | 0 => [(.bipush 10, 2, []), (.aload_n 0, 1, []), (.getfield 15, 3, []), (.iadd, 1, []), (.istore_n 1, 1, []), (.aload_n 0, 1, []), (.invokevirtual 24, 3, []), (.ifCond .eq 13, 3, [25]), (.iload_n 1, 1, []), (.aload_n 0, 1, []), (.getfield 18, 3, []), (.bipush 100, 2, []), (.iadd, 1, []), (.iadd, 1, []), (.istore_n 1, 1, [])]
  | 25 => [(.aload_n 0, 1, []), (.getfield 9, 3, []), (.iconst 2, 1, []), (.if_icmp .ne 7, 3, [37]), (.iload_n 1, 1, []), (.iconst 2, 1, []), (.imul, 1, []), (.istore_n 1, 1, [])]
  | 37 => [(.aload_n 0, 1, []), (.getfield 9, 3, []), (.iconst 3, 1, []), (.if_icmp .ne 12, 3, [54]), (.iload_n 1, 1, []), (.aload_n 0, 1, []), (.getfield 21, 3, []), (.iadd, 1, []), (.goto 4, 3, [55])]
  | 54 => [(.iload_n 1, 1, [])]
  | 55 => [(.ireturn, 1, [])]
  | _ => []
theorem qX3_heft : ∀ pc, chk cX3_heft pc (kX3_heft pc) = true := by
  intro pc
  unfold kX3_heft
  split <;> first | decide +kernel | exact chk_nil
abbrev rmX3_heft : Room := { frames := 1, cells := 0, slots := 0, locals := 20 }
def aX3_heft (x : Nat) : Option CI := match x with
  | 24 => some ciX3_bends
  | _ => none
theorem aokX3_heft : ∀ x ci, aX3_heft x = some ci → CalOK RX3 rmX3_heft x ci := by
  intro x ci h
  unfold aX3_heft at h
  split at h
  · cases h; exact cal_V mX3_bends (by decide) rfl (List.forall_mem_cons.mpr ⟨(ws_mem (List.mem_of_getElem? (i := 418) (by decide +kernel)) (by decide +kernel)), List.forall_mem_cons.mpr ⟨(ws_mem (List.mem_of_getElem? (i := 419) (by decide +kernel)) (by decide +kernel)), List.forall_mem_cons.mpr ⟨(ws_mem (List.mem_of_getElem? (i := 420) (by decide +kernel)) (by decide +kernel)), List.forall_mem_cons.mpr ⟨(ws_mem (List.mem_of_getElem? (i := 56) (by decide +kernel)) (by decide +kernel)), List.forall_mem_cons.mpr ⟨(ws_mem (List.mem_of_getElem? (i := 421) (by decide +kernel)) (by decide +kernel)), fun _ h => absurd h List.not_mem_nil⟩⟩⟩⟩⟩) rfl (by unfold nice; decide +kernel) (by unfold rfits; decide) ⟨rfl, rfl⟩
  · cases h
theorem ocX3_heft_24 (f : Nat → Nat → Nat → Nat → (List MV → MS → (Option MV → MS → Prop) → Prop) → Prop) : oC aX3_heft 24 f = f 1 3 0 0 spX3_bends := propext Iff.rfl
theorem mdX3_heft : MD RX3 cX3_heft rmX3_heft kX3_heft fX3 aX3_heft zX3 uX3 := ⟨fokX3, zokX3, uokX3, aokX3_heft, qX3_heft⟩
set_option maxRecDepth 100000 in
set_option maxHeartbeats 800000 in
theorem mX3_heft : MOK yX3_heft cX3_heft 2 (some .int) rmX3_heft ciX3_heft := by
  refine mok_of (ini := false) (by decide +kernel) (by decide) rfl rfl ?_
  intro σ As K hrc hl h
  obtain ⟨N, P, I, L⟩ := σ
  have h9 := pR_iff.mp h
  clear h
  obtain ⟨a, r, e9, h⟩ := h9
  subst e9
  have h9 := pN_iff.mp h
  clear h
  obtain ⟨e9, h⟩ := h9
  subst e9
  dsimp only at h
  obtain ⟨hg, a0⟩ : (G a).1 = 3 ∧ 0 < a := hrc
  obtain ⟨hs, h⟩ := h
  refine ⟨Nat.le_of_ble_eq_true rfl, Ok.seg mdX3_heft [] 60 ?_⟩
  have hs2 := hs
  unfold stOK at hs2
  have hh : ∀ x : Int, x = heft (I a 0) (I a 1) (I a 2) (I a 3) → K (some (.inl x)) (N, P, I, L) := fun x e => K_eq h e
  unfold heft at hh
  clear h
  rcases (show I a 0 = 0 ∨ I a 0 = 1 ∨ I a 0 = 2 ∨ I a 0 = 3 by omega) with hk | hk | hk | hk
  · rw [hk] at hh
    simp only [Int.reduceEq, or_self, or_true, or_false, if_true, if_false] at hh
    simp only [wp_nil, wp_cons, ↓stp, ↓lI, ↓lL, ↓lR, ↓lIn_0, ↓lIn_1, ↓lIn_2, ↓lIn_3, ↓lLn_0, ↓lLn_1, ↓lLn_2, ↓lLn_3, ↓lRn_0, ↓lRn_1, ↓lRn_2, ↓lRn_3, ↓pI, ↓pL, ↓pR, ↓pA, ↓pN, ↓pV, ↓fp, ↓tsw, ↓oS, ↓spMax, ↓spMin, ↓spAbs, ↓spObj, RI, RLg, b2i_lo, b2i_hi, getL, setL, ltL, killL, isLong, inl, cnd, br, tgt, rcv, rpl, mputI, mputL, mputP, fv, fr, mcat, mcs, entL, entA, rfit, nf_0, nf_1, nf_2, nf_3, nf2_0, nf2_1, b2i_0, b2i_1, RI_b2i, b2i_fit, List.append, List.length, List.replicate, List.cons_append, List.nil_append, List.length_cons, List.length_nil, List.replicate_succ, List.replicate_zero, List.tail_cons, reduceIte, if_true, if_false, ite_true, ite_false, Bool.false_eq_true, true_and, and_true, and_self, false_and, and_false, or_self, or_true, true_or, or_false, false_or, not_true_eq_false, not_false_eq_true, ne_eq, forall_const, implies_true, imp_self, true_implies, false_implies, Nat.reduceAdd, Nat.reduceSub, Nat.reduceMul, Nat.reduceDiv, Nat.reduceMod, Nat.reduceEqDiff, Nat.reduceLT, Nat.reduceLeDiff, Nat.reduceBEq, Nat.add_zero, Nat.zero_add, Nat.le_refl, Nat.not_lt_zero, Nat.succ_eq_add_one, Int.reduceNatCast, Int.cast_ofNat_Int, Int.reduceSub, Int.reduceMul, Int.reduceNeg, Int.reduceLE, Int.reduceLT, Int.reduceToNat, Int.reduceEq, Int.reduceNe, Int.reduceAdd, Option.some.injEq, kX3_heft, rmX3_heft, ↓ofX3_15, ↓ofX3_18, ↓ofX3_21, ↓ofX3_9, ↓ocX3_heft_24, ↓spX3_bends, hg, hs, a0, hk]
    exact hh _ (by omega)
  · rw [hk] at hh
    simp only [Int.reduceEq, or_self, or_true, or_false, true_or, if_true, if_false] at hh
    simp only [wp_nil, wp_cons, ↓stp, ↓lI, ↓lL, ↓lR, ↓lIn_0, ↓lIn_1, ↓lIn_2, ↓lIn_3, ↓lLn_0, ↓lLn_1, ↓lLn_2, ↓lLn_3, ↓lRn_0, ↓lRn_1, ↓lRn_2, ↓lRn_3, ↓pI, ↓pL, ↓pR, ↓pA, ↓pN, ↓pV, ↓fp, ↓tsw, ↓oS, ↓spMax, ↓spMin, ↓spAbs, ↓spObj, RI, RLg, b2i_lo, b2i_hi, getL, setL, ltL, killL, isLong, inl, cnd, br, tgt, rcv, rpl, mputI, mputL, mputP, fv, fr, mcat, mcs, entL, entA, rfit, nf_0, nf_1, nf_2, nf_3, nf2_0, nf2_1, b2i_0, b2i_1, RI_b2i, b2i_fit, List.append, List.length, List.replicate, List.cons_append, List.nil_append, List.length_cons, List.length_nil, List.replicate_succ, List.replicate_zero, List.tail_cons, reduceIte, if_true, if_false, ite_true, ite_false, Bool.false_eq_true, true_and, and_true, and_self, false_and, and_false, or_self, or_true, true_or, or_false, false_or, not_true_eq_false, not_false_eq_true, ne_eq, forall_const, implies_true, imp_self, true_implies, false_implies, Nat.reduceAdd, Nat.reduceSub, Nat.reduceMul, Nat.reduceDiv, Nat.reduceMod, Nat.reduceEqDiff, Nat.reduceLT, Nat.reduceLeDiff, Nat.reduceBEq, Nat.add_zero, Nat.zero_add, Nat.le_refl, Nat.not_lt_zero, Nat.succ_eq_add_one, Int.reduceNatCast, Int.cast_ofNat_Int, Int.reduceSub, Int.reduceMul, Int.reduceNeg, Int.reduceLE, Int.reduceLT, Int.reduceToNat, Int.reduceEq, Int.reduceNe, Int.reduceAdd, Option.some.injEq, kX3_heft, rmX3_heft, ↓ofX3_15, ↓ofX3_18, ↓ofX3_21, ↓ofX3_9, ↓ocX3_heft_24, ↓spX3_bends, hg, hs, a0, hk]
    exact hh _ (by omega)
  · rw [hk] at hh
    simp only [Int.reduceEq, or_self, or_true, or_false, if_true, if_false] at hh
    simp only [wp_nil, wp_cons, ↓stp, ↓lI, ↓lL, ↓lR, ↓lIn_0, ↓lIn_1, ↓lIn_2, ↓lIn_3, ↓lLn_0, ↓lLn_1, ↓lLn_2, ↓lLn_3, ↓lRn_0, ↓lRn_1, ↓lRn_2, ↓lRn_3, ↓pI, ↓pL, ↓pR, ↓pA, ↓pN, ↓pV, ↓fp, ↓tsw, ↓oS, ↓spMax, ↓spMin, ↓spAbs, ↓spObj, RI, RLg, b2i_lo, b2i_hi, getL, setL, ltL, killL, isLong, inl, cnd, br, tgt, rcv, rpl, mputI, mputL, mputP, fv, fr, mcat, mcs, entL, entA, rfit, nf_0, nf_1, nf_2, nf_3, nf2_0, nf2_1, b2i_0, b2i_1, RI_b2i, b2i_fit, List.append, List.length, List.replicate, List.cons_append, List.nil_append, List.length_cons, List.length_nil, List.replicate_succ, List.replicate_zero, List.tail_cons, reduceIte, if_true, if_false, ite_true, ite_false, Bool.false_eq_true, true_and, and_true, and_self, false_and, and_false, or_self, or_true, true_or, or_false, false_or, not_true_eq_false, not_false_eq_true, ne_eq, forall_const, implies_true, imp_self, true_implies, false_implies, Nat.reduceAdd, Nat.reduceSub, Nat.reduceMul, Nat.reduceDiv, Nat.reduceMod, Nat.reduceEqDiff, Nat.reduceLT, Nat.reduceLeDiff, Nat.reduceBEq, Nat.add_zero, Nat.zero_add, Nat.le_refl, Nat.not_lt_zero, Nat.succ_eq_add_one, Int.reduceNatCast, Int.cast_ofNat_Int, Int.reduceSub, Int.reduceMul, Int.reduceNeg, Int.reduceLE, Int.reduceLT, Int.reduceToNat, Int.reduceEq, Int.reduceNe, Int.reduceAdd, Option.some.injEq, kX3_heft, rmX3_heft, ↓ofX3_15, ↓ofX3_18, ↓ofX3_21, ↓ofX3_9, ↓ocX3_heft_24, ↓spX3_bends, hg, hs, a0, hk]
    exact hh _ (by omega)
  · rw [hk] at hh
    simp only [Int.reduceEq, or_self, or_true, or_false, if_true, if_false] at hh
    simp only [wp_nil, wp_cons, ↓stp, ↓lI, ↓lL, ↓lR, ↓lIn_0, ↓lIn_1, ↓lIn_2, ↓lIn_3, ↓lLn_0, ↓lLn_1, ↓lLn_2, ↓lLn_3, ↓lRn_0, ↓lRn_1, ↓lRn_2, ↓lRn_3, ↓pI, ↓pL, ↓pR, ↓pA, ↓pN, ↓pV, ↓fp, ↓tsw, ↓oS, ↓spMax, ↓spMin, ↓spAbs, ↓spObj, RI, RLg, b2i_lo, b2i_hi, getL, setL, ltL, killL, isLong, inl, cnd, br, tgt, rcv, rpl, mputI, mputL, mputP, fv, fr, mcat, mcs, entL, entA, rfit, nf_0, nf_1, nf_2, nf_3, nf2_0, nf2_1, b2i_0, b2i_1, RI_b2i, b2i_fit, List.append, List.length, List.replicate, List.cons_append, List.nil_append, List.length_cons, List.length_nil, List.replicate_succ, List.replicate_zero, List.tail_cons, reduceIte, if_true, if_false, ite_true, ite_false, Bool.false_eq_true, true_and, and_true, and_self, false_and, and_false, or_self, or_true, true_or, or_false, false_or, not_true_eq_false, not_false_eq_true, ne_eq, forall_const, implies_true, imp_self, true_implies, false_implies, Nat.reduceAdd, Nat.reduceSub, Nat.reduceMul, Nat.reduceDiv, Nat.reduceMod, Nat.reduceEqDiff, Nat.reduceLT, Nat.reduceLeDiff, Nat.reduceBEq, Nat.add_zero, Nat.zero_add, Nat.le_refl, Nat.not_lt_zero, Nat.succ_eq_add_one, Int.reduceNatCast, Int.cast_ofNat_Int, Int.reduceSub, Int.reduceMul, Int.reduceNeg, Int.reduceLE, Int.reduceLT, Int.reduceToNat, Int.reduceEq, Int.reduceNe, Int.reduceAdd, Option.some.injEq, kX3_heft, rmX3_heft, ↓ofX3_15, ↓ofX3_18, ↓ofX3_21, ↓ofX3_9, ↓ocX3_heft_24, ↓spX3_bends, hg, hs, a0, hk]
    exact hh _ (by omega)
def spX3_take (As : List MV) (σ : MS) (K : Option MV → MS → Prop) : Prop := pR As fun a r => pR r fun b r => pN r ((G b).1 = 3 ∧ a ≠ b ∧ K none (σ.1, σ.2.1, upI (upI (upI (upI σ.2.2.1 a 0 (σ.2.2.1 b 0)) a 1 (σ.2.2.1 b 1)) a 2 (σ.2.2.1 b 2)) a 3 (σ.2.2.1 b 3), σ.2.2.2))
def ciX3_take : CI := (2, 3, 0, 0, spX3_take)
def kX3_take (pc : Nat) : List ME := match pc with
  | 0 => [(.aload_n 0, 1, []), (.aload_n 1, 1, []), (.getfield 9, 3, []), (.putfield 9, 3, []), (.aload_n 0, 1, []), (.aload_n 1, 1, []), (.getfield 15, 3, []), (.putfield 15, 3, []), (.aload_n 0, 1, []), (.aload_n 1, 1, []), (.getfield 18, 3, []), (.putfield 18, 3, []), (.aload_n 0, 1, []), (.aload_n 1, 1, []), (.getfield 21, 3, []), (.putfield 21, 3, []), (.return_, 1, [])]
  | _ => []
theorem qX3_take : ∀ pc, chk cX3_take pc (kX3_take pc) = true := by
  intro pc
  unfold kX3_take
  split <;> first | decide +kernel | exact chk_nil
abbrev rmX3_take : Room := { frames := 0, cells := 0, slots := 0, locals := 0 }
def aX3_take (_ : Nat) : Option CI := none
theorem aokX3_take : ∀ x ci, aX3_take x = some ci → CalOK RX3 rmX3_take x ci := fun _ _ h => by cases h
theorem mdX3_take : MD RX3 cX3_take rmX3_take kX3_take fX3 aX3_take zX3 uX3 := ⟨fokX3, zokX3, uokX3, aokX3_take, qX3_take⟩
theorem upI_ne {I : Int → Int → Int} {a i v b j : Int} (h : b ≠ a) : upI I a i v b j = I b j := if_neg (fun z => h z.1)
set_option maxRecDepth 100000 in
set_option maxHeartbeats 800000 in
theorem mX3_take : MOK yX3_take cX3_take 2 none rmX3_take ciX3_take := by
  refine mok_of (ini := false) (by decide +kernel) (by decide) rfl rfl ?_
  intro σ As K hrc hl h
  obtain ⟨N, P, I, L⟩ := σ
  have h9 := pR_iff.mp h
  clear h
  obtain ⟨a, r, e9, h⟩ := h9
  subst e9
  have h9 := pR_iff.mp h
  clear h
  obtain ⟨b, r, e9, h⟩ := h9
  subst e9
  have h9 := pN_iff.mp h
  clear h
  obtain ⟨e9, h⟩ := h9
  subst e9
  dsimp only at h
  obtain ⟨hg, a0⟩ : (G a).1 = 3 ∧ 0 < a := hrc
  obtain ⟨hb, hab, h⟩ := h
  refine ⟨Nat.le_of_ble_eq_true rfl, Ok.seg mdX3_take [] 60 ?_⟩
  simp only [wp_nil, wp_cons, ↓stp, ↓lI, ↓lL, ↓lR, ↓lIn_0, ↓lIn_1, ↓lIn_2, ↓lIn_3, ↓lLn_0, ↓lLn_1, ↓lLn_2, ↓lLn_3, ↓lRn_0, ↓lRn_1, ↓lRn_2, ↓lRn_3, ↓pI, ↓pL, ↓pR, ↓pA, ↓pN, ↓pV, ↓fp, ↓tsw, ↓oS, ↓spMax, ↓spMin, ↓spAbs, ↓spObj, RI, RLg, b2i_lo, b2i_hi, getL, setL, ltL, killL, isLong, inl, cnd, br, tgt, rcv, rpl, mputI, mputL, mputP, fv, fr, mcat, mcs, entL, entA, rfit, nf_0, nf_1, nf_2, nf_3, nf2_0, nf2_1, b2i_0, b2i_1, RI_b2i, b2i_fit, List.append, List.length, List.replicate, List.cons_append, List.nil_append, List.length_cons, List.length_nil, List.replicate_succ, List.replicate_zero, List.tail_cons, reduceIte, if_true, if_false, ite_true, ite_false, Bool.false_eq_true, true_and, and_true, and_self, false_and, and_false, or_self, or_true, true_or, or_false, false_or, not_true_eq_false, not_false_eq_true, ne_eq, forall_const, implies_true, imp_self, true_implies, false_implies, Nat.reduceAdd, Nat.reduceSub, Nat.reduceMul, Nat.reduceDiv, Nat.reduceMod, Nat.reduceEqDiff, Nat.reduceLT, Nat.reduceLeDiff, Nat.reduceBEq, Nat.add_zero, Nat.zero_add, Nat.le_refl, Nat.not_lt_zero, Nat.succ_eq_add_one, Int.reduceNatCast, Int.cast_ofNat_Int, Int.reduceSub, Int.reduceMul, Int.reduceNeg, Int.reduceLE, Int.reduceLT, Int.reduceToNat, Int.reduceEq, Int.reduceNe, Int.reduceAdd, Option.some.injEq, kX3_take, rmX3_take, ↓ofX3_15, ↓ofX3_18, ↓ofX3_21, ↓ofX3_9, hg, hb, upI_ne (Ne.symm hab)]
  exact h
