/-! LapBoard$Race: gripOf, stopsAhead, stateOn, stintThenRest, fillFresh, fillAfter -/
def grpv (gr we : Int → Int) (t d : Int) : Int := if gr t - d.tdiv (we t) < -20 then -20 else gr t - d.tdiv (we t)
def raceR (I : Int → Int → Int) : Prop := (∀ t, 0 ≤ t → t ≤ 3 → -20 ≤ I 180 t ∧ I 180 t ≤ 20 ∧ 1 ≤ I 181 t ∧ I 181 t ≤ 20) ∧ (0 ≤ I 179 4 ∧ I 179 4 ≤ 100000) ∧ (I 179 5 = 0 ∨ I 179 5 = 1)
theorem tdv_rng {d w : Int} (d0 : 0 ≤ d) (w1 : 1 ≤ w) : 0 ≤ d.tdiv w ∧ d.tdiv w ≤ d := by
  rw [Int.tdiv_eq_ediv_of_nonneg d0]
  exact ⟨Int.ediv_nonneg d0 (by omega), Int.ediv_le_self _ d0⟩
theorem grpv_rng {gr we : Int → Int} {t d : Int} (h : -20 ≤ gr t ∧ gr t ≤ 20 ∧ 1 ≤ we t ∧ we t ≤ 20) (d0 : 0 ≤ d) : -20 ≤ grpv gr we t d ∧ grpv gr we t d ≤ 20 := by
  have := tdv_rng d0 h.2.2.1
  unfold grpv
  split <;> omega
def spX1_gripOf (As : List MV) (σ : MS) (K : Option MV → MS → Prop) : Prop := pR As fun s r => pI r fun t r => pI r fun d r => pN r (s = 179 ∧ σ.2.1 = PF ∧ 0 ≤ t ∧ t ≤ 3 ∧ 0 ≤ d ∧ d ≤ 39 ∧ raceR σ.2.2.1 ∧ K (some (.inl (grpv (σ.2.2.1 180) (σ.2.2.1 181) t d))) σ)
def ciX1_gripOf : CI := (3, 1, 0, 0, spX1_gripOf)
def kX1_gripOf (pc : Nat) : List ME := match pc with
  | 0 => [(.bipush (-20), 2, []), (.aload_n 0, 1, []), (.getfield 9, 3, []), (.iload_n 1, 1, []), (.iaload, 1, []), (.iload_n 2, 1, []), (.iconst 1, 1, []), (.aload_n 0, 1, []), (.getfield 15, 3, []), (.iload_n 1, 1, []), (.iaload, 1, []), (.invokestatic 49, 3, []), (.idiv, 1, []), (.isub, 1, []), (.invokestatic 49, 3, []), (.ireturn, 1, [])]
  | _ => []
theorem qX1_gripOf : ∀ pc, chk cX1_gripOf pc (kX1_gripOf pc) = true := by
  intro pc
  unfold kX1_gripOf
  split <;> first | decide +kernel | exact chk_nil
abbrev rmX1_gripOf : Room := { frames := 1, cells := 0, slots := 0, locals := 21 }
def aX1_gripOf (x : Nat) : Option CI := match x with
  | 49 => some ciMax
  | _ => none
theorem aokX1_gripOf : ∀ x ci, aX1_gripOf x = some ci → CalOK RX1 rmX1_gripOf x ci := by
  intro x ci h
  unfold aX1_gripOf at h
  split at h
  · cases h; exact cal_max (List.forall_mem_cons.mpr ⟨(ws_mem (List.mem_of_getElem? (i := 580) (by decide +kernel)) (by decide +kernel)), List.forall_mem_cons.mpr ⟨(ws_mem (List.mem_of_getElem? (i := 157) (by decide +kernel)) (by decide +kernel)), List.forall_mem_cons.mpr ⟨(ws_mem (List.mem_of_getElem? (i := 58) (by decide +kernel)) (by decide +kernel)), List.forall_mem_cons.mpr ⟨(ws_mem (List.mem_of_getElem? (i := 158) (by decide +kernel)) (by decide +kernel)), fun _ h => absurd h List.not_mem_nil⟩⟩⟩⟩) (by decide)
  · cases h
theorem ocX1_gripOf_49 (f : Nat → Nat → Nat → Nat → (List MV → MS → (Option MV → MS → Prop) → Prop) → Prop) : oC aX1_gripOf 49 f = f 2 10 0 0 spMax := propext Iff.rfl
theorem mdX1_gripOf : MD RX1 cX1_gripOf rmX1_gripOf kX1_gripOf fX1 aX1_gripOf zX1 uX1 := ⟨fokX1, zokX1, uokX1, aokX1_gripOf, qX1_gripOf⟩
set_option maxRecDepth 100000 in
set_option maxHeartbeats 800000 in
theorem mX1_gripOf : MOK yX1_gripOf cX1_gripOf 3 (some .int) rmX1_gripOf ciX1_gripOf := by
  refine mok_of (ini := false) (by decide +kernel) (by decide) rfl rfl ?_
  intro σ As K hrc hl h
  obtain ⟨N, P, I, L⟩ := σ
  have h9 := pR_iff.mp h
  clear h
  obtain ⟨s, r, e9, h⟩ := h9
  subst e9
  have h9 := pI_iff.mp h
  clear h
  obtain ⟨t, r, e9, h⟩ := h9
  subst e9
  have h9 := pI_iff.mp h
  clear h
  obtain ⟨d, r, e9, h⟩ := h9
  subst e9
  have h9 := pN_iff.mp h
  clear h
  obtain ⟨e9, h⟩ := h9
  subst e9
  dsimp only at h
  obtain ⟨rfl, rfl, t0, t1, d0, d1, hr, h⟩ := h
  have ht := hr.1 t t0 t1
  have hq := tdv_rng d0 ht.2.2.1
  refine ⟨Nat.le_of_ble_eq_true rfl, Ok.seg mdX1_gripOf [] 20 ?_⟩
  simp only [wp_nil, wp_cons, ↓stp, ↓lI, ↓lL, ↓lR, ↓lIn_0, ↓lIn_1, ↓lIn_2, ↓lIn_3, ↓lLn_0, ↓lLn_1, ↓lLn_2, ↓lLn_3, ↓lRn_0, ↓lRn_1, ↓lRn_2, ↓lRn_3, ↓pI, ↓pL, ↓pR, ↓pA, ↓pN, ↓pV, ↓fp, ↓tsw, ↓oS, ↓spMax, ↓spMin, ↓spAbs, ↓spObj, RI, RLg, b2i_lo, b2i_hi, getL, setL, ltL, killL, isLong, inl, cnd, br, tgt, rcv, rpl, mputI, mputL, mputP, fv, fr, mcat, mcs, entL, entA, rfit, nf_0, nf_1, nf_2, nf_3, nf2_0, nf2_1, b2i_0, b2i_1, RI_b2i, b2i_fit, List.append, List.length, List.replicate, List.cons_append, List.nil_append, List.length_cons, List.length_nil, List.replicate_succ, List.replicate_zero, List.tail_cons, reduceIte, if_true, if_false, ite_true, ite_false, Bool.false_eq_true, true_and, and_true, and_self, false_and, and_false, or_self, or_true, true_or, or_false, false_or, not_true_eq_false, not_false_eq_true, ne_eq, forall_const, implies_true, imp_self, true_implies, false_implies, Nat.reduceAdd, Nat.reduceSub, Nat.reduceMul, Nat.reduceDiv, Nat.reduceMod, Nat.reduceEqDiff, Nat.reduceLT, Nat.reduceLeDiff, Nat.reduceBEq, Nat.add_zero, Nat.zero_add, Nat.le_refl, Nat.not_lt_zero, Nat.succ_eq_add_one, Int.reduceNatCast, Int.cast_ofNat_Int, Int.reduceSub, Int.reduceMul, Int.reduceNeg, Int.reduceLE, Int.reduceLT, Int.reduceToNat, Int.reduceEq, Int.reduceNe, Int.reduceAdd, Option.some.injEq, kX1_gripOf, rmX1_gripOf, ↓ofX1_15, ↓ofX1_9, ↓ocX1_gripOf_49, G_1, G_2, G_3, G_4, G_35, G_36, G_37, G_38, G_39, G_40, G_41, G_42, G_43, G_44, G_45, G_46, G_47, G_48, G_49, G_140, G_141, G_142, G_143, G_144, G_145, G_146, G_178, G_179, G_180, G_181, G_182, G_183, G_184, G_189, G_198, G_207, PF_1_0, PF_1_1, PF_1_2, PF_1_3, PF_2_0, PF_2_1, PF_2_3, PF_2_4, PF_2_5, PF_2_6, PF_2_7, PF_2_8, PF_2_9, PF_2_10, PF_2_11, PF_3_0, PF_35_0, PF_35_1, PF_35_2, PF_35_3, PF_40_0, PF_40_1, PF_40_2, PF_44_0, PF_44_1, PF_44_2, PF_145_0, PF_145_1, PF_179_0, PF_179_1, PF_179_2, PF_179_3, PF_179_8, PF_179_9, PF_179_10]
  repeat refine ⟨by omega, ?_⟩
  refine fun r r0 r1 r2 => ?_
  have er : r = I 181 t := by omega
  subst er
  refine ⟨by omega, by omega, by omega, by omega, fun z z0 z1 z2 => ?_⟩
  have ez : z = grpv (I 180) (I 181) t d := by unfold grpv; split <;> omega
  rw [ez]; exact h
def spX1_stopsAhead (As : List MV) (σ : MS) (K : Option MV → MS → Prop) : Prop := pR As fun s r => pI r fun l r => pN r (s = 179 ∧ σ.2.1 = PF ∧ 0 ≤ l ∧ l ≤ 39 ∧ (0 < l → RI (σ.2.2.1 183 l)) ∧ K (some (.inl (b2i (0 < l ∧ σ.2.2.1 183 l = 0)))) σ)
def ciX1_stopsAhead : CI := (2, 1, 0, 0, spX1_stopsAhead)
def kX1_stopsAhead (pc : Nat) : List ME := match pc with
  | 0 => [(.iload_n 1, 1, []), (.ifCond .le 16, 3, [17]), (.aload_n 0, 1, []), (.getfield 21, 3, []), (.iload_n 1, 1, []), (.iaload, 1, []), (.ifCond .ne 7, 3, [17]), (.iconst 1, 1, []), (.goto 4, 3, [18])]
  | 17 => [(.iconst 0, 1, [])]
  | 18 => [(.ireturn, 1, [])]
  | _ => []
theorem qX1_stopsAhead : ∀ pc, chk cX1_stopsAhead pc (kX1_stopsAhead pc) = true := by
  intro pc
  unfold kX1_stopsAhead
  split <;> first | decide +kernel | exact chk_nil
abbrev rmX1_stopsAhead : Room := { frames := 0, cells := 0, slots := 0, locals := 0 }
def aX1_stopsAhead (_ : Nat) : Option CI := none
theorem aokX1_stopsAhead : ∀ x ci, aX1_stopsAhead x = some ci → CalOK RX1 rmX1_stopsAhead x ci := fun _ _ h => by cases h
theorem mdX1_stopsAhead : MD RX1 cX1_stopsAhead rmX1_stopsAhead kX1_stopsAhead fX1 aX1_stopsAhead zX1 uX1 := ⟨fokX1, zokX1, uokX1, aokX1_stopsAhead, qX1_stopsAhead⟩
set_option maxRecDepth 100000 in
set_option maxHeartbeats 800000 in
theorem mX1_stopsAhead : MOK yX1_stopsAhead cX1_stopsAhead 2 (some .boolean) rmX1_stopsAhead ciX1_stopsAhead := by
  refine mok_of (ini := false) (by decide +kernel) (by decide) rfl rfl ?_
  intro σ As K hrc hl h
  obtain ⟨N, P, I, L⟩ := σ
  have h9 := pR_iff.mp h
  clear h
  obtain ⟨s, r, e9, h⟩ := h9
  subst e9
  have h9 := pI_iff.mp h
  clear h
  obtain ⟨l, r, e9, h⟩ := h9
  subst e9
  have h9 := pN_iff.mp h
  clear h
  obtain ⟨e9, h⟩ := h9
  subst e9
  dsimp only at h
  obtain ⟨rfl, rfl, l0, l1, hr, h⟩ := h
  unfold RI at hr
  refine ⟨Nat.le_of_ble_eq_true rfl, Ok.seg mdX1_stopsAhead [] 20 ?_⟩
  have hs := b2i_split (F := fun x => K (some (.inl x)) (N, PF, I, L)) h
  simp only [wp_nil, wp_cons, ↓stp, ↓lI, ↓lL, ↓lR, ↓lIn_0, ↓lIn_1, ↓lIn_2, ↓lIn_3, ↓lLn_0, ↓lLn_1, ↓lLn_2, ↓lLn_3, ↓lRn_0, ↓lRn_1, ↓lRn_2, ↓lRn_3, ↓pI, ↓pL, ↓pR, ↓pA, ↓pN, ↓pV, ↓fp, ↓tsw, ↓oS, ↓spMax, ↓spMin, ↓spAbs, ↓spObj, RI, RLg, b2i_lo, b2i_hi, getL, setL, ltL, killL, isLong, inl, cnd, br, tgt, rcv, rpl, mputI, mputL, mputP, fv, fr, mcat, mcs, entL, entA, rfit, nf_0, nf_1, nf_2, nf_3, nf2_0, nf2_1, b2i_0, b2i_1, RI_b2i, b2i_fit, List.append, List.length, List.replicate, List.cons_append, List.nil_append, List.length_cons, List.length_nil, List.replicate_succ, List.replicate_zero, List.tail_cons, reduceIte, if_true, if_false, ite_true, ite_false, Bool.false_eq_true, true_and, and_true, and_self, false_and, and_false, or_self, or_true, true_or, or_false, false_or, not_true_eq_false, not_false_eq_true, ne_eq, forall_const, implies_true, imp_self, true_implies, false_implies, Nat.reduceAdd, Nat.reduceSub, Nat.reduceMul, Nat.reduceDiv, Nat.reduceMod, Nat.reduceEqDiff, Nat.reduceLT, Nat.reduceLeDiff, Nat.reduceBEq, Nat.add_zero, Nat.zero_add, Nat.le_refl, Nat.not_lt_zero, Nat.succ_eq_add_one, Int.reduceNatCast, Int.cast_ofNat_Int, Int.reduceSub, Int.reduceMul, Int.reduceNeg, Int.reduceLE, Int.reduceLT, Int.reduceToNat, Int.reduceEq, Int.reduceNe, Int.reduceAdd, Option.some.injEq, kX1_stopsAhead, rmX1_stopsAhead, ↓ofX1_21, G_1, G_2, G_3, G_4, G_35, G_36, G_37, G_38, G_39, G_40, G_41, G_42, G_43, G_44, G_45, G_46, G_47, G_48, G_49, G_140, G_141, G_142, G_143, G_144, G_145, G_146, G_178, G_179, G_180, G_181, G_182, G_183, G_184, G_189, G_198, G_207, PF_1_0, PF_1_1, PF_1_2, PF_1_3, PF_2_0, PF_2_1, PF_2_3, PF_2_4, PF_2_5, PF_2_6, PF_2_7, PF_2_8, PF_2_9, PF_2_10, PF_2_11, PF_3_0, PF_35_0, PF_35_1, PF_35_2, PF_35_3, PF_40_0, PF_40_1, PF_40_2, PF_44_0, PF_44_1, PF_44_2, PF_145_0, PF_145_1, PF_179_0, PF_179_1, PF_179_2, PF_179_3, PF_179_8, PF_179_9, PF_179_10]
  exact ⟨by omega, fun q => hs.1 (by omega), fun q => ⟨by omega, by omega, by omega, fun q2 => hs.1 (by omega), fun q2 => hs.2 (by omega)⟩⟩
theorem td2 {t w : Int} (t0 : 0 ≤ t) (hw : w = 0 ∨ w = 1) : (2 * t + w).tdiv 2 = t ∧ (2 * t + w).tmod 2 = w := by
  rw [Int.tdiv_eq_ediv_of_nonneg (by omega), Int.tmod_eq_emod_of_nonneg (by omega)]
  omega
def spX1_stateOn (As : List MV) (σ : MS) (K : Option MV → MS → Prop) : Prop := pI As fun s r => pI r fun k r => pN r (∃ t w, s = 2 * t + w ∧ 0 ≤ t ∧ t ≤ 3 ∧ (w = 0 ∨ w = 1) ∧ 0 ≤ k ∧ k ≤ 3 ∧ K (some (.inl (2 * k + tw w t k))) σ)
def ciX1_stateOn : CI := (2, 10, 0, 0, spX1_stateOn)
def kX1_stateOn (pc : Nat) : List ME := match pc with
  | 0 => [(.iconst 2, 1, []), (.iload_n 1, 1, []), (.imul, 1, []), (.iload_n 0, 1, []), (.iconst 2, 1, []), (.irem, 1, []), (.iconst 1, 1, []), (.if_icmp .eq 10, 3, [17]), (.iload_n 0, 1, []), (.iconst 2, 1, []), (.idiv, 1, []), (.iload_n 1, 1, []), (.if_icmp .eq 7, 3, [21])]
  | 17 => [(.iconst 1, 1, []), (.goto 4, 3, [22])]
  | 21 => [(.iconst 0, 1, [])]
  | 22 => [(.iadd, 1, []), (.ireturn, 1, [])]
  | _ => []
theorem qX1_stateOn : ∀ pc, chk cX1_stateOn pc (kX1_stateOn pc) = true := by
  intro pc
  unfold kX1_stateOn
  split <;> first | decide +kernel | exact chk_nil
abbrev rmX1_stateOn : Room := { frames := 0, cells := 0, slots := 0, locals := 0 }
def aX1_stateOn (_ : Nat) : Option CI := none
theorem aokX1_stateOn : ∀ x ci, aX1_stateOn x = some ci → CalOK RX1 rmX1_stateOn x ci := fun _ _ h => by cases h
theorem mdX1_stateOn : MD RX1 cX1_stateOn rmX1_stateOn kX1_stateOn fX1 aX1_stateOn zX1 uX1 := ⟨fokX1, zokX1, uokX1, aokX1_stateOn, qX1_stateOn⟩
set_option maxRecDepth 100000 in
set_option maxHeartbeats 800000 in
theorem mX1_stateOn : MOK yX1_stateOn cX1_stateOn 2 (some .int) rmX1_stateOn ciX1_stateOn := by
  refine mok_of (ini := false) (by decide +kernel) (by decide) rfl rfl ?_
  intro σ As K hrc hl h
  obtain ⟨N, P, I, L⟩ := σ
  have h9 := pI_iff.mp h
  clear h
  obtain ⟨s, r, e9, h⟩ := h9
  subst e9
  have h9 := pI_iff.mp h
  clear h
  obtain ⟨k, r, e9, h⟩ := h9
  subst e9
  have h9 := pN_iff.mp h
  clear h
  obtain ⟨e9, h⟩ := h9
  subst e9
  try dsimp only at h
  obtain ⟨t, w, rfl, t0, t1, hw, k0, k1, h⟩ := h
  have e := td2 t0 hw
  refine ⟨Nat.le_of_ble_eq_true rfl, Ok.seg mdX1_stateOn [] 30 ?_⟩
  simp only [wp_nil, wp_cons, ↓stp, ↓lI, ↓lL, ↓lR, ↓lIn_0, ↓lIn_1, ↓lIn_2, ↓lIn_3, ↓lLn_0, ↓lLn_1, ↓lLn_2, ↓lLn_3, ↓lRn_0, ↓lRn_1, ↓lRn_2, ↓lRn_3, ↓pI, ↓pL, ↓pR, ↓pA, ↓pN, ↓pV, ↓fp, ↓tsw, ↓oS, ↓spMax, ↓spMin, ↓spAbs, ↓spObj, RI, RLg, b2i_lo, b2i_hi, getL, setL, ltL, killL, isLong, inl, cnd, br, tgt, rcv, rpl, mputI, mputL, mputP, fv, fr, mcat, mcs, entL, entA, rfit, nf_0, nf_1, nf_2, nf_3, nf2_0, nf2_1, b2i_0, b2i_1, RI_b2i, b2i_fit, List.append, List.length, List.replicate, List.cons_append, List.nil_append, List.length_cons, List.length_nil, List.replicate_succ, List.replicate_zero, List.tail_cons, reduceIte, if_true, if_false, ite_true, ite_false, Bool.false_eq_true, true_and, and_true, and_self, false_and, and_false, or_self, or_true, true_or, or_false, false_or, not_true_eq_false, not_false_eq_true, ne_eq, forall_const, implies_true, imp_self, true_implies, false_implies, Nat.reduceAdd, Nat.reduceSub, Nat.reduceMul, Nat.reduceDiv, Nat.reduceMod, Nat.reduceEqDiff, Nat.reduceLT, Nat.reduceLeDiff, Nat.reduceBEq, Nat.add_zero, Nat.zero_add, Nat.le_refl, Nat.not_lt_zero, Nat.succ_eq_add_one, Int.reduceNatCast, Int.cast_ofNat_Int, Int.reduceSub, Int.reduceMul, Int.reduceNeg, Int.reduceLE, Int.reduceLT, Int.reduceToNat, Int.reduceEq, Int.reduceNe, Int.reduceAdd, Option.some.injEq, kX1_stateOn, rmX1_stateOn, e.1, e.2, G_1, G_2, G_3, G_4, G_35, G_36, G_37, G_38, G_39, G_40, G_41, G_42, G_43, G_44, G_45, G_46, G_47, G_48, G_49, G_140, G_141, G_142, G_143, G_144, G_145, G_146, G_178, G_179, G_180, G_181, G_182, G_183, G_184, G_189, G_198, G_207, PF_1_0, PF_1_1, PF_1_2, PF_1_3, PF_2_0, PF_2_1, PF_2_3, PF_2_4, PF_2_5, PF_2_6, PF_2_7, PF_2_8, PF_2_9, PF_2_10, PF_2_11, PF_3_0, PF_35_0, PF_35_1, PF_35_2, PF_35_3, PF_40_0, PF_40_1, PF_40_2, PF_44_0, PF_44_1, PF_44_2, PF_145_0, PF_145_1, PF_179_0, PF_179_1, PF_179_2, PF_179_3, PF_179_8, PF_179_9, PF_179_10]
  have y : (w = 1 ∨ ¬ k = t) → K (some (.inl (2 * k + 1))) (N, P, I, L) := fun q => by unfold tw at h; rwa [if_pos q] at h
  have n : ¬ (w = 1 ∨ ¬ k = t) → K (some (.inl (2 * k + 0))) (N, P, I, L) := fun q => by unfold tw at h; rwa [if_neg q] at h
  exact ⟨by omega, by omega, fun q => y (by omega), fun q => ⟨by omega, by omega, by omega, fun q2 => n (by omega), fun q2 => y (by omega)⟩⟩
def FARI : Int := 536870912
def strV (I : Int → Int → Int) (t w l n : Int) : Int := if l < n then I (185 + t) l + I 179 4 + I (199 + (2 * t + w)) (n - l) else if I 179 11 ≠ 0 ∧ w = 0 then 536870912 else I (185 + t) l
def spX1_stintThenRest (As : List MV) (σ : MS) (K : Option MV → MS → Prop) : Prop := pR As fun a r => pI r fun s r => pI r fun l r => pI r fun n r => pN r (a = 179 ∧ σ.2.1 = PF ∧ ∃ t w, s = 2 * t + w ∧ 0 ≤ t ∧ t ≤ 3 ∧ (w = 0 ∨ w = 1) ∧ 1 ≤ l ∧ l ≤ n ∧ n ≤ 40 ∧ (σ.2.2.1 179 11 = 0 ∨ σ.2.2.1 179 11 = 1) ∧ K (some (.inl (strV σ.2.2.1 t w l n))) σ)
def ciX1_stintThenRest : CI := (4, 1, 0, 0, spX1_stintThenRest)
def kX1_stintThenRest (pc : Nat) : List ME := match pc with
  | 0 => [(.aload_n 0, 1, []), (.getfield 34, 3, []), (.iload_n 1, 1, []), (.iconst 2, 1, []), (.idiv, 1, []), (.aaload, 1, []), (.iload_n 2, 1, []), (.iaload, 1, []), (.istore 4, 2, []), (.iload_n 2, 1, []), (.iload_n 3, 1, []), (.if_icmp .ge 22, 3, [36]), (.iload 4, 2, []), (.aload_n 0, 1, []), (.getfield 24, 3, []), (.iadd, 1, []), (.aload_n 0, 1, []), (.getfield 40, 3, []), (.iload_n 1, 1, []), (.aaload, 1, []), (.iload_n 3, 1, []), (.iload_n 2, 1, []), (.isub, 1, []), (.iaload, 1, []), (.iadd, 1, []), (.ireturn, 1, [])]
  | 36 => [(.aload_n 0, 1, []), (.getfield 58, 3, []), (.ifCond .eq 14, 3, [54]), (.iload_n 1, 1, []), (.iconst 2, 1, []), (.irem, 1, []), (.ifCond .ne 8, 3, [54]), (.ldc 80, 2, []), (.goto 5, 3, [56])]
  | 54 => [(.iload 4, 2, [])]
  | 56 => [(.ireturn, 1, [])]
  | _ => []
theorem qX1_stintThenRest : ∀ pc, chk cX1_stintThenRest pc (kX1_stintThenRest pc) = true := by
  intro pc
  unfold kX1_stintThenRest
  split <;> first | decide +kernel | exact chk_nil
abbrev rmX1_stintThenRest : Room := { frames := 0, cells := 0, slots := 0, locals := 0 }
def aX1_stintThenRest (_ : Nat) : Option CI := none
theorem aokX1_stintThenRest : ∀ x ci, aX1_stintThenRest x = some ci → CalOK RX1 rmX1_stintThenRest x ci := fun _ _ h => by cases h
theorem mdX1_stintThenRest : MD RX1 cX1_stintThenRest rmX1_stintThenRest kX1_stintThenRest fX1 aX1_stintThenRest zX1 uX1 := ⟨fokX1, zokX1, uokX1, aokX1_stintThenRest, qX1_stintThenRest⟩
set_option maxRecDepth 100000 in
set_option maxHeartbeats 800000 in
theorem mX1_stintThenRest : MOK yX1_stintThenRest cX1_stintThenRest 5 (some .int) rmX1_stintThenRest ciX1_stintThenRest := by
  refine mok_of (ini := false) (by decide +kernel) (by decide) rfl rfl ?_
  intro σ As K hrc hl h
  obtain ⟨N, P, I, L⟩ := σ
  have h9 := pR_iff.mp h
  clear h
  obtain ⟨a, r, e9, h⟩ := h9
  subst e9
  have h9 := pI_iff.mp h
  clear h
  obtain ⟨s, r, e9, h⟩ := h9
  subst e9
  have h9 := pI_iff.mp h
  clear h
  obtain ⟨l, r, e9, h⟩ := h9
  subst e9
  have h9 := pI_iff.mp h
  clear h
  obtain ⟨n, r, e9, h⟩ := h9
  subst e9
  have h9 := pN_iff.mp h
  clear h
  obtain ⟨e9, h⟩ := h9
  subst e9
  dsimp only at h
  obtain ⟨rfl, rfl, t, w, rfl, t0, t1, hw, l0, l1, n1, hb, h⟩ := h
  have e := td2 t0 hw
  have hp1 := PF_stint (i := t) (by omega) (by omega)
  have hg1 := G_stint (a := 185 + t) (by omega) (by omega)
  have hp2 := PF_after (i := 2 * t + w) (by omega) (by omega)
  have hg2 := G_after (a := 199 + (2 * t + w)) (by omega) (by omega)
  refine ⟨Nat.le_of_ble_eq_true rfl, Ok.seg mdX1_stintThenRest [] 40 ?_⟩
  simp only [wp_nil, wp_cons, ↓stp, ↓lI, ↓lL, ↓lR, ↓lIn_0, ↓lIn_1, ↓lIn_2, ↓lIn_3, ↓lLn_0, ↓lLn_1, ↓lLn_2, ↓lLn_3, ↓lRn_0, ↓lRn_1, ↓lRn_2, ↓lRn_3, ↓pI, ↓pL, ↓pR, ↓pA, ↓pN, ↓pV, ↓fp, ↓tsw, ↓oS, ↓spMax, ↓spMin, ↓spAbs, ↓spObj, RI, RLg, b2i_lo, b2i_hi, getL, setL, ltL, killL, isLong, inl, cnd, br, tgt, rcv, rpl, mputI, mputL, mputP, fv, fr, mcat, mcs, entL, entA, rfit, nf_0, nf_1, nf_2, nf_3, nf2_0, nf2_1, b2i_0, b2i_1, RI_b2i, b2i_fit, List.append, List.length, List.replicate, List.cons_append, List.nil_append, List.length_cons, List.length_nil, List.replicate_succ, List.replicate_zero, List.tail_cons, reduceIte, if_true, if_false, ite_true, ite_false, Bool.false_eq_true, true_and, and_true, and_self, false_and, and_false, or_self, or_true, true_or, or_false, false_or, not_true_eq_false, not_false_eq_true, ne_eq, forall_const, implies_true, imp_self, true_implies, false_implies, Nat.reduceAdd, Nat.reduceSub, Nat.reduceMul, Nat.reduceDiv, Nat.reduceMod, Nat.reduceEqDiff, Nat.reduceLT, Nat.reduceLeDiff, Nat.reduceBEq, Nat.add_zero, Nat.zero_add, Nat.le_refl, Nat.not_lt_zero, Nat.succ_eq_add_one, Int.reduceNatCast, Int.cast_ofNat_Int, Int.reduceSub, Int.reduceMul, Int.reduceNeg, Int.reduceLE, Int.reduceLT, Int.reduceToNat, Int.reduceEq, Int.reduceNe, Int.reduceAdd, Option.some.injEq, kX1_stintThenRest, rmX1_stintThenRest, ↓ofX1_24, ↓ofX1_34, ↓ofX1_40, ↓ofX1_58, ↓ozX1_80, e.1, e.2, hp1, hg1, hp2, hg2, G_1, G_2, G_3, G_4, G_35, G_36, G_37, G_38, G_39, G_40, G_41, G_42, G_43, G_44, G_45, G_46, G_47, G_48, G_49, G_140, G_141, G_142, G_143, G_144, G_145, G_146, G_178, G_179, G_180, G_181, G_182, G_183, G_184, G_189, G_198, G_207, PF_1_0, PF_1_1, PF_1_2, PF_1_3, PF_2_0, PF_2_1, PF_2_3, PF_2_4, PF_2_5, PF_2_6, PF_2_7, PF_2_8, PF_2_9, PF_2_10, PF_2_11, PF_3_0, PF_35_0, PF_35_1, PF_35_2, PF_35_3, PF_40_0, PF_40_1, PF_40_2, PF_44_0, PF_44_1, PF_44_2, PF_145_0, PF_145_1, PF_179_0, PF_179_1, PF_179_2, PF_179_3, PF_179_8, PF_179_9, PF_179_10]
  unfold strV at h
  refine ⟨by omega, by omega, by omega, by omega, by omega, by omega, by omega, fun q => ⟨by omega, fun q2 => ?_, fun q2 => ⟨by omega, by omega, fun q3 => ?_, fun q3 => ?_⟩⟩, fun q => ⟨by omega, by omega, by omega, by omega, ?_⟩⟩
  · rwa [if_neg (by omega), if_neg (by omega)] at h
  · rwa [if_neg (by omega), if_neg (by omega)] at h
  · rwa [if_neg (by omega), if_pos (by omega)] at h
  · rwa [if_pos (by omega)] at h
theorem Lst.two {S T S' : Int → Prop} {F v r m : Int} (h : Lst S F v) (hT : Lst T F r) (e : ∀ y, S' y ↔ S y ∨ T y) (h1 : m ≤ v) (h2 : m ≤ r) (h3 : m = v ∨ m = r) : Lst S' F m := by
  obtain ⟨a, b, d⟩ := h
  obtain ⟨a', b', d'⟩ := hT
  refine ⟨?_, by omega, fun x hx => ?_⟩
  · rcases h3 with q | q
    · rw [q]; exact a.imp id (fun z => (e _).mpr (.inl z))
    · rw [q]; exact a'.imp id (fun z => (e _).mpr (.inr z))
  · rcases (e x).mp hx with q | q
    · have := d x q; omega
    · have := d' x q; omega
/-- what the rows of a race rest on -/
def rcB (I : Int → Int → Int) (lp : Int → Int → Int) : Prop := (0 ≤ I 179 4 ∧ I 179 4 ≤ 100000) ∧ (I 179 11 = 0 ∨ I 179 11 = 1) ∧ ∀ t d, 0 ≤ t → t ≤ 3 → 0 ≤ d → d ≤ 39 → 0 ≤ lp t d ∧ lp t d ≤ 3030000
def stiOK (I : Int → Int → Int) (lp : Int → Int → Int) (n : Nat) : Prop := ∀ (t : Int) (l : Nat), 0 ≤ t → t ≤ 3 → l ≤ n → I (185 + t) l = sumI (lp t) l
def frR (I : Int → Int → Int) (lp : Int → Int → Int) (m : Nat) : Prop := ∀ t w, 0 ≤ t → t ≤ 3 → (w = 0 ∨ w = 1) → Lst (Fr lp (I 179 4) (I 179 11 ≠ 0) (m - 1) t w) 536870912 (I (190 + (2 * t + w)) m)
def afR (I : Int → Int → Int) (lp : Int → Int → Int) (m : Nat) : Prop := ∀ t w, 0 ≤ t → t ≤ 3 → (w = 0 ∨ w = 1) → Lst (Af lp (I 179 4) (I 179 11 ≠ 0) (m - 1) t w) 536870912 (I (199 + (2 * t + w)) m)
theorem sum_lp {lp : Int → Int → Int} (hlp : ∀ t d, 0 ≤ t → t ≤ 3 → 0 ≤ d → d ≤ 39 → 0 ≤ lp t d ∧ lp t d ≤ 3030000) {t : Int} {l : Nat} (t0 : 0 ≤ t) (t1 : t ≤ 3) (hl : l ≤ 40) : 0 ≤ sumI (lp t) l ∧ sumI (lp t) l ≤ l * 3030000 :=
  sumI_rng l (fun i a b => hlp t i t0 t1 a (by omega))
theorem strV_Lst {I : Int → Int → Int} {lp : Int → Int → Int} {t w : Int} {l n : Nat} (hB : rcB I lp) (hs : stiOK I lp n) (ha : ∀ m, 1 ≤ m → m < n → afR I lp m) (t0 : 0 ≤ t) (t1 : t ≤ 3) (hw : w = 0 ∨ w = 1) (l0 : 1 ≤ l) (l1 : l ≤ n) (n1 : n ≤ 40) : Lst (stS lp (I 179 4) (I 179 11 ≠ 0) t w l n) 536870912 (strV I t w l n) ∧ 0 ≤ strV I t w l n ∧ strV I t w l n ≤ 536870912 := by
  obtain ⟨b1, b2, b3⟩ := hB
  have e := hs t l t0 t1 l1
  have r := sum_lp b3 t0 t1 (show l ≤ 40 by omega)
  unfold strV
  by_cases q : l < n
  · rw [if_pos (by omega), e, show (n : Int) - l = ((n - l : Nat) : Int) by omega]
    have a := ha (n - l) (by omega) (by omega) t w t0 t1 hw
    obtain ⟨x, hx⟩ := Af_ex (lp := lp) (sp := I 179 4) (mu := I 179 11 ≠ 0) (n - l - 1) t w
    have xr := Af_rng b1 b3 (by omega) hx
    have a2 := a.lt ⟨x, hx, by omega⟩
    have ar := Af_rng b1 b3 (by omega) a2.1
    refine ⟨⟨.inr (.inl ⟨q, _, a2.1, rfl⟩), by omega, fun y hy => ?_⟩, by omega⟩
    rcases hy with ⟨_, z, z1, z2⟩ | ⟨z, _⟩
    · have := a2.2 z z1; omega
    · omega
  · have hln : l = n := by omega
    rw [if_neg (by omega)]
    by_cases q2 : I 179 11 ≠ 0 ∧ w = 0
    · rw [if_pos q2]
      refine ⟨⟨.inl rfl, by omega, fun y hy => ?_⟩, by omega⟩
      rcases hy with ⟨z, _⟩ | ⟨_, _, z⟩
      · omega
      · exact (z q2).elim
    · rw [if_neg q2, e]
      refine ⟨⟨.inr (.inr ⟨hln, rfl, q2⟩), by omega, fun y hy => ?_⟩, by omega⟩
      rcases hy with ⟨z, _⟩ | ⟨_, z, _⟩
      · omega
      · omega
def frF (I J : Int → Int → Int) (c n : Int) : Prop := ∀ b k, ¬ (c ≤ b ∧ b ≤ c + 7 ∧ k = n) → J b k = I b k
theorem strV_cg {I J : Int → Int → Int} {c n t w l n' : Int} (h : frF I J c n) (hc : c = 190 ∨ c = 199 ∧ n' ≤ n ∧ 1 ≤ l) (t0 : 0 ≤ t) (t1 : t ≤ 3) (hw : w = 0 ∨ w = 1) : strV J t w l n' = strV I t w l n' := by
  unfold strV
  rw [h 179 4 (by omega), h 179 11 (by omega), h (185 + t) l (by omega), h (199 + (2 * t + w)) (n' - l) (by omega)]
def spX1_fillFresh (As : List MV) (σ : MS) (K : Option MV → MS → Prop) : Prop := pR As fun a r => pI r fun n r => pN r (a = 179 ∧ σ.2.1 = PF ∧ ∃ (m : Nat) (lp : Int → Int → Int), n = m ∧ 1 ≤ m ∧ m ≤ 40 ∧ rcB σ.2.2.1 lp ∧ stiOK σ.2.2.1 lp m ∧ (∀ j, 1 ≤ j → j < m → afR σ.2.2.1 lp j) ∧
  ∀ I' : Int → Int → Int, frF σ.2.2.1 I' 190 m → frR I' lp m → K none (σ.1, σ.2.1, I', σ.2.2.2))
def ciX1_fillFresh : CI := (2, 1, 0, 0, spX1_fillFresh)
def kX1_fillFresh (pc : Nat) : List ME := match pc with
  | 0 => [(.iconst 0, 1, []), (.istore_n 2, 1, [])]
  | 2 => [(.iload_n 2, 1, []), (.bipush 8, 2, []), (.if_icmp .ge 49, 3, [54]), (.ldc 80, 2, []), (.istore_n 3, 1, []), (.iconst 1, 1, []), (.istore 4, 2, [])]
  | 14 => [(.iload 4, 2, []), (.iload_n 1, 1, []), (.if_icmp .gt 22, 3, [39]), (.iload_n 3, 1, []), (.aload_n 0, 1, []), (.iload_n 2, 1, []), (.iload 4, 2, []), (.iload_n 1, 1, []), (.invokevirtual 81, 3, []), (.invokestatic 85, 3, []), (.istore_n 3, 1, []), (.iinc 4 1, 3, []), (.goto (-22), 3, [14])]
  | 39 => [(.aload_n 0, 1, []), (.getfield 37, 3, []), (.iload_n 2, 1, []), (.aaload, 1, []), (.iload_n 1, 1, []), (.iload_n 3, 1, []), (.iastore, 1, []), (.iinc 2 1, 3, []), (.goto (-49), 3, [2])]
  | 54 => [(.return_, 1, [])]
  | _ => []
theorem qX1_fillFresh : ∀ pc, chk cX1_fillFresh pc (kX1_fillFresh pc) = true := by
  intro pc
  unfold kX1_fillFresh
  split <;> first | decide +kernel | exact chk_nil
abbrev rmX1_fillFresh : Room := { frames := 1, cells := 0, slots := 0, locals := 24 }
def aX1_fillFresh (x : Nat) : Option CI := match x with
  | 81 => some ciX1_stintThenRest
  | 85 => some ciMin
  | _ => none
theorem aokX1_fillFresh : ∀ x ci, aX1_fillFresh x = some ci → CalOK RX1 rmX1_fillFresh x ci := by
  intro x ci h
  unfold aX1_fillFresh at h
  split at h
  · cases h; exact cal_V mX1_stintThenRest (by decide) rfl (List.forall_mem_cons.mpr ⟨(ws_mem (List.mem_of_getElem? (i := 590) (by decide +kernel)) (by decide +kernel)), List.forall_mem_cons.mpr ⟨(ws_mem (List.mem_of_getElem? (i := 592) (by decide +kernel)) (by decide +kernel)), List.forall_mem_cons.mpr ⟨(ws_mem (List.mem_of_getElem? (i := 13) (by decide +kernel)) (by decide +kernel)), List.forall_mem_cons.mpr ⟨(ws_mem (List.mem_of_getElem? (i := 62) (by decide +kernel)) (by decide +kernel)), List.forall_mem_cons.mpr ⟨(ws_mem (List.mem_of_getElem? (i := 593) (by decide +kernel)) (by decide +kernel)), fun _ h => absurd h List.not_mem_nil⟩⟩⟩⟩⟩) rfl (by unfold nice; decide +kernel) (by unfold rfits; decide) ⟨rfl, rfl⟩
  · cases h; exact cal_min (List.forall_mem_cons.mpr ⟨(ws_mem (List.mem_of_getElem? (i := 594) (by decide +kernel)) (by decide +kernel)), List.forall_mem_cons.mpr ⟨(ws_mem (List.mem_of_getElem? (i := 154) (by decide +kernel)) (by decide +kernel)), List.forall_mem_cons.mpr ⟨(ws_mem (List.mem_of_getElem? (i := 58) (by decide +kernel)) (by decide +kernel)), List.forall_mem_cons.mpr ⟨(ws_mem (List.mem_of_getElem? (i := 155) (by decide +kernel)) (by decide +kernel)), fun _ h => absurd h List.not_mem_nil⟩⟩⟩⟩) (by decide)
  · cases h
theorem ocX1_fillFresh_81 (f : Nat → Nat → Nat → Nat → (List MV → MS → (Option MV → MS → Prop) → Prop) → Prop) : oC aX1_fillFresh 81 f = f 4 1 0 0 spX1_stintThenRest := propext Iff.rfl
theorem ocX1_fillFresh_85 (f : Nat → Nat → Nat → Nat → (List MV → MS → (Option MV → MS → Prop) → Prop) → Prop) : oC aX1_fillFresh 85 f = f 2 10 0 0 spMin := propext Iff.rfl
theorem mdX1_fillFresh : MD RX1 cX1_fillFresh rmX1_fillFresh kX1_fillFresh fX1 aX1_fillFresh zX1 uX1 := ⟨fokX1, zokX1, uokX1, aokX1_fillFresh, qX1_fillFresh⟩
set_option maxHeartbeats 1600000 in
set_option maxRecDepth 100000 in
theorem lpX1_f1 {post : Option MV → MS → Prop} {U : Pt → Prop} {N n : Nat} {I L : Int → Int → Int} {lp : Int → Int → Int} {s t w : Int} (es : s = 2 * t + w) (t0 : 0 ≤ t) (t1 : t ≤ 3) (hw : w = 0 ∨ w = 1) (n1 : n ≤ 40) (hn : 1 ≤ n)
    (hv : ∀ l : Nat, 1 ≤ l → l ≤ n → Lst (stS lp (I 179 4) (I 179 11 ≠ 0) t w l n) 536870912 (strV I t w l n) ∧ 0 ≤ strV I t w l n ∧ strV I t w l n ≤ 536870912) (hb : I 179 11 = 0 ∨ I 179 11 = 1)
    (h : ∀ (v : Int) (t4 : Option MV), Lst (Fr lp (I 179 4) (I 179 11 ≠ 0) (n - 1) t w) 536870912 v → Ok RX1 cX1_fillFresh 5 rmX1_fillFresh false none post U (39, [some (.inr (.inr (some 179))), some (.inl n), some (.inl s), some (.inl v), t4], [], (N, PF, I, L), 0, 0)) :
    ∀ (m l : Nat) (v : Int), l + m = n + 1 → 1 ≤ l → 0 ≤ v → Lst (fun x => ∃ l', 1 ≤ l' ∧ l' < l ∧ stS lp (I 179 4) (I 179 11 ≠ 0) t w l' n x) 536870912 v →
    Ok RX1 cX1_fillFresh 5 rmX1_fillFresh false none post U (14, [some (.inr (.inr (some 179))), some (.inl n), some (.inl s), some (.inl v), some (.inl l)], [], (N, PF, I, L), 0, 0)
  | 0, l, v, hl, l0, v0, h1 => by
    refine Ok.seg mdX1_fillFresh [14, 39] 10 ?_
    simp only [wp_nil, wp_cons, ↓stp, ↓lI, ↓lL, ↓lR, ↓lIn_0, ↓lIn_1, ↓lIn_2, ↓lIn_3, ↓lLn_0, ↓lLn_1, ↓lLn_2, ↓lLn_3, ↓lRn_0, ↓lRn_1, ↓lRn_2, ↓lRn_3, ↓pI, ↓pL, ↓pR, ↓pA, ↓pN, ↓pV, ↓fp, ↓tsw, ↓oS, ↓spMax, ↓spMin, ↓spAbs, ↓spObj, RI, RLg, b2i_lo, b2i_hi, getL, setL, ltL, killL, isLong, inl, cnd, br, tgt, rcv, rpl, mputI, mputL, mputP, fv, fr, mcat, mcs, entL, entA, rfit, nf_0, nf_1, nf_2, nf_3, nf2_0, nf2_1, b2i_0, b2i_1, RI_b2i, b2i_fit, List.append, List.length, List.replicate, List.cons_append, List.nil_append, List.length_cons, List.length_nil, List.replicate_succ, List.replicate_zero, List.tail_cons, reduceIte, if_true, if_false, ite_true, ite_false, Bool.false_eq_true, true_and, and_true, and_self, false_and, and_false, or_self, or_true, true_or, or_false, false_or, not_true_eq_false, not_false_eq_true, ne_eq, forall_const, implies_true, imp_self, true_implies, false_implies, Nat.reduceAdd, Nat.reduceSub, Nat.reduceMul, Nat.reduceDiv, Nat.reduceMod, Nat.reduceEqDiff, Nat.reduceLT, Nat.reduceLeDiff, Nat.reduceBEq, Nat.add_zero, Nat.zero_add, Nat.le_refl, Nat.not_lt_zero, Nat.succ_eq_add_one, Int.reduceNatCast, Int.cast_ofNat_Int, Int.reduceSub, Int.reduceMul, Int.reduceNeg, Int.reduceLE, Int.reduceLT, Int.reduceToNat, Int.reduceEq, Int.reduceNe, Int.reduceAdd, Option.some.injEq, kX1_fillFresh, rmX1_fillFresh, ↓ofX1_37, ↓ozX1_80, ↓ocX1_fillFresh_81, ↓spX1_stintThenRest, ↓ocX1_fillFresh_85, G_1, G_2, G_3, G_4, G_35, G_36, G_37, G_38, G_39, G_40, G_41, G_42, G_43, G_44, G_45, G_46, G_47, G_48, G_49, G_140, G_141, G_142, G_143, G_144, G_145, G_146, G_178, G_179, G_180, G_181, G_182, G_183, G_184, G_189, G_198, G_207, PF_1_0, PF_1_1, PF_1_2, PF_1_3, PF_2_0, PF_2_1, PF_2_3, PF_2_4, PF_2_5, PF_2_6, PF_2_7, PF_2_8, PF_2_9, PF_2_10, PF_2_11, PF_3_0, PF_35_0, PF_35_1, PF_35_2, PF_35_3, PF_40_0, PF_40_1, PF_40_2, PF_44_0, PF_44_1, PF_44_2, PF_145_0, PF_145_1, PF_179_0, PF_179_1, PF_179_2, PF_179_3, PF_179_8, PF_179_9, PF_179_10]
    refine ⟨by omega, by omega, fun q => h v _ (h1.cg (fun y => ?_)), fun q => by omega⟩
    rw [Fr_stS hn]
    exact ⟨fun ⟨a, b, c, d⟩ => ⟨a, b, by omega, d⟩, fun ⟨a, b, c, d⟩ => ⟨a, b, by omega, d⟩⟩
  | m + 1, l, v, hl, l0, v0, h1 => by
    have ih := lpX1_f1 (U := U) es t0 t1 hw n1 hn hv hb h m (l + 1)
    obtain ⟨a, b, c⟩ := hv l l0 (by omega)
    have hv1 := h1.2.1
    refine Ok.seg mdX1_fillFresh [14, 39] 30 ?_
    simp only [wp_nil, wp_cons, ↓stp, ↓lI, ↓lL, ↓lR, ↓lIn_0, ↓lIn_1, ↓lIn_2, ↓lIn_3, ↓lLn_0, ↓lLn_1, ↓lLn_2, ↓lLn_3, ↓lRn_0, ↓lRn_1, ↓lRn_2, ↓lRn_3, ↓pI, ↓pL, ↓pR, ↓pA, ↓pN, ↓pV, ↓fp, ↓tsw, ↓oS, ↓spMax, ↓spMin, ↓spAbs, ↓spObj, RI, RLg, b2i_lo, b2i_hi, getL, setL, ltL, killL, isLong, inl, cnd, br, tgt, rcv, rpl, mputI, mputL, mputP, fv, fr, mcat, mcs, entL, entA, rfit, nf_0, nf_1, nf_2, nf_3, nf2_0, nf2_1, b2i_0, b2i_1, RI_b2i, b2i_fit, List.append, List.length, List.replicate, List.cons_append, List.nil_append, List.length_cons, List.length_nil, List.replicate_succ, List.replicate_zero, List.tail_cons, reduceIte, if_true, if_false, ite_true, ite_false, Bool.false_eq_true, true_and, and_true, and_self, false_and, and_false, or_self, or_true, true_or, or_false, false_or, not_true_eq_false, not_false_eq_true, ne_eq, forall_const, implies_true, imp_self, true_implies, false_implies, Nat.reduceAdd, Nat.reduceSub, Nat.reduceMul, Nat.reduceDiv, Nat.reduceMod, Nat.reduceEqDiff, Nat.reduceLT, Nat.reduceLeDiff, Nat.reduceBEq, Nat.add_zero, Nat.zero_add, Nat.le_refl, Nat.not_lt_zero, Nat.succ_eq_add_one, Int.reduceNatCast, Int.cast_ofNat_Int, Int.reduceSub, Int.reduceMul, Int.reduceNeg, Int.reduceLE, Int.reduceLT, Int.reduceToNat, Int.reduceEq, Int.reduceNe, Int.reduceAdd, Option.some.injEq, kX1_fillFresh, rmX1_fillFresh, ↓ofX1_37, ↓ozX1_80, ↓ocX1_fillFresh_81, ↓spX1_stintThenRest, ↓ocX1_fillFresh_85, G_1, G_2, G_3, G_4, G_35, G_36, G_37, G_38, G_39, G_40, G_41, G_42, G_43, G_44, G_45, G_46, G_47, G_48, G_49, G_140, G_141, G_142, G_143, G_144, G_145, G_146, G_178, G_179, G_180, G_181, G_182, G_183, G_184, G_189, G_198, G_207, PF_1_0, PF_1_1, PF_1_2, PF_1_3, PF_2_0, PF_2_1, PF_2_3, PF_2_4, PF_2_5, PF_2_6, PF_2_7, PF_2_8, PF_2_9, PF_2_10, PF_2_11, PF_3_0, PF_35_0, PF_35_1, PF_35_2, PF_35_3, PF_40_0, PF_40_1, PF_40_2, PF_44_0, PF_44_1, PF_44_2, PF_145_0, PF_145_1, PF_179_0, PF_179_1, PF_179_2, PF_179_3, PF_179_8, PF_179_9, PF_179_10]
    refine ⟨by omega, by omega, fun q => by omega, fun q => ⟨t, w, es, t0, t1, hw, by omega, by omega, by omega, hb, by omega, by omega, fun r r0 r1 r2 => ?_⟩⟩
    have := ih r (by omega) (by omega) (by omega) (h1.two a (fun y => ?_) r0 r1 r2)
    · rwa [show ((l + 1 : Nat) : Int) = (l : Int) + 1 by omega] at this
    · constructor
      · rintro ⟨l', a, b, c⟩
        by_cases q : l' = l
        · exact .inr (q ▸ c)
        · exact .inl ⟨l', a, by omega, c⟩
      · rintro (⟨l', a, b, c⟩ | c)
        · exact ⟨l', a, by omega, c⟩
        · exact ⟨l, l0, by omega, c⟩
set_option maxHeartbeats 1600000 in
set_option maxRecDepth 100000 in
theorem lpX1_f2 {post : Option MV → MS → Prop} {U : Pt → Prop} {N n : Nat} {I L : Int → Int → Int} {lp : Int → Int → Int} (n1 : n ≤ 40) (hn : 1 ≤ n) (hB : rcB I lp) (hs : stiOK I lp n) (ha : ∀ m, 1 ≤ m → m < n → afR I lp m)
    (h : ∀ I1 : Int → Int → Int, frF I I1 190 n → frR I1 lp n → post none (N, PF, I1, L)) :
    ∀ (m : Nat) (s : Int) (I1 : Int → Int → Int) (t3 t4 : Option MV), s + m = 8 → 0 ≤ s → frF I I1 190 n → (∀ t w, 0 ≤ t → t ≤ 3 → (w = 0 ∨ w = 1) → 2 * t + w < s → Lst (Fr lp (I 179 4) (I 179 11 ≠ 0) (n - 1) t w) 536870912 (I1 (190 + (2 * t + w)) n)) →
    Ok RX1 cX1_fillFresh 5 rmX1_fillFresh false none post U (2, [some (.inr (.inr (some 179))), some (.inl n), some (.inl s), t3, t4], [], (N, PF, I1, L), 0, 0)
  | 0, s, I1, t3, t4, hm, s0, h1, h2 => by
    refine Ok.seg mdX1_fillFresh [2, 14, 39] 10 ?_
    simp only [wp_nil, wp_cons, ↓stp, ↓lI, ↓lL, ↓lR, ↓lIn_0, ↓lIn_1, ↓lIn_2, ↓lIn_3, ↓lLn_0, ↓lLn_1, ↓lLn_2, ↓lLn_3, ↓lRn_0, ↓lRn_1, ↓lRn_2, ↓lRn_3, ↓pI, ↓pL, ↓pR, ↓pA, ↓pN, ↓pV, ↓fp, ↓tsw, ↓oS, ↓spMax, ↓spMin, ↓spAbs, ↓spObj, RI, RLg, b2i_lo, b2i_hi, getL, setL, ltL, killL, isLong, inl, cnd, br, tgt, rcv, rpl, mputI, mputL, mputP, fv, fr, mcat, mcs, entL, entA, rfit, nf_0, nf_1, nf_2, nf_3, nf2_0, nf2_1, b2i_0, b2i_1, RI_b2i, b2i_fit, List.append, List.length, List.replicate, List.cons_append, List.nil_append, List.length_cons, List.length_nil, List.replicate_succ, List.replicate_zero, List.tail_cons, reduceIte, if_true, if_false, ite_true, ite_false, Bool.false_eq_true, true_and, and_true, and_self, false_and, and_false, or_self, or_true, true_or, or_false, false_or, not_true_eq_false, not_false_eq_true, ne_eq, forall_const, implies_true, imp_self, true_implies, false_implies, Nat.reduceAdd, Nat.reduceSub, Nat.reduceMul, Nat.reduceDiv, Nat.reduceMod, Nat.reduceEqDiff, Nat.reduceLT, Nat.reduceLeDiff, Nat.reduceBEq, Nat.add_zero, Nat.zero_add, Nat.le_refl, Nat.not_lt_zero, Nat.succ_eq_add_one, Int.reduceNatCast, Int.cast_ofNat_Int, Int.reduceSub, Int.reduceMul, Int.reduceNeg, Int.reduceLE, Int.reduceLT, Int.reduceToNat, Int.reduceEq, Int.reduceNe, Int.reduceAdd, Option.some.injEq, kX1_fillFresh, rmX1_fillFresh, ↓ofX1_37, ↓ozX1_80, ↓ocX1_fillFresh_81, ↓spX1_stintThenRest, ↓ocX1_fillFresh_85, G_1, G_2, G_3, G_4, G_35, G_36, G_37, G_38, G_39, G_40, G_41, G_42, G_43, G_44, G_45, G_46, G_47, G_48, G_49, G_140, G_141, G_142, G_143, G_144, G_145, G_146, G_178, G_179, G_180, G_181, G_182, G_183, G_184, G_189, G_198, G_207, PF_1_0, PF_1_1, PF_1_2, PF_1_3, PF_2_0, PF_2_1, PF_2_3, PF_2_4, PF_2_5, PF_2_6, PF_2_7, PF_2_8, PF_2_9, PF_2_10, PF_2_11, PF_3_0, PF_35_0, PF_35_1, PF_35_2, PF_35_3, PF_40_0, PF_40_1, PF_40_2, PF_44_0, PF_44_1, PF_44_2, PF_145_0, PF_145_1, PF_179_0, PF_179_1, PF_179_2, PF_179_3, PF_179_8, PF_179_9, PF_179_10]
    refine ⟨by omega, fun q => h I1 h1 (fun t w t0 t1 hw => ?_), fun q => by omega⟩
    rw [h1 179 4 (by omega), h1 179 11 (by omega)]
    exact h2 t w t0 t1 hw (by omega)
  | m + 1, s, I1, t3, t4, hm, s0, h1, h2 => by
    have ih := lpX1_f2 (U := U) (post := post) n1 hn hB hs ha h m (s + 1)
    have hp := PF_fresh (i := s) (by omega) (by omega)
    have hg := G_fresh (a := 190 + s) (by omega) (by omega)
    have e1 := h1 179 4 (by omega)
    have e2 := h1 179 11 (by omega)
    refine Ok.seg mdX1_fillFresh [2, 14, 39] 10 ?_
    simp only [wp_nil, wp_cons, ↓stp, ↓lI, ↓lL, ↓lR, ↓lIn_0, ↓lIn_1, ↓lIn_2, ↓lIn_3, ↓lLn_0, ↓lLn_1, ↓lLn_2, ↓lLn_3, ↓lRn_0, ↓lRn_1, ↓lRn_2, ↓lRn_3, ↓pI, ↓pL, ↓pR, ↓pA, ↓pN, ↓pV, ↓fp, ↓tsw, ↓oS, ↓spMax, ↓spMin, ↓spAbs, ↓spObj, RI, RLg, b2i_lo, b2i_hi, getL, setL, ltL, killL, isLong, inl, cnd, br, tgt, rcv, rpl, mputI, mputL, mputP, fv, fr, mcat, mcs, entL, entA, rfit, nf_0, nf_1, nf_2, nf_3, nf2_0, nf2_1, b2i_0, b2i_1, RI_b2i, b2i_fit, List.append, List.length, List.replicate, List.cons_append, List.nil_append, List.length_cons, List.length_nil, List.replicate_succ, List.replicate_zero, List.tail_cons, reduceIte, if_true, if_false, ite_true, ite_false, Bool.false_eq_true, true_and, and_true, and_self, false_and, and_false, or_self, or_true, true_or, or_false, false_or, not_true_eq_false, not_false_eq_true, ne_eq, forall_const, implies_true, imp_self, true_implies, false_implies, Nat.reduceAdd, Nat.reduceSub, Nat.reduceMul, Nat.reduceDiv, Nat.reduceMod, Nat.reduceEqDiff, Nat.reduceLT, Nat.reduceLeDiff, Nat.reduceBEq, Nat.add_zero, Nat.zero_add, Nat.le_refl, Nat.not_lt_zero, Nat.succ_eq_add_one, Int.reduceNatCast, Int.cast_ofNat_Int, Int.reduceSub, Int.reduceMul, Int.reduceNeg, Int.reduceLE, Int.reduceLT, Int.reduceToNat, Int.reduceEq, Int.reduceNe, Int.reduceAdd, Option.some.injEq, kX1_fillFresh, rmX1_fillFresh, ↓ofX1_37, ↓ozX1_80, ↓ocX1_fillFresh_81, ↓spX1_stintThenRest, ↓ocX1_fillFresh_85, G_1, G_2, G_3, G_4, G_35, G_36, G_37, G_38, G_39, G_40, G_41, G_42, G_43, G_44, G_45, G_46, G_47, G_48, G_49, G_140, G_141, G_142, G_143, G_144, G_145, G_146, G_178, G_179, G_180, G_181, G_182, G_183, G_184, G_189, G_198, G_207, PF_1_0, PF_1_1, PF_1_2, PF_1_3, PF_2_0, PF_2_1, PF_2_3, PF_2_4, PF_2_5, PF_2_6, PF_2_7, PF_2_8, PF_2_9, PF_2_10, PF_2_11, PF_3_0, PF_35_0, PF_35_1, PF_35_2, PF_35_3, PF_40_0, PF_40_1, PF_40_2, PF_44_0, PF_44_1, PF_44_2, PF_145_0, PF_145_1, PF_179_0, PF_179_1, PF_179_2, PF_179_3, PF_179_8, PF_179_9, PF_179_10]
    refine ⟨by omega, fun q => by omega, fun q => ?_⟩
    refine lpX1_f1 (lp := lp) (I := I1) (t := s / 2) (w := s % 2) (by omega) (by omega) (by omega) (by omega) n1 hn (fun l l0 l1 => ?_) (by rw [e2]; exact hB.2.1) (fun v t4 hv => ?_) n 1 536870912 (by omega) (by omega) (by omega) (Lst.none (fun y ⟨l', a, b, _⟩ => by omega))
    · rw [strV_cg h1 (.inl rfl) (by omega) (by omega) (by omega), e1, e2]
      exact strV_Lst hB hs ha (by omega) (by omega) (by omega) l0 l1 n1
    · rw [e1, e2] at hv
      refine Ok.seg mdX1_fillFresh [2, 14, 39] 20 ?_
      simp only [wp_nil, wp_cons, ↓stp, ↓lI, ↓lL, ↓lR, ↓lIn_0, ↓lIn_1, ↓lIn_2, ↓lIn_3, ↓lLn_0, ↓lLn_1, ↓lLn_2, ↓lLn_3, ↓lRn_0, ↓lRn_1, ↓lRn_2, ↓lRn_3, ↓pI, ↓pL, ↓pR, ↓pA, ↓pN, ↓pV, ↓fp, ↓tsw, ↓oS, ↓spMax, ↓spMin, ↓spAbs, ↓spObj, RI, RLg, b2i_lo, b2i_hi, getL, setL, ltL, killL, isLong, inl, cnd, br, tgt, rcv, rpl, mputI, mputL, mputP, fv, fr, mcat, mcs, entL, entA, rfit, nf_0, nf_1, nf_2, nf_3, nf2_0, nf2_1, b2i_0, b2i_1, RI_b2i, b2i_fit, List.append, List.length, List.replicate, List.cons_append, List.nil_append, List.length_cons, List.length_nil, List.replicate_succ, List.replicate_zero, List.tail_cons, reduceIte, if_true, if_false, ite_true, ite_false, Bool.false_eq_true, true_and, and_true, and_self, false_and, and_false, or_self, or_true, true_or, or_false, false_or, not_true_eq_false, not_false_eq_true, ne_eq, forall_const, implies_true, imp_self, true_implies, false_implies, Nat.reduceAdd, Nat.reduceSub, Nat.reduceMul, Nat.reduceDiv, Nat.reduceMod, Nat.reduceEqDiff, Nat.reduceLT, Nat.reduceLeDiff, Nat.reduceBEq, Nat.add_zero, Nat.zero_add, Nat.le_refl, Nat.not_lt_zero, Nat.succ_eq_add_one, Int.reduceNatCast, Int.cast_ofNat_Int, Int.reduceSub, Int.reduceMul, Int.reduceNeg, Int.reduceLE, Int.reduceLT, Int.reduceToNat, Int.reduceEq, Int.reduceNe, Int.reduceAdd, Option.some.injEq, kX1_fillFresh, rmX1_fillFresh, ↓ofX1_37, ↓ozX1_80, ↓ocX1_fillFresh_81, ↓spX1_stintThenRest, ↓ocX1_fillFresh_85, hp, hg, G_1, G_2, G_3, G_4, G_35, G_36, G_37, G_38, G_39, G_40, G_41, G_42, G_43, G_44, G_45, G_46, G_47, G_48, G_49, G_140, G_141, G_142, G_143, G_144, G_145, G_146, G_178, G_179, G_180, G_181, G_182, G_183, G_184, G_189, G_198, G_207, PF_1_0, PF_1_1, PF_1_2, PF_1_3, PF_2_0, PF_2_1, PF_2_3, PF_2_4, PF_2_5, PF_2_6, PF_2_7, PF_2_8, PF_2_9, PF_2_10, PF_2_11, PF_3_0, PF_35_0, PF_35_1, PF_35_2, PF_35_3, PF_40_0, PF_40_1, PF_40_2, PF_44_0, PF_44_1, PF_44_2, PF_145_0, PF_145_1, PF_179_0, PF_179_1, PF_179_2, PF_179_3, PF_179_8, PF_179_9, PF_179_10]
      refine ⟨by omega, by omega, by omega, by omega, ih _ _ _ (by omega) (by omega) (fun b k hb => ?_) (fun t w t0 t1 hw hq => ?_)⟩
      · rw [show upI I1 (190 + s) n v b k = I1 b k from if_neg (fun z => hb ⟨by omega, by omega, z.2⟩)]; exact h1 b k hb
      · by_cases q2 : 2 * t + w = s
        · rw [q2, upI_same]
          rwa [show s / 2 = t by omega, show s % 2 = w by omega] at hv
        · rw [upI_ne (by omega)]; exact h2 t w t0 t1 hw (by omega)
set_option maxRecDepth 100000 in
set_option maxHeartbeats 800000 in
theorem mX1_fillFresh : MOK yX1_fillFresh cX1_fillFresh 5 none rmX1_fillFresh ciX1_fillFresh := by
  refine mok_of (ini := false) (by decide +kernel) (by decide) rfl rfl ?_
  intro σ As K hrc hl h
  obtain ⟨N, P, I, L⟩ := σ
  have h9 := pR_iff.mp h
  clear h
  obtain ⟨a, r, e9, h⟩ := h9
  subst e9
  have h9 := pI_iff.mp h
  clear h
  obtain ⟨n, r, e9, h⟩ := h9
  subst e9
  have h9 := pN_iff.mp h
  clear h
  obtain ⟨e9, h⟩ := h9
  subst e9
  dsimp only at h
  obtain ⟨rfl, rfl, m, lp, rfl, m0, m1, hB, hs, ha, h⟩ := h
  refine ⟨Nat.le_of_ble_eq_true rfl, Ok.seg mdX1_fillFresh [2] 6 ?_⟩
  simp only [wp_nil, wp_cons, ↓stp, ↓lI, ↓lL, ↓lR, ↓lIn_0, ↓lIn_1, ↓lIn_2, ↓lIn_3, ↓lLn_0, ↓lLn_1, ↓lLn_2, ↓lLn_3, ↓lRn_0, ↓lRn_1, ↓lRn_2, ↓lRn_3, ↓pI, ↓pL, ↓pR, ↓pA, ↓pN, ↓pV, ↓fp, ↓tsw, ↓oS, ↓spMax, ↓spMin, ↓spAbs, ↓spObj, RI, RLg, b2i_lo, b2i_hi, getL, setL, ltL, killL, isLong, inl, cnd, br, tgt, rcv, rpl, mputI, mputL, mputP, fv, fr, mcat, mcs, entL, entA, rfit, nf_0, nf_1, nf_2, nf_3, nf2_0, nf2_1, b2i_0, b2i_1, RI_b2i, b2i_fit, List.append, List.length, List.replicate, List.cons_append, List.nil_append, List.length_cons, List.length_nil, List.replicate_succ, List.replicate_zero, List.tail_cons, reduceIte, if_true, if_false, ite_true, ite_false, Bool.false_eq_true, true_and, and_true, and_self, false_and, and_false, or_self, or_true, true_or, or_false, false_or, not_true_eq_false, not_false_eq_true, ne_eq, forall_const, implies_true, imp_self, true_implies, false_implies, Nat.reduceAdd, Nat.reduceSub, Nat.reduceMul, Nat.reduceDiv, Nat.reduceMod, Nat.reduceEqDiff, Nat.reduceLT, Nat.reduceLeDiff, Nat.reduceBEq, Nat.add_zero, Nat.zero_add, Nat.le_refl, Nat.not_lt_zero, Nat.succ_eq_add_one, Int.reduceNatCast, Int.cast_ofNat_Int, Int.reduceSub, Int.reduceMul, Int.reduceNeg, Int.reduceLE, Int.reduceLT, Int.reduceToNat, Int.reduceEq, Int.reduceNe, Int.reduceAdd, Option.some.injEq, kX1_fillFresh, rmX1_fillFresh, ↓ofX1_37, ↓ozX1_80, ↓ocX1_fillFresh_81, ↓spX1_stintThenRest, ↓ocX1_fillFresh_85, G_1, G_2, G_3, G_4, G_35, G_36, G_37, G_38, G_39, G_40, G_41, G_42, G_43, G_44, G_45, G_46, G_47, G_48, G_49, G_140, G_141, G_142, G_143, G_144, G_145, G_146, G_178, G_179, G_180, G_181, G_182, G_183, G_184, G_189, G_198, G_207, PF_1_0, PF_1_1, PF_1_2, PF_1_3, PF_2_0, PF_2_1, PF_2_3, PF_2_4, PF_2_5, PF_2_6, PF_2_7, PF_2_8, PF_2_9, PF_2_10, PF_2_11, PF_3_0, PF_35_0, PF_35_1, PF_35_2, PF_35_3, PF_40_0, PF_40_1, PF_40_2, PF_44_0, PF_44_1, PF_44_2, PF_145_0, PF_145_1, PF_179_0, PF_179_1, PF_179_2, PF_179_3, PF_179_8, PF_179_9, PF_179_10]
  exact lpX1_f2 m1 m0 hB hs ha (fun I1 a b => ⟨trivial, h I1 a b⟩) 8 0 I none none (by omega) (by omega) (fun _ _ _ => rfl) (fun t w a b c d => by omega)
