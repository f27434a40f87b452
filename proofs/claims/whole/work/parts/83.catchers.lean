/-! the law's own methods that catch; toss -/
def spL_along (As : List MV) (σ : MS) (K : Option MV → MS → Prop) : Prop := pR As fun a r => pI r fun l r => pR r fun o r => pN r (a = 1 ∧ o = 272 ∧ σ.2.1 = PF ∧ RI l ∧ xOK σ.2.2.1 ∧ (¬ (0 ≤ l ∧ l ≤ 2) → K (some (.inl 1)) σ) ∧ (0 ≤ l ∧ l ≤ 2 → ∀ (I' : Int → Int → Int) (v : Int), frQ σ.2.2.1 I' → xOK I' → anA σ.2.2.1 I' l v → K (some (.inl 0)) (σ.1, σ.2.1, I', upI σ.2.2.2 272 0 v)))
def ciL_along : CI := (3, 10, 1, 6, spL_along)
def kL_along (pc : Nat) : List ME := match pc with
  | 0 => [(.aload_n 2, 1, []), (.iconst 0, 1, []), (.aload_n 0, 1, []), (.iload_n 1, 1, [])]
  | 4 => [(.invokevirtual 7, 3, [])]
  | 7 => [(.lastore, 1, []), (.goto 6, 3, [14])]
  | 12 => [(.iconst 1, 1, []), (.ireturn, 1, [])]
  | 14 => [(.iconst 0, 1, []), (.ireturn, 1, [])]
  | _ => []
theorem qL_along : ∀ pc, chk cL_along pc (kL_along pc) = true := by
  intro pc
  unfold kL_along
  split <;> first | decide +kernel | exact chk_nil
abbrev rmL_along : Room := { frames := 7, cells := 1, slots := 6, locals := 110 }
def aL_along (_ : Nat) : Option CI := none
theorem aokL_along : ∀ x ci, aL_along x = some ci → CalOK RL rmL_along x ci := fun _ _ h => by cases h
theorem mdL_along : MD RL cL_along rmL_along kL_along fL aL_along zL uL := ⟨fokL, zokL, uokL, aokL_along, qL_along⟩
set_option maxRecDepth 100000 in
set_option maxHeartbeats 800000 in
theorem mL_along : MOH yL_along cL_along 4 (some .int) [(0, 8, 11, 13)] rmL_along ciL_along := by
  refine moh_of (by decide +kernel) rfl rfl ?_
  intro σ As K hrc hl h
  obtain ⟨N, P, I, L⟩ := σ
  have h9 := pR_iff.mp h
  clear h
  obtain ⟨a, r, e9, h⟩ := h9
  subst e9
  have h9 := pI_iff.mp h
  clear h
  obtain ⟨l, r, e9, h⟩ := h9
  subst e9
  have h9 := pR_iff.mp h
  clear h
  obtain ⟨o, r, e9, h⟩ := h9
  subst e9
  have h9 := pN_iff.mp h
  clear h
  obtain ⟨e9, h⟩ := h9
  subst e9
  try dsimp only at h
  obtain ⟨rfl, rfl, rfl, hrl, hx, h1, h2⟩ := h
  refine ⟨Nat.le_of_ble_eq_true rfl, OkX.of_ok (T := fun pt => pt = (4, [some (.inr (.inr (some 1))), some (.inl l), some (.inr (.inr (some 272))), none], [.inl l, .inr (.inr (some 1)), .inl 0, .inr (.inr (some 272))], (N, PF, I, L), 0, 0)) (Ok.seg mdL_along [4] 20 ?_) ?_⟩
  · simp only [wp_nil, wp_cons, ↓stp, ↓lI, ↓lL, ↓lR, ↓lIn_0, ↓lIn_1, ↓lIn_2, ↓lIn_3, ↓lLn_0, ↓lLn_1, ↓lLn_2, ↓lLn_3, ↓lRn_0, ↓lRn_1, ↓lRn_2, ↓lRn_3, ↓pI, ↓pL, ↓pR, ↓pA, ↓pN, ↓pV, ↓fp, ↓tsw, ↓oS, ↓spMax, ↓spMin, ↓spAbs, ↓spObj, RI, RLg, b2i_lo, b2i_hi, getL, setL, ltL, killL, isLong, inl, cnd, br, tgt, rcv, rpl, mputI, mputL, mputP, fv, fr, mcat, mcs, entL, entA, rfit, nf_0, nf_1, nf_2, nf_3, nf2_0, nf2_1, b2i_0, b2i_1, RI_b2i, b2i_fit, List.append, List.length, List.replicate, List.cons_append, List.nil_append, List.length_cons, List.length_nil, List.replicate_succ, List.replicate_zero, List.tail_cons, reduceIte, if_true, if_false, ite_true, ite_false, Bool.false_eq_true, true_and, and_true, and_self, false_and, and_false, or_self, or_true, true_or, or_false, false_or, not_true_eq_false, not_false_eq_true, ne_eq, forall_const, implies_true, imp_self, true_implies, false_implies, Nat.reduceAdd, Nat.reduceSub, Nat.reduceMul, Nat.reduceDiv, Nat.reduceMod, Nat.reduceEqDiff, Nat.reduceLT, Nat.reduceLeDiff, Nat.reduceBEq, Nat.add_zero, Nat.zero_add, Nat.le_refl, Nat.not_lt_zero, Nat.succ_eq_add_one, Int.reduceNatCast, Int.cast_ofNat_Int, Int.reduceSub, Int.reduceMul, Int.reduceNeg, Int.reduceLE, Int.reduceLT, Int.reduceToNat, Int.reduceEq, Int.reduceNe, Int.reduceAdd, Option.some.injEq, kL_along, rmL_along]
    exact Ok.thr rfl
  · rintro _ rfl
    refine callX (x := 7) (As := [.inr (.inr (some 1)), .inl l]) (rest := [.inl 0, .inr (.inr (some 272))]) (K := fun r σ' => ∃ I' v, r = some (.inr (.inl v)) ∧ σ' = (N, PF, I', L) ∧ (0 ≤ l ∧ l ≤ 2) ∧ frQ I I' ∧ xOK I' ∧ anA I I' l v) (KX := fun E σ' => E = IAE ∧ σ' = (N, PF, I, L) ∧ ¬ (0 ≤ l ∧ l ≤ 2)) mX8_along (by decide) rfl (List.forall_mem_cons.mpr ⟨(ws_mem (List.mem_of_getElem? (i := 774) (by decide +kernel)) (by decide +kernel)), List.forall_mem_cons.mpr ⟨(ws_mem (List.mem_of_getElem? (i := 775) (by decide +kernel)) (by decide +kernel)), List.forall_mem_cons.mpr ⟨(ws_mem (List.mem_of_getElem? (i := 776) (by decide +kernel)) (by decide +kernel)), List.forall_mem_cons.mpr ⟨(ws_mem (List.mem_of_getElem? (i := 53) (by decide +kernel)) (by decide +kernel)), List.forall_mem_cons.mpr ⟨(ws_mem (List.mem_of_getElem? (i := 777) (by decide +kernel)) (by decide +kernel)), fun _ h => absurd h List.not_mem_nil⟩⟩⟩⟩⟩) (by unfold nice; decide +kernel) (by unfold rfits; decide) ⟨rfl, rfl⟩ (by decide +kernel) rfl ⟨by decide, by decide⟩ (by decide) (by decide) (by decide) ⟨rfl, rfl, hrl, hx, fun q => ⟨rfl, rfl, q⟩, fun q I' v a b c => ⟨I', v, rfl, rfl, q, a, b, c⟩⟩ ?_ ?_
    · rintro _ _ ⟨I', v, rfl, rfl, q, a, b, c⟩
      refine OkX.of_ok (pt := (7, _, _, _, 1, 6)) (T := fun _ => False) (Ok.seg mdL_along [] 20 ?_) (fun _ z => z.elim)
      simp only [wp_nil, wp_cons, ↓stp, ↓lI, ↓lL, ↓lR, ↓lIn_0, ↓lIn_1, ↓lIn_2, ↓lIn_3, ↓lLn_0, ↓lLn_1, ↓lLn_2, ↓lLn_3, ↓lRn_0, ↓lRn_1, ↓lRn_2, ↓lRn_3, ↓pI, ↓pL, ↓pR, ↓pA, ↓pN, ↓pV, ↓fp, ↓tsw, ↓oS, ↓spMax, ↓spMin, ↓spAbs, ↓spObj, RI, RLg, b2i_lo, b2i_hi, getL, setL, ltL, killL, isLong, inl, cnd, br, tgt, rcv, rpl, mputI, mputL, mputP, fv, fr, mcat, mcs, entL, entA, rfit, nf_0, nf_1, nf_2, nf_3, nf2_0, nf2_1, b2i_0, b2i_1, RI_b2i, b2i_fit, List.append, List.length, List.replicate, List.cons_append, List.nil_append, List.length_cons, List.length_nil, List.replicate_succ, List.replicate_zero, List.tail_cons, reduceIte, if_true, if_false, ite_true, ite_false, Bool.false_eq_true, true_and, and_true, and_self, false_and, and_false, or_self, or_true, true_or, or_false, false_or, not_true_eq_false, not_false_eq_true, ne_eq, forall_const, implies_true, imp_self, true_implies, false_implies, Nat.reduceAdd, Nat.reduceSub, Nat.reduceMul, Nat.reduceDiv, Nat.reduceMod, Nat.reduceEqDiff, Nat.reduceLT, Nat.reduceLeDiff, Nat.reduceBEq, Nat.add_zero, Nat.zero_add, Nat.le_refl, Nat.not_lt_zero, Nat.succ_eq_add_one, Int.reduceNatCast, Int.cast_ofNat_Int, Int.reduceSub, Int.reduceMul, Int.reduceNeg, Int.reduceLE, Int.reduceLT, Int.reduceToNat, Int.reduceEq, Int.reduceNe, Int.reduceAdd, Option.some.injEq, kL_along, rmL_along, G_272]
      exact h2 q I' v a b c
    · rintro _ _ ⟨rfl, rfl, q⟩
      refine ⟨11, 1, 3, ⟨[], ⟨0, 8, 11, 13⟩, [], rfl, fun z hz => (by cases hz), by decide, by decide, (ws_mem (List.mem_of_getElem? (i := 773) (by decide +kernel)) (by decide +kernel)), rfl, Or.inl rfl, by decide, Or.inr ⟨3, by decide +kernel, rfl, rfl⟩⟩, ?_⟩
      refine OkX.of_ok (pt := (12, _, _, _, 1, 6)) (T := fun _ => False) (Ok.seg mdL_along [] 20 ?_) (fun _ z => z.elim)
      simp only [wp_nil, wp_cons, ↓stp, ↓lI, ↓lL, ↓lR, ↓lIn_0, ↓lIn_1, ↓lIn_2, ↓lIn_3, ↓lLn_0, ↓lLn_1, ↓lLn_2, ↓lLn_3, ↓lRn_0, ↓lRn_1, ↓lRn_2, ↓lRn_3, ↓pI, ↓pL, ↓pR, ↓pA, ↓pN, ↓pV, ↓fp, ↓tsw, ↓oS, ↓spMax, ↓spMin, ↓spAbs, ↓spObj, RI, RLg, b2i_lo, b2i_hi, getL, setL, ltL, killL, isLong, inl, cnd, br, tgt, rcv, rpl, mputI, mputL, mputP, fv, fr, mcat, mcs, entL, entA, rfit, nf_0, nf_1, nf_2, nf_3, nf2_0, nf2_1, b2i_0, b2i_1, RI_b2i, b2i_fit, List.append, List.length, List.replicate, List.cons_append, List.nil_append, List.length_cons, List.length_nil, List.replicate_succ, List.replicate_zero, List.tail_cons, reduceIte, if_true, if_false, ite_true, ite_false, Bool.false_eq_true, true_and, and_true, and_self, false_and, and_false, or_self, or_true, true_or, or_false, false_or, not_true_eq_false, not_false_eq_true, ne_eq, forall_const, implies_true, imp_self, true_implies, false_implies, Nat.reduceAdd, Nat.reduceSub, Nat.reduceMul, Nat.reduceDiv, Nat.reduceMod, Nat.reduceEqDiff, Nat.reduceLT, Nat.reduceLeDiff, Nat.reduceBEq, Nat.add_zero, Nat.zero_add, Nat.le_refl, Nat.not_lt_zero, Nat.succ_eq_add_one, Int.reduceNatCast, Int.cast_ofNat_Int, Int.reduceSub, Int.reduceMul, Int.reduceNeg, Int.reduceLE, Int.reduceLT, Int.reduceToNat, Int.reduceEq, Int.reduceNe, Int.reduceAdd, Option.some.injEq, kL_along, rmL_along]
      exact h1 q
def spL_worth (As : List MV) (σ : MS) (K : Option MV → MS → Prop) : Prop := pR As fun a r => pI r fun w r => pI r fun n r => pR r fun o r => pN r (a = 1 ∧ o = 272 ∧ σ.2.1 = PF ∧ RI w ∧ RI n ∧ xOK σ.2.2.1 ∧ (¬ (0 ≤ w ∧ w ≤ 2 ∧ setP w n) → K (some (.inl 1)) σ) ∧ (0 ≤ w ∧ w ≤ 2 ∧ setP w n → ∀ (I' : Int → Int → Int) (v : Int), frQ σ.2.2.1 I' → xOK I' → anW σ.2.2.1 I' w n v → K (some (.inl 0)) (σ.1, σ.2.1, I', upI σ.2.2.2 272 0 v)))
def ciL_worth : CI := (4, 10, 1, 6, spL_worth)
def kL_worth (pc : Nat) : List ME := match pc with
  | 0 => [(.aload_n 3, 1, []), (.iconst 0, 1, []), (.aload_n 0, 1, []), (.iload_n 1, 1, []), (.iload_n 2, 1, [])]
  | 5 => [(.invokevirtual 15, 3, [])]
  | 8 => [(.lastore, 1, []), (.goto 7, 3, [16])]
  | 14 => [(.iconst 1, 1, []), (.ireturn, 1, [])]
  | 16 => [(.iconst 0, 1, []), (.ireturn, 1, [])]
  | _ => []
theorem qL_worth : ∀ pc, chk cL_worth pc (kL_worth pc) = true := by
  intro pc
  unfold kL_worth
  split <;> first | decide +kernel | exact chk_nil
abbrev rmL_worth : Room := { frames := 7, cells := 1, slots := 6, locals := 167 }
def aL_worth (_ : Nat) : Option CI := none
theorem aokL_worth : ∀ x ci, aL_worth x = some ci → CalOK RL rmL_worth x ci := fun _ _ h => by cases h
theorem mdL_worth : MD RL cL_worth rmL_worth kL_worth fL aL_worth zL uL := ⟨fokL, zokL, uokL, aokL_worth, qL_worth⟩
set_option maxRecDepth 100000 in
set_option maxHeartbeats 800000 in
theorem mL_worth : MOH yL_worth cL_worth 5 (some .int) [(0, 9, 12, 13)] rmL_worth ciL_worth := by
  refine moh_of (by decide +kernel) rfl rfl ?_
  intro σ As K hrc hl h
  obtain ⟨N, P, I, L⟩ := σ
  have h9 := pR_iff.mp h
  clear h
  obtain ⟨a, r, e9, h⟩ := h9
  subst e9
  have h9 := pI_iff.mp h
  clear h
  obtain ⟨w, r, e9, h⟩ := h9
  subst e9
  have h9 := pI_iff.mp h
  clear h
  obtain ⟨n, r, e9, h⟩ := h9
  subst e9
  have h9 := pR_iff.mp h
  clear h
  obtain ⟨o, r, e9, h⟩ := h9
  subst e9
  have h9 := pN_iff.mp h
  clear h
  obtain ⟨e9, h⟩ := h9
  subst e9
  try dsimp only at h
  obtain ⟨rfl, rfl, rfl, hrw, hrn, hx, h1, h2⟩ := h
  refine ⟨Nat.le_of_ble_eq_true rfl, OkX.of_ok (T := fun pt => pt = (5, [some (.inr (.inr (some 1))), some (.inl w), some (.inl n), some (.inr (.inr (some 272))), none], [.inl n, .inl w, .inr (.inr (some 1)), .inl 0, .inr (.inr (some 272))], (N, PF, I, L), 0, 0)) (Ok.seg mdL_worth [5] 20 ?_) ?_⟩
  · simp only [wp_nil, wp_cons, ↓stp, ↓lI, ↓lL, ↓lR, ↓lIn_0, ↓lIn_1, ↓lIn_2, ↓lIn_3, ↓lLn_0, ↓lLn_1, ↓lLn_2, ↓lLn_3, ↓lRn_0, ↓lRn_1, ↓lRn_2, ↓lRn_3, ↓pI, ↓pL, ↓pR, ↓pA, ↓pN, ↓pV, ↓fp, ↓tsw, ↓oS, ↓spMax, ↓spMin, ↓spAbs, ↓spObj, RI, RLg, b2i_lo, b2i_hi, getL, setL, ltL, killL, isLong, inl, cnd, br, tgt, rcv, rpl, mputI, mputL, mputP, fv, fr, mcat, mcs, entL, entA, rfit, nf_0, nf_1, nf_2, nf_3, nf2_0, nf2_1, b2i_0, b2i_1, RI_b2i, b2i_fit, List.append, List.length, List.replicate, List.cons_append, List.nil_append, List.length_cons, List.length_nil, List.replicate_succ, List.replicate_zero, List.tail_cons, reduceIte, if_true, if_false, ite_true, ite_false, Bool.false_eq_true, true_and, and_true, and_self, false_and, and_false, or_self, or_true, true_or, or_false, false_or, not_true_eq_false, not_false_eq_true, ne_eq, forall_const, implies_true, imp_self, true_implies, false_implies, Nat.reduceAdd, Nat.reduceSub, Nat.reduceMul, Nat.reduceDiv, Nat.reduceMod, Nat.reduceEqDiff, Nat.reduceLT, Nat.reduceLeDiff, Nat.reduceBEq, Nat.add_zero, Nat.zero_add, Nat.le_refl, Nat.not_lt_zero, Nat.succ_eq_add_one, Int.reduceNatCast, Int.cast_ofNat_Int, Int.reduceSub, Int.reduceMul, Int.reduceNeg, Int.reduceLE, Int.reduceLT, Int.reduceToNat, Int.reduceEq, Int.reduceNe, Int.reduceAdd, Option.some.injEq, kL_worth, rmL_worth]
    exact Ok.thr rfl
  · rintro _ rfl
    refine callX (x := 15) (As := [.inr (.inr (some 1)), .inl w, .inl n]) (rest := [.inl 0, .inr (.inr (some 272))]) (K := fun r σ' => ∃ I' v, r = some (.inr (.inl v)) ∧ σ' = (N, PF, I', L) ∧ (0 ≤ w ∧ w ≤ 2 ∧ setP w n) ∧ frQ I I' ∧ xOK I' ∧ anW I I' w n v) (KX := fun E σ' => E = IAE ∧ σ' = (N, PF, I, L) ∧ ¬ (0 ≤ w ∧ w ≤ 2 ∧ setP w n)) mX8_worth (by decide) rfl (List.forall_mem_cons.mpr ⟨(ws_mem (List.mem_of_getElem? (i := 797) (by decide +kernel)) (by decide +kernel)), List.forall_mem_cons.mpr ⟨(ws_mem (List.mem_of_getElem? (i := 798) (by decide +kernel)) (by decide +kernel)), List.forall_mem_cons.mpr ⟨(ws_mem (List.mem_of_getElem? (i := 799) (by decide +kernel)) (by decide +kernel)), List.forall_mem_cons.mpr ⟨(ws_mem (List.mem_of_getElem? (i := 53) (by decide +kernel)) (by decide +kernel)), List.forall_mem_cons.mpr ⟨(ws_mem (List.mem_of_getElem? (i := 800) (by decide +kernel)) (by decide +kernel)), fun _ h => absurd h List.not_mem_nil⟩⟩⟩⟩⟩) (by unfold nice; decide +kernel) (by unfold rfits; decide) ⟨rfl, rfl⟩ (by decide +kernel) rfl ⟨by decide, by decide⟩ (by decide) (by decide) (by decide) ⟨rfl, rfl, hrw, hrn, hx, fun q => ⟨rfl, rfl, q⟩, fun q I' v a b c => ⟨I', v, rfl, rfl, q, a, b, c⟩⟩ ?_ ?_
    · rintro _ _ ⟨I', v, rfl, rfl, q, a, b, c⟩
      refine OkX.of_ok (pt := (8, _, _, _, 1, 6)) (T := fun _ => False) (Ok.seg mdL_worth [] 20 ?_) (fun _ z => z.elim)
      simp only [wp_nil, wp_cons, ↓stp, ↓lI, ↓lL, ↓lR, ↓lIn_0, ↓lIn_1, ↓lIn_2, ↓lIn_3, ↓lLn_0, ↓lLn_1, ↓lLn_2, ↓lLn_3, ↓lRn_0, ↓lRn_1, ↓lRn_2, ↓lRn_3, ↓pI, ↓pL, ↓pR, ↓pA, ↓pN, ↓pV, ↓fp, ↓tsw, ↓oS, ↓spMax, ↓spMin, ↓spAbs, ↓spObj, RI, RLg, b2i_lo, b2i_hi, getL, setL, ltL, killL, isLong, inl, cnd, br, tgt, rcv, rpl, mputI, mputL, mputP, fv, fr, mcat, mcs, entL, entA, rfit, nf_0, nf_1, nf_2, nf_3, nf2_0, nf2_1, b2i_0, b2i_1, RI_b2i, b2i_fit, List.append, List.length, List.replicate, List.cons_append, List.nil_append, List.length_cons, List.length_nil, List.replicate_succ, List.replicate_zero, List.tail_cons, reduceIte, if_true, if_false, ite_true, ite_false, Bool.false_eq_true, true_and, and_true, and_self, false_and, and_false, or_self, or_true, true_or, or_false, false_or, not_true_eq_false, not_false_eq_true, ne_eq, forall_const, implies_true, imp_self, true_implies, false_implies, Nat.reduceAdd, Nat.reduceSub, Nat.reduceMul, Nat.reduceDiv, Nat.reduceMod, Nat.reduceEqDiff, Nat.reduceLT, Nat.reduceLeDiff, Nat.reduceBEq, Nat.add_zero, Nat.zero_add, Nat.le_refl, Nat.not_lt_zero, Nat.succ_eq_add_one, Int.reduceNatCast, Int.cast_ofNat_Int, Int.reduceSub, Int.reduceMul, Int.reduceNeg, Int.reduceLE, Int.reduceLT, Int.reduceToNat, Int.reduceEq, Int.reduceNe, Int.reduceAdd, Option.some.injEq, kL_worth, rmL_worth, G_272]
      exact h2 q I' v a b c
    · rintro _ _ ⟨rfl, rfl, q⟩
      refine ⟨12, 2, 4, ⟨[], ⟨0, 9, 12, 13⟩, [], rfl, fun z hz => (by cases hz), by decide, by decide, (ws_mem (List.mem_of_getElem? (i := 773) (by decide +kernel)) (by decide +kernel)), rfl, Or.inl rfl, by decide, Or.inl ⟨by decide +kernel, rfl⟩⟩, ?_⟩
      refine OkX.of_ok (pt := (14, _, _, _, 1, 6)) (T := fun _ => False) (Ok.seg mdL_worth [] 20 ?_) (fun _ z => z.elim)
      simp only [wp_nil, wp_cons, ↓stp, ↓lI, ↓lL, ↓lR, ↓lIn_0, ↓lIn_1, ↓lIn_2, ↓lIn_3, ↓lLn_0, ↓lLn_1, ↓lLn_2, ↓lLn_3, ↓lRn_0, ↓lRn_1, ↓lRn_2, ↓lRn_3, ↓pI, ↓pL, ↓pR, ↓pA, ↓pN, ↓pV, ↓fp, ↓tsw, ↓oS, ↓spMax, ↓spMin, ↓spAbs, ↓spObj, RI, RLg, b2i_lo, b2i_hi, getL, setL, ltL, killL, isLong, inl, cnd, br, tgt, rcv, rpl, mputI, mputL, mputP, fv, fr, mcat, mcs, entL, entA, rfit, nf_0, nf_1, nf_2, nf_3, nf2_0, nf2_1, b2i_0, b2i_1, RI_b2i, b2i_fit, List.append, List.length, List.replicate, List.cons_append, List.nil_append, List.length_cons, List.length_nil, List.replicate_succ, List.replicate_zero, List.tail_cons, reduceIte, if_true, if_false, ite_true, ite_false, Bool.false_eq_true, true_and, and_true, and_self, false_and, and_false, or_self, or_true, true_or, or_false, false_or, not_true_eq_false, not_false_eq_true, ne_eq, forall_const, implies_true, imp_self, true_implies, false_implies, Nat.reduceAdd, Nat.reduceSub, Nat.reduceMul, Nat.reduceDiv, Nat.reduceMod, Nat.reduceEqDiff, Nat.reduceLT, Nat.reduceLeDiff, Nat.reduceBEq, Nat.add_zero, Nat.zero_add, Nat.le_refl, Nat.not_lt_zero, Nat.succ_eq_add_one, Int.reduceNatCast, Int.cast_ofNat_Int, Int.reduceSub, Int.reduceMul, Int.reduceNeg, Int.reduceLE, Int.reduceLT, Int.reduceToNat, Int.reduceEq, Int.reduceNe, Int.reduceAdd, Option.some.injEq, kL_worth, rmL_worth]
      exact h1 q
def spL_delta (As : List MV) (σ : MS) (K : Option MV → MS → Prop) : Prop := pR As fun a r => pI r fun s r => pR r fun o r => pN r (a = 1 ∧ o = 272 ∧ σ.2.1 = PF ∧ RI s ∧ xOK σ.2.2.1 ∧ (¬ (0 ≤ s ∧ s < σ.2.2.1 3 1) → K (some (.inl 1)) σ) ∧ (0 ≤ s ∧ s < σ.2.2.1 3 1 → ∀ (I' : Int → Int → Int) (v : Int), frQ σ.2.2.1 I' → xOK I' → anD σ.2.2.1 I' s v → K (some (.inl 0)) (σ.1, σ.2.1, I', upI σ.2.2.2 272 0 v)))
def ciL_delta : CI := (3, 10, 1, 6, spL_delta)
def kL_delta (pc : Nat) : List ME := match pc with
  | 0 => [(.aload_n 2, 1, []), (.iconst 0, 1, []), (.aload_n 0, 1, []), (.iload_n 1, 1, [])]
  | 4 => [(.invokevirtual 19, 3, [])]
  | 7 => [(.lastore, 1, []), (.goto 6, 3, [14])]
  | 12 => [(.iconst 1, 1, []), (.ireturn, 1, [])]
  | 14 => [(.iconst 0, 1, []), (.ireturn, 1, [])]
  | _ => []
theorem qL_delta : ∀ pc, chk cL_delta pc (kL_delta pc) = true := by
  intro pc
  unfold kL_delta
  split <;> first | decide +kernel | exact chk_nil
abbrev rmL_delta : Room := { frames := 7, cells := 1, slots := 6, locals := 163 }
def aL_delta (_ : Nat) : Option CI := none
theorem aokL_delta : ∀ x ci, aL_delta x = some ci → CalOK RL rmL_delta x ci := fun _ _ h => by cases h
theorem mdL_delta : MD RL cL_delta rmL_delta kL_delta fL aL_delta zL uL := ⟨fokL, zokL, uokL, aokL_delta, qL_delta⟩
set_option maxRecDepth 100000 in
set_option maxHeartbeats 800000 in
theorem mL_delta : MOH yL_delta cL_delta 4 (some .int) [(0, 8, 11, 13)] rmL_delta ciL_delta := by
  refine moh_of (by decide +kernel) rfl rfl ?_
  intro σ As K hrc hl h
  obtain ⟨N, P, I, L⟩ := σ
  have h9 := pR_iff.mp h
  clear h
  obtain ⟨a, r, e9, h⟩ := h9
  subst e9
  have h9 := pI_iff.mp h
  clear h
  obtain ⟨s, r, e9, h⟩ := h9
  subst e9
  have h9 := pR_iff.mp h
  clear h
  obtain ⟨o, r, e9, h⟩ := h9
  subst e9
  have h9 := pN_iff.mp h
  clear h
  obtain ⟨e9, h⟩ := h9
  subst e9
  try dsimp only at h
  obtain ⟨rfl, rfl, rfl, hrs, hx, h1, h2⟩ := h
  refine ⟨Nat.le_of_ble_eq_true rfl, OkX.of_ok (T := fun pt => pt = (4, [some (.inr (.inr (some 1))), some (.inl s), some (.inr (.inr (some 272))), none], [.inl s, .inr (.inr (some 1)), .inl 0, .inr (.inr (some 272))], (N, PF, I, L), 0, 0)) (Ok.seg mdL_delta [4] 20 ?_) ?_⟩
  · simp only [wp_nil, wp_cons, ↓stp, ↓lI, ↓lL, ↓lR, ↓lIn_0, ↓lIn_1, ↓lIn_2, ↓lIn_3, ↓lLn_0, ↓lLn_1, ↓lLn_2, ↓lLn_3, ↓lRn_0, ↓lRn_1, ↓lRn_2, ↓lRn_3, ↓pI, ↓pL, ↓pR, ↓pA, ↓pN, ↓pV, ↓fp, ↓tsw, ↓oS, ↓spMax, ↓spMin, ↓spAbs, ↓spObj, RI, RLg, b2i_lo, b2i_hi, getL, setL, ltL, killL, isLong, inl, cnd, br, tgt, rcv, rpl, mputI, mputL, mputP, fv, fr, mcat, mcs, entL, entA, rfit, nf_0, nf_1, nf_2, nf_3, nf2_0, nf2_1, b2i_0, b2i_1, RI_b2i, b2i_fit, List.append, List.length, List.replicate, List.cons_append, List.nil_append, List.length_cons, List.length_nil, List.replicate_succ, List.replicate_zero, List.tail_cons, reduceIte, if_true, if_false, ite_true, ite_false, Bool.false_eq_true, true_and, and_true, and_self, false_and, and_false, or_self, or_true, true_or, or_false, false_or, not_true_eq_false, not_false_eq_true, ne_eq, forall_const, implies_true, imp_self, true_implies, false_implies, Nat.reduceAdd, Nat.reduceSub, Nat.reduceMul, Nat.reduceDiv, Nat.reduceMod, Nat.reduceEqDiff, Nat.reduceLT, Nat.reduceLeDiff, Nat.reduceBEq, Nat.add_zero, Nat.zero_add, Nat.le_refl, Nat.not_lt_zero, Nat.succ_eq_add_one, Int.reduceNatCast, Int.cast_ofNat_Int, Int.reduceSub, Int.reduceMul, Int.reduceNeg, Int.reduceLE, Int.reduceLT, Int.reduceToNat, Int.reduceEq, Int.reduceNe, Int.reduceAdd, Option.some.injEq, kL_delta, rmL_delta]
    exact Ok.thr rfl
  · rintro _ rfl
    refine callX (x := 19) (As := [.inr (.inr (some 1)), .inl s]) (rest := [.inl 0, .inr (.inr (some 272))]) (K := fun r σ' => ∃ I' v, r = some (.inr (.inl v)) ∧ σ' = (N, PF, I', L) ∧ (0 ≤ s ∧ s < I 3 1) ∧ frQ I I' ∧ xOK I' ∧ anD I I' s v) (KX := fun E σ' => E = IAE ∧ σ' = (N, PF, I, L) ∧ ¬ (0 ≤ s ∧ s < I 3 1)) mX8_delta (by decide) rfl (List.forall_mem_cons.mpr ⟨(ws_mem (List.mem_of_getElem? (i := 810) (by decide +kernel)) (by decide +kernel)), List.forall_mem_cons.mpr ⟨(ws_mem (List.mem_of_getElem? (i := 811) (by decide +kernel)) (by decide +kernel)), List.forall_mem_cons.mpr ⟨(ws_mem (List.mem_of_getElem? (i := 812) (by decide +kernel)) (by decide +kernel)), List.forall_mem_cons.mpr ⟨(ws_mem (List.mem_of_getElem? (i := 53) (by decide +kernel)) (by decide +kernel)), List.forall_mem_cons.mpr ⟨(ws_mem (List.mem_of_getElem? (i := 813) (by decide +kernel)) (by decide +kernel)), fun _ h => absurd h List.not_mem_nil⟩⟩⟩⟩⟩) (by unfold nice; decide +kernel) (by unfold rfits; decide) ⟨rfl, rfl⟩ (by decide +kernel) rfl ⟨by decide, by decide⟩ (by decide) (by decide) (by decide) ⟨rfl, rfl, hrs, hx, fun q => ⟨rfl, rfl, q⟩, fun q I' v a b c => ⟨I', v, rfl, rfl, q, a, b, c⟩⟩ ?_ ?_
    · rintro _ _ ⟨I', v, rfl, rfl, q, a, b, c⟩
      refine OkX.of_ok (pt := (7, _, _, _, 1, 6)) (T := fun _ => False) (Ok.seg mdL_delta [] 20 ?_) (fun _ z => z.elim)
      simp only [wp_nil, wp_cons, ↓stp, ↓lI, ↓lL, ↓lR, ↓lIn_0, ↓lIn_1, ↓lIn_2, ↓lIn_3, ↓lLn_0, ↓lLn_1, ↓lLn_2, ↓lLn_3, ↓lRn_0, ↓lRn_1, ↓lRn_2, ↓lRn_3, ↓pI, ↓pL, ↓pR, ↓pA, ↓pN, ↓pV, ↓fp, ↓tsw, ↓oS, ↓spMax, ↓spMin, ↓spAbs, ↓spObj, RI, RLg, b2i_lo, b2i_hi, getL, setL, ltL, killL, isLong, inl, cnd, br, tgt, rcv, rpl, mputI, mputL, mputP, fv, fr, mcat, mcs, entL, entA, rfit, nf_0, nf_1, nf_2, nf_3, nf2_0, nf2_1, b2i_0, b2i_1, RI_b2i, b2i_fit, List.append, List.length, List.replicate, List.cons_append, List.nil_append, List.length_cons, List.length_nil, List.replicate_succ, List.replicate_zero, List.tail_cons, reduceIte, if_true, if_false, ite_true, ite_false, Bool.false_eq_true, true_and, and_true, and_self, false_and, and_false, or_self, or_true, true_or, or_false, false_or, not_true_eq_false, not_false_eq_true, ne_eq, forall_const, implies_true, imp_self, true_implies, false_implies, Nat.reduceAdd, Nat.reduceSub, Nat.reduceMul, Nat.reduceDiv, Nat.reduceMod, Nat.reduceEqDiff, Nat.reduceLT, Nat.reduceLeDiff, Nat.reduceBEq, Nat.add_zero, Nat.zero_add, Nat.le_refl, Nat.not_lt_zero, Nat.succ_eq_add_one, Int.reduceNatCast, Int.cast_ofNat_Int, Int.reduceSub, Int.reduceMul, Int.reduceNeg, Int.reduceLE, Int.reduceLT, Int.reduceToNat, Int.reduceEq, Int.reduceNe, Int.reduceAdd, Option.some.injEq, kL_delta, rmL_delta, G_272]
      exact h2 q I' v a b c
    · rintro _ _ ⟨rfl, rfl, q⟩
      refine ⟨11, 1, 3, ⟨[], ⟨0, 8, 11, 13⟩, [], rfl, fun z hz => (by cases hz), by decide, by decide, (ws_mem (List.mem_of_getElem? (i := 773) (by decide +kernel)) (by decide +kernel)), rfl, Or.inl rfl, by decide, Or.inr ⟨3, by decide +kernel, rfl, rfl⟩⟩, ?_⟩
      refine OkX.of_ok (pt := (12, _, _, _, 1, 6)) (T := fun _ => False) (Ok.seg mdL_delta [] 20 ?_) (fun _ z => z.elim)
      simp only [wp_nil, wp_cons, ↓stp, ↓lI, ↓lL, ↓lR, ↓lIn_0, ↓lIn_1, ↓lIn_2, ↓lIn_3, ↓lLn_0, ↓lLn_1, ↓lLn_2, ↓lLn_3, ↓lRn_0, ↓lRn_1, ↓lRn_2, ↓lRn_3, ↓pI, ↓pL, ↓pR, ↓pA, ↓pN, ↓pV, ↓fp, ↓tsw, ↓oS, ↓spMax, ↓spMin, ↓spAbs, ↓spObj, RI, RLg, b2i_lo, b2i_hi, getL, setL, ltL, killL, isLong, inl, cnd, br, tgt, rcv, rpl, mputI, mputL, mputP, fv, fr, mcat, mcs, entL, entA, rfit, nf_0, nf_1, nf_2, nf_3, nf2_0, nf2_1, b2i_0, b2i_1, RI_b2i, b2i_fit, List.append, List.length, List.replicate, List.cons_append, List.nil_append, List.length_cons, List.length_nil, List.replicate_succ, List.replicate_zero, List.tail_cons, reduceIte, if_true, if_false, ite_true, ite_false, Bool.false_eq_true, true_and, and_true, and_self, false_and, and_false, or_self, or_true, true_or, or_false, false_or, not_true_eq_false, not_false_eq_true, ne_eq, forall_const, implies_true, imp_self, true_implies, false_implies, Nat.reduceAdd, Nat.reduceSub, Nat.reduceMul, Nat.reduceDiv, Nat.reduceMod, Nat.reduceEqDiff, Nat.reduceLT, Nat.reduceLeDiff, Nat.reduceBEq, Nat.add_zero, Nat.zero_add, Nat.le_refl, Nat.not_lt_zero, Nat.succ_eq_add_one, Int.reduceNatCast, Int.cast_ofNat_Int, Int.reduceSub, Int.reduceMul, Int.reduceNeg, Int.reduceLE, Int.reduceLT, Int.reduceToNat, Int.reduceEq, Int.reduceNe, Int.reduceAdd, Option.some.injEq, kL_delta, rmL_delta]
      exact h1 q
def spL_on (As : List MV) (σ : MS) (K : Option MV → MS → Prop) : Prop := pR As fun a r => pI r fun t r => pI r fun d r => pR r fun o r => pN r (a = 1 ∧ o = 272 ∧ σ.2.1 = PF ∧ RI t ∧ RI d ∧ xOK σ.2.2.1 ∧ (¬ (0 ≤ t ∧ t ≤ 3 ∧ 0 ≤ d ∧ d ≤ 39) → K (some (.inl 1)) σ) ∧ (0 ≤ t ∧ t ≤ 3 ∧ 0 ≤ d ∧ d ≤ 39 → ∀ (I' : Int → Int → Int) (v : Int), frQ σ.2.2.1 I' → xOK I' → anO σ.2.2.1 I' t d v → K (some (.inl 0)) (σ.1, σ.2.1, I', upI σ.2.2.2 272 0 v)))
def ciL_on : CI := (4, 10, 1, 6, spL_on)
def kL_on (pc : Nat) : List ME := match pc with
  | 0 => [(.aload_n 3, 1, []), (.iconst 0, 1, []), (.aload_n 0, 1, []), (.iload_n 1, 1, []), (.iload_n 2, 1, [])]
  | 5 => [(.invokevirtual 22, 3, [])]
  | 8 => [(.lastore, 1, []), (.goto 7, 3, [16])]
  | 14 => [(.iconst 1, 1, []), (.ireturn, 1, [])]
  | 16 => [(.iconst 0, 1, []), (.ireturn, 1, [])]
  | _ => []
theorem qL_on : ∀ pc, chk cL_on pc (kL_on pc) = true := by
  intro pc
  unfold kL_on
  split <;> first | decide +kernel | exact chk_nil
abbrev rmL_on : Room := { frames := 7, cells := 1, slots := 6, locals := 143 }
def aL_on (_ : Nat) : Option CI := none
theorem aokL_on : ∀ x ci, aL_on x = some ci → CalOK RL rmL_on x ci := fun _ _ h => by cases h
theorem mdL_on : MD RL cL_on rmL_on kL_on fL aL_on zL uL := ⟨fokL, zokL, uokL, aokL_on, qL_on⟩
set_option maxRecDepth 100000 in
set_option maxHeartbeats 800000 in
theorem mL_on : MOH yL_on cL_on 5 (some .int) [(0, 9, 12, 13)] rmL_on ciL_on := by
  refine moh_of (by decide +kernel) rfl rfl ?_
  intro σ As K hrc hl h
  obtain ⟨N, P, I, L⟩ := σ
  have h9 := pR_iff.mp h
  clear h
  obtain ⟨a, r, e9, h⟩ := h9
  subst e9
  have h9 := pI_iff.mp h
  clear h
  obtain ⟨t, r, e9, h⟩ := h9
  subst e9
  have h9 := pI_iff.mp h
  clear h
  obtain ⟨d, r, e9, h⟩ := h9
  subst e9
  have h9 := pR_iff.mp h
  clear h
  obtain ⟨o, r, e9, h⟩ := h9
  subst e9
  have h9 := pN_iff.mp h
  clear h
  obtain ⟨e9, h⟩ := h9
  subst e9
  try dsimp only at h
  obtain ⟨rfl, rfl, rfl, hrt, hrd, hx, h1, h2⟩ := h
  refine ⟨Nat.le_of_ble_eq_true rfl, OkX.of_ok (T := fun pt => pt = (5, [some (.inr (.inr (some 1))), some (.inl t), some (.inl d), some (.inr (.inr (some 272))), none], [.inl d, .inl t, .inr (.inr (some 1)), .inl 0, .inr (.inr (some 272))], (N, PF, I, L), 0, 0)) (Ok.seg mdL_on [5] 20 ?_) ?_⟩
  · simp only [wp_nil, wp_cons, ↓stp, ↓lI, ↓lL, ↓lR, ↓lIn_0, ↓lIn_1, ↓lIn_2, ↓lIn_3, ↓lLn_0, ↓lLn_1, ↓lLn_2, ↓lLn_3, ↓lRn_0, ↓lRn_1, ↓lRn_2, ↓lRn_3, ↓pI, ↓pL, ↓pR, ↓pA, ↓pN, ↓pV, ↓fp, ↓tsw, ↓oS, ↓spMax, ↓spMin, ↓spAbs, ↓spObj, RI, RLg, b2i_lo, b2i_hi, getL, setL, ltL, killL, isLong, inl, cnd, br, tgt, rcv, rpl, mputI, mputL, mputP, fv, fr, mcat, mcs, entL, entA, rfit, nf_0, nf_1, nf_2, nf_3, nf2_0, nf2_1, b2i_0, b2i_1, RI_b2i, b2i_fit, List.append, List.length, List.replicate, List.cons_append, List.nil_append, List.length_cons, List.length_nil, List.replicate_succ, List.replicate_zero, List.tail_cons, reduceIte, if_true, if_false, ite_true, ite_false, Bool.false_eq_true, true_and, and_true, and_self, false_and, and_false, or_self, or_true, true_or, or_false, false_or, not_true_eq_false, not_false_eq_true, ne_eq, forall_const, implies_true, imp_self, true_implies, false_implies, Nat.reduceAdd, Nat.reduceSub, Nat.reduceMul, Nat.reduceDiv, Nat.reduceMod, Nat.reduceEqDiff, Nat.reduceLT, Nat.reduceLeDiff, Nat.reduceBEq, Nat.add_zero, Nat.zero_add, Nat.le_refl, Nat.not_lt_zero, Nat.succ_eq_add_one, Int.reduceNatCast, Int.cast_ofNat_Int, Int.reduceSub, Int.reduceMul, Int.reduceNeg, Int.reduceLE, Int.reduceLT, Int.reduceToNat, Int.reduceEq, Int.reduceNe, Int.reduceAdd, Option.some.injEq, kL_on, rmL_on]
    exact Ok.thr rfl
  · rintro _ rfl
    refine callX (x := 22) (As := [.inr (.inr (some 1)), .inl t, .inl d]) (rest := [.inl 0, .inr (.inr (some 272))]) (K := fun r σ' => ∃ I' v, r = some (.inr (.inl v)) ∧ σ' = (N, PF, I', L) ∧ (0 ≤ t ∧ t ≤ 3 ∧ 0 ≤ d ∧ d ≤ 39) ∧ frQ I I' ∧ xOK I' ∧ anO I I' t d v) (KX := fun E σ' => E = IAE ∧ σ' = (N, PF, I, L) ∧ ¬ (0 ≤ t ∧ t ≤ 3 ∧ 0 ≤ d ∧ d ≤ 39)) mX8_on (by decide) rfl (List.forall_mem_cons.mpr ⟨(ws_mem (List.mem_of_getElem? (i := 818) (by decide +kernel)) (by decide +kernel)), List.forall_mem_cons.mpr ⟨(ws_mem (List.mem_of_getElem? (i := 819) (by decide +kernel)) (by decide +kernel)), List.forall_mem_cons.mpr ⟨(ws_mem (List.mem_of_getElem? (i := 820) (by decide +kernel)) (by decide +kernel)), List.forall_mem_cons.mpr ⟨(ws_mem (List.mem_of_getElem? (i := 53) (by decide +kernel)) (by decide +kernel)), List.forall_mem_cons.mpr ⟨(ws_mem (List.mem_of_getElem? (i := 821) (by decide +kernel)) (by decide +kernel)), fun _ h => absurd h List.not_mem_nil⟩⟩⟩⟩⟩) (by unfold nice; decide +kernel) (by unfold rfits; decide) ⟨rfl, rfl⟩ (by decide +kernel) rfl ⟨by decide, by decide⟩ (by decide) (by decide) (by decide) ⟨rfl, rfl, hrt, hrd, hx, fun q => ⟨rfl, rfl, q⟩, fun q I' v a b c => ⟨I', v, rfl, rfl, q, a, b, c⟩⟩ ?_ ?_
    · rintro _ _ ⟨I', v, rfl, rfl, q, a, b, c⟩
      refine OkX.of_ok (pt := (8, _, _, _, 1, 6)) (T := fun _ => False) (Ok.seg mdL_on [] 20 ?_) (fun _ z => z.elim)
      simp only [wp_nil, wp_cons, ↓stp, ↓lI, ↓lL, ↓lR, ↓lIn_0, ↓lIn_1, ↓lIn_2, ↓lIn_3, ↓lLn_0, ↓lLn_1, ↓lLn_2, ↓lLn_3, ↓lRn_0, ↓lRn_1, ↓lRn_2, ↓lRn_3, ↓pI, ↓pL, ↓pR, ↓pA, ↓pN, ↓pV, ↓fp, ↓tsw, ↓oS, ↓spMax, ↓spMin, ↓spAbs, ↓spObj, RI, RLg, b2i_lo, b2i_hi, getL, setL, ltL, killL, isLong, inl, cnd, br, tgt, rcv, rpl, mputI, mputL, mputP, fv, fr, mcat, mcs, entL, entA, rfit, nf_0, nf_1, nf_2, nf_3, nf2_0, nf2_1, b2i_0, b2i_1, RI_b2i, b2i_fit, List.append, List.length, List.replicate, List.cons_append, List.nil_append, List.length_cons, List.length_nil, List.replicate_succ, List.replicate_zero, List.tail_cons, reduceIte, if_true, if_false, ite_true, ite_false, Bool.false_eq_true, true_and, and_true, and_self, false_and, and_false, or_self, or_true, true_or, or_false, false_or, not_true_eq_false, not_false_eq_true, ne_eq, forall_const, implies_true, imp_self, true_implies, false_implies, Nat.reduceAdd, Nat.reduceSub, Nat.reduceMul, Nat.reduceDiv, Nat.reduceMod, Nat.reduceEqDiff, Nat.reduceLT, Nat.reduceLeDiff, Nat.reduceBEq, Nat.add_zero, Nat.zero_add, Nat.le_refl, Nat.not_lt_zero, Nat.succ_eq_add_one, Int.reduceNatCast, Int.cast_ofNat_Int, Int.reduceSub, Int.reduceMul, Int.reduceNeg, Int.reduceLE, Int.reduceLT, Int.reduceToNat, Int.reduceEq, Int.reduceNe, Int.reduceAdd, Option.some.injEq, kL_on, rmL_on, G_272]
      exact h2 q I' v a b c
    · rintro _ _ ⟨rfl, rfl, q⟩
      refine ⟨12, 2, 4, ⟨[], ⟨0, 9, 12, 13⟩, [], rfl, fun z hz => (by cases hz), by decide, by decide, (ws_mem (List.mem_of_getElem? (i := 773) (by decide +kernel)) (by decide +kernel)), rfl, Or.inl rfl, by decide, Or.inl ⟨by decide +kernel, rfl⟩⟩, ?_⟩
      refine OkX.of_ok (pt := (14, _, _, _, 1, 6)) (T := fun _ => False) (Ok.seg mdL_on [] 20 ?_) (fun _ z => z.elim)
      simp only [wp_nil, wp_cons, ↓stp, ↓lI, ↓lL, ↓lR, ↓lIn_0, ↓lIn_1, ↓lIn_2, ↓lIn_3, ↓lLn_0, ↓lLn_1, ↓lLn_2, ↓lLn_3, ↓lRn_0, ↓lRn_1, ↓lRn_2, ↓lRn_3, ↓pI, ↓pL, ↓pR, ↓pA, ↓pN, ↓pV, ↓fp, ↓tsw, ↓oS, ↓spMax, ↓spMin, ↓spAbs, ↓spObj, RI, RLg, b2i_lo, b2i_hi, getL, setL, ltL, killL, isLong, inl, cnd, br, tgt, rcv, rpl, mputI, mputL, mputP, fv, fr, mcat, mcs, entL, entA, rfit, nf_0, nf_1, nf_2, nf_3, nf2_0, nf2_1, b2i_0, b2i_1, RI_b2i, b2i_fit, List.append, List.length, List.replicate, List.cons_append, List.nil_append, List.length_cons, List.length_nil, List.replicate_succ, List.replicate_zero, List.tail_cons, reduceIte, if_true, if_false, ite_true, ite_false, Bool.false_eq_true, true_and, and_true, and_self, false_and, and_false, or_self, or_true, true_or, or_false, false_or, not_true_eq_false, not_false_eq_true, ne_eq, forall_const, implies_true, imp_self, true_implies, false_implies, Nat.reduceAdd, Nat.reduceSub, Nat.reduceMul, Nat.reduceDiv, Nat.reduceMod, Nat.reduceEqDiff, Nat.reduceLT, Nat.reduceLeDiff, Nat.reduceBEq, Nat.add_zero, Nat.zero_add, Nat.le_refl, Nat.not_lt_zero, Nat.succ_eq_add_one, Int.reduceNatCast, Int.cast_ofNat_Int, Int.reduceSub, Int.reduceMul, Int.reduceNeg, Int.reduceLE, Int.reduceLT, Int.reduceToNat, Int.reduceEq, Int.reduceNe, Int.reduceAdd, Option.some.injEq, kL_on, rmL_on]
      exact h1 q
def spL_race (As : List MV) (σ : MS) (K : Option MV → MS → Prop) : Prop := pR As fun a r => pI r fun n r => pR r fun o r => pN r (a = 1 ∧ o = 272 ∧ σ.2.1 = PF ∧ RI n ∧ xOK σ.2.2.1 ∧ (¬ (1 ≤ n ∧ n ≤ 40) → K (some (.inl 1)) σ) ∧ (1 ≤ n ∧ n ≤ 40 → ∀ (I' : Int → Int → Int) (v : Int), frQ σ.2.2.1 I' → xOK I' → anR σ.2.2.1 I' n v → K (some (.inl 0)) (σ.1, σ.2.1, I', upI σ.2.2.2 272 0 v)))
def ciL_race : CI := (3, 10, 1, 6, spL_race)
def kL_race (pc : Nat) : List ME := match pc with
  | 0 => [(.aload_n 2, 1, []), (.iconst 0, 1, []), (.aload_n 0, 1, []), (.iload_n 1, 1, [])]
  | 4 => [(.invokevirtual 25, 3, [])]
  | 7 => [(.lastore, 1, []), (.goto 6, 3, [14])]
  | 12 => [(.iconst 1, 1, []), (.ireturn, 1, [])]
  | 14 => [(.iconst 0, 1, []), (.ireturn, 1, [])]
  | _ => []
theorem qL_race : ∀ pc, chk cL_race pc (kL_race pc) = true := by
  intro pc
  unfold kL_race
  split <;> first | decide +kernel | exact chk_nil
abbrev rmL_race : Room := { frames := 7, cells := 1, slots := 6, locals := 166 }
def aL_race (_ : Nat) : Option CI := none
theorem aokL_race : ∀ x ci, aL_race x = some ci → CalOK RL rmL_race x ci := fun _ _ h => by cases h
theorem mdL_race : MD RL cL_race rmL_race kL_race fL aL_race zL uL := ⟨fokL, zokL, uokL, aokL_race, qL_race⟩
set_option maxRecDepth 100000 in
set_option maxHeartbeats 800000 in
theorem mL_race : MOH yL_race cL_race 4 (some .int) [(0, 8, 11, 13)] rmL_race ciL_race := by
  refine moh_of (by decide +kernel) rfl rfl ?_
  intro σ As K hrc hl h
  obtain ⟨N, P, I, L⟩ := σ
  have h9 := pR_iff.mp h
  clear h
  obtain ⟨a, r, e9, h⟩ := h9
  subst e9
  have h9 := pI_iff.mp h
  clear h
  obtain ⟨n, r, e9, h⟩ := h9
  subst e9
  have h9 := pR_iff.mp h
  clear h
  obtain ⟨o, r, e9, h⟩ := h9
  subst e9
  have h9 := pN_iff.mp h
  clear h
  obtain ⟨e9, h⟩ := h9
  subst e9
  try dsimp only at h
  obtain ⟨rfl, rfl, rfl, hrn, hx, h1, h2⟩ := h
  refine ⟨Nat.le_of_ble_eq_true rfl, OkX.of_ok (T := fun pt => pt = (4, [some (.inr (.inr (some 1))), some (.inl n), some (.inr (.inr (some 272))), none], [.inl n, .inr (.inr (some 1)), .inl 0, .inr (.inr (some 272))], (N, PF, I, L), 0, 0)) (Ok.seg mdL_race [4] 20 ?_) ?_⟩
  · simp only [wp_nil, wp_cons, ↓stp, ↓lI, ↓lL, ↓lR, ↓lIn_0, ↓lIn_1, ↓lIn_2, ↓lIn_3, ↓lLn_0, ↓lLn_1, ↓lLn_2, ↓lLn_3, ↓lRn_0, ↓lRn_1, ↓lRn_2, ↓lRn_3, ↓pI, ↓pL, ↓pR, ↓pA, ↓pN, ↓pV, ↓fp, ↓tsw, ↓oS, ↓spMax, ↓spMin, ↓spAbs, ↓spObj, RI, RLg, b2i_lo, b2i_hi, getL, setL, ltL, killL, isLong, inl, cnd, br, tgt, rcv, rpl, mputI, mputL, mputP, fv, fr, mcat, mcs, entL, entA, rfit, nf_0, nf_1, nf_2, nf_3, nf2_0, nf2_1, b2i_0, b2i_1, RI_b2i, b2i_fit, List.append, List.length, List.replicate, List.cons_append, List.nil_append, List.length_cons, List.length_nil, List.replicate_succ, List.replicate_zero, List.tail_cons, reduceIte, if_true, if_false, ite_true, ite_false, Bool.false_eq_true, true_and, and_true, and_self, false_and, and_false, or_self, or_true, true_or, or_false, false_or, not_true_eq_false, not_false_eq_true, ne_eq, forall_const, implies_true, imp_self, true_implies, false_implies, Nat.reduceAdd, Nat.reduceSub, Nat.reduceMul, Nat.reduceDiv, Nat.reduceMod, Nat.reduceEqDiff, Nat.reduceLT, Nat.reduceLeDiff, Nat.reduceBEq, Nat.add_zero, Nat.zero_add, Nat.le_refl, Nat.not_lt_zero, Nat.succ_eq_add_one, Int.reduceNatCast, Int.cast_ofNat_Int, Int.reduceSub, Int.reduceMul, Int.reduceNeg, Int.reduceLE, Int.reduceLT, Int.reduceToNat, Int.reduceEq, Int.reduceNe, Int.reduceAdd, Option.some.injEq, kL_race, rmL_race]
    exact Ok.thr rfl
  · rintro _ rfl
    refine callX (x := 25) (As := [.inr (.inr (some 1)), .inl n]) (rest := [.inl 0, .inr (.inr (some 272))]) (K := fun r σ' => ∃ I' v, r = some (.inr (.inl v)) ∧ σ' = (N, PF, I', L) ∧ (1 ≤ n ∧ n ≤ 40) ∧ frQ I I' ∧ xOK I' ∧ anR I I' n v) (KX := fun E σ' => E = IAE ∧ σ' = (N, PF, I, L) ∧ ¬ (1 ≤ n ∧ n ≤ 40)) mX8_race (by decide) rfl (List.forall_mem_cons.mpr ⟨(ws_mem (List.mem_of_getElem? (i := 828) (by decide +kernel)) (by decide +kernel)), List.forall_mem_cons.mpr ⟨(ws_mem (List.mem_of_getElem? (i := 829) (by decide +kernel)) (by decide +kernel)), List.forall_mem_cons.mpr ⟨(ws_mem (List.mem_of_getElem? (i := 830) (by decide +kernel)) (by decide +kernel)), List.forall_mem_cons.mpr ⟨(ws_mem (List.mem_of_getElem? (i := 53) (by decide +kernel)) (by decide +kernel)), List.forall_mem_cons.mpr ⟨(ws_mem (List.mem_of_getElem? (i := 831) (by decide +kernel)) (by decide +kernel)), fun _ h => absurd h List.not_mem_nil⟩⟩⟩⟩⟩) (by unfold nice; decide +kernel) (by unfold rfits; decide) ⟨rfl, rfl⟩ (by decide +kernel) rfl ⟨by decide, by decide⟩ (by decide) (by decide) (by decide) ⟨rfl, rfl, hrn, hx, fun q => ⟨rfl, rfl, q⟩, fun q I' v a b c => ⟨I', v, rfl, rfl, q, a, b, c⟩⟩ ?_ ?_
    · rintro _ _ ⟨I', v, rfl, rfl, q, a, b, c⟩
      refine OkX.of_ok (pt := (7, _, _, _, 1, 6)) (T := fun _ => False) (Ok.seg mdL_race [] 20 ?_) (fun _ z => z.elim)
      simp only [wp_nil, wp_cons, ↓stp, ↓lI, ↓lL, ↓lR, ↓lIn_0, ↓lIn_1, ↓lIn_2, ↓lIn_3, ↓lLn_0, ↓lLn_1, ↓lLn_2, ↓lLn_3, ↓lRn_0, ↓lRn_1, ↓lRn_2, ↓lRn_3, ↓pI, ↓pL, ↓pR, ↓pA, ↓pN, ↓pV, ↓fp, ↓tsw, ↓oS, ↓spMax, ↓spMin, ↓spAbs, ↓spObj, RI, RLg, b2i_lo, b2i_hi, getL, setL, ltL, killL, isLong, inl, cnd, br, tgt, rcv, rpl, mputI, mputL, mputP, fv, fr, mcat, mcs, entL, entA, rfit, nf_0, nf_1, nf_2, nf_3, nf2_0, nf2_1, b2i_0, b2i_1, RI_b2i, b2i_fit, List.append, List.length, List.replicate, List.cons_append, List.nil_append, List.length_cons, List.length_nil, List.replicate_succ, List.replicate_zero, List.tail_cons, reduceIte, if_true, if_false, ite_true, ite_false, Bool.false_eq_true, true_and, and_true, and_self, false_and, and_false, or_self, or_true, true_or, or_false, false_or, not_true_eq_false, not_false_eq_true, ne_eq, forall_const, implies_true, imp_self, true_implies, false_implies, Nat.reduceAdd, Nat.reduceSub, Nat.reduceMul, Nat.reduceDiv, Nat.reduceMod, Nat.reduceEqDiff, Nat.reduceLT, Nat.reduceLeDiff, Nat.reduceBEq, Nat.add_zero, Nat.zero_add, Nat.le_refl, Nat.not_lt_zero, Nat.succ_eq_add_one, Int.reduceNatCast, Int.cast_ofNat_Int, Int.reduceSub, Int.reduceMul, Int.reduceNeg, Int.reduceLE, Int.reduceLT, Int.reduceToNat, Int.reduceEq, Int.reduceNe, Int.reduceAdd, Option.some.injEq, kL_race, rmL_race, G_272]
      exact h2 q I' v a b c
    · rintro _ _ ⟨rfl, rfl, q⟩
      refine ⟨11, 1, 3, ⟨[], ⟨0, 8, 11, 13⟩, [], rfl, fun z hz => (by cases hz), by decide, by decide, (ws_mem (List.mem_of_getElem? (i := 773) (by decide +kernel)) (by decide +kernel)), rfl, Or.inl rfl, by decide, Or.inr ⟨3, by decide +kernel, rfl, rfl⟩⟩, ?_⟩
      refine OkX.of_ok (pt := (12, _, _, _, 1, 6)) (T := fun _ => False) (Ok.seg mdL_race [] 20 ?_) (fun _ z => z.elim)
      simp only [wp_nil, wp_cons, ↓stp, ↓lI, ↓lL, ↓lR, ↓lIn_0, ↓lIn_1, ↓lIn_2, ↓lIn_3, ↓lLn_0, ↓lLn_1, ↓lLn_2, ↓lLn_3, ↓lRn_0, ↓lRn_1, ↓lRn_2, ↓lRn_3, ↓pI, ↓pL, ↓pR, ↓pA, ↓pN, ↓pV, ↓fp, ↓tsw, ↓oS, ↓spMax, ↓spMin, ↓spAbs, ↓spObj, RI, RLg, b2i_lo, b2i_hi, getL, setL, ltL, killL, isLong, inl, cnd, br, tgt, rcv, rpl, mputI, mputL, mputP, fv, fr, mcat, mcs, entL, entA, rfit, nf_0, nf_1, nf_2, nf_3, nf2_0, nf2_1, b2i_0, b2i_1, RI_b2i, b2i_fit, List.append, List.length, List.replicate, List.cons_append, List.nil_append, List.length_cons, List.length_nil, List.replicate_succ, List.replicate_zero, List.tail_cons, reduceIte, if_true, if_false, ite_true, ite_false, Bool.false_eq_true, true_and, and_true, and_self, false_and, and_false, or_self, or_true, true_or, or_false, false_or, not_true_eq_false, not_false_eq_true, ne_eq, forall_const, implies_true, imp_self, true_implies, false_implies, Nat.reduceAdd, Nat.reduceSub, Nat.reduceMul, Nat.reduceDiv, Nat.reduceMod, Nat.reduceEqDiff, Nat.reduceLT, Nat.reduceLeDiff, Nat.reduceBEq, Nat.add_zero, Nat.zero_add, Nat.le_refl, Nat.not_lt_zero, Nat.succ_eq_add_one, Int.reduceNatCast, Int.cast_ofNat_Int, Int.reduceSub, Int.reduceMul, Int.reduceNeg, Int.reduceLE, Int.reduceLT, Int.reduceToNat, Int.reduceEq, Int.reduceNe, Int.reduceAdd, Option.some.injEq, kL_race, rmL_race]
      exact h1 q
def spL_element (As : List MV) (σ : MS) (K : Option MV → MS → Prop) : Prop := pR As fun a r => pI r fun d r => pI r fun i r => pR r fun o r => pN r (a = 1 ∧ o = 272 ∧ σ.2.1 = PF ∧ RI d ∧ RI i ∧ xOK σ.2.2.1 ∧ (¬ (0 ≤ d ∧ d ≤ 7) → K (some (.inl 1)) σ) ∧ (0 ≤ d ∧ d ≤ 7 → (¬ (3 ≤ σ.2.2.1 (208 + 4 * d) 0 ∧ 0 ≤ i ∧ i < σ.2.2.1 (208 + 4 * d) 1) → K (some (.inl 2)) σ) ∧ (3 ≤ σ.2.2.1 (208 + 4 * d) 0 ∧ 0 ≤ i ∧ i < σ.2.2.1 (208 + 4 * d) 1 → RI (itm σ.2.2.1 (208 + 4 * d) i) ∧ K (some (.inl 0)) (σ.1, σ.2.1, σ.2.2.1, upI σ.2.2.2 272 0 (itm σ.2.2.1 (208 + 4 * d) i)))))
def ciL_element : CI := (4, 10, 1, 6, spL_element)
def kL_element (pc : Nat) : List ME := match pc with
  | 0 => [(.aload_n 3, 1, []), (.iconst 0, 1, []), (.aload_n 0, 1, []), (.iload_n 1, 1, []), (.iload_n 2, 1, [])]
  | 5 => [(.invokevirtual 28, 3, [])]
  | 8 => [(.lastore, 1, []), (.goto 11, 3, [20])]
  | 14 => [(.iconst 1, 1, []), (.ireturn, 1, [])]
  | 18 => [(.iconst 2, 1, []), (.ireturn, 1, [])]
  | 20 => [(.iconst 0, 1, []), (.ireturn, 1, [])]
  | _ => []
theorem qL_element : ∀ pc, chk cL_element pc (kL_element pc) = true := by
  intro pc
  unfold kL_element
  split <;> first | decide +kernel | exact chk_nil
abbrev rmL_element : Room := { frames := 7, cells := 1, slots := 6, locals := 105 }
def aL_element (_ : Nat) : Option CI := none
theorem aokL_element : ∀ x ci, aL_element x = some ci → CalOK RL rmL_element x ci := fun _ _ h => by cases h
theorem mdL_element : MD RL cL_element rmL_element kL_element fL aL_element zL uL := ⟨fokL, zokL, uokL, aokL_element, qL_element⟩
set_option maxRecDepth 100000 in
set_option maxHeartbeats 800000 in
theorem mL_element : MOH yL_element cL_element 5 (some .int) [(0, 9, 12, 13), (0, 9, 16, 31)] rmL_element ciL_element := by
  refine moh_of (by decide +kernel) rfl rfl ?_
  intro σ As K hrc hl h
  obtain ⟨N, P, I, L⟩ := σ
  have h9 := pR_iff.mp h
  clear h
  obtain ⟨a, r, e9, h⟩ := h9
  subst e9
  have h9 := pI_iff.mp h
  clear h
  obtain ⟨d, r, e9, h⟩ := h9
  subst e9
  have h9 := pI_iff.mp h
  clear h
  obtain ⟨i, r, e9, h⟩ := h9
  subst e9
  have h9 := pR_iff.mp h
  clear h
  obtain ⟨o, r, e9, h⟩ := h9
  subst e9
  have h9 := pN_iff.mp h
  clear h
  obtain ⟨e9, h⟩ := h9
  subst e9
  try dsimp only at h
  obtain ⟨rfl, rfl, rfl, hrd, hri, hx, h1, h2⟩ := h
  refine ⟨Nat.le_of_ble_eq_true rfl, OkX.of_ok (T := fun pt => pt = (5, [some (.inr (.inr (some 1))), some (.inl d), some (.inl i), some (.inr (.inr (some 272))), none], [.inl i, .inl d, .inr (.inr (some 1)), .inl 0, .inr (.inr (some 272))], (N, PF, I, L), 0, 0)) (Ok.seg mdL_element [5] 20 ?_) ?_⟩
  · simp only [wp_nil, wp_cons, ↓stp, ↓lI, ↓lL, ↓lR, ↓lIn_0, ↓lIn_1, ↓lIn_2, ↓lIn_3, ↓lLn_0, ↓lLn_1, ↓lLn_2, ↓lLn_3, ↓lRn_0, ↓lRn_1, ↓lRn_2, ↓lRn_3, ↓pI, ↓pL, ↓pR, ↓pA, ↓pN, ↓pV, ↓fp, ↓tsw, ↓oS, ↓spMax, ↓spMin, ↓spAbs, ↓spObj, RI, RLg, b2i_lo, b2i_hi, getL, setL, ltL, killL, isLong, inl, cnd, br, tgt, rcv, rpl, mputI, mputL, mputP, fv, fr, mcat, mcs, entL, entA, rfit, nf_0, nf_1, nf_2, nf_3, nf2_0, nf2_1, b2i_0, b2i_1, RI_b2i, b2i_fit, List.append, List.length, List.replicate, List.cons_append, List.nil_append, List.length_cons, List.length_nil, List.replicate_succ, List.replicate_zero, List.tail_cons, reduceIte, if_true, if_false, ite_true, ite_false, Bool.false_eq_true, true_and, and_true, and_self, false_and, and_false, or_self, or_true, true_or, or_false, false_or, not_true_eq_false, not_false_eq_true, ne_eq, forall_const, implies_true, imp_self, true_implies, false_implies, Nat.reduceAdd, Nat.reduceSub, Nat.reduceMul, Nat.reduceDiv, Nat.reduceMod, Nat.reduceEqDiff, Nat.reduceLT, Nat.reduceLeDiff, Nat.reduceBEq, Nat.add_zero, Nat.zero_add, Nat.le_refl, Nat.not_lt_zero, Nat.succ_eq_add_one, Int.reduceNatCast, Int.cast_ofNat_Int, Int.reduceSub, Int.reduceMul, Int.reduceNeg, Int.reduceLE, Int.reduceLT, Int.reduceToNat, Int.reduceEq, Int.reduceNe, Int.reduceAdd, Option.some.injEq, kL_element, rmL_element]
    exact Ok.thr rfl
  · rintro _ rfl
    refine callX (x := 28) (As := [.inr (.inr (some 1)), .inl d, .inl i]) (rest := [.inl 0, .inr (.inr (some 272))]) (K := fun r σ' => r = some (.inr (.inl (itm I (208 + 4 * d) i))) ∧ σ' = (N, PF, I, L) ∧ (0 ≤ d ∧ d ≤ 7) ∧ 3 ≤ I (208 + 4 * d) 0 ∧ 0 ≤ i ∧ i < I (208 + 4 * d) 1) (KX := fun E σ' => σ' = (N, PF, I, L) ∧ ((E = IAE ∧ ¬ (0 ≤ d ∧ d ≤ 7)) ∨ (E = ISE ∧ (0 ≤ d ∧ d ≤ 7) ∧ ¬ (3 ≤ I (208 + 4 * d) 0 ∧ 0 ≤ i ∧ i < I (208 + 4 * d) 1)))) mX8_element (by decide) rfl (List.forall_mem_cons.mpr ⟨(ws_mem (List.mem_of_getElem? (i := 837) (by decide +kernel)) (by decide +kernel)), List.forall_mem_cons.mpr ⟨(ws_mem (List.mem_of_getElem? (i := 838) (by decide +kernel)) (by decide +kernel)), List.forall_mem_cons.mpr ⟨(ws_mem (List.mem_of_getElem? (i := 839) (by decide +kernel)) (by decide +kernel)), List.forall_mem_cons.mpr ⟨(ws_mem (List.mem_of_getElem? (i := 53) (by decide +kernel)) (by decide +kernel)), List.forall_mem_cons.mpr ⟨(ws_mem (List.mem_of_getElem? (i := 840) (by decide +kernel)) (by decide +kernel)), fun _ h => absurd h List.not_mem_nil⟩⟩⟩⟩⟩) (by unfold nice; decide +kernel) (by unfold rfits; decide) ⟨rfl, rfl⟩ (by decide +kernel) rfl ⟨by decide, by decide⟩ (by decide) (by decide) (by decide) ⟨rfl, rfl, hrd, hri, hx, fun q => ⟨rfl, .inl ⟨rfl, q⟩⟩, fun q => ⟨fun q2 => ⟨rfl, .inr ⟨rfl, q, q2⟩⟩, fun q2 => ⟨((h2 q).2 q2).1, rfl, rfl, q, q2⟩⟩⟩ ?_ ?_
    · rintro _ _ ⟨rfl, rfl, q, q2⟩
      refine OkX.of_ok (pt := (8, _, _, _, 1, 6)) (T := fun _ => False) (Ok.seg mdL_element [] 20 ?_) (fun _ z => z.elim)
      simp only [wp_nil, wp_cons, ↓stp, ↓lI, ↓lL, ↓lR, ↓lIn_0, ↓lIn_1, ↓lIn_2, ↓lIn_3, ↓lLn_0, ↓lLn_1, ↓lLn_2, ↓lLn_3, ↓lRn_0, ↓lRn_1, ↓lRn_2, ↓lRn_3, ↓pI, ↓pL, ↓pR, ↓pA, ↓pN, ↓pV, ↓fp, ↓tsw, ↓oS, ↓spMax, ↓spMin, ↓spAbs, ↓spObj, RI, RLg, b2i_lo, b2i_hi, getL, setL, ltL, killL, isLong, inl, cnd, br, tgt, rcv, rpl, mputI, mputL, mputP, fv, fr, mcat, mcs, entL, entA, rfit, nf_0, nf_1, nf_2, nf_3, nf2_0, nf2_1, b2i_0, b2i_1, RI_b2i, b2i_fit, List.append, List.length, List.replicate, List.cons_append, List.nil_append, List.length_cons, List.length_nil, List.replicate_succ, List.replicate_zero, List.tail_cons, reduceIte, if_true, if_false, ite_true, ite_false, Bool.false_eq_true, true_and, and_true, and_self, false_and, and_false, or_self, or_true, true_or, or_false, false_or, not_true_eq_false, not_false_eq_true, ne_eq, forall_const, implies_true, imp_self, true_implies, false_implies, Nat.reduceAdd, Nat.reduceSub, Nat.reduceMul, Nat.reduceDiv, Nat.reduceMod, Nat.reduceEqDiff, Nat.reduceLT, Nat.reduceLeDiff, Nat.reduceBEq, Nat.add_zero, Nat.zero_add, Nat.le_refl, Nat.not_lt_zero, Nat.succ_eq_add_one, Int.reduceNatCast, Int.cast_ofNat_Int, Int.reduceSub, Int.reduceMul, Int.reduceNeg, Int.reduceLE, Int.reduceLT, Int.reduceToNat, Int.reduceEq, Int.reduceNe, Int.reduceAdd, Option.some.injEq, kL_element, rmL_element, G_272]
      exact ((h2 q).2 q2).2
    · rintro _ _ ⟨rfl, ⟨rfl, q⟩ | ⟨rfl, q, q2⟩⟩
      · refine ⟨12, 2, 4, ⟨[], ⟨0, 9, 12, 13⟩, [⟨0, 9, 16, 31⟩], rfl, fun z hz => (by cases hz), by decide, by decide, (ws_mem (List.mem_of_getElem? (i := 773) (by decide +kernel)) (by decide +kernel)), rfl, Or.inl rfl, by decide, Or.inl ⟨by decide +kernel, rfl⟩⟩, ?_⟩
        refine OkX.of_ok (pt := (14, _, _, _, 1, 6)) (T := fun _ => False) (Ok.seg mdL_element [] 20 ?_) (fun _ z => z.elim)
        simp only [wp_nil, wp_cons, ↓stp, ↓lI, ↓lL, ↓lR, ↓lIn_0, ↓lIn_1, ↓lIn_2, ↓lIn_3, ↓lLn_0, ↓lLn_1, ↓lLn_2, ↓lLn_3, ↓lRn_0, ↓lRn_1, ↓lRn_2, ↓lRn_3, ↓pI, ↓pL, ↓pR, ↓pA, ↓pN, ↓pV, ↓fp, ↓tsw, ↓oS, ↓spMax, ↓spMin, ↓spAbs, ↓spObj, RI, RLg, b2i_lo, b2i_hi, getL, setL, ltL, killL, isLong, inl, cnd, br, tgt, rcv, rpl, mputI, mputL, mputP, fv, fr, mcat, mcs, entL, entA, rfit, nf_0, nf_1, nf_2, nf_3, nf2_0, nf2_1, b2i_0, b2i_1, RI_b2i, b2i_fit, List.append, List.length, List.replicate, List.cons_append, List.nil_append, List.length_cons, List.length_nil, List.replicate_succ, List.replicate_zero, List.tail_cons, reduceIte, if_true, if_false, ite_true, ite_false, Bool.false_eq_true, true_and, and_true, and_self, false_and, and_false, or_self, or_true, true_or, or_false, false_or, not_true_eq_false, not_false_eq_true, ne_eq, forall_const, implies_true, imp_self, true_implies, false_implies, Nat.reduceAdd, Nat.reduceSub, Nat.reduceMul, Nat.reduceDiv, Nat.reduceMod, Nat.reduceEqDiff, Nat.reduceLT, Nat.reduceLeDiff, Nat.reduceBEq, Nat.add_zero, Nat.zero_add, Nat.le_refl, Nat.not_lt_zero, Nat.succ_eq_add_one, Int.reduceNatCast, Int.cast_ofNat_Int, Int.reduceSub, Int.reduceMul, Int.reduceNeg, Int.reduceLE, Int.reduceLT, Int.reduceToNat, Int.reduceEq, Int.reduceNe, Int.reduceAdd, Option.some.injEq, kL_element, rmL_element]
        exact h1 q
      · refine ⟨16, 2, 4, ⟨[⟨0, 9, 12, 13⟩], ⟨0, 9, 16, 31⟩, [], rfl, fun z hz => ?_, by decide, by decide, (ws_mem (List.mem_of_getElem? (i := 836) (by decide +kernel)) (by decide +kernel)), rfl, Or.inr rfl, by decide, Or.inl ⟨by decide +kernel, rfl⟩⟩, ?_⟩
        · cases hz with
          | head => exact Or.inr ⟨by decide, (ws_mem (List.mem_of_getElem? (i := 773) (by decide +kernel)) (by decide +kernel)), rfl⟩
          | tail _ h => cases h
        · refine OkX.of_ok (pt := (18, _, _, _, 1, 6)) (T := fun _ => False) (Ok.seg mdL_element [] 20 ?_) (fun _ z => z.elim)
          simp only [wp_nil, wp_cons, ↓stp, ↓lI, ↓lL, ↓lR, ↓lIn_0, ↓lIn_1, ↓lIn_2, ↓lIn_3, ↓lLn_0, ↓lLn_1, ↓lLn_2, ↓lLn_3, ↓lRn_0, ↓lRn_1, ↓lRn_2, ↓lRn_3, ↓pI, ↓pL, ↓pR, ↓pA, ↓pN, ↓pV, ↓fp, ↓tsw, ↓oS, ↓spMax, ↓spMin, ↓spAbs, ↓spObj, RI, RLg, b2i_lo, b2i_hi, getL, setL, ltL, killL, isLong, inl, cnd, br, tgt, rcv, rpl, mputI, mputL, mputP, fv, fr, mcat, mcs, entL, entA, rfit, nf_0, nf_1, nf_2, nf_3, nf2_0, nf2_1, b2i_0, b2i_1, RI_b2i, b2i_fit, List.append, List.length, List.replicate, List.cons_append, List.nil_append, List.length_cons, List.length_nil, List.replicate_succ, List.replicate_zero, List.tail_cons, reduceIte, if_true, if_false, ite_true, ite_false, Bool.false_eq_true, true_and, and_true, and_self, false_and, and_false, or_self, or_true, true_or, or_false, false_or, not_true_eq_false, not_false_eq_true, ne_eq, forall_const, implies_true, imp_self, true_implies, false_implies, Nat.reduceAdd, Nat.reduceSub, Nat.reduceMul, Nat.reduceDiv, Nat.reduceMod, Nat.reduceEqDiff, Nat.reduceLT, Nat.reduceLeDiff, Nat.reduceBEq, Nat.add_zero, Nat.zero_add, Nat.le_refl, Nat.not_lt_zero, Nat.succ_eq_add_one, Int.reduceNatCast, Int.cast_ofNat_Int, Int.reduceSub, Int.reduceMul, Int.reduceNeg, Int.reduceLE, Int.reduceLT, Int.reduceToNat, Int.reduceEq, Int.reduceNe, Int.reduceAdd, Option.some.injEq, kL_element, rmL_element]
          exact (h2 q).1 q2
def spX8_toss (As : List MV) (σ : MS) (K : Option MV → MS → Prop) : Prop := pR As fun a r => pI r fun d r => pN r (a = 1 ∧ σ.2.1 = PF ∧ RI d ∧ xOK σ.2.2.1 ∧ (¬ (0 ≤ d ∧ d ≤ 7) → K (some (.inl (-1))) σ) ∧ (0 ≤ d ∧ d ≤ 7 → (σ.2.2.1 (208 + 4 * d) 0 = 0 → K (some (.inl (-11))) σ) ∧ (σ.2.2.1 (208 + 4 * d) 0 = 1 → K (some (.inl (if σ.2.2.1 (208 + 4 * d + 1) 0 = 1 ∨ σ.2.2.1 (208 + 4 * d + 1) 0 = 2 then σ.2.2.1 (208 + 4 * d + 1) 3 else -15))) σ) ∧ (¬ σ.2.2.1 (208 + 4 * d) 0 = 0 → ¬ σ.2.2.1 (208 + 4 * d) 0 = 1 → K (some (.inl (-12))) σ)))
def ciX8_toss : CI := (2, 8, 1, 6, spX8_toss)
def kX8_toss (pc : Nat) : List ME := match pc with
  | 0 => [(.aload_n 0, 1, []), (.iload_n 1, 1, []), (.invokevirtual 247, 3, []), (.istore_n 2, 1, []), (.iload_n 2, 1, []), (.ifCond .ge 5, 3, [12]), (.iload_n 2, 1, []), (.ireturn, 1, [])]
  | 12 => [(.aload_n 0, 1, []), (.getfield 32, 3, []), (.iload_n 1, 1, []), (.aaload, 1, []), (.getfield 250, 3, []), (.astore_n 3, 1, []), (.aload_n 3, 1, [])]
  | 23 => [(.invokevirtual 257, 3, [])]
  | 26 => [(.goto 10, 3, [36])]
  | 31 => [(.aload_n 3, 1, []), (.getfield 260, 3, []), (.ireturn, 1, [])]
  | 36 => [(.bipush (-15), 2, []), (.ireturn, 1, [])]
  | _ => []
theorem qX8_toss : ∀ pc, chk cX8_toss pc (kX8_toss pc) = true := by
  intro pc
  unfold kX8_toss
  split <;> first | decide +kernel | exact chk_nil
abbrev rmX8_toss : Room := { frames := 7, cells := 1, slots := 6, locals := 102 }
def aX8_toss (x : Nat) : Option CI := match x with
  | 247 => some ciX8_stationRefusal
  | _ => none
theorem aokX8_toss : ∀ x ci, aX8_toss x = some ci → CalOK RX8 rmX8_toss x ci := by
  intro x ci h
  unfold aX8_toss at h
  split at h
  · cases h; exact cal_V mX8_stationRefusal (by decide) rfl (List.forall_mem_cons.mpr ⟨(ws_mem (List.mem_of_getElem? (i := 687) (by decide +kernel)) (by decide +kernel)), List.forall_mem_cons.mpr ⟨(ws_mem (List.mem_of_getElem? (i := 689) (by decide +kernel)) (by decide +kernel)), List.forall_mem_cons.mpr ⟨(ws_mem (List.mem_of_getElem? (i := 18) (by decide +kernel)) (by decide +kernel)), List.forall_mem_cons.mpr ⟨(ws_mem (List.mem_of_getElem? (i := 53) (by decide +kernel)) (by decide +kernel)), List.forall_mem_cons.mpr ⟨(ws_mem (List.mem_of_getElem? (i := 690) (by decide +kernel)) (by decide +kernel)), fun _ h => absurd h List.not_mem_nil⟩⟩⟩⟩⟩) rfl (by unfold nice; decide +kernel) (by unfold rfits; decide) ⟨rfl, rfl⟩
  · cases h
theorem ocX8_toss_247 (f : Nat → Nat → Nat → Nat → (List MV → MS → (Option MV → MS → Prop) → Prop) → Prop) : oC aX8_toss 247 f = f 2 8 0 0 spX8_stationRefusal := propext Iff.rfl
theorem mdX8_toss : MD RX8 cX8_toss rmX8_toss kX8_toss fX8 aX8_toss zX8 uX8 := ⟨fokX8, zokX8, uokX8, aokX8_toss, qX8_toss⟩
set_option maxRecDepth 100000 in
set_option maxHeartbeats 800000 in
theorem mX8_toss : MOH yX8_toss cX8_toss 5 (some .int) [(22, 26, 29, 232)] rmX8_toss ciX8_toss := by
  refine moh_of (by decide +kernel) rfl rfl ?_
  intro σ As K hrc hl h
  obtain ⟨N, P, I, L⟩ := σ
  have h9 := pR_iff.mp h
  clear h
  obtain ⟨a, r, e9, h⟩ := h9
  subst e9
  have h9 := pI_iff.mp h
  clear h
  obtain ⟨d, r, e9, h⟩ := h9
  subst e9
  have h9 := pN_iff.mp h
  clear h
  obtain ⟨e9, h⟩ := h9
  subst e9
  try dsimp only at h
  obtain ⟨rfl, rfl, hd, hx, h1, h2⟩ := h
  unfold RI at hd
  by_cases q : 0 ≤ d ∧ d ≤ 7
  · have hb := shB_d q.1 q.2
    have hp := PF_shelf (i := d) (by omega) (by omega)
    obtain ⟨g0, g1, g2, g3, p2, p3, p4, b0⟩ := shB_rows hb
    have sb := hx.2.2.2.2.2.2 _ hb
    obtain ⟨h3, h4, h5⟩ := h2 q
    refine ⟨Nat.le_of_ble_eq_true rfl, OkX.of_ok (T := fun pt => I (208 + 4 * d) 0 = 1 ∧ pt = (23, [some (.inr (.inr (some 1))), some (.inl d), some (.inl 0), some (.inr (.inr (some (208 + 4 * d + 1)))), none], [.inr (.inr (some (208 + 4 * d + 1)))], (N, PF, I, L), 0, 0)) (Ok.seg mdX8_toss [23] 40 ?_) ?_⟩
    · simp only [wp_nil, wp_cons, ↓stp, ↓lI, ↓lL, ↓lR, ↓lIn_0, ↓lIn_1, ↓lIn_2, ↓lIn_3, ↓lLn_0, ↓lLn_1, ↓lLn_2, ↓lLn_3, ↓lRn_0, ↓lRn_1, ↓lRn_2, ↓lRn_3, ↓pI, ↓pL, ↓pR, ↓pA, ↓pN, ↓pV, ↓fp, ↓tsw, ↓oS, ↓spMax, ↓spMin, ↓spAbs, ↓spObj, RI, RLg, b2i_lo, b2i_hi, getL, setL, ltL, killL, isLong, inl, cnd, br, tgt, rcv, rpl, mputI, mputL, mputP, fv, fr, mcat, mcs, entL, entA, rfit, nf_0, nf_1, nf_2, nf_3, nf2_0, nf2_1, b2i_0, b2i_1, RI_b2i, b2i_fit, List.append, List.length, List.replicate, List.cons_append, List.nil_append, List.length_cons, List.length_nil, List.replicate_succ, List.replicate_zero, List.tail_cons, reduceIte, if_true, if_false, ite_true, ite_false, Bool.false_eq_true, true_and, and_true, and_self, false_and, and_false, or_self, or_true, true_or, or_false, false_or, not_true_eq_false, not_false_eq_true, ne_eq, forall_const, implies_true, imp_self, true_implies, false_implies, Nat.reduceAdd, Nat.reduceSub, Nat.reduceMul, Nat.reduceDiv, Nat.reduceMod, Nat.reduceEqDiff, Nat.reduceLT, Nat.reduceLeDiff, Nat.reduceBEq, Nat.add_zero, Nat.zero_add, Nat.le_refl, Nat.not_lt_zero, Nat.succ_eq_add_one, Int.reduceNatCast, Int.cast_ofNat_Int, Int.reduceSub, Int.reduceMul, Int.reduceNeg, Int.reduceLE, Int.reduceLT, Int.reduceToNat, Int.reduceEq, Int.reduceNe, Int.reduceAdd, Option.some.injEq, kX8_toss, rmX8_toss, ↓ofX8_250, ↓ofX8_260, ↓ofX8_32, ↓ocX8_toss_247, ↓spX8_stationRefusal, q, hp, g0, g1, p2, hx, G_1, G_2, G_3, G_4, G_35, G_36, G_37, G_38, G_39, G_40, G_41, G_42, G_43, G_44, G_45, G_46, G_47, G_48, G_49, G_140, G_141, G_142, G_143, G_144, G_145, G_146, G_178, G_179, G_180, G_181, G_182, G_183, G_184, G_189, G_198, G_207, PF_1_0, PF_1_1, PF_1_2, PF_1_3, PF_2_0, PF_2_1, PF_2_3, PF_2_4, PF_2_5, PF_2_6, PF_2_7, PF_2_8, PF_2_9, PF_2_10, PF_2_11, PF_3_0, PF_35_0, PF_35_1, PF_35_2, PF_35_3, PF_40_0, PF_40_1, PF_40_2, PF_44_0, PF_44_1, PF_44_2, PF_145_0, PF_145_1, PF_179_0, PF_179_1, PF_179_2, PF_179_3, PF_179_8, PF_179_9, PF_179_10]
      exact ⟨by omega, h3, fun z => ⟨by omega, Ok.thr ⟨z, rfl⟩⟩, h5⟩
    · rintro _ ⟨z, rfl⟩
      have sk := sb.2.2.1 z
      unfold stOK at sk
      have h4 := h4 z
      refine callX (x := 257) (As := [.inr (.inr (some (208 + 4 * d + 1)))]) (rest := []) (K := fun r σ' => r = none ∧ σ' = (N, PF, I, L) ∧ ¬ (I (208 + 4 * d + 1) 0 = 1 ∨ I (208 + 4 * d + 1) 0 = 2)) (KX := fun E σ' => E = ISE ∧ σ' = (N, PF, I, L) ∧ (I (208 + 4 * d + 1) 0 = 1 ∨ I (208 + 4 * d + 1) 0 = 2)) mX3_fail (by decide) rfl (List.forall_mem_cons.mpr ⟨(ws_mem (List.mem_of_getElem? (i := 700) (by decide +kernel)) (by decide +kernel)), List.forall_mem_cons.mpr ⟨(ws_mem (List.mem_of_getElem? (i := 701) (by decide +kernel)) (by decide +kernel)), List.forall_mem_cons.mpr ⟨(ws_mem (List.mem_of_getElem? (i := 702) (by decide +kernel)) (by decide +kernel)), List.forall_mem_cons.mpr ⟨(ws_mem (List.mem_of_getElem? (i := 56) (by decide +kernel)) (by decide +kernel)), List.forall_mem_cons.mpr ⟨(ws_mem (List.mem_of_getElem? (i := 703) (by decide +kernel)) (by decide +kernel)), fun _ h => absurd h List.not_mem_nil⟩⟩⟩⟩⟩) (by unfold nice; decide +kernel) (by unfold rfits; decide) ⟨rfl, rfl⟩ (by decide +kernel) rfl ⟨by rw [g1], by omega⟩ (by decide) (by decide) (by decide) ⟨sb.2.2.1 z, fun y => ⟨rfl, rfl, y⟩, fun y => ⟨rfl, rfl, y⟩⟩ ?_ ?_
      · rintro _ _ ⟨rfl, rfl, y⟩
        rw [if_neg y] at h4
        refine OkX.of_ok (pt := (26, _, _, _, 1, 6)) (T := fun _ => False) (Ok.seg mdX8_toss [] 20 ?_) (fun _ z => z.elim)
        simp only [wp_nil, wp_cons, ↓stp, ↓lI, ↓lL, ↓lR, ↓lIn_0, ↓lIn_1, ↓lIn_2, ↓lIn_3, ↓lLn_0, ↓lLn_1, ↓lLn_2, ↓lLn_3, ↓lRn_0, ↓lRn_1, ↓lRn_2, ↓lRn_3, ↓pI, ↓pL, ↓pR, ↓pA, ↓pN, ↓pV, ↓fp, ↓tsw, ↓oS, ↓spMax, ↓spMin, ↓spAbs, ↓spObj, RI, RLg, b2i_lo, b2i_hi, getL, setL, ltL, killL, isLong, inl, cnd, br, tgt, rcv, rpl, mputI, mputL, mputP, fv, fr, mcat, mcs, entL, entA, rfit, nf_0, nf_1, nf_2, nf_3, nf2_0, nf2_1, b2i_0, b2i_1, RI_b2i, b2i_fit, List.append, List.length, List.replicate, List.cons_append, List.nil_append, List.length_cons, List.length_nil, List.replicate_succ, List.replicate_zero, List.tail_cons, reduceIte, if_true, if_false, ite_true, ite_false, Bool.false_eq_true, true_and, and_true, and_self, false_and, and_false, or_self, or_true, true_or, or_false, false_or, not_true_eq_false, not_false_eq_true, ne_eq, forall_const, implies_true, imp_self, true_implies, false_implies, Nat.reduceAdd, Nat.reduceSub, Nat.reduceMul, Nat.reduceDiv, Nat.reduceMod, Nat.reduceEqDiff, Nat.reduceLT, Nat.reduceLeDiff, Nat.reduceBEq, Nat.add_zero, Nat.zero_add, Nat.le_refl, Nat.not_lt_zero, Nat.succ_eq_add_one, Int.reduceNatCast, Int.cast_ofNat_Int, Int.reduceSub, Int.reduceMul, Int.reduceNeg, Int.reduceLE, Int.reduceLT, Int.reduceToNat, Int.reduceEq, Int.reduceNe, Int.reduceAdd, Option.some.injEq, kX8_toss, rmX8_toss, ↓ofX8_250, ↓ofX8_260, ↓ofX8_32, ↓ocX8_toss_247, ↓spX8_stationRefusal]
        exact h4
      · rintro _ _ ⟨rfl, rfl, y⟩
        rw [if_pos y] at h4
        refine ⟨29, 2, 4, ⟨[], ⟨22, 26, 29, 232⟩, [], rfl, fun z hz => (by cases hz), by decide, by decide, (ws_mem (List.mem_of_getElem? (i := 699) (by decide +kernel)) (by decide +kernel)), rfl, Or.inr rfl, by decide, Or.inl ⟨by decide +kernel, rfl⟩⟩, ?_⟩
        refine OkX.of_ok (pt := (31, _, _, _, 1, 6)) (T := fun _ => False) (Ok.seg mdX8_toss [] 20 ?_) (fun _ z => z.elim)
        simp only [wp_nil, wp_cons, ↓stp, ↓lI, ↓lL, ↓lR, ↓lIn_0, ↓lIn_1, ↓lIn_2, ↓lIn_3, ↓lLn_0, ↓lLn_1, ↓lLn_2, ↓lLn_3, ↓lRn_0, ↓lRn_1, ↓lRn_2, ↓lRn_3, ↓pI, ↓pL, ↓pR, ↓pA, ↓pN, ↓pV, ↓fp, ↓tsw, ↓oS, ↓spMax, ↓spMin, ↓spAbs, ↓spObj, RI, RLg, b2i_lo, b2i_hi, getL, setL, ltL, killL, isLong, inl, cnd, br, tgt, rcv, rpl, mputI, mputL, mputP, fv, fr, mcat, mcs, entL, entA, rfit, nf_0, nf_1, nf_2, nf_3, nf2_0, nf2_1, b2i_0, b2i_1, RI_b2i, b2i_fit, List.append, List.length, List.replicate, List.cons_append, List.nil_append, List.length_cons, List.length_nil, List.replicate_succ, List.replicate_zero, List.tail_cons, reduceIte, if_true, if_false, ite_true, ite_false, Bool.false_eq_true, true_and, and_true, and_self, false_and, and_false, or_self, or_true, true_or, or_false, false_or, not_true_eq_false, not_false_eq_true, ne_eq, forall_const, implies_true, imp_self, true_implies, false_implies, Nat.reduceAdd, Nat.reduceSub, Nat.reduceMul, Nat.reduceDiv, Nat.reduceMod, Nat.reduceEqDiff, Nat.reduceLT, Nat.reduceLeDiff, Nat.reduceBEq, Nat.add_zero, Nat.zero_add, Nat.le_refl, Nat.not_lt_zero, Nat.succ_eq_add_one, Int.reduceNatCast, Int.cast_ofNat_Int, Int.reduceSub, Int.reduceMul, Int.reduceNeg, Int.reduceLE, Int.reduceLT, Int.reduceToNat, Int.reduceEq, Int.reduceNe, Int.reduceAdd, Option.some.injEq, kX8_toss, rmX8_toss, ↓ofX8_250, ↓ofX8_260, ↓ofX8_32, ↓ocX8_toss_247, ↓spX8_stationRefusal, g1]
        exact h4
  · refine ⟨Nat.le_of_ble_eq_true rfl, OkX.of_ok (T := fun _ => False) (Ok.seg mdX8_toss [] 40 ?_) (fun _ z => z.elim)⟩
    simp only [wp_nil, wp_cons, ↓stp, ↓lI, ↓lL, ↓lR, ↓lIn_0, ↓lIn_1, ↓lIn_2, ↓lIn_3, ↓lLn_0, ↓lLn_1, ↓lLn_2, ↓lLn_3, ↓lRn_0, ↓lRn_1, ↓lRn_2, ↓lRn_3, ↓pI, ↓pL, ↓pR, ↓pA, ↓pN, ↓pV, ↓fp, ↓tsw, ↓oS, ↓spMax, ↓spMin, ↓spAbs, ↓spObj, RI, RLg, b2i_lo, b2i_hi, getL, setL, ltL, killL, isLong, inl, cnd, br, tgt, rcv, rpl, mputI, mputL, mputP, fv, fr, mcat, mcs, entL, entA, rfit, nf_0, nf_1, nf_2, nf_3, nf2_0, nf2_1, b2i_0, b2i_1, RI_b2i, b2i_fit, List.append, List.length, List.replicate, List.cons_append, List.nil_append, List.length_cons, List.length_nil, List.replicate_succ, List.replicate_zero, List.tail_cons, reduceIte, if_true, if_false, ite_true, ite_false, Bool.false_eq_true, true_and, and_true, and_self, false_and, and_false, or_self, or_true, true_or, or_false, false_or, not_true_eq_false, not_false_eq_true, ne_eq, forall_const, implies_true, imp_self, true_implies, false_implies, Nat.reduceAdd, Nat.reduceSub, Nat.reduceMul, Nat.reduceDiv, Nat.reduceMod, Nat.reduceEqDiff, Nat.reduceLT, Nat.reduceLeDiff, Nat.reduceBEq, Nat.add_zero, Nat.zero_add, Nat.le_refl, Nat.not_lt_zero, Nat.succ_eq_add_one, Int.reduceNatCast, Int.cast_ofNat_Int, Int.reduceSub, Int.reduceMul, Int.reduceNeg, Int.reduceLE, Int.reduceLT, Int.reduceToNat, Int.reduceEq, Int.reduceNe, Int.reduceAdd, Option.some.injEq, kX8_toss, rmX8_toss, ↓ofX8_250, ↓ofX8_260, ↓ofX8_32, ↓ocX8_toss_247, ↓spX8_stationRefusal, q, hx, G_1, G_2, G_3, G_4, G_35, G_36, G_37, G_38, G_39, G_40, G_41, G_42, G_43, G_44, G_45, G_46, G_47, G_48, G_49, G_140, G_141, G_142, G_143, G_144, G_145, G_146, G_178, G_179, G_180, G_181, G_182, G_183, G_184, G_189, G_198, G_207, PF_1_0, PF_1_1, PF_1_2, PF_1_3, PF_2_0, PF_2_1, PF_2_3, PF_2_4, PF_2_5, PF_2_6, PF_2_7, PF_2_8, PF_2_9, PF_2_10, PF_2_11, PF_3_0, PF_35_0, PF_35_1, PF_35_2, PF_35_3, PF_40_0, PF_40_1, PF_40_2, PF_44_0, PF_44_1, PF_44_2, PF_145_0, PF_145_1, PF_179_0, PF_179_1, PF_179_2, PF_179_3, PF_179_8, PF_179_9, PF_179_10]
    exact ⟨by omega, h1 q⟩
