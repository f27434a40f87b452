/-! LapBoardModel: race, plan, stops -/
theorem pR_rng {V : Int → Int → Int} {sp : Int} {mu : Prop} {n x : Int} {K D : Int → Int} (h : PlanOK (lpf V) sp mu n K D x) : ∀ j, 0 ≤ j → j < n → (0 ≤ K j ∧ K j ≤ 3) ∧ 0 ≤ D j ∧ D j ≤ j := PlanOK_rng h
def spX9_race (As : List MV) (σ : MS) (K : Option MV → MS → Prop) : Prop := pR As fun a r => pI r fun n r => pN r (a = 240 ∧ σ.2.1 = PF ∧ RI n ∧ mOK σ.2.2.1 σ.2.2.2 ∧ (¬ (1 ≤ n ∧ n ≤ 40) → ∀ I' : Int → Int → Int, frW σ.2.2.1 I' → mOK I' σ.2.2.2 → I' 240 0 = 1 → K (some (.inr (.inl 0))) (σ.1, σ.2.1, I', σ.2.2.2)) ∧ (1 ≤ n ∧ n ≤ 40 → ∀ (I' L' : Int → Int → Int) (x : Int), frW σ.2.2.1 I' → frWL σ.2.2.2 L' → mOK I' L' → I' 240 0 = 0 → PlanOK (lpf (VM σ.2.2.1)) (σ.2.2.1 240 5) (mus (VM σ.2.2.1) n) n (I' 261) (I' 262) x → K (some (.inr (.inl x))) (σ.1, σ.2.1, I', L')))
def ciX9_race : CI := (2, 9, 0, 0, spX9_race)
def kX9_race (pc : Nat) : List ME := match pc with
  | 0 => [(.aload_n 0, 1, []), (.aload_n 0, 1, []), (.iload_n 1, 1, []), (.iconst 1, 1, []), (.bipush 40, 2, []), (.invokevirtual 128, 3, []), (.ifCond .eq 7, 3, [16]), (.iconst 0, 1, []), (.goto 4, 3, [17])]
  | 16 => [(.iconst 1, 1, [])]
  | 17 => [(.putfield 7, 3, []), (.aload_n 0, 1, []), (.getfield 7, 3, []), (.ifCond .le 7, 3, [31]), (.lconst 0, 1, []), (.goto 8, 3, [36])]
  | 31 => [(.aload_n 0, 1, []), (.iload_n 1, 1, []), (.invokevirtual 232, 3, [])]
  | 36 => [(.lreturn, 1, [])]
  | _ => []
theorem qX9_race : ∀ pc, chk cX9_race pc (kX9_race pc) = true := by
  intro pc
  unfold kX9_race
  split <;> first | decide +kernel | exact chk_nil
abbrev rmX9_race : Room := { frames := 8, cells := 0, slots := 0, locals := 212 }
def aX9_race (x : Nat) : Option CI := match x with
  | 128 => some ciX9_in
  | 232 => some ciX9_findPlan
  | _ => none
theorem aokX9_race : ∀ x ci, aX9_race x = some ci → CalOK RX9 rmX9_race x ci := by
  intro x ci h
  unfold aX9_race at h
  split at h
  · cases h; exact cal_V mX9_in (by decide) rfl (List.forall_mem_cons.mpr ⟨(ws_mem (List.mem_of_getElem? (i := 979) (by decide +kernel)) (by decide +kernel)), List.forall_mem_cons.mpr ⟨(ws_mem (List.mem_of_getElem? (i := 981) (by decide +kernel)) (by decide +kernel)), List.forall_mem_cons.mpr ⟨(ws_mem (List.mem_of_getElem? (i := 20) (by decide +kernel)) (by decide +kernel)), List.forall_mem_cons.mpr ⟨(ws_mem (List.mem_of_getElem? (i := 64) (by decide +kernel)) (by decide +kernel)), List.forall_mem_cons.mpr ⟨(ws_mem (List.mem_of_getElem? (i := 982) (by decide +kernel)) (by decide +kernel)), fun _ h => absurd h List.not_mem_nil⟩⟩⟩⟩⟩) rfl (by unfold nice; decide +kernel) (by unfold rfits; decide) ⟨rfl, rfl⟩
  · cases h; exact cal_V mX9_findPlan (by decide) rfl (List.forall_mem_cons.mpr ⟨(ws_mem (List.mem_of_getElem? (i := 1170) (by decide +kernel)) (by decide +kernel)), List.forall_mem_cons.mpr ⟨(ws_mem (List.mem_of_getElem? (i := 1172) (by decide +kernel)) (by decide +kernel)), List.forall_mem_cons.mpr ⟨(ws_mem (List.mem_of_getElem? (i := 45) (by decide +kernel)) (by decide +kernel)), List.forall_mem_cons.mpr ⟨(ws_mem (List.mem_of_getElem? (i := 64) (by decide +kernel)) (by decide +kernel)), List.forall_mem_cons.mpr ⟨(ws_mem (List.mem_of_getElem? (i := 1173) (by decide +kernel)) (by decide +kernel)), fun _ h => absurd h List.not_mem_nil⟩⟩⟩⟩⟩) rfl (by unfold nice; decide +kernel) (by unfold rfits; decide) ⟨rfl, rfl⟩
  · cases h
theorem ocX9_race_128 (f : Nat → Nat → Nat → Nat → (List MV → MS → (Option MV → MS → Prop) → Prop) → Prop) : oC aX9_race 128 f = f 4 9 0 0 spX9_in := propext Iff.rfl
theorem ocX9_race_232 (f : Nat → Nat → Nat → Nat → (List MV → MS → (Option MV → MS → Prop) → Prop) → Prop) : oC aX9_race 232 f = f 2 9 0 0 spX9_findPlan := propext Iff.rfl
theorem mdX9_race : MD RX9 cX9_race rmX9_race kX9_race fX9 aX9_race zX9 uX9 := ⟨fokX9, zokX9, uokX9, aokX9_race, qX9_race⟩
set_option maxRecDepth 100000 in
set_option maxHeartbeats 800000 in
theorem mX9_race : MOK yX9_race cX9_race 2 (some .long) rmX9_race ciX9_race := by
  refine mok_of (ini := false) (by decide +kernel) (by decide) rfl rfl ?_
  intro σ As K hrc hl h
  obtain ⟨N, P, I, L⟩ := σ
  have h9 := pR_iff.mp h
  clear h
  obtain ⟨a, r, e9, h⟩ := h9
  subst e9
  have h9 := pI_iff.mp h
  clear h
  obtain ⟨n, r, e9, h⟩ := h9
  subst e9
  have h9 := pN_iff.mp h
  clear h
  obtain ⟨e9, h⟩ := h9
  subst e9
  try dsimp only at h
  obtain ⟨rfl, rfl, hn, hx, h1, h2⟩ := h
  unfold RI at hn
  have fu : ∀ v, frW I (upI I 240 0 v) := fun v b k b0 b1 b2 b3 => if_neg b3
  have mu : ∀ v, mOK (upI I 240 0 v) L := fun v => mOK_w hx (fu v) (fun k => upI_ne (by omega)) (fun _ => rfl)
  have bad : ¬ (1 ≤ n ∧ n ≤ 40) → Ok RX9 cX9_race 2 rmX9_race false none (fun r σ' => rfit (some .long) r ∧ K r σ') (fun _ => False) (17, [some (.inr (.inr (some 240))), some (.inl n)], [.inl 1, .inr (.inr (some 240))], (N, PF, I, L), 0, 0) := fun q => by
    refine Ok.seg mdX9_race [] 20 ?_
    simp only [wp_nil, wp_cons, ↓stp, ↓lI, ↓lL, ↓lR, ↓lIn_0, ↓lIn_1, ↓lIn_2, ↓lIn_3, ↓lLn_0, ↓lLn_1, ↓lLn_2, ↓lLn_3, ↓lRn_0, ↓lRn_1, ↓lRn_2, ↓lRn_3, ↓pI, ↓pL, ↓pR, ↓pA, ↓pN, ↓pV, ↓fp, ↓tsw, ↓oS, ↓spMax, ↓spMin, ↓spAbs, ↓spObj, RI, RLg, b2i_lo, b2i_hi, getL, setL, ltL, killL, isLong, inl, cnd, br, tgt, rcv, rpl, mputI, mputL, mputP, fv, fr, mcat, mcs, entL, entA, rfit, nf_0, nf_1, nf_2, nf_3, nf2_0, nf2_1, b2i_0, b2i_1, RI_b2i, b2i_fit, List.append, List.length, List.replicate, List.cons_append, List.nil_append, List.length_cons, List.length_nil, List.replicate_succ, List.replicate_zero, List.tail_cons, reduceIte, if_true, if_false, ite_true, ite_false, Bool.false_eq_true, true_and, and_true, and_self, false_and, and_false, or_self, or_true, true_or, or_false, false_or, not_true_eq_false, not_false_eq_true, ne_eq, forall_const, implies_true, imp_self, true_implies, false_implies, Nat.reduceAdd, Nat.reduceSub, Nat.reduceMul, Nat.reduceDiv, Nat.reduceMod, Nat.reduceEqDiff, Nat.reduceLT, Nat.reduceLeDiff, Nat.reduceBEq, Nat.add_zero, Nat.zero_add, Nat.le_refl, Nat.not_lt_zero, Nat.succ_eq_add_one, Int.reduceNatCast, Int.cast_ofNat_Int, Int.reduceSub, Int.reduceMul, Int.reduceNeg, Int.reduceLE, Int.reduceLT, Int.reduceToNat, Int.reduceEq, Int.reduceNe, Int.reduceAdd, Option.some.injEq, kX9_race, rmX9_race, ↓ofX9_7, ↓ocX9_race_128, ↓spX9_in, ↓ocX9_race_232, ↓spX9_findPlan, upI_same, G_240, G_241, G_242, G_243, G_244, G_245, G_246, G_247, G_248, G_249, G_250, G_251, G_252, G_253, G_254, G_255, G_256, G_257, G_258, G_259, G_260, G_261, G_262, G_263, G_264, G_265, G_266, G_267, G_268, G_269, G_270, G_271, G_272, PF_240_6, PF_240_7, PF_240_8, PF_240_9, PF_240_10, PF_240_11, PF_240_12, PF_240_13, PF_240_14, PF_240_15, PF_240_16, PF_240_17, PF_240_18, PF_240_19, PF_240_20, PF_240_21, PF_240_22, PF_240_23, PF_240_24, PF_240_26, PF_240_27, PF_240_28, PF_240_29, PF_240_30, PF_240_31, PF_240_32, PF_240_33, PF_240_34, PF_240_35, PF_240_36, PF_240_37]
    exact h1 q _ (fu 1) (mu 1) upI_same
  have good : (1 ≤ n ∧ n ≤ 40) → Ok RX9 cX9_race 2 rmX9_race false none (fun r σ' => rfit (some .long) r ∧ K r σ') (fun _ => False) (17, [some (.inr (.inr (some 240))), some (.inl n)], [.inl 0, .inr (.inr (some 240))], (N, PF, I, L), 0, 0) := fun q => by
    have m0 := mu 0
    refine Ok.seg mdX9_race [] 60 ?_
    simp only [wp_nil, wp_cons, ↓stp, ↓lI, ↓lL, ↓lR, ↓lIn_0, ↓lIn_1, ↓lIn_2, ↓lIn_3, ↓lLn_0, ↓lLn_1, ↓lLn_2, ↓lLn_3, ↓lRn_0, ↓lRn_1, ↓lRn_2, ↓lRn_3, ↓pI, ↓pL, ↓pR, ↓pA, ↓pN, ↓pV, ↓fp, ↓tsw, ↓oS, ↓spMax, ↓spMin, ↓spAbs, ↓spObj, RI, RLg, b2i_lo, b2i_hi, getL, setL, ltL, killL, isLong, inl, cnd, br, tgt, rcv, rpl, mputI, mputL, mputP, fv, fr, mcat, mcs, entL, entA, rfit, nf_0, nf_1, nf_2, nf_3, nf2_0, nf2_1, b2i_0, b2i_1, RI_b2i, b2i_fit, List.append, List.length, List.replicate, List.cons_append, List.nil_append, List.length_cons, List.length_nil, List.replicate_succ, List.replicate_zero, List.tail_cons, reduceIte, if_true, if_false, ite_true, ite_false, Bool.false_eq_true, true_and, and_true, and_self, false_and, and_false, or_self, or_true, true_or, or_false, false_or, not_true_eq_false, not_false_eq_true, ne_eq, forall_const, implies_true, imp_self, true_implies, false_implies, Nat.reduceAdd, Nat.reduceSub, Nat.reduceMul, Nat.reduceDiv, Nat.reduceMod, Nat.reduceEqDiff, Nat.reduceLT, Nat.reduceLeDiff, Nat.reduceBEq, Nat.add_zero, Nat.zero_add, Nat.le_refl, Nat.not_lt_zero, Nat.succ_eq_add_one, Int.reduceNatCast, Int.cast_ofNat_Int, Int.reduceSub, Int.reduceMul, Int.reduceNeg, Int.reduceLE, Int.reduceLT, Int.reduceToNat, Int.reduceEq, Int.reduceNe, Int.reduceAdd, Option.some.injEq, kX9_race, rmX9_race, ↓ofX9_7, ↓ocX9_race_128, ↓spX9_in, ↓ocX9_race_232, ↓spX9_findPlan, upI_same, m0, G_240, G_241, G_242, G_243, G_244, G_245, G_246, G_247, G_248, G_249, G_250, G_251, G_252, G_253, G_254, G_255, G_256, G_257, G_258, G_259, G_260, G_261, G_262, G_263, G_264, G_265, G_266, G_267, G_268, G_269, G_270, G_271, G_272, PF_240_6, PF_240_7, PF_240_8, PF_240_9, PF_240_10, PF_240_11, PF_240_12, PF_240_13, PF_240_14, PF_240_15, PF_240_16, PF_240_17, PF_240_18, PF_240_19, PF_240_20, PF_240_21, PF_240_22, PF_240_23, PF_240_24, PF_240_26, PF_240_27, PF_240_28, PF_240_29, PF_240_30, PF_240_31, PF_240_32, PF_240_33, PF_240_34, PF_240_35, PF_240_36, PF_240_37]
    refine ⟨q.1, q.2, fun J M x k1 k2 k3 k4 k5 => ?_⟩
    rw [(fu 0).V, show upI I 240 0 0 240 5 = I 240 5 from if_neg (by omega)] at k4
    exact h2 q J M x ((fu 0).tr k1.W) k2 k3 ((k1 _ _ (by omega) (by omega) (by omega) (by omega) (by omega) (by omega)).trans upI_same) k4
  refine ⟨Nat.le_of_ble_eq_true rfl, Ok.seg mdX9_race [17] 30 ?_⟩
  simp only [wp_nil, wp_cons, ↓stp, ↓lI, ↓lL, ↓lR, ↓lIn_0, ↓lIn_1, ↓lIn_2, ↓lIn_3, ↓lLn_0, ↓lLn_1, ↓lLn_2, ↓lLn_3, ↓lRn_0, ↓lRn_1, ↓lRn_2, ↓lRn_3, ↓pI, ↓pL, ↓pR, ↓pA, ↓pN, ↓pV, ↓fp, ↓tsw, ↓oS, ↓spMax, ↓spMin, ↓spAbs, ↓spObj, RI, RLg, b2i_lo, b2i_hi, getL, setL, ltL, killL, isLong, inl, cnd, br, tgt, rcv, rpl, mputI, mputL, mputP, fv, fr, mcat, mcs, entL, entA, rfit, nf_0, nf_1, nf_2, nf_3, nf2_0, nf2_1, b2i_0, b2i_1, RI_b2i, b2i_fit, List.append, List.length, List.replicate, List.cons_append, List.nil_append, List.length_cons, List.length_nil, List.replicate_succ, List.replicate_zero, List.tail_cons, reduceIte, if_true, if_false, ite_true, ite_false, Bool.false_eq_true, true_and, and_true, and_self, false_and, and_false, or_self, or_true, true_or, or_false, false_or, not_true_eq_false, not_false_eq_true, ne_eq, forall_const, implies_true, imp_self, true_implies, false_implies, Nat.reduceAdd, Nat.reduceSub, Nat.reduceMul, Nat.reduceDiv, Nat.reduceMod, Nat.reduceEqDiff, Nat.reduceLT, Nat.reduceLeDiff, Nat.reduceBEq, Nat.add_zero, Nat.zero_add, Nat.le_refl, Nat.not_lt_zero, Nat.succ_eq_add_one, Int.reduceNatCast, Int.cast_ofNat_Int, Int.reduceSub, Int.reduceMul, Int.reduceNeg, Int.reduceLE, Int.reduceLT, Int.reduceToNat, Int.reduceEq, Int.reduceNe, Int.reduceAdd, Option.some.injEq, kX9_race, rmX9_race, ↓ofX9_7, ↓ocX9_race_128, ↓spX9_in, ↓ocX9_race_232, ↓spX9_findPlan, G_240, G_241, G_242, G_243, G_244, G_245, G_246, G_247, G_248, G_249, G_250, G_251, G_252, G_253, G_254, G_255, G_256, G_257, G_258, G_259, G_260, G_261, G_262, G_263, G_264, G_265, G_266, G_267, G_268, G_269, G_270, G_271, G_272, PF_240_6, PF_240_7, PF_240_8, PF_240_9, PF_240_10, PF_240_11, PF_240_12, PF_240_13, PF_240_14, PF_240_15, PF_240_16, PF_240_17, PF_240_18, PF_240_19, PF_240_20, PF_240_21, PF_240_22, PF_240_23, PF_240_24, PF_240_26, PF_240_27, PF_240_28, PF_240_29, PF_240_30, PF_240_31, PF_240_32, PF_240_33, PF_240_34, PF_240_35, PF_240_36, PF_240_37]
  exact ⟨by omega, fun q => bad (by omega), fun q => good (by omega)⟩
def spX9_plan (As : List MV) (σ : MS) (K : Option MV → MS → Prop) : Prop := pR As fun a r => pI r fun n r => pI r fun l r => pI r fun w r => pN r (a = 240 ∧ σ.2.1 = PF ∧ RI n ∧ RI l ∧ RI w ∧ mOK σ.2.2.1 σ.2.2.2 ∧ (¬ (1 ≤ n ∧ n ≤ 40 ∧ 0 ≤ l ∧ l < n ∧ 0 ≤ w ∧ w ≤ 2) → K (some (.inl (-1))) σ) ∧ (1 ≤ n ∧ n ≤ 40 ∧ 0 ≤ l ∧ l < n ∧ 0 ≤ w ∧ w ≤ 2 → ∀ (I' L' : Int → Int → Int) (x : Int), frW σ.2.2.1 I' → frWL σ.2.2.2 L' → mOK I' L' → PlanOK (lpf (VM σ.2.2.1)) (σ.2.2.1 240 5) (mus (VM σ.2.2.1) n) n (I' 261) (I' 262) x → K (some (.inl (if w = 0 then I' 261 l else if w = 1 then (if 0 < l ∧ I' 262 l = 0 then 1 else 0) else I' 262 l))) (σ.1, σ.2.1, I', L')))
def ciX9_plan : CI := (4, 9, 0, 0, spX9_plan)
def kX9_plan (pc : Nat) : List ME := match pc with
  | 0 => [(.aload_n 0, 1, []), (.iload_n 1, 1, []), (.iconst 1, 1, []), (.bipush 40, 2, []), (.invokevirtual 128, 3, []), (.ifCond .eq 25, 3, [33]), (.aload_n 0, 1, []), (.iload_n 2, 1, []), (.iconst 0, 1, []), (.iload_n 1, 1, []), (.iconst 1, 1, []), (.isub, 1, []), (.invokevirtual 128, 3, []), (.ifCond .eq 13, 3, [33]), (.aload_n 0, 1, []), (.iload_n 3, 1, []), (.iconst 0, 1, []), (.iconst 2, 1, []), (.invokevirtual 128, 3, []), (.ifCond .ne 5, 3, [35])]
  | 33 => [(.iconst (-1), 1, []), (.ireturn, 1, [])]
  | 35 => [(.aload_n 0, 1, []), (.iload_n 1, 1, []), (.invokevirtual 232, 3, []), (.lstore 4, 2, []), (.iload_n 3, 1, []), (.ifCond .ne 12, 3, [55]), (.aload_n 0, 1, []), (.getfield 95, 3, []), (.iload_n 2, 1, []), (.iaload, 1, []), (.goto 23, 3, [75])]
  | 55 => [(.iload_n 3, 1, []), (.iconst 1, 1, []), (.if_icmp .ne 12, 3, [69]), (.aload_n 0, 1, []), (.getfield 101, 3, []), (.iload_n 2, 1, []), (.iaload, 1, []), (.goto 9, 3, [75])]
  | 69 => [(.aload_n 0, 1, []), (.getfield 98, 3, []), (.iload_n 2, 1, []), (.iaload, 1, [])]
  | 75 => [(.ireturn, 1, [])]
  | _ => []
theorem qX9_plan : ∀ pc, chk cX9_plan pc (kX9_plan pc) = true := by
  intro pc
  unfold kX9_plan
  split <;> first | decide +kernel | exact chk_nil
abbrev rmX9_plan : Room := { frames := 8, cells := 0, slots := 0, locals := 212 }
def aX9_plan (x : Nat) : Option CI := match x with
  | 128 => some ciX9_in
  | 232 => some ciX9_findPlan
  | _ => none
theorem aokX9_plan : ∀ x ci, aX9_plan x = some ci → CalOK RX9 rmX9_plan x ci := by
  intro x ci h
  unfold aX9_plan at h
  split at h
  · cases h; exact cal_V mX9_in (by decide) rfl (List.forall_mem_cons.mpr ⟨(ws_mem (List.mem_of_getElem? (i := 979) (by decide +kernel)) (by decide +kernel)), List.forall_mem_cons.mpr ⟨(ws_mem (List.mem_of_getElem? (i := 981) (by decide +kernel)) (by decide +kernel)), List.forall_mem_cons.mpr ⟨(ws_mem (List.mem_of_getElem? (i := 20) (by decide +kernel)) (by decide +kernel)), List.forall_mem_cons.mpr ⟨(ws_mem (List.mem_of_getElem? (i := 64) (by decide +kernel)) (by decide +kernel)), List.forall_mem_cons.mpr ⟨(ws_mem (List.mem_of_getElem? (i := 982) (by decide +kernel)) (by decide +kernel)), fun _ h => absurd h List.not_mem_nil⟩⟩⟩⟩⟩) rfl (by unfold nice; decide +kernel) (by unfold rfits; decide) ⟨rfl, rfl⟩
  · cases h; exact cal_V mX9_findPlan (by decide) rfl (List.forall_mem_cons.mpr ⟨(ws_mem (List.mem_of_getElem? (i := 1170) (by decide +kernel)) (by decide +kernel)), List.forall_mem_cons.mpr ⟨(ws_mem (List.mem_of_getElem? (i := 1172) (by decide +kernel)) (by decide +kernel)), List.forall_mem_cons.mpr ⟨(ws_mem (List.mem_of_getElem? (i := 45) (by decide +kernel)) (by decide +kernel)), List.forall_mem_cons.mpr ⟨(ws_mem (List.mem_of_getElem? (i := 64) (by decide +kernel)) (by decide +kernel)), List.forall_mem_cons.mpr ⟨(ws_mem (List.mem_of_getElem? (i := 1173) (by decide +kernel)) (by decide +kernel)), fun _ h => absurd h List.not_mem_nil⟩⟩⟩⟩⟩) rfl (by unfold nice; decide +kernel) (by unfold rfits; decide) ⟨rfl, rfl⟩
  · cases h
theorem ocX9_plan_128 (f : Nat → Nat → Nat → Nat → (List MV → MS → (Option MV → MS → Prop) → Prop) → Prop) : oC aX9_plan 128 f = f 4 9 0 0 spX9_in := propext Iff.rfl
theorem ocX9_plan_232 (f : Nat → Nat → Nat → Nat → (List MV → MS → (Option MV → MS → Prop) → Prop) → Prop) : oC aX9_plan 232 f = f 2 9 0 0 spX9_findPlan := propext Iff.rfl
theorem mdX9_plan : MD RX9 cX9_plan rmX9_plan kX9_plan fX9 aX9_plan zX9 uX9 := ⟨fokX9, zokX9, uokX9, aokX9_plan, qX9_plan⟩
set_option maxRecDepth 100000 in
set_option maxHeartbeats 800000 in
theorem mX9_plan : MOK yX9_plan cX9_plan 6 (some .int) rmX9_plan ciX9_plan := by
  refine mok_of (ini := false) (by decide +kernel) (by decide) rfl rfl ?_
  intro σ As K hrc hl h
  obtain ⟨N, P, I, L⟩ := σ
  have h9 := pR_iff.mp h
  clear h
  obtain ⟨a, r, e9, h⟩ := h9
  subst e9
  have h9 := pI_iff.mp h
  clear h
  obtain ⟨n, r, e9, h⟩ := h9
  subst e9
  have h9 := pI_iff.mp h
  clear h
  obtain ⟨l, r, e9, h⟩ := h9
  subst e9
  have h9 := pI_iff.mp h
  clear h
  obtain ⟨w, r, e9, h⟩ := h9
  subst e9
  have h9 := pN_iff.mp h
  clear h
  obtain ⟨e9, h⟩ := h9
  subst e9
  try dsimp only at h
  obtain ⟨rfl, rfl, hn, hl2, hw, hx, h1, h2⟩ := h
  unfold RI at hn hl2 hw
  refine ⟨Nat.le_of_ble_eq_true rfl, Ok.seg mdX9_plan [] 60 ?_⟩
  simp only [wp_nil, wp_cons, ↓stp, ↓lI, ↓lL, ↓lR, ↓lIn_0, ↓lIn_1, ↓lIn_2, ↓lIn_3, ↓lLn_0, ↓lLn_1, ↓lLn_2, ↓lLn_3, ↓lRn_0, ↓lRn_1, ↓lRn_2, ↓lRn_3, ↓pI, ↓pL, ↓pR, ↓pA, ↓pN, ↓pV, ↓fp, ↓tsw, ↓oS, ↓spMax, ↓spMin, ↓spAbs, ↓spObj, RI, RLg, b2i_lo, b2i_hi, getL, setL, ltL, killL, isLong, inl, cnd, br, tgt, rcv, rpl, mputI, mputL, mputP, fv, fr, mcat, mcs, entL, entA, rfit, nf_0, nf_1, nf_2, nf_3, nf2_0, nf2_1, b2i_0, b2i_1, RI_b2i, b2i_fit, List.append, List.length, List.replicate, List.cons_append, List.nil_append, List.length_cons, List.length_nil, List.replicate_succ, List.replicate_zero, List.tail_cons, reduceIte, if_true, if_false, ite_true, ite_false, Bool.false_eq_true, true_and, and_true, and_self, false_and, and_false, or_self, or_true, true_or, or_false, false_or, not_true_eq_false, not_false_eq_true, ne_eq, forall_const, implies_true, imp_self, true_implies, false_implies, Nat.reduceAdd, Nat.reduceSub, Nat.reduceMul, Nat.reduceDiv, Nat.reduceMod, Nat.reduceEqDiff, Nat.reduceLT, Nat.reduceLeDiff, Nat.reduceBEq, Nat.add_zero, Nat.zero_add, Nat.le_refl, Nat.not_lt_zero, Nat.succ_eq_add_one, Int.reduceNatCast, Int.cast_ofNat_Int, Int.reduceSub, Int.reduceMul, Int.reduceNeg, Int.reduceLE, Int.reduceLT, Int.reduceToNat, Int.reduceEq, Int.reduceNe, Int.reduceAdd, Option.some.injEq, kX9_plan, rmX9_plan, ↓ofX9_101, ↓ofX9_95, ↓ofX9_98, ↓ocX9_plan_128, ↓spX9_in, ↓ocX9_plan_232, ↓spX9_findPlan, hx, G_240, G_241, G_242, G_243, G_244, G_245, G_246, G_247, G_248, G_249, G_250, G_251, G_252, G_253, G_254, G_255, G_256, G_257, G_258, G_259, G_260, G_261, G_262, G_263, G_264, G_265, G_266, G_267, G_268, G_269, G_270, G_271, G_272, PF_240_6, PF_240_7, PF_240_8, PF_240_9, PF_240_10, PF_240_11, PF_240_12, PF_240_13, PF_240_14, PF_240_15, PF_240_16, PF_240_17, PF_240_18, PF_240_19, PF_240_20, PF_240_21, PF_240_22, PF_240_23, PF_240_24, PF_240_26, PF_240_27, PF_240_28, PF_240_29, PF_240_30, PF_240_31, PF_240_32, PF_240_33, PF_240_34, PF_240_35, PF_240_36, PF_240_37]
  refine ⟨by omega, fun q => h1 (by omega), fun q => ⟨by omega, by omega, fun q2 => h1 (by omega), fun q2 => ⟨by omega, fun q3 => ?_, fun q3 => h1 (by omega)⟩⟩⟩
  refine ⟨by omega, by omega, fun J M x k1 k2 k3 k4 k5 => ?_⟩
  have := h2 (by omega) J M x k1.W k2 k3 k4
  have hr := pR_rng k4 l (by omega) (by omega)
  have h3 := k5 l (by omega) (by omega)
  refine ⟨by omega, fun z => ⟨by omega, fun z2 => ?_, fun z2 => ?_⟩, fun z => ?_⟩
  · rw [if_neg z, if_neg z2] at this
    exact ⟨by omega, by omega, this⟩
  · rw [if_neg z, if_pos (by omega), ← h3] at this
    exact ⟨by omega, by omega, this⟩
  · rw [if_pos (by omega)] at this
    exact ⟨by omega, by omega, this⟩
def spX9_stops (As : List MV) (σ : MS) (K : Option MV → MS → Prop) : Prop := pR As fun a r => pI r fun n r => pN r (a = 240 ∧ σ.2.1 = PF ∧ RI n ∧ mOK σ.2.2.1 σ.2.2.2 ∧ (¬ (1 ≤ n ∧ n ≤ 40) → K (some (.inl (-1))) σ) ∧ (1 ≤ n ∧ n ≤ 40 → ∀ (I' L' : Int → Int → Int) (x : Int), frW σ.2.2.1 I' → frWL σ.2.2.2 L' → mOK I' L' → PlanOK (lpf (VM σ.2.2.1)) (σ.2.2.1 240 5) (mus (VM σ.2.2.1) n) n (I' 261) (I' 262) x → K (some (.inl (sumI (fun l => if 0 < l ∧ I' 262 l = 0 then 1 else 0) n.toNat))) (σ.1, σ.2.1, I', L')))
def ciX9_stops : CI := (2, 9, 0, 0, spX9_stops)
def kX9_stops (pc : Nat) : List ME := match pc with
  | 0 => [(.aload_n 0, 1, []), (.iload_n 1, 1, []), (.iconst 1, 1, []), (.bipush 40, 2, []), (.invokevirtual 128, 3, []), (.ifCond .ne 5, 3, [13]), (.iconst (-1), 1, []), (.ireturn, 1, [])]
  | 13 => [(.aload_n 0, 1, []), (.iload_n 1, 1, []), (.invokevirtual 232, 3, []), (.lstore_n 2, 1, []), (.iconst 0, 1, []), (.istore 4, 2, []), (.iconst 0, 1, []), (.istore 5, 2, [])]
  | 25 => [(.iload 5, 2, []), (.iload_n 1, 1, []), (.if_icmp .ge 21, 3, [49]), (.iload 4, 2, []), (.aload_n 0, 1, []), (.getfield 101, 3, []), (.iload 5, 2, []), (.iaload, 1, []), (.iadd, 1, []), (.istore 4, 2, []), (.iinc 5 1, 3, []), (.goto (-21), 3, [25])]
  | 49 => [(.iload 4, 2, []), (.ireturn, 1, [])]
  | _ => []
theorem qX9_stops : ∀ pc, chk cX9_stops pc (kX9_stops pc) = true := by
  intro pc
  unfold kX9_stops
  split <;> first | decide +kernel | exact chk_nil
abbrev rmX9_stops : Room := { frames := 8, cells := 0, slots := 0, locals := 212 }
def aX9_stops (x : Nat) : Option CI := match x with
  | 128 => some ciX9_in
  | 232 => some ciX9_findPlan
  | _ => none
theorem aokX9_stops : ∀ x ci, aX9_stops x = some ci → CalOK RX9 rmX9_stops x ci := by
  intro x ci h
  unfold aX9_stops at h
  split at h
  · cases h; exact cal_V mX9_in (by decide) rfl (List.forall_mem_cons.mpr ⟨(ws_mem (List.mem_of_getElem? (i := 979) (by decide +kernel)) (by decide +kernel)), List.forall_mem_cons.mpr ⟨(ws_mem (List.mem_of_getElem? (i := 981) (by decide +kernel)) (by decide +kernel)), List.forall_mem_cons.mpr ⟨(ws_mem (List.mem_of_getElem? (i := 20) (by decide +kernel)) (by decide +kernel)), List.forall_mem_cons.mpr ⟨(ws_mem (List.mem_of_getElem? (i := 64) (by decide +kernel)) (by decide +kernel)), List.forall_mem_cons.mpr ⟨(ws_mem (List.mem_of_getElem? (i := 982) (by decide +kernel)) (by decide +kernel)), fun _ h => absurd h List.not_mem_nil⟩⟩⟩⟩⟩) rfl (by unfold nice; decide +kernel) (by unfold rfits; decide) ⟨rfl, rfl⟩
  · cases h; exact cal_V mX9_findPlan (by decide) rfl (List.forall_mem_cons.mpr ⟨(ws_mem (List.mem_of_getElem? (i := 1170) (by decide +kernel)) (by decide +kernel)), List.forall_mem_cons.mpr ⟨(ws_mem (List.mem_of_getElem? (i := 1172) (by decide +kernel)) (by decide +kernel)), List.forall_mem_cons.mpr ⟨(ws_mem (List.mem_of_getElem? (i := 45) (by decide +kernel)) (by decide +kernel)), List.forall_mem_cons.mpr ⟨(ws_mem (List.mem_of_getElem? (i := 64) (by decide +kernel)) (by decide +kernel)), List.forall_mem_cons.mpr ⟨(ws_mem (List.mem_of_getElem? (i := 1173) (by decide +kernel)) (by decide +kernel)), fun _ h => absurd h List.not_mem_nil⟩⟩⟩⟩⟩) rfl (by unfold nice; decide +kernel) (by unfold rfits; decide) ⟨rfl, rfl⟩
  · cases h
theorem ocX9_stops_128 (f : Nat → Nat → Nat → Nat → (List MV → MS → (Option MV → MS → Prop) → Prop) → Prop) : oC aX9_stops 128 f = f 4 9 0 0 spX9_in := propext Iff.rfl
theorem ocX9_stops_232 (f : Nat → Nat → Nat → Nat → (List MV → MS → (Option MV → MS → Prop) → Prop) → Prop) : oC aX9_stops 232 f = f 2 9 0 0 spX9_findPlan := propext Iff.rfl
theorem mdX9_stops : MD RX9 cX9_stops rmX9_stops kX9_stops fX9 aX9_stops zX9 uX9 := ⟨fokX9, zokX9, uokX9, aokX9_stops, qX9_stops⟩
set_option maxHeartbeats 1600000 in
set_option maxRecDepth 100000 in
theorem lpX9_st {post : Option MV → MS → Prop} {U : Pt → Prop} {N : Nat} {I L : Int → Int → Int} {n x : Int} (n1 : n ≤ 40) (hr : ∀ j, 0 ≤ j → j < n → I 263 j = if 0 < j ∧ I 262 j = 0 then 1 else 0)
    (h : post (some (.inl (sumI (fun l => if 0 < l ∧ I 262 l = 0 then 1 else 0) n.toNat))) (N, PF, I, L)) :
    ∀ (m i : Nat), ((i + m : Nat) : Int) = n → (0 ≤ sumI (fun l => if 0 < l ∧ I 262 l = 0 then 1 else 0) i ∧ sumI (fun l => if 0 < l ∧ I 262 l = 0 then 1 else 0) i ≤ i) →
    Ok RX9 cX9_stops 6 rmX9_stops false none post U (25, [some (.inr (.inr (some 240))), some (.inl n), some (.inr (.inl x)), none, some (.inl (sumI (fun l => if 0 < l ∧ I 262 l = 0 then 1 else 0) i)), some (.inl i)], [], (N, PF, I, L), 0, 0)
  | 0, i, hi, hb => by
    refine Ok.seg mdX9_stops [25] 20 ?_
    simp only [wp_nil, wp_cons, ↓stp, ↓lI, ↓lL, ↓lR, ↓lIn_0, ↓lIn_1, ↓lIn_2, ↓lIn_3, ↓lLn_0, ↓lLn_1, ↓lLn_2, ↓lLn_3, ↓lRn_0, ↓lRn_1, ↓lRn_2, ↓lRn_3, ↓pI, ↓pL, ↓pR, ↓pA, ↓pN, ↓pV, ↓fp, ↓tsw, ↓oS, ↓spMax, ↓spMin, ↓spAbs, ↓spObj, RI, RLg, b2i_lo, b2i_hi, getL, setL, ltL, killL, isLong, inl, cnd, br, tgt, rcv, rpl, mputI, mputL, mputP, fv, fr, mcat, mcs, entL, entA, rfit, nf_0, nf_1, nf_2, nf_3, nf2_0, nf2_1, b2i_0, b2i_1, RI_b2i, b2i_fit, List.append, List.length, List.replicate, List.cons_append, List.nil_append, List.length_cons, List.length_nil, List.replicate_succ, List.replicate_zero, List.tail_cons, reduceIte, if_true, if_false, ite_true, ite_false, Bool.false_eq_true, true_and, and_true, and_self, false_and, and_false, or_self, or_true, true_or, or_false, false_or, not_true_eq_false, not_false_eq_true, ne_eq, forall_const, implies_true, imp_self, true_implies, false_implies, Nat.reduceAdd, Nat.reduceSub, Nat.reduceMul, Nat.reduceDiv, Nat.reduceMod, Nat.reduceEqDiff, Nat.reduceLT, Nat.reduceLeDiff, Nat.reduceBEq, Nat.add_zero, Nat.zero_add, Nat.le_refl, Nat.not_lt_zero, Nat.succ_eq_add_one, Int.reduceNatCast, Int.cast_ofNat_Int, Int.reduceSub, Int.reduceMul, Int.reduceNeg, Int.reduceLE, Int.reduceLT, Int.reduceToNat, Int.reduceEq, Int.reduceNe, Int.reduceAdd, Option.some.injEq, kX9_stops, rmX9_stops, ↓ofX9_101, ↓ocX9_stops_128, ↓spX9_in, ↓ocX9_stops_232, ↓spX9_findPlan, G_240, G_241, G_242, G_243, G_244, G_245, G_246, G_247, G_248, G_249, G_250, G_251, G_252, G_253, G_254, G_255, G_256, G_257, G_258, G_259, G_260, G_261, G_262, G_263, G_264, G_265, G_266, G_267, G_268, G_269, G_270, G_271, G_272, PF_240_6, PF_240_7, PF_240_8, PF_240_9, PF_240_10, PF_240_11, PF_240_12, PF_240_13, PF_240_14, PF_240_15, PF_240_16, PF_240_17, PF_240_18, PF_240_19, PF_240_20, PF_240_21, PF_240_22, PF_240_23, PF_240_24, PF_240_26, PF_240_27, PF_240_28, PF_240_29, PF_240_30, PF_240_31, PF_240_32, PF_240_33, PF_240_34, PF_240_35, PF_240_36, PF_240_37]
    rw [show n.toNat = i by omega] at h
    exact ⟨by omega, by omega, fun _ => h, fun q => by omega⟩
  | m + 1, i, hi, hb => by
    have ih := lpX9_st (U := U) (post := post) (N := N) (L := L) (x := x) n1 hr h m (i + 1) (by omega)
    have hri := hr i (by omega) (by omega)
    rw [sumI_s, show ((i + 1 : Nat) : Int) = (i : Int) + 1 by omega, ← hri] at ih
    have b1 : 0 ≤ I 263 i ∧ I 263 i ≤ 1 := by rw [hri]; split <;> omega
    refine Ok.seg mdX9_stops [25] 30 ?_
    simp only [wp_nil, wp_cons, ↓stp, ↓lI, ↓lL, ↓lR, ↓lIn_0, ↓lIn_1, ↓lIn_2, ↓lIn_3, ↓lLn_0, ↓lLn_1, ↓lLn_2, ↓lLn_3, ↓lRn_0, ↓lRn_1, ↓lRn_2, ↓lRn_3, ↓pI, ↓pL, ↓pR, ↓pA, ↓pN, ↓pV, ↓fp, ↓tsw, ↓oS, ↓spMax, ↓spMin, ↓spAbs, ↓spObj, RI, RLg, b2i_lo, b2i_hi, getL, setL, ltL, killL, isLong, inl, cnd, br, tgt, rcv, rpl, mputI, mputL, mputP, fv, fr, mcat, mcs, entL, entA, rfit, nf_0, nf_1, nf_2, nf_3, nf2_0, nf2_1, b2i_0, b2i_1, RI_b2i, b2i_fit, List.append, List.length, List.replicate, List.cons_append, List.nil_append, List.length_cons, List.length_nil, List.replicate_succ, List.replicate_zero, List.tail_cons, reduceIte, if_true, if_false, ite_true, ite_false, Bool.false_eq_true, true_and, and_true, and_self, false_and, and_false, or_self, or_true, true_or, or_false, false_or, not_true_eq_false, not_false_eq_true, ne_eq, forall_const, implies_true, imp_self, true_implies, false_implies, Nat.reduceAdd, Nat.reduceSub, Nat.reduceMul, Nat.reduceDiv, Nat.reduceMod, Nat.reduceEqDiff, Nat.reduceLT, Nat.reduceLeDiff, Nat.reduceBEq, Nat.add_zero, Nat.zero_add, Nat.le_refl, Nat.not_lt_zero, Nat.succ_eq_add_one, Int.reduceNatCast, Int.cast_ofNat_Int, Int.reduceSub, Int.reduceMul, Int.reduceNeg, Int.reduceLE, Int.reduceLT, Int.reduceToNat, Int.reduceEq, Int.reduceNe, Int.reduceAdd, Option.some.injEq, kX9_stops, rmX9_stops, ↓ofX9_101, ↓ocX9_stops_128, ↓spX9_in, ↓ocX9_stops_232, ↓spX9_findPlan, G_240, G_241, G_242, G_243, G_244, G_245, G_246, G_247, G_248, G_249, G_250, G_251, G_252, G_253, G_254, G_255, G_256, G_257, G_258, G_259, G_260, G_261, G_262, G_263, G_264, G_265, G_266, G_267, G_268, G_269, G_270, G_271, G_272, PF_240_6, PF_240_7, PF_240_8, PF_240_9, PF_240_10, PF_240_11, PF_240_12, PF_240_13, PF_240_14, PF_240_15, PF_240_16, PF_240_17, PF_240_18, PF_240_19, PF_240_20, PF_240_21, PF_240_22, PF_240_23, PF_240_24, PF_240_26, PF_240_27, PF_240_28, PF_240_29, PF_240_30, PF_240_31, PF_240_32, PF_240_33, PF_240_34, PF_240_35, PF_240_36, PF_240_37]
    exact ⟨by omega, by omega, fun q => by omega, fun _ => ⟨by omega, by omega, ih (by omega)⟩⟩
set_option maxRecDepth 100000 in
set_option maxHeartbeats 800000 in
theorem mX9_stops : MOK yX9_stops cX9_stops 6 (some .int) rmX9_stops ciX9_stops := by
  refine mok_of (ini := false) (by decide +kernel) (by decide) rfl rfl ?_
  intro σ As K hrc hl h
  obtain ⟨N, P, I, L⟩ := σ
  have h9 := pR_iff.mp h
  clear h
  obtain ⟨a, r, e9, h⟩ := h9
  subst e9
  have h9 := pI_iff.mp h
  clear h
  obtain ⟨n, r, e9, h⟩ := h9
  subst e9
  have h9 := pN_iff.mp h
  clear h
  obtain ⟨e9, h⟩ := h9
  subst e9
  try dsimp only at h
  obtain ⟨rfl, rfl, hn, hx, h1, h2⟩ := h
  unfold RI at hn
  refine ⟨Nat.le_of_ble_eq_true rfl, Ok.seg mdX9_stops [25] 60 ?_⟩
  simp only [wp_nil, wp_cons, ↓stp, ↓lI, ↓lL, ↓lR, ↓lIn_0, ↓lIn_1, ↓lIn_2, ↓lIn_3, ↓lLn_0, ↓lLn_1, ↓lLn_2, ↓lLn_3, ↓lRn_0, ↓lRn_1, ↓lRn_2, ↓lRn_3, ↓pI, ↓pL, ↓pR, ↓pA, ↓pN, ↓pV, ↓fp, ↓tsw, ↓oS, ↓spMax, ↓spMin, ↓spAbs, ↓spObj, RI, RLg, b2i_lo, b2i_hi, getL, setL, ltL, killL, isLong, inl, cnd, br, tgt, rcv, rpl, mputI, mputL, mputP, fv, fr, mcat, mcs, entL, entA, rfit, nf_0, nf_1, nf_2, nf_3, nf2_0, nf2_1, b2i_0, b2i_1, RI_b2i, b2i_fit, List.append, List.length, List.replicate, List.cons_append, List.nil_append, List.length_cons, List.length_nil, List.replicate_succ, List.replicate_zero, List.tail_cons, reduceIte, if_true, if_false, ite_true, ite_false, Bool.false_eq_true, true_and, and_true, and_self, false_and, and_false, or_self, or_true, true_or, or_false, false_or, not_true_eq_false, not_false_eq_true, ne_eq, forall_const, implies_true, imp_self, true_implies, false_implies, Nat.reduceAdd, Nat.reduceSub, Nat.reduceMul, Nat.reduceDiv, Nat.reduceMod, Nat.reduceEqDiff, Nat.reduceLT, Nat.reduceLeDiff, Nat.reduceBEq, Nat.add_zero, Nat.zero_add, Nat.le_refl, Nat.not_lt_zero, Nat.succ_eq_add_one, Int.reduceNatCast, Int.cast_ofNat_Int, Int.reduceSub, Int.reduceMul, Int.reduceNeg, Int.reduceLE, Int.reduceLT, Int.reduceToNat, Int.reduceEq, Int.reduceNe, Int.reduceAdd, Option.some.injEq, kX9_stops, rmX9_stops, ↓ofX9_101, ↓ocX9_stops_128, ↓spX9_in, ↓ocX9_stops_232, ↓spX9_findPlan, hx, G_240, G_241, G_242, G_243, G_244, G_245, G_246, G_247, G_248, G_249, G_250, G_251, G_252, G_253, G_254, G_255, G_256, G_257, G_258, G_259, G_260, G_261, G_262, G_263, G_264, G_265, G_266, G_267, G_268, G_269, G_270, G_271, G_272, PF_240_6, PF_240_7, PF_240_8, PF_240_9, PF_240_10, PF_240_11, PF_240_12, PF_240_13, PF_240_14, PF_240_15, PF_240_16, PF_240_17, PF_240_18, PF_240_19, PF_240_20, PF_240_21, PF_240_22, PF_240_23, PF_240_24, PF_240_26, PF_240_27, PF_240_28, PF_240_29, PF_240_30, PF_240_31, PF_240_32, PF_240_33, PF_240_34, PF_240_35, PF_240_36, PF_240_37]
  refine ⟨by omega, fun q => ⟨by omega, by omega, fun J M x k1 k2 k3 k4 k5 => ?_⟩, fun q => h1 (by omega)⟩
  have := h2 (by omega) J M x k1.W k2 k3 k4
  exact lpX9_st (post := fun r σ' => rfit (some .int) r ∧ K r σ') (by omega) k5 ⟨trivial, this⟩ n.toNat 0 (by omega) ⟨Int.le_refl _, Int.le_refl _⟩
