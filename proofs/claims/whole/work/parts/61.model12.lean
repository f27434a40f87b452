/-! LapBoardModel: drive, delta, lost, wants -/
def spX9_drive (As : List MV) (σ : MS) (K : Option MV → MS → Prop) : Prop := pR As fun a r => pI r fun s r => pI r fun t r => pN r (a = 240 ∧ σ.2.1 = PF ∧ RI s ∧ RI t ∧ mOK σ.2.2.1 σ.2.2.2 ∧ (¬ (0 ≤ s ∧ s < σ.2.2.1 240 1 ∧ 0 ≤ t ∧ t ≤ 200000) → K (some (.inl (-1))) σ) ∧ (0 ≤ s ∧ s < σ.2.2.1 240 1 ∧ 0 ≤ t ∧ t ≤ 200000 → ∀ I' : Int → Int → Int, (∀ c k, ¬ (c = 245 ∧ k = s) → I' c k = σ.2.2.1 c k) → mOK I' σ.2.2.2 → I' 245 s = t → K (some (.inl (σ.2.2.1 245 s))) (σ.1, σ.2.1, I', σ.2.2.2)))
def ciX9_drive : CI := (3, 9, 0, 0, spX9_drive)
def kX9_drive (pc : Nat) : List ME := match pc with
  | 0 => [(.aload_n 0, 1, []), (.iload_n 1, 1, []), (.invokevirtual 135, 3, []), (.ifCond .eq 14, 3, [19]), (.aload_n 0, 1, []), (.iload_n 2, 1, []), (.iconst 0, 1, []), (.ldc 216, 2, []), (.invokevirtual 128, 3, []), (.ifCond .ne 5, 3, [21])]
  | 19 => [(.iconst (-1), 1, []), (.ireturn, 1, [])]
  | 21 => [(.aload_n 0, 1, []), (.getfield 41, 3, []), (.iload_n 1, 1, []), (.iaload, 1, []), (.istore_n 3, 1, []), (.aload_n 0, 1, []), (.getfield 41, 3, []), (.iload_n 1, 1, []), (.iload_n 2, 1, []), (.iastore, 1, []), (.iload_n 3, 1, []), (.ireturn, 1, [])]
  | _ => []
theorem qX9_drive : ∀ pc, chk cX9_drive pc (kX9_drive pc) = true := by
  intro pc
  unfold kX9_drive
  split <;> first | decide +kernel | exact chk_nil
abbrev rmX9_drive : Room := { frames := 2, cells := 0, slots := 0, locals := 44 }
def aX9_drive (x : Nat) : Option CI := match x with
  | 135 => some ciX9_isStation
  | 128 => some ciX9_in
  | _ => none
theorem aokX9_drive : ∀ x ci, aX9_drive x = some ci → CalOK RX9 rmX9_drive x ci := by
  intro x ci h
  unfold aX9_drive at h
  split at h
  · cases h; exact cal_V mX9_isStation (by decide) rfl (List.forall_mem_cons.mpr ⟨(ws_mem (List.mem_of_getElem? (i := 995) (by decide +kernel)) (by decide +kernel)), List.forall_mem_cons.mpr ⟨(ws_mem (List.mem_of_getElem? (i := 997) (by decide +kernel)) (by decide +kernel)), List.forall_mem_cons.mpr ⟨(ws_mem (List.mem_of_getElem? (i := 22) (by decide +kernel)) (by decide +kernel)), List.forall_mem_cons.mpr ⟨(ws_mem (List.mem_of_getElem? (i := 64) (by decide +kernel)) (by decide +kernel)), List.forall_mem_cons.mpr ⟨(ws_mem (List.mem_of_getElem? (i := 998) (by decide +kernel)) (by decide +kernel)), fun _ h => absurd h List.not_mem_nil⟩⟩⟩⟩⟩) rfl (by unfold nice; decide +kernel) (by unfold rfits; decide) ⟨rfl, rfl⟩
  · cases h; exact cal_V mX9_in (by decide) rfl (List.forall_mem_cons.mpr ⟨(ws_mem (List.mem_of_getElem? (i := 979) (by decide +kernel)) (by decide +kernel)), List.forall_mem_cons.mpr ⟨(ws_mem (List.mem_of_getElem? (i := 981) (by decide +kernel)) (by decide +kernel)), List.forall_mem_cons.mpr ⟨(ws_mem (List.mem_of_getElem? (i := 20) (by decide +kernel)) (by decide +kernel)), List.forall_mem_cons.mpr ⟨(ws_mem (List.mem_of_getElem? (i := 64) (by decide +kernel)) (by decide +kernel)), List.forall_mem_cons.mpr ⟨(ws_mem (List.mem_of_getElem? (i := 982) (by decide +kernel)) (by decide +kernel)), fun _ h => absurd h List.not_mem_nil⟩⟩⟩⟩⟩) rfl (by unfold nice; decide +kernel) (by unfold rfits; decide) ⟨rfl, rfl⟩
  · cases h
theorem ocX9_drive_135 (f : Nat → Nat → Nat → Nat → (List MV → MS → (Option MV → MS → Prop) → Prop) → Prop) : oC aX9_drive 135 f = f 2 9 0 0 spX9_isStation := propext Iff.rfl
theorem ocX9_drive_128 (f : Nat → Nat → Nat → Nat → (List MV → MS → (Option MV → MS → Prop) → Prop) → Prop) : oC aX9_drive 128 f = f 4 9 0 0 spX9_in := propext Iff.rfl
theorem mdX9_drive : MD RX9 cX9_drive rmX9_drive kX9_drive fX9 aX9_drive zX9 uX9 := ⟨fokX9, zokX9, uokX9, aokX9_drive, qX9_drive⟩
set_option maxRecDepth 100000 in
set_option maxHeartbeats 800000 in
theorem mX9_drive : MOK yX9_drive cX9_drive 4 (some .int) rmX9_drive ciX9_drive := by
  refine mok_of (ini := false) (by decide +kernel) (by decide) rfl rfl ?_
  intro σ As K hrc hl h
  obtain ⟨N, P, I, L⟩ := σ
  have h9 := pR_iff.mp h
  clear h
  obtain ⟨a, r, e9, h⟩ := h9
  subst e9
  have h9 := pI_iff.mp h
  clear h
  obtain ⟨s, r, e9, h⟩ := h9
  subst e9
  have h9 := pI_iff.mp h
  clear h
  obtain ⟨t, r, e9, h⟩ := h9
  subst e9
  have h9 := pN_iff.mp h
  clear h
  obtain ⟨e9, h⟩ := h9
  subst e9
  try dsimp only at h
  obtain ⟨rfl, rfl, hs, ht, hx, h1, h2⟩ := h
  unfold RI at hs ht
  have y1 := (nM hx).1
  have hx' := hx
  obtain ⟨x1, x2, x3, x4, x5⟩ := hx'
  refine ⟨Nat.le_of_ble_eq_true rfl, Ok.seg mdX9_drive [] 60 ?_⟩
  simp only [wp_nil, wp_cons, ↓stp, ↓lI, ↓lL, ↓lR, ↓lIn_0, ↓lIn_1, ↓lIn_2, ↓lIn_3, ↓lLn_0, ↓lLn_1, ↓lLn_2, ↓lLn_3, ↓lRn_0, ↓lRn_1, ↓lRn_2, ↓lRn_3, ↓pI, ↓pL, ↓pR, ↓pA, ↓pN, ↓pV, ↓fp, ↓tsw, ↓oS, ↓spMax, ↓spMin, ↓spAbs, ↓spObj, RI, RLg, b2i_lo, b2i_hi, getL, setL, ltL, killL, isLong, inl, cnd, br, tgt, rcv, rpl, mputI, mputL, mputP, fv, fr, mcat, mcs, entL, entA, rfit, nf_0, nf_1, nf_2, nf_3, nf2_0, nf2_1, b2i_0, b2i_1, RI_b2i, b2i_fit, List.append, List.length, List.replicate, List.cons_append, List.nil_append, List.length_cons, List.length_nil, List.replicate_succ, List.replicate_zero, List.tail_cons, reduceIte, if_true, if_false, ite_true, ite_false, Bool.false_eq_true, true_and, and_true, and_self, false_and, and_false, or_self, or_true, true_or, or_false, false_or, not_true_eq_false, not_false_eq_true, ne_eq, forall_const, implies_true, imp_self, true_implies, false_implies, Nat.reduceAdd, Nat.reduceSub, Nat.reduceMul, Nat.reduceDiv, Nat.reduceMod, Nat.reduceEqDiff, Nat.reduceLT, Nat.reduceLeDiff, Nat.reduceBEq, Nat.add_zero, Nat.zero_add, Nat.le_refl, Nat.not_lt_zero, Nat.succ_eq_add_one, Int.reduceNatCast, Int.cast_ofNat_Int, Int.reduceSub, Int.reduceMul, Int.reduceNeg, Int.reduceLE, Int.reduceLT, Int.reduceToNat, Int.reduceEq, Int.reduceNe, Int.reduceAdd, Option.some.injEq, kX9_drive, rmX9_drive, ↓ofX9_41, ↓ozX9_216, ↓ocX9_drive_135, ↓spX9_isStation, ↓ocX9_drive_128, ↓spX9_in, y1.1, y1.2, G_240, G_241, G_242, G_243, G_244, G_245, G_246, G_247, G_248, G_249, G_250, G_251, G_252, G_253, G_254, G_255, G_256, G_257, G_258, G_259, G_260, G_261, G_262, G_263, G_264, G_265, G_266, G_267, G_268, G_269, G_270, G_271, G_272, PF_240_6, PF_240_7, PF_240_8, PF_240_9, PF_240_10, PF_240_11, PF_240_12, PF_240_13, PF_240_14, PF_240_15, PF_240_16, PF_240_17, PF_240_18, PF_240_19, PF_240_20, PF_240_21, PF_240_22, PF_240_23, PF_240_24, PF_240_26, PF_240_27, PF_240_28, PF_240_29, PF_240_30, PF_240_31, PF_240_32, PF_240_33, PF_240_34, PF_240_35, PF_240_36, PF_240_37]
  refine ⟨by omega, fun q => h1 (by omega), fun q => ⟨by omega, fun q2 => ⟨by omega, by omega, by omega, by omega, ?_⟩, fun q2 => h1 (by omega)⟩⟩
  have fr : ∀ c k, ¬ (c = 245 ∧ k = s) → upI I 245 s t c k = I c k := fun c k a => if_neg a
  have e1 : upI I 245 s t 240 1 = I 240 1 := fr _ _ (by omega)
  have htV : tOK (VM (upI I 245 s t)) := tOK_V (by omega) (by omega) (fun i i0 i1 => by
    have hst := stM x1 i0 (by omega)
    rw [fr 241 i (by omega), fr 242 i (by omega), fr 243 i (by omega), fr 244 i (by omega)]
    by_cases z : i = s
    · rw [z, upI_same, ← z]; omega
    · rw [fr 245 i (by omega)]; exact hst)
  have ts : tsame (VM I) (VM (upI I 245 s t)) := by
    refine ⟨e1, fun i k i0 i1 k0 k1 => ?_, fun k => by rw [VM_38, VM_38]; exact fr _ _ (by omega), fun k => by rw [VM_39, VM_39]; exact fr _ _ (by omega)⟩
    rw [VM_31] at i1
    obtain ⟨e0, e1, e2, e3, e4⟩ := VM_st (I := I) i0 (by omega)
    obtain ⟨f0, f1, f2, f3, f4⟩ := VM_st (I := upI I 245 s t) i0 (by omega)
    rcases (show k = 0 ∨ k = 1 ∨ k = 2 ∨ k = 3 by omega) with rfl | rfl | rfl | rfl
    · rw [e0, f0]; exact fr _ _ (by omega)
    · rw [e1, f1]; exact fr _ _ (by omega)
    · rw [e2, f2]; exact fr _ _ (by omega)
    · rw [e3, f3]; exact fr _ _ (by omega)
  exact h2 (by omega) _ fr ⟨htV, carOK_V (fr _ _ (by omega)) (fr _ _ (by omega)) (fr _ _ (by omega)) (fun b k _ _ => fr _ _ (by omega)) x2, raceR_V (fr _ _ (by omega)) (fr _ _ (by omega)) (fun b k _ _ => fr _ _ (by omega)) x3, knoOK_cg ts (fr _ _ (by omega)) (fr _ _ (by omega)) (fun k => fr _ _ (by omega)) x4, fun d d0 d1 => msh_cg (fun b k _ _ => fr _ _ (by omega)) (x5 d d0 d1)⟩ upI_same
def spX9_delta (As : List MV) (σ : MS) (K : Option MV → MS → Prop) : Prop := pR As fun a r => pI r fun s r => pN r (a = 240 ∧ σ.2.1 = PF ∧ RI s ∧ mOK σ.2.2.1 σ.2.2.2 ∧ (¬ (0 ≤ s ∧ s < σ.2.2.1 240 1) → ∀ I' : Int → Int → Int, frW σ.2.2.1 I' → mOK I' σ.2.2.2 → I' 240 0 = 1 → K (some (.inr (.inl 0))) (σ.1, σ.2.1, I', σ.2.2.2)) ∧ (0 ≤ s ∧ s < σ.2.2.1 240 1 → ∀ (I' L' : Int → Int → Int) (v : Int), frW σ.2.2.1 I' → frWL σ.2.2.2 L' → mOK I' L' → I' 240 0 = 0 → (σ.2.2.1 245 s = 0 → v = 0) → (0 < σ.2.2.1 245 s → bestM I' ∧ v = σ.2.2.1 245 s - tmM I' s) → K (some (.inr (.inl v))) (σ.1, σ.2.1, I', L')))
def ciX9_delta : CI := (2, 9, 0, 0, spX9_delta)
def kX9_delta (pc : Nat) : List ME := match pc with
  | 0 => [(.aload_n 0, 1, []), (.aload_n 0, 1, []), (.iload_n 1, 1, []), (.invokevirtual 135, 3, []), (.ifCond .eq 7, 3, [13]), (.iconst 0, 1, []), (.goto 4, 3, [14])]
  | 13 => [(.iconst 1, 1, [])]
  | 14 => [(.putfield 7, 3, []), (.aload_n 0, 1, []), (.getfield 7, 3, []), (.ifCond .gt 12, 3, [33]), (.aload_n 0, 1, []), (.getfield 41, 3, []), (.iload_n 1, 1, []), (.iaload, 1, []), (.ifCond .ne 5, 3, [35])]
  | 33 => [(.lconst 0, 1, []), (.lreturn, 1, [])]
  | 35 => [(.aload_n 0, 1, []), (.invokevirtual 204, 3, []), (.aload_n 0, 1, []), (.getfield 41, 3, []), (.iload_n 1, 1, []), (.iaload, 1, []), (.aload_n 0, 1, []), (.iload_n 1, 1, []), (.invokevirtual 167, 3, []), (.isub, 1, []), (.i2l, 1, []), (.lreturn, 1, [])]
  | _ => []
theorem qX9_delta : ∀ pc, chk cX9_delta pc (kX9_delta pc) = true := by
  intro pc
  unfold kX9_delta
  split <;> first | decide +kernel | exact chk_nil
abbrev rmX9_delta : Room := { frames := 4, cells := 0, slots := 0, locals := 108 }
def aX9_delta (x : Nat) : Option CI := match x with
  | 135 => some ciX9_isStation
  | 204 => some ciX9_findBest
  | 167 => some ciX9_timeAt
  | _ => none
theorem aokX9_delta : ∀ x ci, aX9_delta x = some ci → CalOK RX9 rmX9_delta x ci := by
  intro x ci h
  unfold aX9_delta at h
  split at h
  · cases h; exact cal_V mX9_isStation (by decide) rfl (List.forall_mem_cons.mpr ⟨(ws_mem (List.mem_of_getElem? (i := 995) (by decide +kernel)) (by decide +kernel)), List.forall_mem_cons.mpr ⟨(ws_mem (List.mem_of_getElem? (i := 997) (by decide +kernel)) (by decide +kernel)), List.forall_mem_cons.mpr ⟨(ws_mem (List.mem_of_getElem? (i := 22) (by decide +kernel)) (by decide +kernel)), List.forall_mem_cons.mpr ⟨(ws_mem (List.mem_of_getElem? (i := 64) (by decide +kernel)) (by decide +kernel)), List.forall_mem_cons.mpr ⟨(ws_mem (List.mem_of_getElem? (i := 998) (by decide +kernel)) (by decide +kernel)), fun _ h => absurd h List.not_mem_nil⟩⟩⟩⟩⟩) rfl (by unfold nice; decide +kernel) (by unfold rfits; decide) ⟨rfl, rfl⟩
  · cases h; exact cal_V mX9_findBest (by decide) rfl (List.forall_mem_cons.mpr ⟨(ws_mem (List.mem_of_getElem? (i := 1068) (by decide +kernel)) (by decide +kernel)), List.forall_mem_cons.mpr ⟨(ws_mem (List.mem_of_getElem? (i := 1070) (by decide +kernel)) (by decide +kernel)), List.forall_mem_cons.mpr ⟨(ws_mem (List.mem_of_getElem? (i := 32) (by decide +kernel)) (by decide +kernel)), List.forall_mem_cons.mpr ⟨(ws_mem (List.mem_of_getElem? (i := 64) (by decide +kernel)) (by decide +kernel)), List.forall_mem_cons.mpr ⟨(ws_mem (List.mem_of_getElem? (i := 1071) (by decide +kernel)) (by decide +kernel)), fun _ h => absurd h List.not_mem_nil⟩⟩⟩⟩⟩) rfl (by unfold nice; decide +kernel) (by unfold rfits; decide) ⟨rfl, rfl⟩
  · cases h; exact cal_V mX9_timeAt (by decide) rfl (List.forall_mem_cons.mpr ⟨(ws_mem (List.mem_of_getElem? (i := 1056) (by decide +kernel)) (by decide +kernel)), List.forall_mem_cons.mpr ⟨(ws_mem (List.mem_of_getElem? (i := 1058) (by decide +kernel)) (by decide +kernel)), List.forall_mem_cons.mpr ⟨(ws_mem (List.mem_of_getElem? (i := 30) (by decide +kernel)) (by decide +kernel)), List.forall_mem_cons.mpr ⟨(ws_mem (List.mem_of_getElem? (i := 64) (by decide +kernel)) (by decide +kernel)), List.forall_mem_cons.mpr ⟨(ws_mem (List.mem_of_getElem? (i := 1059) (by decide +kernel)) (by decide +kernel)), fun _ h => absurd h List.not_mem_nil⟩⟩⟩⟩⟩) rfl (by unfold nice; decide +kernel) (by unfold rfits; decide) ⟨rfl, rfl⟩
  · cases h
theorem ocX9_delta_135 (f : Nat → Nat → Nat → Nat → (List MV → MS → (Option MV → MS → Prop) → Prop) → Prop) : oC aX9_delta 135 f = f 2 9 0 0 spX9_isStation := propext Iff.rfl
theorem ocX9_delta_204 (f : Nat → Nat → Nat → Nat → (List MV → MS → (Option MV → MS → Prop) → Prop) → Prop) : oC aX9_delta 204 f = f 1 9 0 0 spX9_findBest := propext Iff.rfl
theorem ocX9_delta_167 (f : Nat → Nat → Nat → Nat → (List MV → MS → (Option MV → MS → Prop) → Prop) → Prop) : oC aX9_delta 167 f = f 2 9 0 0 spX9_timeAt := propext Iff.rfl
theorem mdX9_delta : MD RX9 cX9_delta rmX9_delta kX9_delta fX9 aX9_delta zX9 uX9 := ⟨fokX9, zokX9, uokX9, aokX9_delta, qX9_delta⟩
set_option maxRecDepth 100000 in
set_option maxHeartbeats 800000 in
theorem mX9_delta : MOK yX9_delta cX9_delta 2 (some .long) rmX9_delta ciX9_delta := by
  refine mok_of (ini := false) (by decide +kernel) (by decide) rfl rfl ?_
  intro σ As K hrc hl h
  obtain ⟨N, P, I, L⟩ := σ
  have h9 := pR_iff.mp h
  clear h
  obtain ⟨a, r, e9, h⟩ := h9
  subst e9
  have h9 := pI_iff.mp h
  clear h
  obtain ⟨s, r, e9, h⟩ := h9
  subst e9
  have h9 := pN_iff.mp h
  clear h
  obtain ⟨e9, h⟩ := h9
  subst e9
  try dsimp only at h
  obtain ⟨rfl, rfl, hs, hx, h1, h2⟩ := h
  unfold RI at hs
  have y1 := (nM hx).1
  have fu : ∀ v, frW I (upI I 240 0 v) := fun v b k b0 b1 b2 b3 => if_neg b3
  have mu : ∀ v, mOK (upI I 240 0 v) L := fun v => mOK_w hx (fu v) (fun k => upI_ne (by omega)) (fun _ => rfl)
  have bad : ¬ (0 ≤ s ∧ s < I 240 1) → Ok RX9 cX9_delta 2 rmX9_delta false none (fun r σ' => rfit (some .long) r ∧ K r σ') (fun _ => False) (14, [some (.inr (.inr (some 240))), some (.inl s)], [.inl 1, .inr (.inr (some 240))], (N, PF, I, L), 0, 0) := fun q => by
    refine Ok.seg mdX9_delta [] 20 ?_
    simp only [wp_nil, wp_cons, ↓stp, ↓lI, ↓lL, ↓lR, ↓lIn_0, ↓lIn_1, ↓lIn_2, ↓lIn_3, ↓lLn_0, ↓lLn_1, ↓lLn_2, ↓lLn_3, ↓lRn_0, ↓lRn_1, ↓lRn_2, ↓lRn_3, ↓pI, ↓pL, ↓pR, ↓pA, ↓pN, ↓pV, ↓fp, ↓tsw, ↓oS, ↓spMax, ↓spMin, ↓spAbs, ↓spObj, RI, RLg, b2i_lo, b2i_hi, getL, setL, ltL, killL, isLong, inl, cnd, br, tgt, rcv, rpl, mputI, mputL, mputP, fv, fr, mcat, mcs, entL, entA, rfit, nf_0, nf_1, nf_2, nf_3, nf2_0, nf2_1, b2i_0, b2i_1, RI_b2i, b2i_fit, List.append, List.length, List.replicate, List.cons_append, List.nil_append, List.length_cons, List.length_nil, List.replicate_succ, List.replicate_zero, List.tail_cons, reduceIte, if_true, if_false, ite_true, ite_false, Bool.false_eq_true, true_and, and_true, and_self, false_and, and_false, or_self, or_true, true_or, or_false, false_or, not_true_eq_false, not_false_eq_true, ne_eq, forall_const, implies_true, imp_self, true_implies, false_implies, Nat.reduceAdd, Nat.reduceSub, Nat.reduceMul, Nat.reduceDiv, Nat.reduceMod, Nat.reduceEqDiff, Nat.reduceLT, Nat.reduceLeDiff, Nat.reduceBEq, Nat.add_zero, Nat.zero_add, Nat.le_refl, Nat.not_lt_zero, Nat.succ_eq_add_one, Int.reduceNatCast, Int.cast_ofNat_Int, Int.reduceSub, Int.reduceMul, Int.reduceNeg, Int.reduceLE, Int.reduceLT, Int.reduceToNat, Int.reduceEq, Int.reduceNe, Int.reduceAdd, Option.some.injEq, kX9_delta, rmX9_delta, ↓ofX9_41, ↓ofX9_7, ↓ocX9_delta_135, ↓spX9_isStation, ↓ocX9_delta_204, ↓spX9_findBest, ↓ocX9_delta_167, ↓spX9_timeAt, upI_same, G_240, G_241, G_242, G_243, G_244, G_245, G_246, G_247, G_248, G_249, G_250, G_251, G_252, G_253, G_254, G_255, G_256, G_257, G_258, G_259, G_260, G_261, G_262, G_263, G_264, G_265, G_266, G_267, G_268, G_269, G_270, G_271, G_272, PF_240_6, PF_240_7, PF_240_8, PF_240_9, PF_240_10, PF_240_11, PF_240_12, PF_240_13, PF_240_14, PF_240_15, PF_240_16, PF_240_17, PF_240_18, PF_240_19, PF_240_20, PF_240_21, PF_240_22, PF_240_23, PF_240_24, PF_240_26, PF_240_27, PF_240_28, PF_240_29, PF_240_30, PF_240_31, PF_240_32, PF_240_33, PF_240_34, PF_240_35, PF_240_36, PF_240_37]
    exact h1 q _ (fu 1) (mu 1) upI_same
  have good : (0 ≤ s ∧ s < I 240 1) → Ok RX9 cX9_delta 2 rmX9_delta false none (fun r σ' => rfit (some .long) r ∧ K r σ') (fun _ => False) (14, [some (.inr (.inr (some 240))), some (.inl s)], [.inl 0, .inr (.inr (some 240))], (N, PF, I, L), 0, 0) := fun q => by
    have u1 := (mu 0).1
    have u2 := (mu 0).2.1
    have e245 : upI I 240 0 0 245 s = I 245 s := upI_ne (by omega)
    have hst := stM hx.1 q.1 q.2
    refine Ok.seg mdX9_delta [] 60 ?_
    simp only [wp_nil, wp_cons, ↓stp, ↓lI, ↓lL, ↓lR, ↓lIn_0, ↓lIn_1, ↓lIn_2, ↓lIn_3, ↓lLn_0, ↓lLn_1, ↓lLn_2, ↓lLn_3, ↓lRn_0, ↓lRn_1, ↓lRn_2, ↓lRn_3, ↓pI, ↓pL, ↓pR, ↓pA, ↓pN, ↓pV, ↓fp, ↓tsw, ↓oS, ↓spMax, ↓spMin, ↓spAbs, ↓spObj, RI, RLg, b2i_lo, b2i_hi, getL, setL, ltL, killL, isLong, inl, cnd, br, tgt, rcv, rpl, mputI, mputL, mputP, fv, fr, mcat, mcs, entL, entA, rfit, nf_0, nf_1, nf_2, nf_3, nf2_0, nf2_1, b2i_0, b2i_1, RI_b2i, b2i_fit, List.append, List.length, List.replicate, List.cons_append, List.nil_append, List.length_cons, List.length_nil, List.replicate_succ, List.replicate_zero, List.tail_cons, reduceIte, if_true, if_false, ite_true, ite_false, Bool.false_eq_true, true_and, and_true, and_self, false_and, and_false, or_self, or_true, true_or, or_false, false_or, not_true_eq_false, not_false_eq_true, ne_eq, forall_const, implies_true, imp_self, true_implies, false_implies, Nat.reduceAdd, Nat.reduceSub, Nat.reduceMul, Nat.reduceDiv, Nat.reduceMod, Nat.reduceEqDiff, Nat.reduceLT, Nat.reduceLeDiff, Nat.reduceBEq, Nat.add_zero, Nat.zero_add, Nat.le_refl, Nat.not_lt_zero, Nat.succ_eq_add_one, Int.reduceNatCast, Int.cast_ofNat_Int, Int.reduceSub, Int.reduceMul, Int.reduceNeg, Int.reduceLE, Int.reduceLT, Int.reduceToNat, Int.reduceEq, Int.reduceNe, Int.reduceAdd, Option.some.injEq, kX9_delta, rmX9_delta, ↓ofX9_41, ↓ofX9_7, ↓ocX9_delta_135, ↓spX9_isStation, ↓ocX9_delta_204, ↓spX9_findBest, ↓ocX9_delta_167, ↓spX9_timeAt, upI_same, u1, u2, e245, G_240, G_241, G_242, G_243, G_244, G_245, G_246, G_247, G_248, G_249, G_250, G_251, G_252, G_253, G_254, G_255, G_256, G_257, G_258, G_259, G_260, G_261, G_262, G_263, G_264, G_265, G_266, G_267, G_268, G_269, G_270, G_271, G_272, PF_240_6, PF_240_7, PF_240_8, PF_240_9, PF_240_10, PF_240_11, PF_240_12, PF_240_13, PF_240_14, PF_240_15, PF_240_16, PF_240_17, PF_240_18, PF_240_19, PF_240_20, PF_240_21, PF_240_22, PF_240_23, PF_240_24, PF_240_26, PF_240_27, PF_240_28, PF_240_29, PF_240_30, PF_240_31, PF_240_32, PF_240_33, PF_240_34, PF_240_35, PF_240_36, PF_240_37]
    refine ⟨by omega, by omega, by omega, fun z J M k1 k2 k3 => ?_, fun z => h2 q _ L 0 (fu 0) frWL.rf (mu 0) upI_same (fun _ => rfl) (fun y => by omega)⟩
    obtain ⟨a, b, c⟩ := fB (mu 0) k1 k2
    obtain ⟨d, e⟩ := bestM_l k3
    have e1 : J 240 1 = I 240 1 := (k1 _ _ (by omega) (by omega) (by omega) (by omega)).trans (upI_nj (by omega))
    have j245 : J 245 s = I 245 s := (k1 _ _ (by omega) (by omega) (by omega) (by omega)).trans e245
    have htm := tmM_rng a.1 e (i := s) q.1 (by omega)
    have ep := e s q.1 (by omega)
    have hst' := stM a.1 (i := s) q.1 (by omega)
    have et : tmv (J 242 s) (lch (J 250) s) (J 251 s) = tmM J s := rfl
    rw [et, j245]
    refine ⟨by omega, by omega, by omega, by omega, by omega, by omega, fun j j0 j1 => d j j0 (by omega), by omega, ?_⟩
    exact h2 q J M _ ((fu 0).tr b) c a ((k1 _ _ (by omega) (by omega) (by omega) (by omega)).trans upI_same) (fun y => by omega) (fun _ => ⟨k3, rfl⟩)
  refine ⟨Nat.le_of_ble_eq_true rfl, Ok.seg mdX9_delta [14] 20 ?_⟩
  simp only [wp_nil, wp_cons, ↓stp, ↓lI, ↓lL, ↓lR, ↓lIn_0, ↓lIn_1, ↓lIn_2, ↓lIn_3, ↓lLn_0, ↓lLn_1, ↓lLn_2, ↓lLn_3, ↓lRn_0, ↓lRn_1, ↓lRn_2, ↓lRn_3, ↓pI, ↓pL, ↓pR, ↓pA, ↓pN, ↓pV, ↓fp, ↓tsw, ↓oS, ↓spMax, ↓spMin, ↓spAbs, ↓spObj, RI, RLg, b2i_lo, b2i_hi, getL, setL, ltL, killL, isLong, inl, cnd, br, tgt, rcv, rpl, mputI, mputL, mputP, fv, fr, mcat, mcs, entL, entA, rfit, nf_0, nf_1, nf_2, nf_3, nf2_0, nf2_1, b2i_0, b2i_1, RI_b2i, b2i_fit, List.append, List.length, List.replicate, List.cons_append, List.nil_append, List.length_cons, List.length_nil, List.replicate_succ, List.replicate_zero, List.tail_cons, reduceIte, if_true, if_false, ite_true, ite_false, Bool.false_eq_true, true_and, and_true, and_self, false_and, and_false, or_self, or_true, true_or, or_false, false_or, not_true_eq_false, not_false_eq_true, ne_eq, forall_const, implies_true, imp_self, true_implies, false_implies, Nat.reduceAdd, Nat.reduceSub, Nat.reduceMul, Nat.reduceDiv, Nat.reduceMod, Nat.reduceEqDiff, Nat.reduceLT, Nat.reduceLeDiff, Nat.reduceBEq, Nat.add_zero, Nat.zero_add, Nat.le_refl, Nat.not_lt_zero, Nat.succ_eq_add_one, Int.reduceNatCast, Int.cast_ofNat_Int, Int.reduceSub, Int.reduceMul, Int.reduceNeg, Int.reduceLE, Int.reduceLT, Int.reduceToNat, Int.reduceEq, Int.reduceNe, Int.reduceAdd, Option.some.injEq, kX9_delta, rmX9_delta, ↓ofX9_41, ↓ofX9_7, ↓ocX9_delta_135, ↓spX9_isStation, ↓ocX9_delta_204, ↓spX9_findBest, ↓ocX9_delta_167, ↓spX9_timeAt, y1.1, y1.2, G_240, G_241, G_242, G_243, G_244, G_245, G_246, G_247, G_248, G_249, G_250, G_251, G_252, G_253, G_254, G_255, G_256, G_257, G_258, G_259, G_260, G_261, G_262, G_263, G_264, G_265, G_266, G_267, G_268, G_269, G_270, G_271, G_272, PF_240_6, PF_240_7, PF_240_8, PF_240_9, PF_240_10, PF_240_11, PF_240_12, PF_240_13, PF_240_14, PF_240_15, PF_240_16, PF_240_17, PF_240_18, PF_240_19, PF_240_20, PF_240_21, PF_240_22, PF_240_23, PF_240_24, PF_240_26, PF_240_27, PF_240_28, PF_240_29, PF_240_30, PF_240_31, PF_240_32, PF_240_33, PF_240_34, PF_240_35, PF_240_36, PF_240_37]
  exact ⟨by omega, fun q => bad q, fun q => good (by omega)⟩
def spX9_lost (As : List MV) (σ : MS) (K : Option MV → MS → Prop) : Prop := pR As fun a r => pN r (a = 240 ∧ σ.2.1 = PF ∧ mOK σ.2.2.1 σ.2.2.2 ∧ ∀ (I' L' : Int → Int → Int) (v : Int), frW σ.2.2.1 I' → frWL σ.2.2.2 L' → mOK I' L' → bestM I' → lostV (σ.2.2.1 245) (tmM I') (σ.2.2.1 240 1) v → K (some (.inl v)) (σ.1, σ.2.1, I', L'))
def ciX9_lost : CI := (1, 9, 0, 0, spX9_lost)
def kX9_lost (pc : Nat) : List ME := match pc with
  | 0 => [(.aload_n 0, 1, []), (.invokevirtual 204, 3, []), (.bipush (-2), 2, []), (.istore_n 1, 1, []), (.iconst 0, 1, []), (.istore_n 2, 1, [])]
  | 9 => [(.iload_n 2, 1, []), (.aload_n 0, 1, []), (.getfield 13, 3, []), (.if_icmp .ge 54, 3, [68]), (.aload_n 0, 1, []), (.getfield 41, 3, []), (.iload_n 2, 1, []), (.iaload, 1, []), (.ifCond .ne 6, 3, [29]), (.goto 36, 3, [62])]
  | 29 => [(.iload_n 1, 1, []), (.ifCond .lt 30, 3, [60]), (.aload_n 0, 1, []), (.getfield 41, 3, []), (.iload_n 2, 1, []), (.iaload, 1, []), (.aload_n 0, 1, []), (.iload_n 2, 1, []), (.invokevirtual 167, 3, []), (.isub, 1, []), (.aload_n 0, 1, []), (.getfield 41, 3, []), (.iload_n 1, 1, []), (.iaload, 1, []), (.aload_n 0, 1, []), (.iload_n 1, 1, []), (.invokevirtual 167, 3, []), (.isub, 1, []), (.if_icmp .le 5, 3, [62])]
  | 60 => [(.iload_n 2, 1, []), (.istore_n 1, 1, [])]
  | 62 => [(.iinc 2 1, 3, []), (.goto (-56), 3, [9])]
  | 68 => [(.iload_n 1, 1, []), (.ireturn, 1, [])]
  | _ => []
theorem qX9_lost : ∀ pc, chk cX9_lost pc (kX9_lost pc) = true := by
  intro pc
  unfold kX9_lost
  split <;> first | decide +kernel | exact chk_nil
abbrev rmX9_lost : Room := { frames := 4, cells := 0, slots := 0, locals := 108 }
def aX9_lost (x : Nat) : Option CI := match x with
  | 204 => some ciX9_findBest
  | 167 => some ciX9_timeAt
  | _ => none
theorem aokX9_lost : ∀ x ci, aX9_lost x = some ci → CalOK RX9 rmX9_lost x ci := by
  intro x ci h
  unfold aX9_lost at h
  split at h
  · cases h; exact cal_V mX9_findBest (by decide) rfl (List.forall_mem_cons.mpr ⟨(ws_mem (List.mem_of_getElem? (i := 1068) (by decide +kernel)) (by decide +kernel)), List.forall_mem_cons.mpr ⟨(ws_mem (List.mem_of_getElem? (i := 1070) (by decide +kernel)) (by decide +kernel)), List.forall_mem_cons.mpr ⟨(ws_mem (List.mem_of_getElem? (i := 32) (by decide +kernel)) (by decide +kernel)), List.forall_mem_cons.mpr ⟨(ws_mem (List.mem_of_getElem? (i := 64) (by decide +kernel)) (by decide +kernel)), List.forall_mem_cons.mpr ⟨(ws_mem (List.mem_of_getElem? (i := 1071) (by decide +kernel)) (by decide +kernel)), fun _ h => absurd h List.not_mem_nil⟩⟩⟩⟩⟩) rfl (by unfold nice; decide +kernel) (by unfold rfits; decide) ⟨rfl, rfl⟩
  · cases h; exact cal_V mX9_timeAt (by decide) rfl (List.forall_mem_cons.mpr ⟨(ws_mem (List.mem_of_getElem? (i := 1056) (by decide +kernel)) (by decide +kernel)), List.forall_mem_cons.mpr ⟨(ws_mem (List.mem_of_getElem? (i := 1058) (by decide +kernel)) (by decide +kernel)), List.forall_mem_cons.mpr ⟨(ws_mem (List.mem_of_getElem? (i := 30) (by decide +kernel)) (by decide +kernel)), List.forall_mem_cons.mpr ⟨(ws_mem (List.mem_of_getElem? (i := 64) (by decide +kernel)) (by decide +kernel)), List.forall_mem_cons.mpr ⟨(ws_mem (List.mem_of_getElem? (i := 1059) (by decide +kernel)) (by decide +kernel)), fun _ h => absurd h List.not_mem_nil⟩⟩⟩⟩⟩) rfl (by unfold nice; decide +kernel) (by unfold rfits; decide) ⟨rfl, rfl⟩
  · cases h
theorem ocX9_lost_204 (f : Nat → Nat → Nat → Nat → (List MV → MS → (Option MV → MS → Prop) → Prop) → Prop) : oC aX9_lost 204 f = f 1 9 0 0 spX9_findBest := propext Iff.rfl
theorem ocX9_lost_167 (f : Nat → Nat → Nat → Nat → (List MV → MS → (Option MV → MS → Prop) → Prop) → Prop) : oC aX9_lost 167 f = f 2 9 0 0 spX9_timeAt := propext Iff.rfl
theorem mdX9_lost : MD RX9 cX9_lost rmX9_lost kX9_lost fX9 aX9_lost zX9 uX9 := ⟨fokX9, zokX9, uokX9, aokX9_lost, qX9_lost⟩
set_option maxHeartbeats 1600000 in
set_option maxRecDepth 100000 in
theorem lpX9_lo {post : Option MV → MS → Prop} {U : Pt → Prop} {N : Nat} {I L : Int → Int → Int} (ht : tOK (VM I)) (hl : lanM I) (hp : pacM I)
    (h : ∀ v, lostV (I 245) (tmM I) (I 240 1) v → post (some (.inl v)) (N, PF, I, L)) :
    ∀ (m : Nat) (i v : Int), i + m = I 240 1 → 0 ≤ i → lostV (I 245) (tmM I) i v →
    Ok RX9 cX9_lost 3 rmX9_lost false none post U (9, [some (.inr (.inr (some 240))), some (.inl v), some (.inl i)], [], (N, PF, I, L), 0, 0)
  | 0, i, v, hi, i0, h1 => by
    have y2 : I 240 1 ≤ 30 := ht.2.1
    refine Ok.seg mdX9_lost [9] 12 ?_
    simp only [wp_nil, wp_cons, ↓stp, ↓lI, ↓lL, ↓lR, ↓lIn_0, ↓lIn_1, ↓lIn_2, ↓lIn_3, ↓lLn_0, ↓lLn_1, ↓lLn_2, ↓lLn_3, ↓lRn_0, ↓lRn_1, ↓lRn_2, ↓lRn_3, ↓pI, ↓pL, ↓pR, ↓pA, ↓pN, ↓pV, ↓fp, ↓tsw, ↓oS, ↓spMax, ↓spMin, ↓spAbs, ↓spObj, RI, RLg, b2i_lo, b2i_hi, getL, setL, ltL, killL, isLong, inl, cnd, br, tgt, rcv, rpl, mputI, mputL, mputP, fv, fr, mcat, mcs, entL, entA, rfit, nf_0, nf_1, nf_2, nf_3, nf2_0, nf2_1, b2i_0, b2i_1, RI_b2i, b2i_fit, List.append, List.length, List.replicate, List.cons_append, List.nil_append, List.length_cons, List.length_nil, List.replicate_succ, List.replicate_zero, List.tail_cons, reduceIte, if_true, if_false, ite_true, ite_false, Bool.false_eq_true, true_and, and_true, and_self, false_and, and_false, or_self, or_true, true_or, or_false, false_or, not_true_eq_false, not_false_eq_true, ne_eq, forall_const, implies_true, imp_self, true_implies, false_implies, Nat.reduceAdd, Nat.reduceSub, Nat.reduceMul, Nat.reduceDiv, Nat.reduceMod, Nat.reduceEqDiff, Nat.reduceLT, Nat.reduceLeDiff, Nat.reduceBEq, Nat.add_zero, Nat.zero_add, Nat.le_refl, Nat.not_lt_zero, Nat.succ_eq_add_one, Int.reduceNatCast, Int.cast_ofNat_Int, Int.reduceSub, Int.reduceMul, Int.reduceNeg, Int.reduceLE, Int.reduceLT, Int.reduceToNat, Int.reduceEq, Int.reduceNe, Int.reduceAdd, Option.some.injEq, kX9_lost, rmX9_lost, ↓ofX9_13, ↓ofX9_41, ↓ocX9_lost_204, ↓spX9_findBest, ↓ocX9_lost_167, ↓spX9_timeAt, G_240, G_241, G_242, G_243, G_244, G_245, G_246, G_247, G_248, G_249, G_250, G_251, G_252, G_253, G_254, G_255, G_256, G_257, G_258, G_259, G_260, G_261, G_262, G_263, G_264, G_265, G_266, G_267, G_268, G_269, G_270, G_271, G_272, PF_240_6, PF_240_7, PF_240_8, PF_240_9, PF_240_10, PF_240_11, PF_240_12, PF_240_13, PF_240_14, PF_240_15, PF_240_16, PF_240_17, PF_240_18, PF_240_19, PF_240_20, PF_240_21, PF_240_22, PF_240_23, PF_240_24, PF_240_26, PF_240_27, PF_240_28, PF_240_29, PF_240_30, PF_240_31, PF_240_32, PF_240_33, PF_240_34, PF_240_35, PF_240_36, PF_240_37]
    rw [show i = I 240 1 by omega] at h1 ⊢
    exact ⟨by omega, by omega, fun _ => h v h1, fun q => by omega⟩
  | m + 1, i, v, hi, i0, h1 => by
    have ih := lpX9_lo (U := U) (post := post) (N := N) (L := L) ht hl hp h m (i + 1)
    have y2 : I 240 1 ≤ 30 := ht.2.1
    have hv := lostV_rng h1
    have hst := stM ht i0 (show i < I 240 1 by omega)
    have hpi := hp i i0 (by omega)
    have hti := tmM_rng ht hp i0 (show i < I 240 1 by omega)
    have et : ∀ j, tmv (I 242 j) (lch (I 250) j) (I 251 j) = tmM I j := fun _ => rfl
    refine Ok.seg mdX9_lost [9] 60 ?_
    simp only [wp_nil, wp_cons, ↓stp, ↓lI, ↓lL, ↓lR, ↓lIn_0, ↓lIn_1, ↓lIn_2, ↓lIn_3, ↓lLn_0, ↓lLn_1, ↓lLn_2, ↓lLn_3, ↓lRn_0, ↓lRn_1, ↓lRn_2, ↓lRn_3, ↓pI, ↓pL, ↓pR, ↓pA, ↓pN, ↓pV, ↓fp, ↓tsw, ↓oS, ↓spMax, ↓spMin, ↓spAbs, ↓spObj, RI, RLg, b2i_lo, b2i_hi, getL, setL, ltL, killL, isLong, inl, cnd, br, tgt, rcv, rpl, mputI, mputL, mputP, fv, fr, mcat, mcs, entL, entA, rfit, nf_0, nf_1, nf_2, nf_3, nf2_0, nf2_1, b2i_0, b2i_1, RI_b2i, b2i_fit, List.append, List.length, List.replicate, List.cons_append, List.nil_append, List.length_cons, List.length_nil, List.replicate_succ, List.replicate_zero, List.tail_cons, reduceIte, if_true, if_false, ite_true, ite_false, Bool.false_eq_true, true_and, and_true, and_self, false_and, and_false, or_self, or_true, true_or, or_false, false_or, not_true_eq_false, not_false_eq_true, ne_eq, forall_const, implies_true, imp_self, true_implies, false_implies, Nat.reduceAdd, Nat.reduceSub, Nat.reduceMul, Nat.reduceDiv, Nat.reduceMod, Nat.reduceEqDiff, Nat.reduceLT, Nat.reduceLeDiff, Nat.reduceBEq, Nat.add_zero, Nat.zero_add, Nat.le_refl, Nat.not_lt_zero, Nat.succ_eq_add_one, Int.reduceNatCast, Int.cast_ofNat_Int, Int.reduceSub, Int.reduceMul, Int.reduceNeg, Int.reduceLE, Int.reduceLT, Int.reduceToNat, Int.reduceEq, Int.reduceNe, Int.reduceAdd, Option.some.injEq, kX9_lost, rmX9_lost, ↓ofX9_13, ↓ofX9_41, ↓ocX9_lost_204, ↓spX9_findBest, ↓ocX9_lost_167, ↓spX9_timeAt, et, G_240, G_241, G_242, G_243, G_244, G_245, G_246, G_247, G_248, G_249, G_250, G_251, G_252, G_253, G_254, G_255, G_256, G_257, G_258, G_259, G_260, G_261, G_262, G_263, G_264, G_265, G_266, G_267, G_268, G_269, G_270, G_271, G_272, PF_240_6, PF_240_7, PF_240_8, PF_240_9, PF_240_10, PF_240_11, PF_240_12, PF_240_13, PF_240_14, PF_240_15, PF_240_16, PF_240_17, PF_240_18, PF_240_19, PF_240_20, PF_240_21, PF_240_22, PF_240_23, PF_240_24, PF_240_26, PF_240_27, PF_240_28, PF_240_29, PF_240_30, PF_240_31, PF_240_32, PF_240_33, PF_240_34, PF_240_35, PF_240_36, PF_240_37]
    refine ⟨by omega, by omega, fun q => by omega, fun q => ⟨by omega, by omega, by omega, fun q2 => ⟨by omega, fun q3 => ?_, fun q3 => ?_⟩, fun q2 => ih v (by omega) (by omega) (lostV_no h1 (.inl (by omega)))⟩⟩
    · exact ih i (by omega) (by omega) (lostV_yes i0 h1 (by omega) (.inl q3))
    · have hsv := stM ht (i := v) (by omega) (by omega)
      have hpv := hp v (by omega) (by omega)
      have htv := tmM_rng ht hp (i := v) (by omega) (by omega)
      refine ⟨by omega, by omega, by omega, by omega, by omega, by omega, fun j j0 j1 => hl j j0 (by omega), by omega, by omega, by omega, by omega, by omega, by omega, fun j j0 j1 => hl j j0 (by omega), by omega, by omega, fun q4 => ?_, fun q4 => ?_⟩
      · exact ih v (by omega) (by omega) (lostV_no h1 (.inr ⟨by omega, by omega⟩))
      · exact ih i (by omega) (by omega) (lostV_yes i0 h1 (by omega) (.inr (by omega)))
set_option maxRecDepth 100000 in
set_option maxHeartbeats 800000 in
theorem mX9_lost : MOK yX9_lost cX9_lost 3 (some .int) rmX9_lost ciX9_lost := by
  refine mok_of (ini := false) (by decide +kernel) (by decide) rfl rfl ?_
  intro σ As K hrc hl h
  obtain ⟨N, P, I, L⟩ := σ
  have h9 := pR_iff.mp h
  clear h
  obtain ⟨a, r, e9, h⟩ := h9
  subst e9
  have h9 := pN_iff.mp h
  clear h
  obtain ⟨e9, h⟩ := h9
  subst e9
  try dsimp only at h
  obtain ⟨rfl, rfl, hx, h⟩ := h
  have x1 := hx.1
  have x2 := hx.2.1
  refine ⟨Nat.le_of_ble_eq_true rfl, Ok.seg mdX9_lost [9] 20 ?_⟩
  simp only [wp_nil, wp_cons, ↓stp, ↓lI, ↓lL, ↓lR, ↓lIn_0, ↓lIn_1, ↓lIn_2, ↓lIn_3, ↓lLn_0, ↓lLn_1, ↓lLn_2, ↓lLn_3, ↓lRn_0, ↓lRn_1, ↓lRn_2, ↓lRn_3, ↓pI, ↓pL, ↓pR, ↓pA, ↓pN, ↓pV, ↓fp, ↓tsw, ↓oS, ↓spMax, ↓spMin, ↓spAbs, ↓spObj, RI, RLg, b2i_lo, b2i_hi, getL, setL, ltL, killL, isLong, inl, cnd, br, tgt, rcv, rpl, mputI, mputL, mputP, fv, fr, mcat, mcs, entL, entA, rfit, nf_0, nf_1, nf_2, nf_3, nf2_0, nf2_1, b2i_0, b2i_1, RI_b2i, b2i_fit, List.append, List.length, List.replicate, List.cons_append, List.nil_append, List.length_cons, List.length_nil, List.replicate_succ, List.replicate_zero, List.tail_cons, reduceIte, if_true, if_false, ite_true, ite_false, Bool.false_eq_true, true_and, and_true, and_self, false_and, and_false, or_self, or_true, true_or, or_false, false_or, not_true_eq_false, not_false_eq_true, ne_eq, forall_const, implies_true, imp_self, true_implies, false_implies, Nat.reduceAdd, Nat.reduceSub, Nat.reduceMul, Nat.reduceDiv, Nat.reduceMod, Nat.reduceEqDiff, Nat.reduceLT, Nat.reduceLeDiff, Nat.reduceBEq, Nat.add_zero, Nat.zero_add, Nat.le_refl, Nat.not_lt_zero, Nat.succ_eq_add_one, Int.reduceNatCast, Int.cast_ofNat_Int, Int.reduceSub, Int.reduceMul, Int.reduceNeg, Int.reduceLE, Int.reduceLT, Int.reduceToNat, Int.reduceEq, Int.reduceNe, Int.reduceAdd, Option.some.injEq, kX9_lost, rmX9_lost, ↓ofX9_13, ↓ofX9_41, ↓ocX9_lost_204, ↓spX9_findBest, ↓ocX9_lost_167, ↓spX9_timeAt, x1, x2, G_240, G_241, G_242, G_243, G_244, G_245, G_246, G_247, G_248, G_249, G_250, G_251, G_252, G_253, G_254, G_255, G_256, G_257, G_258, G_259, G_260, G_261, G_262, G_263, G_264, G_265, G_266, G_267, G_268, G_269, G_270, G_271, G_272, PF_240_6, PF_240_7, PF_240_8, PF_240_9, PF_240_10, PF_240_11, PF_240_12, PF_240_13, PF_240_14, PF_240_15, PF_240_16, PF_240_17, PF_240_18, PF_240_19, PF_240_20, PF_240_21, PF_240_22, PF_240_23, PF_240_24, PF_240_26, PF_240_27, PF_240_28, PF_240_29, PF_240_30, PF_240_31, PF_240_32, PF_240_33, PF_240_34, PF_240_35, PF_240_36, PF_240_37]
  intro J M k1 k2 k3
  obtain ⟨a, b, c⟩ := fB hx k1 k2
  obtain ⟨d, e⟩ := bestM_l k3
  have y1 : 0 ≤ J 240 1 := a.1.1
  refine lpX9_lo (post := fun r σ' => rfit (some .int) r ∧ K r σ') a.1 d e (fun v hv => ⟨trivial, h J M v b c a k3 ?_⟩) (J 240 1).toNat 0 (-2) (by omega) (by omega) (.inl ⟨rfl, fun j a b => by omega⟩)
  rw [k1 240 1 (by omega) (by omega) (by omega) (by omega), show J 245 = I 245 from funext fun k => k1 _ _ (by omega) (by omega) (by omega) (by omega)] at hv
  exact hv
def spX9_wants (As : List MV) (σ : MS) (K : Option MV → MS → Prop) : Prop := pR As fun a r => pN r (a = 240 ∧ σ.2.1 = PF ∧ mOK σ.2.2.1 σ.2.2.2 ∧ ∀ (I' L' : Int → Int → Int) (v : Int), frW σ.2.2.1 I' → frWL σ.2.2.2 L' → mOK I' L' → wantV (VM σ.2.2.1) v → K (some (.inl v)) (σ.1, σ.2.1, I', L'))
def ciX9_wants : CI := (1, 9, 0, 0, spX9_wants)
def kX9_wants (pc : Nat) : List ME := match pc with
  | 0 => [(.bipush (-2), 2, []), (.istore_n 1, 1, []), (.lconst 0, 1, []), (.lstore_n 2, 1, []), (.aload_n 0, 1, []), (.aload_n 0, 1, []), (.getfield 16, 3, []), (.invokevirtual 193, 3, []), (.lstore 4, 2, []), (.iconst 0, 1, []), (.istore 6, 2, [])]
  | 18 => [(.iload 6, 2, []), (.aload_n 0, 1, []), (.getfield 13, 3, []), (.if_icmp .ge 75, 3, [99]), (.aload_n 0, 1, []), (.getfield 35, 3, []), (.iload 6, 2, []), (.iaload, 1, []), (.bipush 60, 2, []), (.if_icmp .ne 6, 3, [42]), (.goto 54, 3, [93])]
  | 42 => [(.aload_n 0, 1, []), (.getfield 35, 3, []), (.iload 6, 2, []), (.dup2, 1, []), (.iaload, 1, []), (.iconst 1, 1, []), (.iadd, 1, []), (.iastore, 1, []), (.lload 4, 2, []), (.aload_n 0, 1, []), (.aload_n 0, 1, []), (.getfield 16, 3, []), (.invokevirtual 193, 3, []), (.lsub, 1, []), (.lstore 7, 2, []), (.aload_n 0, 1, []), (.getfield 35, 3, []), (.iload 6, 2, []), (.dup2, 1, []), (.iaload, 1, []), (.iconst 1, 1, []), (.isub, 1, []), (.iastore, 1, []), (.lload 7, 2, []), (.lload_n 2, 1, []), (.lcmp, 1, []), (.ifCond .gt 6, 3, [87]), (.goto 9, 3, [93])]
  | 87 => [(.lload 7, 2, []), (.lstore_n 2, 1, []), (.iload 6, 2, []), (.istore_n 1, 1, [])]
  | 93 => [(.iinc 6 1, 3, []), (.goto (-78), 3, [18])]
  | 99 => [(.iload_n 1, 1, []), (.ireturn, 1, [])]
  | _ => []
theorem qX9_wants : ∀ pc, chk cX9_wants pc (kX9_wants pc) = true := by
  intro pc
  unfold kX9_wants
  split <;> first | decide +kernel | exact chk_nil
abbrev rmX9_wants : Room := { frames := 3, cells := 0, slots := 0, locals := 83 }
def aX9_wants (x : Nat) : Option CI := match x with
  | 193 => some ciX9_work
  | _ => none
theorem aokX9_wants : ∀ x ci, aX9_wants x = some ci → CalOK RX9 rmX9_wants x ci := by
  intro x ci h
  unfold aX9_wants at h
  split at h
  · cases h; exact cal_V mX9_work (by decide) rfl (List.forall_mem_cons.mpr ⟨(ws_mem (List.mem_of_getElem? (i := 1072) (by decide +kernel)) (by decide +kernel)), List.forall_mem_cons.mpr ⟨(ws_mem (List.mem_of_getElem? (i := 1074) (by decide +kernel)) (by decide +kernel)), List.forall_mem_cons.mpr ⟨(ws_mem (List.mem_of_getElem? (i := 33) (by decide +kernel)) (by decide +kernel)), List.forall_mem_cons.mpr ⟨(ws_mem (List.mem_of_getElem? (i := 64) (by decide +kernel)) (by decide +kernel)), List.forall_mem_cons.mpr ⟨(ws_mem (List.mem_of_getElem? (i := 1075) (by decide +kernel)) (by decide +kernel)), fun _ h => absurd h List.not_mem_nil⟩⟩⟩⟩⟩) rfl (by unfold nice; decide +kernel) (by unfold rfits; decide) ⟨rfl, rfl⟩
  · cases h
theorem ocX9_wants_193 (f : Nat → Nat → Nat → Nat → (List MV → MS → (Option MV → MS → Prop) → Prop) → Prop) : oC aX9_wants 193 f = f 2 9 0 0 spX9_work := propext Iff.rfl
theorem mdX9_wants : MD RX9 cX9_wants rmX9_wants kX9_wants fX9 aX9_wants zX9 uX9 := ⟨fokX9, zokX9, uokX9, aokX9_wants, qX9_wants⟩
/-- one base 1 more, as the board's -/
theorem rais_V {I J : Int → Int → Int} {i : Int} (i0 : 0 ≤ i) (i1 : i < 30) (h : ∀ b k, ¬ (b = 243 ∧ k = i) → b ≠ 253 → b ≠ 254 → J b k = I b k) (h2 : J 243 i = mn 60 (I 243 i + 1)) (hn : I 240 1 ≤ 30) : tsame (rais (VM I) i) (VM J) := by
  have er3 : rais (VM I) i 3 1 = I 240 1 := upI_ne (by omega)
  refine ⟨by rw [er3, VM_31]; exact h _ _ (by omega) (by omega) (by omega), fun j k j0 j1 k0 k1 => ?_, fun k => ?_, fun k => ?_⟩
  · rw [er3] at j1
    obtain ⟨e0, e1, e2, e3, e4⟩ := VM_st (I := I) j0 (by omega)
    obtain ⟨f0, f1, f2, f3, f4⟩ := VM_st (I := J) j0 (by omega)
    by_cases z : j = i
    · subst z
      unfold rais
      rcases (show k = 0 ∨ k = 1 ∨ k = 2 ∨ k = 3 by omega) with rfl | rfl | rfl | rfl
      · rw [upI_nj (by omega), e0, f0]; exact h _ _ (by omega) (by omega) (by omega)
      · rw [upI_nj (by omega), e1, f1]; exact h _ _ (by omega) (by omega) (by omega)
      · rw [upI_same, e2, f2]; exact h2
      · rw [upI_nj (by omega), e3, f3]; exact h _ _ (by omega) (by omega) (by omega)
    · rw [show rais (VM I) i (5 + j) k = VM I (5 + j) k from upI_ne (by omega)]
      rcases (show k = 0 ∨ k = 1 ∨ k = 2 ∨ k = 3 by omega) with rfl | rfl | rfl | rfl
      · rw [e0, f0]; exact h _ _ (by omega) (by omega) (by omega)
      · rw [e1, f1]; exact h _ _ (by omega) (by omega) (by omega)
      · rw [e2, f2]; exact h _ _ (by omega) (by omega) (by omega)
      · rw [e3, f3]; exact h _ _ (by omega) (by omega) (by omega)
  · rw [show rais (VM I) i 38 k = VM I 38 k from upI_ne (by omega), VM_38, VM_38]; exact h _ _ (by omega) (by omega) (by omega)
  · rw [show rais (VM I) i 39 k = VM I 39 k from upI_ne (by omega), VM_39, VM_39]; exact h _ _ (by omega) (by omega) (by omega)
set_option maxHeartbeats 1600000 in
set_option maxRecDepth 100000 in
theorem lpX9_wn {post : Option MV → MS → Prop} {U : Pt → Prop} {N : Nat} {I L : Int → Int → Int} {T : Int} (ht : tOK (VM I)) (hc : carOK (VM I)) (hT : lapT (VM I) (I 240 2) (I 240 3) (I 240 4) T)
    (h : ∀ (I1 L1 : Int → Int → Int) (v : Int), (∀ b k, b ≠ 253 → b ≠ 254 → I1 b k = I b k) → (∀ b k, b ≠ 252 → L1 b k = L b k) → wantV (VM I) v → post (some (.inl v)) (N, PF, I1, L1)) :
    ∀ (m : Nat) (i v : Int) (R : Int → Int) (I1 L1 : Int → Int → Int) (t7 t8 : Option MV), i + m = I 240 1 → 0 ≤ i → (∀ b k, b ≠ 253 → b ≠ 254 → I1 b k = I b k) → (∀ b k, b ≠ 252 → L1 b k = L b k) → (∀ j, 0 ≤ j → j < i → lapT (rais (VM I) j) (I 240 2) (I 240 3) (I 240 4) (R j)) → wnt T R i v →
    Ok RX9 cX9_wants 9 rmX9_wants false none post U (18, [some (.inr (.inr (some 240))), some (.inl v), some (.inr (.inl (T - wle T R v))), none, some (.inr (.inl T)), none, some (.inl i), t7, t8], [], (N, PF, I1, L1), 0, 0)
  | 0, i, v, R, I1, L1, t7, t8, hi, i0, h1, h2, h3, h4 => by
    have y2 : I 240 1 ≤ 30 := ht.2.1
    have e1 : I1 240 1 = I 240 1 := h1 _ _ (by omega) (by omega)
    have hv := wnt_v h4
    refine Ok.seg mdX9_wants [18] 12 ?_
    simp only [wp_nil, wp_cons, ↓stp, ↓lI, ↓lL, ↓lR, ↓lIn_0, ↓lIn_1, ↓lIn_2, ↓lIn_3, ↓lLn_0, ↓lLn_1, ↓lLn_2, ↓lLn_3, ↓lRn_0, ↓lRn_1, ↓lRn_2, ↓lRn_3, ↓pI, ↓pL, ↓pR, ↓pA, ↓pN, ↓pV, ↓fp, ↓tsw, ↓oS, ↓spMax, ↓spMin, ↓spAbs, ↓spObj, RI, RLg, b2i_lo, b2i_hi, getL, setL, ltL, killL, isLong, inl, cnd, br, tgt, rcv, rpl, mputI, mputL, mputP, fv, fr, mcat, mcs, entL, entA, rfit, nf_0, nf_1, nf_2, nf_3, nf2_0, nf2_1, b2i_0, b2i_1, RI_b2i, b2i_fit, List.append, List.length, List.replicate, List.cons_append, List.nil_append, List.length_cons, List.length_nil, List.replicate_succ, List.replicate_zero, List.tail_cons, reduceIte, if_true, if_false, ite_true, ite_false, Bool.false_eq_true, true_and, and_true, and_self, false_and, and_false, or_self, or_true, true_or, or_false, false_or, not_true_eq_false, not_false_eq_true, ne_eq, forall_const, implies_true, imp_self, true_implies, false_implies, Nat.reduceAdd, Nat.reduceSub, Nat.reduceMul, Nat.reduceDiv, Nat.reduceMod, Nat.reduceEqDiff, Nat.reduceLT, Nat.reduceLeDiff, Nat.reduceBEq, Nat.add_zero, Nat.zero_add, Nat.le_refl, Nat.not_lt_zero, Nat.succ_eq_add_one, Int.reduceNatCast, Int.cast_ofNat_Int, Int.reduceSub, Int.reduceMul, Int.reduceNeg, Int.reduceLE, Int.reduceLT, Int.reduceToNat, Int.reduceEq, Int.reduceNe, Int.reduceAdd, Option.some.injEq, kX9_wants, rmX9_wants, ↓ofX9_13, ↓ofX9_16, ↓ofX9_35, ↓ocX9_wants_193, ↓spX9_work, e1, G_240, G_241, G_242, G_243, G_244, G_245, G_246, G_247, G_248, G_249, G_250, G_251, G_252, G_253, G_254, G_255, G_256, G_257, G_258, G_259, G_260, G_261, G_262, G_263, G_264, G_265, G_266, G_267, G_268, G_269, G_270, G_271, G_272, PF_240_6, PF_240_7, PF_240_8, PF_240_9, PF_240_10, PF_240_11, PF_240_12, PF_240_13, PF_240_14, PF_240_15, PF_240_16, PF_240_17, PF_240_18, PF_240_19, PF_240_20, PF_240_21, PF_240_22, PF_240_23, PF_240_24, PF_240_26, PF_240_27, PF_240_28, PF_240_29, PF_240_30, PF_240_31, PF_240_32, PF_240_33, PF_240_34, PF_240_35, PF_240_36, PF_240_37]
    refine ⟨by omega, by omega, fun _ => h I1 L1 v h1 h2 ⟨T, R, hT, fun j a b => h3 j a (by have : j < I 240 1 := b; omega), ?_⟩, fun q => by omega⟩
    rwa [show i = VM I 3 1 by rw [VM_31]; omega] at h4
  | m + 1, i, v, R, I1, L1, t7, t8, hi, i0, h1, h2, h3, h4 => by
    have ih := lpX9_wn (U := U) (post := post) (N := N) (L := L) ht hc hT h m (i + 1)
    have y2 : I 240 1 ≤ 30 := ht.2.1
    have e1 : I1 240 1 = I 240 1 := h1 _ _ (by omega) (by omega)
    have e2 : I1 240 2 = I 240 2 := h1 _ _ (by omega) (by omega)
    have e243 : I1 243 i = I 243 i := h1 _ _ (by omega) (by omega)
    have hst := stM ht i0 (show i < I 240 1 by omega)
    have hv := wnt_v h4
    have hnn := hc.2
    unfold nOK at hnn
    rw [VM_36_0, VM_36_1, VM_36_2] at hnn
    have htr := rais_t ht i0 (show i < VM I 3 1 by rw [VM_31]; omega)
    have hTr := lapT_rng ht hT
    have ewr : 0 ≤ wle T R v ∧ wle T R v ≤ 3030000 := by
      unfold wle
      by_cases q : v < 0
      · rw [if_pos q]; exact lapT_rng ht hT
      · rw [if_neg q]; exact lapT_rng (rais_t ht (by omega) (show v < VM I 3 1 by rw [VM_31]; omega)) (h3 v (by omega) (by omega))
    have next : ∀ (R' : Int → Int) v' (I2 L2 : Int → Int → Int), wnt T R' (i + 1) v' → (∀ j, 0 ≤ j → j < i + 1 → lapT (rais (VM I) j) (I 240 2) (I 240 3) (I 240 4) (R' j)) → (∀ b k, b ≠ 253 → b ≠ 254 → I2 b k = I b k) → (∀ b k, b ≠ 252 → L2 b k = L b k) → ∀ t7 t8, Ok RX9 cX9_wants 9 rmX9_wants false none post U (18, [some (.inr (.inr (some 240))), some (.inl v'), some (.inr (.inl (T - wle T R' v'))), none, some (.inr (.inl T)), none, some (.inl (i + 1)), t7, t8], [], (N, PF, I2, L2), 0, 0) := fun R' v' I2 L2 a b c d t7 t8 => ih v' R' I2 L2 t7 t8 (by omega) (by omega) c d b a
    have hupd : ∀ r, lapT (rais (VM I) i) (I 240 2) (I 240 3) (I 240 4) r → (∀ j, 0 ≤ j → j < i + 1 → lapT (rais (VM I) j) (I 240 2) (I 240 3) (I 240 4) ((fun j => if j = i then r else R j) j)) ∧ wnt T (fun j => if j = i then r else R j) i v ∧ wle T (fun j => if j = i then r else R j) v = wle T R v := fun r hr => by
      refine ⟨fun j j0 j1 => ?_, wnt_cg (fun j a b => (if_neg (by omega)).symm) h4, ?_⟩
      · dsimp only
        by_cases z : j = i
        · rw [if_pos z, z]; exact hr
        · rw [if_neg z]; exact h3 j j0 (by omega)
      · unfold wle
        by_cases q : v < 0
        · rw [if_pos q, if_pos q]
        · rw [if_neg q, if_neg q]; exact if_neg (by omega)
    by_cases h60 : I 243 i = 60
    · -- a base of 60 stays
      have hr : lapT (rais (VM I) i) (I 240 2) (I 240 3) (I 240 4) T := by
        have := rais_V (I := I) (J := I) i0 (by omega) (fun _ _ _ _ _ => rfl) (by rw [h60]; unfold mn; rw [if_pos (by omega)]) y2
        exact (lapT_iff this).mpr hT
      obtain ⟨a, b, c⟩ := hupd T hr
      refine Ok.seg mdX9_wants [18] 40 ?_
      simp only [wp_nil, wp_cons, ↓stp, ↓lI, ↓lL, ↓lR, ↓lIn_0, ↓lIn_1, ↓lIn_2, ↓lIn_3, ↓lLn_0, ↓lLn_1, ↓lLn_2, ↓lLn_3, ↓lRn_0, ↓lRn_1, ↓lRn_2, ↓lRn_3, ↓pI, ↓pL, ↓pR, ↓pA, ↓pN, ↓pV, ↓fp, ↓tsw, ↓oS, ↓spMax, ↓spMin, ↓spAbs, ↓spObj, RI, RLg, b2i_lo, b2i_hi, getL, setL, ltL, killL, isLong, inl, cnd, br, tgt, rcv, rpl, mputI, mputL, mputP, fv, fr, mcat, mcs, entL, entA, rfit, nf_0, nf_1, nf_2, nf_3, nf2_0, nf2_1, b2i_0, b2i_1, RI_b2i, b2i_fit, List.append, List.length, List.replicate, List.cons_append, List.nil_append, List.length_cons, List.length_nil, List.replicate_succ, List.replicate_zero, List.tail_cons, reduceIte, if_true, if_false, ite_true, ite_false, Bool.false_eq_true, true_and, and_true, and_self, false_and, and_false, or_self, or_true, true_or, or_false, false_or, not_true_eq_false, not_false_eq_true, ne_eq, forall_const, implies_true, imp_self, true_implies, false_implies, Nat.reduceAdd, Nat.reduceSub, Nat.reduceMul, Nat.reduceDiv, Nat.reduceMod, Nat.reduceEqDiff, Nat.reduceLT, Nat.reduceLeDiff, Nat.reduceBEq, Nat.add_zero, Nat.zero_add, Nat.le_refl, Nat.not_lt_zero, Nat.succ_eq_add_one, Int.reduceNatCast, Int.cast_ofNat_Int, Int.reduceSub, Int.reduceMul, Int.reduceNeg, Int.reduceLE, Int.reduceLT, Int.reduceToNat, Int.reduceEq, Int.reduceNe, Int.reduceAdd, Option.some.injEq, kX9_wants, rmX9_wants, ↓ofX9_13, ↓ofX9_16, ↓ofX9_35, ↓ocX9_wants_193, ↓spX9_work, e1, e243, G_240, G_241, G_242, G_243, G_244, G_245, G_246, G_247, G_248, G_249, G_250, G_251, G_252, G_253, G_254, G_255, G_256, G_257, G_258, G_259, G_260, G_261, G_262, G_263, G_264, G_265, G_266, G_267, G_268, G_269, G_270, G_271, G_272, PF_240_6, PF_240_7, PF_240_8, PF_240_9, PF_240_10, PF_240_11, PF_240_12, PF_240_13, PF_240_14, PF_240_15, PF_240_16, PF_240_17, PF_240_18, PF_240_19, PF_240_20, PF_240_21, PF_240_22, PF_240_23, PF_240_24, PF_240_26, PF_240_27, PF_240_28, PF_240_29, PF_240_30, PF_240_31, PF_240_32, PF_240_33, PF_240_34, PF_240_35, PF_240_36, PF_240_37]
      refine ⟨by omega, by omega, fun q => by omega, fun q => ⟨by omega, by omega, by omega, fun q2 => by omega, fun q2 => ?_⟩⟩
      rw [← c]
      refine next _ v I1 L1 (wnt_no b ?_) a h1 h2 _ _
      rw [if_pos rfl, c]
      unfold wle
      rcases h4 with ⟨z1, z2⟩ | ⟨z1, z2, z3, z4, z5⟩
      · rw [if_pos (by omega)]; omega
      · rw [if_neg (by omega)]; omega
    · have f1 : ∀ b k, ¬ (b = 243 ∧ k = i) → b ≠ 253 → b ≠ 254 → upI I1 243 i (I 243 i + 1) b k = I b k := fun b k a b' c => (if_neg a).trans (h1 b k b' c)
      have ts := rais_V (I := I) (J := upI I1 243 i (I 243 i + 1)) i0 (by omega) f1 (by rw [upI_same]; exact mn_of (by omega) (by omega) (.inr rfl)) y2
      have ht1 : tOK (VM (upI I1 243 i (I 243 i + 1))) := tOK_V (by rw [f1 240 1 (by omega) (by omega) (by omega)]; omega) (by rw [f1 240 1 (by omega) (by omega) (by omega)]; omega) (fun j j0 j1 => by
        rw [f1 240 1 (by omega) (by omega) (by omega)] at j1
        have hs := stM ht j0 j1
        rw [f1 241 j (by omega) (by omega) (by omega), f1 242 j (by omega) (by omega) (by omega), f1 244 j (by omega) (by omega) (by omega), f1 245 j (by omega) (by omega) (by omega)]
        by_cases z : j = i
        · subst z
          rw [upI_same]; omega
        · rw [f1 243 j (by omega) (by omega) (by omega)]; exact hs)
      have hc1 : carOK (VM (upI I1 243 i (I 243 i + 1))) := carOK_V (f1 _ _ (by omega) (by omega) (by omega)) (f1 _ _ (by omega) (by omega) (by omega)) (f1 _ _ (by omega) (by omega) (by omega)) (fun b k _ _ => f1 _ _ (by omega) (by omega) (by omega)) hc
      have g2 : upI I1 243 i (I 243 i + 1) 240 2 = I 240 2 := f1 _ _ (by omega) (by omega) (by omega)
      have g3 : upI I1 243 i (I 243 i + 1) 240 3 = I 240 3 := f1 _ _ (by omega) (by omega) (by omega)
      have g4 : upI I1 243 i (I 243 i + 1) 240 4 = I 240 4 := f1 _ _ (by omega) (by omega) (by omega)
      refine Ok.seg mdX9_wants [18] 80 ?_
      simp only [wp_nil, wp_cons, ↓stp, ↓lI, ↓lL, ↓lR, ↓lIn_0, ↓lIn_1, ↓lIn_2, ↓lIn_3, ↓lLn_0, ↓lLn_1, ↓lLn_2, ↓lLn_3, ↓lRn_0, ↓lRn_1, ↓lRn_2, ↓lRn_3, ↓pI, ↓pL, ↓pR, ↓pA, ↓pN, ↓pV, ↓fp, ↓tsw, ↓oS, ↓spMax, ↓spMin, ↓spAbs, ↓spObj, RI, RLg, b2i_lo, b2i_hi, getL, setL, ltL, killL, isLong, inl, cnd, br, tgt, rcv, rpl, mputI, mputL, mputP, fv, fr, mcat, mcs, entL, entA, rfit, nf_0, nf_1, nf_2, nf_3, nf2_0, nf2_1, b2i_0, b2i_1, RI_b2i, b2i_fit, List.append, List.length, List.replicate, List.cons_append, List.nil_append, List.length_cons, List.length_nil, List.replicate_succ, List.replicate_zero, List.tail_cons, reduceIte, if_true, if_false, ite_true, ite_false, Bool.false_eq_true, true_and, and_true, and_self, false_and, and_false, or_self, or_true, true_or, or_false, false_or, not_true_eq_false, not_false_eq_true, ne_eq, forall_const, implies_true, imp_self, true_implies, false_implies, Nat.reduceAdd, Nat.reduceSub, Nat.reduceMul, Nat.reduceDiv, Nat.reduceMod, Nat.reduceEqDiff, Nat.reduceLT, Nat.reduceLeDiff, Nat.reduceBEq, Nat.add_zero, Nat.zero_add, Nat.le_refl, Nat.not_lt_zero, Nat.succ_eq_add_one, Int.reduceNatCast, Int.cast_ofNat_Int, Int.reduceSub, Int.reduceMul, Int.reduceNeg, Int.reduceLE, Int.reduceLT, Int.reduceToNat, Int.reduceEq, Int.reduceNe, Int.reduceAdd, Option.some.injEq, kX9_wants, rmX9_wants, ↓ofX9_13, ↓ofX9_16, ↓ofX9_35, ↓ocX9_wants_193, ↓spX9_work, e1, e243, ht1, hc1, g2, g3, g4, lcm_lo, lcm_hi, lcm_gt, G_240, G_241, G_242, G_243, G_244, G_245, G_246, G_247, G_248, G_249, G_250, G_251, G_252, G_253, G_254, G_255, G_256, G_257, G_258, G_259, G_260, G_261, G_262, G_263, G_264, G_265, G_266, G_267, G_268, G_269, G_270, G_271, G_272, PF_240_6, PF_240_7, PF_240_8, PF_240_9, PF_240_10, PF_240_11, PF_240_12, PF_240_13, PF_240_14, PF_240_15, PF_240_16, PF_240_17, PF_240_18, PF_240_19, PF_240_20, PF_240_21, PF_240_22, PF_240_23, PF_240_24, PF_240_26, PF_240_27, PF_240_28, PF_240_29, PF_240_30, PF_240_31, PF_240_32, PF_240_33, PF_240_34, PF_240_35, PF_240_36, PF_240_37]
      refine ⟨by omega, by omega, fun q => by omega, fun q => ⟨by omega, by omega, by omega, fun q2 => ?_, fun q2 => by omega⟩⟩
      repeat refine ⟨by omega, ?_⟩
      refine fun J M r k1 k2 k3 k4 => ?_
      have hr := (lapT_iff ts).mpr k4
      have hrr := lapT_rng htr hr
      obtain ⟨a, b, c⟩ := hupd r hr
      have j243 : J 243 i = I 243 i + 1 := (k1 _ _ (by omega) (by omega)).trans upI_same
      have fJ : ∀ b k, b ≠ 253 → b ≠ 254 → upI J 243 i (J 243 i - 1) b k = I b k := fun b k b0 b1 => by
        by_cases z : b = 243 ∧ k = i
        · rw [z.1, z.2, upI_same, j243]; omega
        · rw [show upI J 243 i (J 243 i - 1) b k = J b k from if_neg z, k1 b k b0 b1]; exact f1 b k z b0 b1
      have fM : ∀ b k, b ≠ 252 → M b k = L b k := fun b k hb => (k2 b k hb).trans (h2 b k hb)
      repeat refine ⟨by omega, ?_⟩
      refine ⟨fun q3 => ?_, fun q3 => ?_⟩
      · have := next _ i _ _ (wnt_yes i0 b (by rw [if_pos rfl, c]; omega)) a fJ fM (some (.inr (.inl (T - r)))) none
        rw [show wle T (fun j => if j = i then r else R j) i = r by unfold wle; rw [if_neg (by omega)]; exact if_pos rfl] at this
        exact this
      · rw [← c]
        exact next _ v _ _ (wnt_no b (by rw [if_pos rfl, c]; omega)) a fJ fM _ _
set_option maxRecDepth 100000 in
set_option maxHeartbeats 800000 in
theorem mX9_wants : MOK yX9_wants cX9_wants 9 (some .int) rmX9_wants ciX9_wants := by
  refine mok_of (ini := false) (by decide +kernel) (by decide) rfl rfl ?_
  intro σ As K hrc hl h
  obtain ⟨N, P, I, L⟩ := σ
  have h9 := pR_iff.mp h
  clear h
  obtain ⟨a, r, e9, h⟩ := h9
  subst e9
  have h9 := pN_iff.mp h
  clear h
  obtain ⟨e9, h⟩ := h9
  subst e9
  try dsimp only at h
  obtain ⟨rfl, rfl, hx, h⟩ := h
  have hN := nM hx
  have x1 := hx.1
  have x2 := hx.2.1
  refine ⟨Nat.le_of_ble_eq_true rfl, Ok.seg mdX9_wants [18] 30 ?_⟩
  simp only [wp_nil, wp_cons, ↓stp, ↓lI, ↓lL, ↓lR, ↓lIn_0, ↓lIn_1, ↓lIn_2, ↓lIn_3, ↓lLn_0, ↓lLn_1, ↓lLn_2, ↓lLn_3, ↓lRn_0, ↓lRn_1, ↓lRn_2, ↓lRn_3, ↓pI, ↓pL, ↓pR, ↓pA, ↓pN, ↓pV, ↓fp, ↓tsw, ↓oS, ↓spMax, ↓spMin, ↓spAbs, ↓spObj, RI, RLg, b2i_lo, b2i_hi, getL, setL, ltL, killL, isLong, inl, cnd, br, tgt, rcv, rpl, mputI, mputL, mputP, fv, fr, mcat, mcs, entL, entA, rfit, nf_0, nf_1, nf_2, nf_3, nf2_0, nf2_1, b2i_0, b2i_1, RI_b2i, b2i_fit, List.append, List.length, List.replicate, List.cons_append, List.nil_append, List.length_cons, List.length_nil, List.replicate_succ, List.replicate_zero, List.tail_cons, reduceIte, if_true, if_false, ite_true, ite_false, Bool.false_eq_true, true_and, and_true, and_self, false_and, and_false, or_self, or_true, true_or, or_false, false_or, not_true_eq_false, not_false_eq_true, ne_eq, forall_const, implies_true, imp_self, true_implies, false_implies, Nat.reduceAdd, Nat.reduceSub, Nat.reduceMul, Nat.reduceDiv, Nat.reduceMod, Nat.reduceEqDiff, Nat.reduceLT, Nat.reduceLeDiff, Nat.reduceBEq, Nat.add_zero, Nat.zero_add, Nat.le_refl, Nat.not_lt_zero, Nat.succ_eq_add_one, Int.reduceNatCast, Int.cast_ofNat_Int, Int.reduceSub, Int.reduceMul, Int.reduceNeg, Int.reduceLE, Int.reduceLT, Int.reduceToNat, Int.reduceEq, Int.reduceNe, Int.reduceAdd, Option.some.injEq, kX9_wants, rmX9_wants, ↓ofX9_13, ↓ofX9_16, ↓ofX9_35, ↓ocX9_wants_193, ↓spX9_work, x1, x2, G_240, G_241, G_242, G_243, G_244, G_245, G_246, G_247, G_248, G_249, G_250, G_251, G_252, G_253, G_254, G_255, G_256, G_257, G_258, G_259, G_260, G_261, G_262, G_263, G_264, G_265, G_266, G_267, G_268, G_269, G_270, G_271, G_272, PF_240_6, PF_240_7, PF_240_8, PF_240_9, PF_240_10, PF_240_11, PF_240_12, PF_240_13, PF_240_14, PF_240_15, PF_240_16, PF_240_17, PF_240_18, PF_240_19, PF_240_20, PF_240_21, PF_240_22, PF_240_23, PF_240_24, PF_240_26, PF_240_27, PF_240_28, PF_240_29, PF_240_30, PF_240_31, PF_240_32, PF_240_33, PF_240_34, PF_240_35, PF_240_36, PF_240_37]
  refine ⟨by omega, by omega, fun J M T k1 k2 k3 k4 => ?_⟩
  have := lpX9_wn (post := fun r σ' => rfit (some .int) r ∧ K r σ') (U := fun _ => False) (N := N) (L := L) x1 x2 k4 (fun I1 L1 v a b c => ⟨trivial, ?_⟩) (I 240 1).toNat 0 (-2) (fun _ => 0) J M none none (by omega) (by omega) k1 k2 (fun j a b => by omega) (.inl ⟨rfl, fun j a b => by omega⟩)
  · rw [show T - wle T (fun _ => 0) (-2) = 0 by unfold wle; rw [if_pos (by omega)]; omega] at this
    exact this
  · have hf : frW I I1 := fun b' k b0 b1 b2 b3 => a b' k (by omega) (by omega)
    exact h I1 L1 v hf (fun b' k b0 => b b' k (by omega)) (mOK_w hx hf (fun k => a _ _ (by omega) (by omega)) (fun k => b _ _ (by omega))) c
