/-! LapBoardModel: worth, unitsOf, findGains, spend, where, drive, delta, lost -/
def spX9_worth (As : List MV) (σ : MS) (K : Option MV → MS → Prop) : Prop := pR As fun a r => pI r fun w r => pI r fun n r => pN r (a = 240 ∧ σ.2.1 = PF ∧ RI w ∧ RI n ∧ mOK σ.2.2.1 σ.2.2.2 ∧ (¬ (0 ≤ w ∧ w ≤ 2 ∧ setP w n) → ∀ I' : Int → Int → Int, frW σ.2.2.1 I' → mOK I' σ.2.2.2 → I' 240 0 = 1 → K (some (.inr (.inl 0))) (σ.1, σ.2.1, I', σ.2.2.2)) ∧ (0 ≤ w ∧ w ≤ 2 ∧ setP w n → ∀ (I' L' : Int → Int → Int) (A B : Int), frW σ.2.2.1 I' → frWL σ.2.2.2 L' → mOK I' L' → I' 240 0 = 0 → lapT (VM σ.2.2.1) (σ.2.2.1 240 2) (σ.2.2.1 240 3) (σ.2.2.1 240 4) A → lapT (VM σ.2.2.1) (if w = 0 then n else σ.2.2.1 240 2) (if w = 1 then n else σ.2.2.1 240 3) (if w = 2 then n else σ.2.2.1 240 4) B → K (some (.inr (.inl (A - B)))) (σ.1, σ.2.1, I', L')))
def ciX9_worth : CI := (3, 9, 0, 0, spX9_worth)
def kX9_worth (pc : Nat) : List ME := match pc with
  | 0 => [(.aload_n 0, 1, []), (.aload_n 0, 1, []), (.iload_n 1, 1, []), (.iconst 0, 1, []), (.iconst 2, 1, []), (.invokevirtual 128, 3, []), (.ifCond .eq 16, 3, [24]), (.aload_n 0, 1, []), (.iload_n 1, 1, []), (.iload_n 2, 1, []), (.invokevirtual 140, 3, []), (.ifCond .eq 7, 3, [24]), (.iconst 0, 1, []), (.goto 4, 3, [25])]
  | 24 => [(.iconst 1, 1, [])]
  | 25 => [(.putfield 7, 3, []), (.aload_n 0, 1, []), (.getfield 7, 3, []), (.ifCond .le 5, 3, [37]), (.lconst 0, 1, []), (.lreturn, 1, [])]
  | 37 => [(.aload_n 0, 1, []), (.aload_n 0, 1, []), (.getfield 16, 3, []), (.invokevirtual 207, 3, []), (.lstore_n 3, 1, []), (.aload_n 0, 1, []), (.iload_n 1, 1, []), (.iload_n 2, 1, []), (.invokevirtual 144, 3, []), (.istore 5, 2, []), (.aload_n 0, 1, []), (.aload_n 0, 1, []), (.getfield 16, 3, []), (.invokevirtual 207, 3, []), (.lstore 6, 2, []), (.aload_n 0, 1, []), (.iload_n 1, 1, []), (.iload 5, 2, []), (.invokevirtual 144, 3, []), (.istore 8, 2, []), (.lload_n 3, 1, []), (.lload 6, 2, []), (.lsub, 1, []), (.lreturn, 1, [])]
  | _ => []
theorem qX9_worth : ∀ pc, chk cX9_worth pc (kX9_worth pc) = true := by
  intro pc
  unfold kX9_worth
  split <;> first | decide +kernel | exact chk_nil
abbrev rmX9_worth : Room := { frames := 4, cells := 0, slots := 0, locals := 105 }
def aX9_worth (x : Nat) : Option CI := match x with
  | 128 => some ciX9_in
  | 140 => some ciX9_isSet
  | 207 => some ciX9_lapBy
  | 144 => some ciX9_change
  | _ => none
theorem aokX9_worth : ∀ x ci, aX9_worth x = some ci → CalOK RX9 rmX9_worth x ci := by
  intro x ci h
  unfold aX9_worth at h
  split at h
  · cases h; exact cal_V mX9_in (by decide) rfl (List.forall_mem_cons.mpr ⟨(ws_mem (List.mem_of_getElem? (i := 979) (by decide +kernel)) (by decide +kernel)), List.forall_mem_cons.mpr ⟨(ws_mem (List.mem_of_getElem? (i := 981) (by decide +kernel)) (by decide +kernel)), List.forall_mem_cons.mpr ⟨(ws_mem (List.mem_of_getElem? (i := 20) (by decide +kernel)) (by decide +kernel)), List.forall_mem_cons.mpr ⟨(ws_mem (List.mem_of_getElem? (i := 64) (by decide +kernel)) (by decide +kernel)), List.forall_mem_cons.mpr ⟨(ws_mem (List.mem_of_getElem? (i := 982) (by decide +kernel)) (by decide +kernel)), fun _ h => absurd h List.not_mem_nil⟩⟩⟩⟩⟩) rfl (by unfold nice; decide +kernel) (by unfold rfits; decide) ⟨rfl, rfl⟩
  · cases h; exact cal_V mX9_isSet (by decide) rfl (List.forall_mem_cons.mpr ⟨(ws_mem (List.mem_of_getElem? (i := 1007) (by decide +kernel)) (by decide +kernel)), List.forall_mem_cons.mpr ⟨(ws_mem (List.mem_of_getElem? (i := 1009) (by decide +kernel)) (by decide +kernel)), List.forall_mem_cons.mpr ⟨(ws_mem (List.mem_of_getElem? (i := 23) (by decide +kernel)) (by decide +kernel)), List.forall_mem_cons.mpr ⟨(ws_mem (List.mem_of_getElem? (i := 64) (by decide +kernel)) (by decide +kernel)), List.forall_mem_cons.mpr ⟨(ws_mem (List.mem_of_getElem? (i := 1010) (by decide +kernel)) (by decide +kernel)), fun _ h => absurd h List.not_mem_nil⟩⟩⟩⟩⟩) rfl (by unfold nice; decide +kernel) (by unfold rfits; decide) ⟨rfl, rfl⟩
  · cases h; exact cal_V mX9_lapBy (by decide) rfl (List.forall_mem_cons.mpr ⟨(ws_mem (List.mem_of_getElem? (i := 1109) (by decide +kernel)) (by decide +kernel)), List.forall_mem_cons.mpr ⟨(ws_mem (List.mem_of_getElem? (i := 1111) (by decide +kernel)) (by decide +kernel)), List.forall_mem_cons.mpr ⟨(ws_mem (List.mem_of_getElem? (i := 41) (by decide +kernel)) (by decide +kernel)), List.forall_mem_cons.mpr ⟨(ws_mem (List.mem_of_getElem? (i := 64) (by decide +kernel)) (by decide +kernel)), List.forall_mem_cons.mpr ⟨(ws_mem (List.mem_of_getElem? (i := 1112) (by decide +kernel)) (by decide +kernel)), fun _ h => absurd h List.not_mem_nil⟩⟩⟩⟩⟩) rfl (by unfold nice; decide +kernel) (by unfold rfits; decide) ⟨rfl, rfl⟩
  · cases h; exact cal_V mX9_change (by decide) rfl (List.forall_mem_cons.mpr ⟨(ws_mem (List.mem_of_getElem? (i := 1012) (by decide +kernel)) (by decide +kernel)), List.forall_mem_cons.mpr ⟨(ws_mem (List.mem_of_getElem? (i := 1014) (by decide +kernel)) (by decide +kernel)), List.forall_mem_cons.mpr ⟨(ws_mem (List.mem_of_getElem? (i := 24) (by decide +kernel)) (by decide +kernel)), List.forall_mem_cons.mpr ⟨(ws_mem (List.mem_of_getElem? (i := 64) (by decide +kernel)) (by decide +kernel)), List.forall_mem_cons.mpr ⟨(ws_mem (List.mem_of_getElem? (i := 1015) (by decide +kernel)) (by decide +kernel)), fun _ h => absurd h List.not_mem_nil⟩⟩⟩⟩⟩) rfl (by unfold nice; decide +kernel) (by unfold rfits; decide) ⟨rfl, rfl⟩
  · cases h
theorem ocX9_worth_128 (f : Nat → Nat → Nat → Nat → (List MV → MS → (Option MV → MS → Prop) → Prop) → Prop) : oC aX9_worth 128 f = f 4 9 0 0 spX9_in := propext Iff.rfl
theorem ocX9_worth_140 (f : Nat → Nat → Nat → Nat → (List MV → MS → (Option MV → MS → Prop) → Prop) → Prop) : oC aX9_worth 140 f = f 3 9 0 0 spX9_isSet := propext Iff.rfl
theorem ocX9_worth_207 (f : Nat → Nat → Nat → Nat → (List MV → MS → (Option MV → MS → Prop) → Prop) → Prop) : oC aX9_worth 207 f = f 2 9 0 0 spX9_lapBy := propext Iff.rfl
theorem ocX9_worth_144 (f : Nat → Nat → Nat → Nat → (List MV → MS → (Option MV → MS → Prop) → Prop) → Prop) : oC aX9_worth 144 f = f 3 9 0 0 spX9_change := propext Iff.rfl
theorem mdX9_worth : MD RX9 cX9_worth rmX9_worth kX9_worth fX9 aX9_worth zX9 uX9 := ⟨fokX9, zokX9, uokX9, aokX9_worth, qX9_worth⟩
set_option maxRecDepth 100000 in
set_option maxHeartbeats 800000 in
theorem mX9_worth : MOK yX9_worth cX9_worth 9 (some .long) rmX9_worth ciX9_worth := by
  refine mok_of (ini := false) (by decide +kernel) (by decide) rfl rfl ?_
  intro σ As K hrc hl h
  obtain ⟨N, P, I, L⟩ := σ
  have h9 := pR_iff.mp h
  clear h
  obtain ⟨a, r, e9, h⟩ := h9
  subst e9
  have h9 := pI_iff.mp h
  clear h
  obtain ⟨w, r, e9, h⟩ := h9
  subst e9
  have h9 := pI_iff.mp h
  clear h
  obtain ⟨n, r, e9, h⟩ := h9
  subst e9
  have h9 := pN_iff.mp h
  clear h
  obtain ⟨e9, h⟩ := h9
  subst e9
  try dsimp only at h
  obtain ⟨rfl, rfl, hw, hn, hx, h1, h2⟩ := h
  unfold RI at hw hn
  have hN := nM hx
  have fu : ∀ v, frW I (upI I 240 0 v) := fun v b k b0 b1 b2 b3 => if_neg b3
  have mu : ∀ v, mOK (upI I 240 0 v) L := fun v => mOK_w hx (fu v) (fun k => upI_ne (by omega)) (fun _ => rfl)
  have u1 : tOK (VM (upI I 240 0 0)) := (mu 0).1
  have u2 : carOK (VM (upI I 240 0 0)) := (mu 0).2.1
  have u4 : knoOK (upI I 240 0 0) L := (mu 0).2.2.2.1
  have e2 : upI I 240 0 0 240 2 = I 240 2 := upI_nj (by omega)
  have e3 : upI I 240 0 0 240 3 = I 240 3 := upI_nj (by omega)
  have e4 : upI I 240 0 0 240 4 = I 240 4 := upI_nj (by omega)
  refine ⟨Nat.le_of_ble_eq_true rfl, Ok.seg mdX9_worth [25] 60 ?_⟩
  have bad : ¬ (0 ≤ w ∧ w ≤ 2 ∧ setP w n) → Ok RX9 cX9_worth 9 rmX9_worth false none (fun r σ' => rfit (some .long) r ∧ K r σ') (fun _ => False) (25, [some (.inr (.inr (some 240))), some (.inl w), some (.inl n), none, none, none, none, none, none], [.inl 1, .inr (.inr (some 240))], (N, PF, I, L), 0, 0) := fun q => by
    refine Ok.seg mdX9_worth [] 20 ?_
    simp only [wp_nil, wp_cons, ↓stp, ↓lI, ↓lL, ↓lR, ↓lIn_0, ↓lIn_1, ↓lIn_2, ↓lIn_3, ↓lLn_0, ↓lLn_1, ↓lLn_2, ↓lLn_3, ↓lRn_0, ↓lRn_1, ↓lRn_2, ↓lRn_3, ↓pI, ↓pL, ↓pR, ↓pA, ↓pN, ↓pV, ↓fp, ↓tsw, ↓oS, ↓spMax, ↓spMin, ↓spAbs, ↓spObj, RI, RLg, b2i_lo, b2i_hi, getL, setL, ltL, killL, isLong, inl, cnd, br, tgt, rcv, rpl, mputI, mputL, mputP, fv, fr, mcat, mcs, entL, entA, rfit, nf_0, nf_1, nf_2, nf_3, nf2_0, nf2_1, b2i_0, b2i_1, RI_b2i, b2i_fit, List.append, List.length, List.replicate, List.cons_append, List.nil_append, List.length_cons, List.length_nil, List.replicate_succ, List.replicate_zero, List.tail_cons, reduceIte, if_true, if_false, ite_true, ite_false, Bool.false_eq_true, true_and, and_true, and_self, false_and, and_false, or_self, or_true, true_or, or_false, false_or, not_true_eq_false, not_false_eq_true, ne_eq, forall_const, implies_true, imp_self, true_implies, false_implies, Nat.reduceAdd, Nat.reduceSub, Nat.reduceMul, Nat.reduceDiv, Nat.reduceMod, Nat.reduceEqDiff, Nat.reduceLT, Nat.reduceLeDiff, Nat.reduceBEq, Nat.add_zero, Nat.zero_add, Nat.le_refl, Nat.not_lt_zero, Nat.succ_eq_add_one, Int.reduceNatCast, Int.cast_ofNat_Int, Int.reduceSub, Int.reduceMul, Int.reduceNeg, Int.reduceLE, Int.reduceLT, Int.reduceToNat, Int.reduceEq, Int.reduceNe, Int.reduceAdd, Option.some.injEq, kX9_worth, rmX9_worth, ↓ofX9_16, ↓ofX9_7, ↓ocX9_worth_128, ↓spX9_in, ↓ocX9_worth_140, ↓spX9_isSet, ↓ocX9_worth_207, ↓spX9_lapBy, ↓ocX9_worth_144, ↓spX9_change, upI_same, G_240, G_241, G_242, G_243, G_244, G_245, G_246, G_247, G_248, G_249, G_250, G_251, G_252, G_253, G_254, G_255, G_256, G_257, G_258, G_259, G_260, G_261, G_262, G_263, G_264, G_265, G_266, G_267, G_268, G_269, G_270, G_271, G_272, PF_240_6, PF_240_7, PF_240_8, PF_240_9, PF_240_10, PF_240_11, PF_240_12, PF_240_13, PF_240_14, PF_240_15, PF_240_16, PF_240_17, PF_240_18, PF_240_19, PF_240_20, PF_240_21, PF_240_22, PF_240_23, PF_240_24, PF_240_26, PF_240_27, PF_240_28, PF_240_29, PF_240_30, PF_240_31, PF_240_32, PF_240_33, PF_240_34, PF_240_35, PF_240_36, PF_240_37]
    exact h1 q _ (fu 1) (mu 1) upI_same
  have good : (0 ≤ w ∧ w ≤ 2 ∧ setP w n) → Ok RX9 cX9_worth 9 rmX9_worth false none (fun r σ' => rfit (some .long) r ∧ K r σ') (fun _ => False) (25, [some (.inr (.inr (some 240))), some (.inl w), some (.inl n), none, none, none, none, none, none], [.inl 0, .inr (.inr (some 240))], (N, PF, I, L), 0, 0) := fun q => by
    refine Ok.seg mdX9_worth [] 60 ?_
    simp only [wp_nil, wp_cons, ↓stp, ↓lI, ↓lL, ↓lR, ↓lIn_0, ↓lIn_1, ↓lIn_2, ↓lIn_3, ↓lLn_0, ↓lLn_1, ↓lLn_2, ↓lLn_3, ↓lRn_0, ↓lRn_1, ↓lRn_2, ↓lRn_3, ↓pI, ↓pL, ↓pR, ↓pA, ↓pN, ↓pV, ↓fp, ↓tsw, ↓oS, ↓spMax, ↓spMin, ↓spAbs, ↓spObj, RI, RLg, b2i_lo, b2i_hi, getL, setL, ltL, killL, isLong, inl, cnd, br, tgt, rcv, rpl, mputI, mputL, mputP, fv, fr, mcat, mcs, entL, entA, rfit, nf_0, nf_1, nf_2, nf_3, nf2_0, nf2_1, b2i_0, b2i_1, RI_b2i, b2i_fit, List.append, List.length, List.replicate, List.cons_append, List.nil_append, List.length_cons, List.length_nil, List.replicate_succ, List.replicate_zero, List.tail_cons, reduceIte, if_true, if_false, ite_true, ite_false, Bool.false_eq_true, true_and, and_true, and_self, false_and, and_false, or_self, or_true, true_or, or_false, false_or, not_true_eq_false, not_false_eq_true, ne_eq, forall_const, implies_true, imp_self, true_implies, false_implies, Nat.reduceAdd, Nat.reduceSub, Nat.reduceMul, Nat.reduceDiv, Nat.reduceMod, Nat.reduceEqDiff, Nat.reduceLT, Nat.reduceLeDiff, Nat.reduceBEq, Nat.add_zero, Nat.zero_add, Nat.le_refl, Nat.not_lt_zero, Nat.succ_eq_add_one, Int.reduceNatCast, Int.cast_ofNat_Int, Int.reduceSub, Int.reduceMul, Int.reduceNeg, Int.reduceLE, Int.reduceLT, Int.reduceToNat, Int.reduceEq, Int.reduceNe, Int.reduceAdd, Option.some.injEq, kX9_worth, rmX9_worth, ↓ofX9_16, ↓ofX9_7, ↓ocX9_worth_128, ↓spX9_in, ↓ocX9_worth_140, ↓spX9_isSet, ↓ocX9_worth_207, ↓spX9_lapBy, ↓ocX9_worth_144, ↓spX9_change, upI_same, u1, u2, u4, e2, e3, e4, G_240, G_241, G_242, G_243, G_244, G_245, G_246, G_247, G_248, G_249, G_250, G_251, G_252, G_253, G_254, G_255, G_256, G_257, G_258, G_259, G_260, G_261, G_262, G_263, G_264, G_265, G_266, G_267, G_268, G_269, G_270, G_271, G_272, PF_240_6, PF_240_7, PF_240_8, PF_240_9, PF_240_10, PF_240_11, PF_240_12, PF_240_13, PF_240_14, PF_240_15, PF_240_16, PF_240_17, PF_240_18, PF_240_19, PF_240_20, PF_240_21, PF_240_22, PF_240_23, PF_240_24, PF_240_26, PF_240_27, PF_240_28, PF_240_29, PF_240_30, PF_240_31, PF_240_32, PF_240_33, PF_240_34, PF_240_35, PF_240_36, PF_240_37]
    refine ⟨by omega, by omega, fun J1 M1 A k1 k2 k3 k4 => ?_⟩
    obtain ⟨m1, f1⟩ := mOK_k (mu 0) k1 k3
    have hN1 := nM m1
    have j2 : J1 240 2 = I 240 2 := (k1 _ _ (by omega) (by omega) (by omega)).trans e2
    have j3 : J1 240 3 = I 240 3 := (k1 _ _ (by omega) (by omega) (by omega)).trans e3
    have j4 : J1 240 4 = I 240 4 := (k1 _ _ (by omega) (by omega) (by omega)).trans e4
    have eV1 : VM J1 = VM I := f1.V.trans (fu 0).V
    refine ⟨q.1, by omega, fun J2 c1 c2 c3 c4 => ?_⟩
    have m2 := mOK_ch m1 q.2.2 c1 c2 c3 c4
    have hN2 := nM m2
    refine ⟨by omega, by omega, m2.1, m2.2.1, m2.2.2.2.1, fun J3 M3 B d1 d2 d3 d4 => ?_⟩
    obtain ⟨m3, f3⟩ := mOK_k m2 d1 d3
    have ts12 : tsame (VM J1) (VM J2) := ts_V (c1 _ _ (by omega) (by omega)) hN1.1.2 (fun b k _ _ => c1 _ _ (by omega) (by omega))
    have old : setP w (J1 240 (2 + w)) := by
      unfold setP
      rcases (show w = 0 ∨ w = 1 ∨ w = 2 by omega) with rfl | rfl | rfl
      · have : J1 240 (2 + 0) = J1 240 2 := rfl
        omega
      · have : J1 240 (2 + 1) = J1 240 3 := rfl
        omega
      · have : J1 240 (2 + 2) = J1 240 4 := rfl
        omega
    refine ⟨q.1, by omega, fun J4 g1 g2 g3 g4 => ?_⟩
    have m4 := mOK_ch m3 old g1 g2 g3 g4
    have hf : frW I J4 := fun b k b0 b1 b2 b3 => by
      by_cases z : b = 240 ∧ k = 2 + w
      · rw [z.1, z.2, g4, k1 _ _ (by omega) (by omega) (by omega)]; exact upI_nj (by omega)
      · rw [g1 b k z (by omega), d1 b k (by omega) (by omega) (by omega), c1 b k z (by omega), k1 b k (by omega) (by omega) (by omega)]; exact fu 0 b k b0 b1 b2 b3
    have hT : lapT (VM I) (if w = 0 then n else I 240 2) (if w = 1 then n else I 240 3) (if w = 2 then n else I 240 4) B := by
      have := (lapT_iff ts12).mpr d4
      rw [eV1] at this
      rcases (show w = 0 ∨ w = 1 ∨ w = 2 by omega) with rfl | rfl | rfl
      · rw [if_pos rfl, if_neg (by omega), if_neg (by omega)]
        rwa [show J2 240 2 = n from c4, c1 240 3 (by omega) (by omega), c1 240 4 (by omega) (by omega), j3, j4] at this
      · rw [if_neg (by omega), if_pos rfl, if_neg (by omega)]
        rwa [show J2 240 3 = n from c4, c1 240 2 (by omega) (by omega), c1 240 4 (by omega) (by omega), j2, j4] at this
      · rw [if_neg (by omega), if_neg (by omega), if_pos rfl]
        rwa [show J2 240 4 = n from c4, c1 240 2 (by omega) (by omega), c1 240 3 (by omega) (by omega), j2, j3] at this
    rw [(fu 0).V] at k4
    exact h2 q J4 M3 A B hf (fun b k b0 => by rw [d2 b k (by omega) (by omega)]; exact k2 b k (by omega) (by omega)) m4 (by
      rw [g1 240 0 (by omega) (by omega), d1 240 0 (by omega) (by omega) (by omega), c1 240 0 (by omega) (by omega), k1 240 0 (by omega) (by omega) (by omega)]; exact upI_same) k4 hT
  simp only [wp_nil, wp_cons, ↓stp, ↓lI, ↓lL, ↓lR, ↓lIn_0, ↓lIn_1, ↓lIn_2, ↓lIn_3, ↓lLn_0, ↓lLn_1, ↓lLn_2, ↓lLn_3, ↓lRn_0, ↓lRn_1, ↓lRn_2, ↓lRn_3, ↓pI, ↓pL, ↓pR, ↓pA, ↓pN, ↓pV, ↓fp, ↓tsw, ↓oS, ↓spMax, ↓spMin, ↓spAbs, ↓spObj, RI, RLg, b2i_lo, b2i_hi, getL, setL, ltL, killL, isLong, inl, cnd, br, tgt, rcv, rpl, mputI, mputL, mputP, fv, fr, mcat, mcs, entL, entA, rfit, nf_0, nf_1, nf_2, nf_3, nf2_0, nf2_1, b2i_0, b2i_1, RI_b2i, b2i_fit, List.append, List.length, List.replicate, List.cons_append, List.nil_append, List.length_cons, List.length_nil, List.replicate_succ, List.replicate_zero, List.tail_cons, reduceIte, if_true, if_false, ite_true, ite_false, Bool.false_eq_true, true_and, and_true, and_self, false_and, and_false, or_self, or_true, true_or, or_false, false_or, not_true_eq_false, not_false_eq_true, ne_eq, forall_const, implies_true, imp_self, true_implies, false_implies, Nat.reduceAdd, Nat.reduceSub, Nat.reduceMul, Nat.reduceDiv, Nat.reduceMod, Nat.reduceEqDiff, Nat.reduceLT, Nat.reduceLeDiff, Nat.reduceBEq, Nat.add_zero, Nat.zero_add, Nat.le_refl, Nat.not_lt_zero, Nat.succ_eq_add_one, Int.reduceNatCast, Int.cast_ofNat_Int, Int.reduceSub, Int.reduceMul, Int.reduceNeg, Int.reduceLE, Int.reduceLT, Int.reduceToNat, Int.reduceEq, Int.reduceNe, Int.reduceAdd, Option.some.injEq, kX9_worth, rmX9_worth, ↓ofX9_16, ↓ofX9_7, ↓ocX9_worth_128, ↓spX9_in, ↓ocX9_worth_140, ↓spX9_isSet, ↓ocX9_worth_207, ↓spX9_lapBy, ↓ocX9_worth_144, ↓spX9_change, G_240, G_241, G_242, G_243, G_244, G_245, G_246, G_247, G_248, G_249, G_250, G_251, G_252, G_253, G_254, G_255, G_256, G_257, G_258, G_259, G_260, G_261, G_262, G_263, G_264, G_265, G_266, G_267, G_268, G_269, G_270, G_271, G_272, PF_240_6, PF_240_7, PF_240_8, PF_240_9, PF_240_10, PF_240_11, PF_240_12, PF_240_13, PF_240_14, PF_240_15, PF_240_16, PF_240_17, PF_240_18, PF_240_19, PF_240_20, PF_240_21, PF_240_22, PF_240_23, PF_240_24, PF_240_26, PF_240_27, PF_240_28, PF_240_29, PF_240_30, PF_240_31, PF_240_32, PF_240_33, PF_240_34, PF_240_35, PF_240_36, PF_240_37]
  refine ⟨by omega, fun q => bad (fun z => by omega), fun q => ⟨by omega, by omega, fun v hv hv2 => ?_⟩⟩
  rcases hv with rfl | rfl
  · exact ⟨by omega, fun _ => bad (fun z => by have := hv2.mpr z.2.2; omega), fun z => by omega⟩
  · exact ⟨by omega, fun z => by omega, fun _ => good ⟨by omega, by omega, hv2.mp rfl⟩⟩
def mC (I : Int → Int → Int) (i : Int) : Int := (I 242 i).tdiv 10 + 1
def mG (I : Int → Int → Int) (i : Int) : Int := (tmM I i).tdiv 10
def spX9_unitsOf (As : List MV) (σ : MS) (K : Option MV → MS → Prop) : Prop := pR As fun a r => pI r fun i r => pN r (a = 240 ∧ σ.2.1 = PF ∧ 0 ≤ i ∧ i < 30 ∧ RI (σ.2.2.1 242 i) ∧ K (some (.inl (mC σ.2.2.1 i))) σ)
def ciX9_unitsOf : CI := (2, 9, 0, 0, spX9_unitsOf)
def kX9_unitsOf (pc : Nat) : List ME := match pc with
  | 0 => [(.aload_n 0, 1, []), (.getfield 32, 3, []), (.iload_n 1, 1, []), (.iaload, 1, []), (.bipush 10, 2, []), (.idiv, 1, []), (.iconst 1, 1, []), (.iadd, 1, []), (.ireturn, 1, [])]
  | _ => []
theorem qX9_unitsOf : ∀ pc, chk cX9_unitsOf pc (kX9_unitsOf pc) = true := by
  intro pc
  unfold kX9_unitsOf
  split <;> first | decide +kernel | exact chk_nil
abbrev rmX9_unitsOf : Room := { frames := 0, cells := 0, slots := 0, locals := 0 }
def aX9_unitsOf (_ : Nat) : Option CI := none
theorem aokX9_unitsOf : ∀ x ci, aX9_unitsOf x = some ci → CalOK RX9 rmX9_unitsOf x ci := fun _ _ h => by cases h
theorem mdX9_unitsOf : MD RX9 cX9_unitsOf rmX9_unitsOf kX9_unitsOf fX9 aX9_unitsOf zX9 uX9 := ⟨fokX9, zokX9, uokX9, aokX9_unitsOf, qX9_unitsOf⟩
set_option maxRecDepth 100000 in
set_option maxHeartbeats 800000 in
theorem mX9_unitsOf : MOK yX9_unitsOf cX9_unitsOf 2 (some .int) rmX9_unitsOf ciX9_unitsOf := by
  refine mok_of (ini := false) (by decide +kernel) (by decide) rfl rfl ?_
  intro σ As K hrc hl h
  obtain ⟨N, P, I, L⟩ := σ
  have h9 := pR_iff.mp h
  clear h
  obtain ⟨a, r, e9, h⟩ := h9
  subst e9
  have h9 := pI_iff.mp h
  clear h
  obtain ⟨i, r, e9, h⟩ := h9
  subst e9
  have h9 := pN_iff.mp h
  clear h
  obtain ⟨e9, h⟩ := h9
  subst e9
  try dsimp only at h
  obtain ⟨rfl, rfl, i0, i1, hr, h⟩ := h
  unfold RI at hr
  refine ⟨Nat.le_of_ble_eq_true rfl, Ok.seg mdX9_unitsOf [] 20 ?_⟩
  simp only [wp_nil, wp_cons, ↓stp, ↓lI, ↓lL, ↓lR, ↓lIn_0, ↓lIn_1, ↓lIn_2, ↓lIn_3, ↓lLn_0, ↓lLn_1, ↓lLn_2, ↓lLn_3, ↓lRn_0, ↓lRn_1, ↓lRn_2, ↓lRn_3, ↓pI, ↓pL, ↓pR, ↓pA, ↓pN, ↓pV, ↓fp, ↓tsw, ↓oS, ↓spMax, ↓spMin, ↓spAbs, ↓spObj, RI, RLg, b2i_lo, b2i_hi, getL, setL, ltL, killL, isLong, inl, cnd, br, tgt, rcv, rpl, mputI, mputL, mputP, fv, fr, mcat, mcs, entL, entA, rfit, nf_0, nf_1, nf_2, nf_3, nf2_0, nf2_1, b2i_0, b2i_1, RI_b2i, b2i_fit, List.append, List.length, List.replicate, List.cons_append, List.nil_append, List.length_cons, List.length_nil, List.replicate_succ, List.replicate_zero, List.tail_cons, reduceIte, if_true, if_false, ite_true, ite_false, Bool.false_eq_true, true_and, and_true, and_self, false_and, and_false, or_self, or_true, true_or, or_false, false_or, not_true_eq_false, not_false_eq_true, ne_eq, forall_const, implies_true, imp_self, true_implies, false_implies, Nat.reduceAdd, Nat.reduceSub, Nat.reduceMul, Nat.reduceDiv, Nat.reduceMod, Nat.reduceEqDiff, Nat.reduceLT, Nat.reduceLeDiff, Nat.reduceBEq, Nat.add_zero, Nat.zero_add, Nat.le_refl, Nat.not_lt_zero, Nat.succ_eq_add_one, Int.reduceNatCast, Int.cast_ofNat_Int, Int.reduceSub, Int.reduceMul, Int.reduceNeg, Int.reduceLE, Int.reduceLT, Int.reduceToNat, Int.reduceEq, Int.reduceNe, Int.reduceAdd, Option.some.injEq, kX9_unitsOf, rmX9_unitsOf, ↓ofX9_32, G_240, G_241, G_242, G_243, G_244, G_245, G_246, G_247, G_248, G_249, G_250, G_251, G_252, G_253, G_254, G_255, G_256, G_257, G_258, G_259, G_260, G_261, G_262, G_263, G_264, G_265, G_266, G_267, G_268, G_269, G_270, G_271, G_272, PF_240_6, PF_240_7, PF_240_8, PF_240_9, PF_240_10, PF_240_11, PF_240_12, PF_240_13, PF_240_14, PF_240_15, PF_240_16, PF_240_17, PF_240_18, PF_240_19, PF_240_20, PF_240_21, PF_240_22, PF_240_23, PF_240_24, PF_240_26, PF_240_27, PF_240_28, PF_240_29, PF_240_30, PF_240_31, PF_240_32, PF_240_33, PF_240_34, PF_240_35, PF_240_36, PF_240_37]
  exact ⟨i0, i1, by omega, h⟩
def spX9_findGains (As : List MV) (σ : MS) (K : Option MV → MS → Prop) : Prop := pR As fun a r => pN r (a = 240 ∧ σ.2.1 = PF ∧ mOK σ.2.2.1 σ.2.2.2 ∧ ∀ (I' L' : Int → Int → Int), frW σ.2.2.1 I' → frWL σ.2.2.2 L' → mOK I' L' → bestM I' → (∀ (i : Nat) u, (i : Int) ≤ I' 240 1 → 0 ≤ u → u ≤ 60 → I' 257 (61 * i + u) = gv (mC I') (mG I') i u) → K none (σ.1, σ.2.1, I', L'))
def ciX9_findGains : CI := (1, 9, 0, 0, spX9_findGains)
def kX9_findGains (pc : Nat) : List ME := match pc with
  | 0 => [(.aload_n 0, 1, []), (.invokevirtual 204, 3, []), (.iconst 0, 1, []), (.istore_n 1, 1, [])]
  | 6 => [(.iload_n 1, 1, []), (.bipush 61, 2, []), (.if_icmp .ge 16, 3, [25]), (.aload_n 0, 1, []), (.getfield 79, 3, []), (.iload_n 1, 1, []), (.iconst 0, 1, []), (.iastore, 1, []), (.iinc 1 1, 3, []), (.goto (-16), 3, [6])]
  | 25 => [(.iconst 0, 1, []), (.istore_n 1, 1, [])]
  | 27 => [(.iload_n 1, 1, []), (.aload_n 0, 1, []), (.getfield 13, 3, []), (.if_icmp .ge 101, 3, [133]), (.iconst 0, 1, []), (.istore_n 2, 1, [])]
  | 37 => [(.iload_n 2, 1, []), (.bipush 61, 2, []), (.if_icmp .ge 87, 3, [127]), (.aload_n 0, 1, []), (.getfield 79, 3, []), (.bipush 61, 2, []), (.iload_n 1, 1, []), (.imul, 1, []), (.iload_n 2, 1, []), (.iadd, 1, []), (.iaload, 1, []), (.istore_n 3, 1, []), (.iload_n 2, 1, []), (.aload_n 0, 1, []), (.iload_n 1, 1, []), (.invokevirtual 210, 3, []), (.if_icmp .ge 7, 3, [68]), (.iconst (-1), 1, []), (.goto 29, 3, [94])]
  | 68 => [(.aload_n 0, 1, []), (.getfield 79, 3, []), (.bipush 61, 2, []), (.iload_n 1, 1, []), (.imul, 1, []), (.iload_n 2, 1, []), (.iadd, 1, []), (.aload_n 0, 1, []), (.iload_n 1, 1, []), (.invokevirtual 210, 3, []), (.isub, 1, []), (.iaload, 1, []), (.aload_n 0, 1, []), (.iload_n 1, 1, []), (.invokevirtual 167, 3, []), (.bipush 10, 2, []), (.idiv, 1, []), (.iadd, 1, [])]
  | 94 => [(.istore 4, 2, []), (.aload_n 0, 1, []), (.getfield 79, 3, []), (.bipush 61, 2, []), (.iload_n 1, 1, []), (.iconst 1, 1, []), (.iadd, 1, []), (.imul, 1, []), (.iload_n 2, 1, []), (.iadd, 1, []), (.iload 4, 2, []), (.iload_n 3, 1, []), (.if_icmp .le 8, 3, [119]), (.iload 4, 2, []), (.goto 4, 3, [120])]
  | 119 => [(.iload_n 3, 1, [])]
  | 120 => [(.iastore, 1, []), (.iinc 2 1, 3, []), (.goto (-87), 3, [37])]
  | 127 => [(.iinc 1 1, 3, []), (.goto (-103), 3, [27])]
  | 133 => [(.return_, 1, [])]
  | _ => []
theorem qX9_findGains : ∀ pc, chk cX9_findGains pc (kX9_findGains pc) = true := by
  intro pc
  unfold kX9_findGains
  split <;> first | decide +kernel | exact chk_nil
abbrev rmX9_findGains : Room := { frames := 4, cells := 0, slots := 0, locals := 108 }
def aX9_findGains (x : Nat) : Option CI := match x with
  | 204 => some ciX9_findBest
  | 210 => some ciX9_unitsOf
  | 167 => some ciX9_timeAt
  | _ => none
theorem aokX9_findGains : ∀ x ci, aX9_findGains x = some ci → CalOK RX9 rmX9_findGains x ci := by
  intro x ci h
  unfold aX9_findGains at h
  split at h
  · cases h; exact cal_V mX9_findBest (by decide) rfl (List.forall_mem_cons.mpr ⟨(ws_mem (List.mem_of_getElem? (i := 1068) (by decide +kernel)) (by decide +kernel)), List.forall_mem_cons.mpr ⟨(ws_mem (List.mem_of_getElem? (i := 1070) (by decide +kernel)) (by decide +kernel)), List.forall_mem_cons.mpr ⟨(ws_mem (List.mem_of_getElem? (i := 32) (by decide +kernel)) (by decide +kernel)), List.forall_mem_cons.mpr ⟨(ws_mem (List.mem_of_getElem? (i := 64) (by decide +kernel)) (by decide +kernel)), List.forall_mem_cons.mpr ⟨(ws_mem (List.mem_of_getElem? (i := 1071) (by decide +kernel)) (by decide +kernel)), fun _ h => absurd h List.not_mem_nil⟩⟩⟩⟩⟩) rfl (by unfold nice; decide +kernel) (by unfold rfits; decide) ⟨rfl, rfl⟩
  · cases h; exact cal_V mX9_unitsOf (by decide) rfl (List.forall_mem_cons.mpr ⟨(ws_mem (List.mem_of_getElem? (i := 1129) (by decide +kernel)) (by decide +kernel)), List.forall_mem_cons.mpr ⟨(ws_mem (List.mem_of_getElem? (i := 1131) (by decide +kernel)) (by decide +kernel)), List.forall_mem_cons.mpr ⟨(ws_mem (List.mem_of_getElem? (i := 43) (by decide +kernel)) (by decide +kernel)), List.forall_mem_cons.mpr ⟨(ws_mem (List.mem_of_getElem? (i := 64) (by decide +kernel)) (by decide +kernel)), List.forall_mem_cons.mpr ⟨(ws_mem (List.mem_of_getElem? (i := 1132) (by decide +kernel)) (by decide +kernel)), fun _ h => absurd h List.not_mem_nil⟩⟩⟩⟩⟩) rfl (by unfold nice; decide +kernel) (by unfold rfits; decide) ⟨rfl, rfl⟩
  · cases h; exact cal_V mX9_timeAt (by decide) rfl (List.forall_mem_cons.mpr ⟨(ws_mem (List.mem_of_getElem? (i := 1056) (by decide +kernel)) (by decide +kernel)), List.forall_mem_cons.mpr ⟨(ws_mem (List.mem_of_getElem? (i := 1058) (by decide +kernel)) (by decide +kernel)), List.forall_mem_cons.mpr ⟨(ws_mem (List.mem_of_getElem? (i := 30) (by decide +kernel)) (by decide +kernel)), List.forall_mem_cons.mpr ⟨(ws_mem (List.mem_of_getElem? (i := 64) (by decide +kernel)) (by decide +kernel)), List.forall_mem_cons.mpr ⟨(ws_mem (List.mem_of_getElem? (i := 1059) (by decide +kernel)) (by decide +kernel)), fun _ h => absurd h List.not_mem_nil⟩⟩⟩⟩⟩) rfl (by unfold nice; decide +kernel) (by unfold rfits; decide) ⟨rfl, rfl⟩
  · cases h
theorem ocX9_findGains_204 (f : Nat → Nat → Nat → Nat → (List MV → MS → (Option MV → MS → Prop) → Prop) → Prop) : oC aX9_findGains 204 f = f 1 9 0 0 spX9_findBest := propext Iff.rfl
theorem ocX9_findGains_210 (f : Nat → Nat → Nat → Nat → (List MV → MS → (Option MV → MS → Prop) → Prop) → Prop) : oC aX9_findGains 210 f = f 2 9 0 0 spX9_unitsOf := propext Iff.rfl
theorem ocX9_findGains_167 (f : Nat → Nat → Nat → Nat → (List MV → MS → (Option MV → MS → Prop) → Prop) → Prop) : oC aX9_findGains 167 f = f 2 9 0 0 spX9_timeAt := propext Iff.rfl
theorem mdX9_findGains : MD RX9 cX9_findGains rmX9_findGains kX9_findGains fX9 aX9_findGains zX9 uX9 := ⟨fokX9, zokX9, uokX9, aokX9_findGains, qX9_findGains⟩
theorem mC_rng {I : Int → Int → Int} (ht : tOK (VM I)) {i : Int} (i0 : 0 ≤ i) (i1 : i < I 240 1) : 1 ≤ mC I i ∧ mC I i ≤ 10 := by
  have hs := stM ht i0 i1
  have := td10 (x := I 242 i) (by omega)
  unfold mC
  omega
theorem mG_rng {I : Int → Int → Int} (ht : tOK (VM I)) (hp : pacM I) {i : Int} (i0 : 0 ≤ i) (i1 : i < I 240 1) : 0 ≤ mG I i ∧ mG I i ≤ 10100 := by
  have h := tmM_rng ht hp i0 i1
  have := td10 (x := tmM I i) (by omega)
  unfold mG
  omega
set_option maxHeartbeats 1600000 in
set_option maxRecDepth 100000 in
theorem lpX9_h2 {post : Option MV → MS → Prop} {U : Pt → Prop} {N : Nat} {I L : Int → Int → Int} {i : Nat} (ht : tOK (VM I)) (hl : lanM I) (hp : pacM I) (hi : (i : Int) < I 240 1)
    (h : ∀ (I1 : Int → Int → Int) (t3 t4 : Option MV), (∀ b k, b ≠ 257 → I1 b k = I b k) → (∀ (j : Nat) u, j ≤ i + 1 → 0 ≤ u → u ≤ 60 → I1 257 (61 * j + u) = gv (mC I) (mG I) j u) → Ok RX9 cX9_findGains 5 rmX9_findGains false none post U (127, [some (.inr (.inr (some 240))), some (.inl i), some (.inl 61), t3, t4], [], (N, PF, I1, L), 0, 0)) :
    ∀ (m : Nat) (u : Int) (I1 : Int → Int → Int) (t3 t4 : Option MV), u + m = 61 → 0 ≤ u → (∀ b k, b ≠ 257 → I1 b k = I b k) → (∀ (j : Nat) u, j ≤ i → 0 ≤ u → u ≤ 60 → I1 257 (61 * j + u) = gv (mC I) (mG I) j u) → (∀ u', 0 ≤ u' → u' < u → I1 257 (61 * ((i : Int) + 1) + u') = gv (mC I) (mG I) (i + 1) u') →
    Ok RX9 cX9_findGains 5 rmX9_findGains false none post U (37, [some (.inr (.inr (some 240))), some (.inl i), some (.inl u), t3, t4], [], (N, PF, I1, L), 0, 0)
  | 0, u, I1, t3, t4, hu, u0, h1, h2, h3 => by
    refine Ok.seg mdX9_findGains [37, 127] 12 ?_
    simp only [wp_nil, wp_cons, ↓stp, ↓lI, ↓lL, ↓lR, ↓lIn_0, ↓lIn_1, ↓lIn_2, ↓lIn_3, ↓lLn_0, ↓lLn_1, ↓lLn_2, ↓lLn_3, ↓lRn_0, ↓lRn_1, ↓lRn_2, ↓lRn_3, ↓pI, ↓pL, ↓pR, ↓pA, ↓pN, ↓pV, ↓fp, ↓tsw, ↓oS, ↓spMax, ↓spMin, ↓spAbs, ↓spObj, RI, RLg, b2i_lo, b2i_hi, getL, setL, ltL, killL, isLong, inl, cnd, br, tgt, rcv, rpl, mputI, mputL, mputP, fv, fr, mcat, mcs, entL, entA, rfit, nf_0, nf_1, nf_2, nf_3, nf2_0, nf2_1, b2i_0, b2i_1, RI_b2i, b2i_fit, List.append, List.length, List.replicate, List.cons_append, List.nil_append, List.length_cons, List.length_nil, List.replicate_succ, List.replicate_zero, List.tail_cons, reduceIte, if_true, if_false, ite_true, ite_false, Bool.false_eq_true, true_and, and_true, and_self, false_and, and_false, or_self, or_true, true_or, or_false, false_or, not_true_eq_false, not_false_eq_true, ne_eq, forall_const, implies_true, imp_self, true_implies, false_implies, Nat.reduceAdd, Nat.reduceSub, Nat.reduceMul, Nat.reduceDiv, Nat.reduceMod, Nat.reduceEqDiff, Nat.reduceLT, Nat.reduceLeDiff, Nat.reduceBEq, Nat.add_zero, Nat.zero_add, Nat.le_refl, Nat.not_lt_zero, Nat.succ_eq_add_one, Int.reduceNatCast, Int.cast_ofNat_Int, Int.reduceSub, Int.reduceMul, Int.reduceNeg, Int.reduceLE, Int.reduceLT, Int.reduceToNat, Int.reduceEq, Int.reduceNe, Int.reduceAdd, Option.some.injEq, kX9_findGains, rmX9_findGains, ↓ofX9_13, ↓ofX9_79, ↓ocX9_findGains_204, ↓spX9_findBest, ↓ocX9_findGains_210, ↓spX9_unitsOf, ↓ocX9_findGains_167, ↓spX9_timeAt, G_240, G_241, G_242, G_243, G_244, G_245, G_246, G_247, G_248, G_249, G_250, G_251, G_252, G_253, G_254, G_255, G_256, G_257, G_258, G_259, G_260, G_261, G_262, G_263, G_264, G_265, G_266, G_267, G_268, G_269, G_270, G_271, G_272, PF_240_6, PF_240_7, PF_240_8, PF_240_9, PF_240_10, PF_240_11, PF_240_12, PF_240_13, PF_240_14, PF_240_15, PF_240_16, PF_240_17, PF_240_18, PF_240_19, PF_240_20, PF_240_21, PF_240_22, PF_240_23, PF_240_24, PF_240_26, PF_240_27, PF_240_28, PF_240_29, PF_240_30, PF_240_31, PF_240_32, PF_240_33, PF_240_34, PF_240_35, PF_240_36, PF_240_37]
    rw [show u = 61 by omega] at h3 ⊢
    refine ⟨by omega, fun _ => h I1 _ _ h1 (fun j u' j1 a b => ?_), fun q => by omega⟩
    by_cases e : j = i + 1
    · rw [e, show ((i + 1 : Nat) : Int) = (i : Int) + 1 by omega]; exact h3 u' a (by omega)
    · exact h2 j u' (by omega) a b
  | m + 1, u, I1, t3, t4, hu, u0, h1, h2, h3 => by
    have ih := lpX9_h2 (U := U) (post := post) (N := N) (L := L) ht hl hp hi h m (u + 1)
    have y2 : I 240 1 ≤ 30 := ht.2.1
    have hst := stM ht (i := i) (by omega) hi
    have hc := mC_rng ht (i := i) (by omega) hi
    have hg := mG_rng ht hp (i := i) (by omega) hi
    have htm := tmM_rng ht hp (i := i) (by omega) hi
    have hpi := hp i (by omega) hi
    have e242 : I1 242 = I 242 := funext fun k => h1 _ _ (by omega)
    have e250 : I1 250 = I 250 := funext fun k => h1 _ _ (by omega)
    have e251 : I1 251 = I 251 := funext fun k => h1 _ _ (by omega)
    have ec : mC I1 i = mC I i := by unfold mC; rw [e242]
    have et : tmv (I 242 i) (lch (I 250) i) (I 251 i) = tmM I i := rfl
    have eg : (tmM I i).tdiv 10 = mG I i := rfl
    have gr := fun w => gv_rng (c := mC I) (g := mG I) (n := i) (M := 10100) (fun j a b => mG_rng ht hp (by omega) (by omega)) i w (Nat.le_refl _)
    have gu := gr u
    have gc := gr (u - mC I i)
    have eu := h2 i u (Nat.le_refl _) u0 (by omega)
    have fin : ∀ v t3 t4, v = gv (mC I) (mG I) (i + 1) u → Ok RX9 cX9_findGains 5 rmX9_findGains false none post U (37, [some (.inr (.inr (some 240))), some (.inl i), some (.inl (u + 1)), t3, t4], [], (N, PF, upI I1 257 (61 * ((i : Int) + 1) + u) v, L), 0, 0) := fun v t3 t4 hv => by
      refine ih _ t3 t4 (by omega) (by omega) (fun b k hb => by rw [upI_ne hb]; exact h1 b k hb) (fun j w j1 a b => by rw [upI_nj (by omega)]; exact h2 j w j1 a b) (fun w a b => ?_)
      by_cases e : w = u
      · rw [e, upI_same]; exact hv
      · rw [upI_nj (by omega)]; exact h3 w a (by omega)
    have eg1 : gv (mC I) (mG I) (i + 1) u = if mC I i ≤ u then mxv (gv (mC I) (mG I) i u) (gv (mC I) (mG I) i (u - mC I i) + mG I i) else gv (mC I) (mG I) i u := rfl
    unfold mxv at eg1
    refine Ok.seg mdX9_findGains [37, 127] 80 ?_
    simp only [wp_nil, wp_cons, ↓stp, ↓lI, ↓lL, ↓lR, ↓lIn_0, ↓lIn_1, ↓lIn_2, ↓lIn_3, ↓lLn_0, ↓lLn_1, ↓lLn_2, ↓lLn_3, ↓lRn_0, ↓lRn_1, ↓lRn_2, ↓lRn_3, ↓pI, ↓pL, ↓pR, ↓pA, ↓pN, ↓pV, ↓fp, ↓tsw, ↓oS, ↓spMax, ↓spMin, ↓spAbs, ↓spObj, RI, RLg, b2i_lo, b2i_hi, getL, setL, ltL, killL, isLong, inl, cnd, br, tgt, rcv, rpl, mputI, mputL, mputP, fv, fr, mcat, mcs, entL, entA, rfit, nf_0, nf_1, nf_2, nf_3, nf2_0, nf2_1, b2i_0, b2i_1, RI_b2i, b2i_fit, List.append, List.length, List.replicate, List.cons_append, List.nil_append, List.length_cons, List.length_nil, List.replicate_succ, List.replicate_zero, List.tail_cons, reduceIte, if_true, if_false, ite_true, ite_false, Bool.false_eq_true, true_and, and_true, and_self, false_and, and_false, or_self, or_true, true_or, or_false, false_or, not_true_eq_false, not_false_eq_true, ne_eq, forall_const, implies_true, imp_self, true_implies, false_implies, Nat.reduceAdd, Nat.reduceSub, Nat.reduceMul, Nat.reduceDiv, Nat.reduceMod, Nat.reduceEqDiff, Nat.reduceLT, Nat.reduceLeDiff, Nat.reduceBEq, Nat.add_zero, Nat.zero_add, Nat.le_refl, Nat.not_lt_zero, Nat.succ_eq_add_one, Int.reduceNatCast, Int.cast_ofNat_Int, Int.reduceSub, Int.reduceMul, Int.reduceNeg, Int.reduceLE, Int.reduceLT, Int.reduceToNat, Int.reduceEq, Int.reduceNe, Int.reduceAdd, Option.some.injEq, kX9_findGains, rmX9_findGains, ↓ofX9_13, ↓ofX9_79, ↓ocX9_findGains_204, ↓spX9_findBest, ↓ocX9_findGains_210, ↓spX9_unitsOf, ↓ocX9_findGains_167, ↓spX9_timeAt, e242, e250, e251, ec, et, eg, eu, G_240, G_241, G_242, G_243, G_244, G_245, G_246, G_247, G_248, G_249, G_250, G_251, G_252, G_253, G_254, G_255, G_256, G_257, G_258, G_259, G_260, G_261, G_262, G_263, G_264, G_265, G_266, G_267, G_268, G_269, G_270, G_271, G_272, PF_240_6, PF_240_7, PF_240_8, PF_240_9, PF_240_10, PF_240_11, PF_240_12, PF_240_13, PF_240_14, PF_240_15, PF_240_16, PF_240_17, PF_240_18, PF_240_19, PF_240_20, PF_240_21, PF_240_22, PF_240_23, PF_240_24, PF_240_26, PF_240_27, PF_240_28, PF_240_29, PF_240_30, PF_240_31, PF_240_32, PF_240_33, PF_240_34, PF_240_35, PF_240_36, PF_240_37]
    refine ⟨by omega, fun q => by omega, fun q => ⟨by omega, by omega, by omega, by omega, by omega, by omega, by omega, fun q2 => ?_, fun q2 => ?_⟩⟩
    · have ew := h2 i (u - mC I i) (Nat.le_refl _) (by omega) (by omega)
      rw [show 61 * (i : Int) + u - mC I i = 61 * (i : Int) + (u - mC I i) by omega, ew]
      rw [if_pos (by omega)] at eg1
      refine ⟨by omega, by omega, by omega, by omega, by omega, by omega, by omega, by omega, by omega, fun j j0 j1 => hl j j0 (by omega), by omega, by omega, by omega, fun z => ⟨by omega, by omega, fin _ _ _ ?_⟩, fun z => ⟨by omega, by omega, fin _ _ _ ?_⟩⟩
      · rw [eg1]
        by_cases y : gv (mC I) (mG I) i u ≤ gv (mC I) (mG I) i (u - mC I i) + mG I i
        · rw [if_pos y]; omega
        · rw [if_neg y]
      · rw [eg1, if_pos (by omega)]
    · rw [if_neg (by omega)] at eg1
      exact ⟨by omega, fun _ => ⟨by omega, by omega, fin _ _ _ eg1.symm⟩, fun z => by omega⟩
set_option maxHeartbeats 1600000 in
set_option maxRecDepth 100000 in
theorem lpX9_h1 {post : Option MV → MS → Prop} {U : Pt → Prop} {N : Nat} {I L : Int → Int → Int} (ht : tOK (VM I)) (hl : lanM I) (hp : pacM I)
    (h : ∀ (I1 : Int → Int → Int), (∀ b k, b ≠ 257 → I1 b k = I b k) → (∀ (j : Nat) u, (j : Int) ≤ I 240 1 → 0 ≤ u → u ≤ 60 → I1 257 (61 * j + u) = gv (mC I) (mG I) j u) → post none (N, PF, I1, L)) :
    ∀ (m i : Nat) (I1 : Int → Int → Int) (t2 t3 t4 : Option MV), ((i + m : Nat) : Int) = I 240 1 → (∀ b k, b ≠ 257 → I1 b k = I b k) → (∀ (j : Nat) u, j ≤ i → 0 ≤ u → u ≤ 60 → I1 257 (61 * j + u) = gv (mC I) (mG I) j u) →
    Ok RX9 cX9_findGains 5 rmX9_findGains false none post U (27, [some (.inr (.inr (some 240))), some (.inl i), t2, t3, t4], [], (N, PF, I1, L), 0, 0)
  | 0, i, I1, t2, t3, t4, hi, h1, h2 => by
    have y2 : I 240 1 ≤ 30 := ht.2.1
    have e1 : I1 240 1 = I 240 1 := h1 _ _ (by omega)
    refine Ok.seg mdX9_findGains [27] 12 ?_
    simp only [wp_nil, wp_cons, ↓stp, ↓lI, ↓lL, ↓lR, ↓lIn_0, ↓lIn_1, ↓lIn_2, ↓lIn_3, ↓lLn_0, ↓lLn_1, ↓lLn_2, ↓lLn_3, ↓lRn_0, ↓lRn_1, ↓lRn_2, ↓lRn_3, ↓pI, ↓pL, ↓pR, ↓pA, ↓pN, ↓pV, ↓fp, ↓tsw, ↓oS, ↓spMax, ↓spMin, ↓spAbs, ↓spObj, RI, RLg, b2i_lo, b2i_hi, getL, setL, ltL, killL, isLong, inl, cnd, br, tgt, rcv, rpl, mputI, mputL, mputP, fv, fr, mcat, mcs, entL, entA, rfit, nf_0, nf_1, nf_2, nf_3, nf2_0, nf2_1, b2i_0, b2i_1, RI_b2i, b2i_fit, List.append, List.length, List.replicate, List.cons_append, List.nil_append, List.length_cons, List.length_nil, List.replicate_succ, List.replicate_zero, List.tail_cons, reduceIte, if_true, if_false, ite_true, ite_false, Bool.false_eq_true, true_and, and_true, and_self, false_and, and_false, or_self, or_true, true_or, or_false, false_or, not_true_eq_false, not_false_eq_true, ne_eq, forall_const, implies_true, imp_self, true_implies, false_implies, Nat.reduceAdd, Nat.reduceSub, Nat.reduceMul, Nat.reduceDiv, Nat.reduceMod, Nat.reduceEqDiff, Nat.reduceLT, Nat.reduceLeDiff, Nat.reduceBEq, Nat.add_zero, Nat.zero_add, Nat.le_refl, Nat.not_lt_zero, Nat.succ_eq_add_one, Int.reduceNatCast, Int.cast_ofNat_Int, Int.reduceSub, Int.reduceMul, Int.reduceNeg, Int.reduceLE, Int.reduceLT, Int.reduceToNat, Int.reduceEq, Int.reduceNe, Int.reduceAdd, Option.some.injEq, kX9_findGains, rmX9_findGains, ↓ofX9_13, ↓ofX9_79, ↓ocX9_findGains_204, ↓spX9_findBest, ↓ocX9_findGains_210, ↓spX9_unitsOf, ↓ocX9_findGains_167, ↓spX9_timeAt, e1, G_240, G_241, G_242, G_243, G_244, G_245, G_246, G_247, G_248, G_249, G_250, G_251, G_252, G_253, G_254, G_255, G_256, G_257, G_258, G_259, G_260, G_261, G_262, G_263, G_264, G_265, G_266, G_267, G_268, G_269, G_270, G_271, G_272, PF_240_6, PF_240_7, PF_240_8, PF_240_9, PF_240_10, PF_240_11, PF_240_12, PF_240_13, PF_240_14, PF_240_15, PF_240_16, PF_240_17, PF_240_18, PF_240_19, PF_240_20, PF_240_21, PF_240_22, PF_240_23, PF_240_24, PF_240_26, PF_240_27, PF_240_28, PF_240_29, PF_240_30, PF_240_31, PF_240_32, PF_240_33, PF_240_34, PF_240_35, PF_240_36, PF_240_37]
    exact ⟨by omega, by omega, fun _ => h I1 h1 (fun j u a b c => h2 j u (by omega) b c), fun q => by omega⟩
  | m + 1, i, I1, t2, t3, t4, hi, h1, h2 => by
    have ih := lpX9_h1 (U := U) (post := post) (N := N) (L := L) ht hl hp h m (i + 1)
    have y2 : I 240 1 ≤ 30 := ht.2.1
    have e1 : I1 240 1 = I 240 1 := h1 _ _ (by omega)
    refine Ok.seg mdX9_findGains [27, 37] 12 ?_
    simp only [wp_nil, wp_cons, ↓stp, ↓lI, ↓lL, ↓lR, ↓lIn_0, ↓lIn_1, ↓lIn_2, ↓lIn_3, ↓lLn_0, ↓lLn_1, ↓lLn_2, ↓lLn_3, ↓lRn_0, ↓lRn_1, ↓lRn_2, ↓lRn_3, ↓pI, ↓pL, ↓pR, ↓pA, ↓pN, ↓pV, ↓fp, ↓tsw, ↓oS, ↓spMax, ↓spMin, ↓spAbs, ↓spObj, RI, RLg, b2i_lo, b2i_hi, getL, setL, ltL, killL, isLong, inl, cnd, br, tgt, rcv, rpl, mputI, mputL, mputP, fv, fr, mcat, mcs, entL, entA, rfit, nf_0, nf_1, nf_2, nf_3, nf2_0, nf2_1, b2i_0, b2i_1, RI_b2i, b2i_fit, List.append, List.length, List.replicate, List.cons_append, List.nil_append, List.length_cons, List.length_nil, List.replicate_succ, List.replicate_zero, List.tail_cons, reduceIte, if_true, if_false, ite_true, ite_false, Bool.false_eq_true, true_and, and_true, and_self, false_and, and_false, or_self, or_true, true_or, or_false, false_or, not_true_eq_false, not_false_eq_true, ne_eq, forall_const, implies_true, imp_self, true_implies, false_implies, Nat.reduceAdd, Nat.reduceSub, Nat.reduceMul, Nat.reduceDiv, Nat.reduceMod, Nat.reduceEqDiff, Nat.reduceLT, Nat.reduceLeDiff, Nat.reduceBEq, Nat.add_zero, Nat.zero_add, Nat.le_refl, Nat.not_lt_zero, Nat.succ_eq_add_one, Int.reduceNatCast, Int.cast_ofNat_Int, Int.reduceSub, Int.reduceMul, Int.reduceNeg, Int.reduceLE, Int.reduceLT, Int.reduceToNat, Int.reduceEq, Int.reduceNe, Int.reduceAdd, Option.some.injEq, kX9_findGains, rmX9_findGains, ↓ofX9_13, ↓ofX9_79, ↓ocX9_findGains_204, ↓spX9_findBest, ↓ocX9_findGains_210, ↓spX9_unitsOf, ↓ocX9_findGains_167, ↓spX9_timeAt, e1, G_240, G_241, G_242, G_243, G_244, G_245, G_246, G_247, G_248, G_249, G_250, G_251, G_252, G_253, G_254, G_255, G_256, G_257, G_258, G_259, G_260, G_261, G_262, G_263, G_264, G_265, G_266, G_267, G_268, G_269, G_270, G_271, G_272, PF_240_6, PF_240_7, PF_240_8, PF_240_9, PF_240_10, PF_240_11, PF_240_12, PF_240_13, PF_240_14, PF_240_15, PF_240_16, PF_240_17, PF_240_18, PF_240_19, PF_240_20, PF_240_21, PF_240_22, PF_240_23, PF_240_24, PF_240_26, PF_240_27, PF_240_28, PF_240_29, PF_240_30, PF_240_31, PF_240_32, PF_240_33, PF_240_34, PF_240_35, PF_240_36, PF_240_37]
    refine ⟨by omega, by omega, fun q => by omega, fun q => ?_⟩
    refine lpX9_h2 (I := I) ht hl hp (by omega) (fun I2 t3 t4 k1 k2 => ?_) 61 0 I1 _ _ (by omega) (by omega) h1 h2 (fun u a b => by omega)
    refine Ok.seg mdX9_findGains [27] 12 ?_
    simp only [wp_nil, wp_cons, ↓stp, ↓lI, ↓lL, ↓lR, ↓lIn_0, ↓lIn_1, ↓lIn_2, ↓lIn_3, ↓lLn_0, ↓lLn_1, ↓lLn_2, ↓lLn_3, ↓lRn_0, ↓lRn_1, ↓lRn_2, ↓lRn_3, ↓pI, ↓pL, ↓pR, ↓pA, ↓pN, ↓pV, ↓fp, ↓tsw, ↓oS, ↓spMax, ↓spMin, ↓spAbs, ↓spObj, RI, RLg, b2i_lo, b2i_hi, getL, setL, ltL, killL, isLong, inl, cnd, br, tgt, rcv, rpl, mputI, mputL, mputP, fv, fr, mcat, mcs, entL, entA, rfit, nf_0, nf_1, nf_2, nf_3, nf2_0, nf2_1, b2i_0, b2i_1, RI_b2i, b2i_fit, List.append, List.length, List.replicate, List.cons_append, List.nil_append, List.length_cons, List.length_nil, List.replicate_succ, List.replicate_zero, List.tail_cons, reduceIte, if_true, if_false, ite_true, ite_false, Bool.false_eq_true, true_and, and_true, and_self, false_and, and_false, or_self, or_true, true_or, or_false, false_or, not_true_eq_false, not_false_eq_true, ne_eq, forall_const, implies_true, imp_self, true_implies, false_implies, Nat.reduceAdd, Nat.reduceSub, Nat.reduceMul, Nat.reduceDiv, Nat.reduceMod, Nat.reduceEqDiff, Nat.reduceLT, Nat.reduceLeDiff, Nat.reduceBEq, Nat.add_zero, Nat.zero_add, Nat.le_refl, Nat.not_lt_zero, Nat.succ_eq_add_one, Int.reduceNatCast, Int.cast_ofNat_Int, Int.reduceSub, Int.reduceMul, Int.reduceNeg, Int.reduceLE, Int.reduceLT, Int.reduceToNat, Int.reduceEq, Int.reduceNe, Int.reduceAdd, Option.some.injEq, kX9_findGains, rmX9_findGains, ↓ofX9_13, ↓ofX9_79, ↓ocX9_findGains_204, ↓spX9_findBest, ↓ocX9_findGains_210, ↓spX9_unitsOf, ↓ocX9_findGains_167, ↓spX9_timeAt, G_240, G_241, G_242, G_243, G_244, G_245, G_246, G_247, G_248, G_249, G_250, G_251, G_252, G_253, G_254, G_255, G_256, G_257, G_258, G_259, G_260, G_261, G_262, G_263, G_264, G_265, G_266, G_267, G_268, G_269, G_270, G_271, G_272, PF_240_6, PF_240_7, PF_240_8, PF_240_9, PF_240_10, PF_240_11, PF_240_12, PF_240_13, PF_240_14, PF_240_15, PF_240_16, PF_240_17, PF_240_18, PF_240_19, PF_240_20, PF_240_21, PF_240_22, PF_240_23, PF_240_24, PF_240_26, PF_240_27, PF_240_28, PF_240_29, PF_240_30, PF_240_31, PF_240_32, PF_240_33, PF_240_34, PF_240_35, PF_240_36, PF_240_37]
    have := ih I2 (some (.inl 61)) t3 t4 (by omega) k1 (fun j u a b c => k2 j u (by omega) b c)
    rwa [show ((i + 1 : Nat) : Int) = (i : Int) + 1 by omega] at this
set_option maxHeartbeats 1600000 in
set_option maxRecDepth 100000 in
theorem lpX9_h0 {post : Option MV → MS → Prop} {U : Pt → Prop} {N : Nat} {I L : Int → Int → Int} {t2 t3 t4 : Option MV}
    (h : ∀ (I1 : Int → Int → Int), (∀ b k, b ≠ 257 → I1 b k = I b k) → (∀ u, 0 ≤ u → u ≤ 60 → I1 257 u = 0) → Ok RX9 cX9_findGains 5 rmX9_findGains false none post U (25, [some (.inr (.inr (some 240))), some (.inl 61), t2, t3, t4], [], (N, PF, I1, L), 0, 0)) :
    ∀ (m : Nat) (u : Int) (I1 : Int → Int → Int), u + m = 61 → 0 ≤ u → (∀ b k, b ≠ 257 → I1 b k = I b k) → (∀ u', 0 ≤ u' → u' < u → I1 257 u' = 0) →
    Ok RX9 cX9_findGains 5 rmX9_findGains false none post U (6, [some (.inr (.inr (some 240))), some (.inl u), t2, t3, t4], [], (N, PF, I1, L), 0, 0)
  | 0, u, I1, hu, u0, h1, h2 => by
    refine Ok.seg mdX9_findGains [6, 25] 12 ?_
    simp only [wp_nil, wp_cons, ↓stp, ↓lI, ↓lL, ↓lR, ↓lIn_0, ↓lIn_1, ↓lIn_2, ↓lIn_3, ↓lLn_0, ↓lLn_1, ↓lLn_2, ↓lLn_3, ↓lRn_0, ↓lRn_1, ↓lRn_2, ↓lRn_3, ↓pI, ↓pL, ↓pR, ↓pA, ↓pN, ↓pV, ↓fp, ↓tsw, ↓oS, ↓spMax, ↓spMin, ↓spAbs, ↓spObj, RI, RLg, b2i_lo, b2i_hi, getL, setL, ltL, killL, isLong, inl, cnd, br, tgt, rcv, rpl, mputI, mputL, mputP, fv, fr, mcat, mcs, entL, entA, rfit, nf_0, nf_1, nf_2, nf_3, nf2_0, nf2_1, b2i_0, b2i_1, RI_b2i, b2i_fit, List.append, List.length, List.replicate, List.cons_append, List.nil_append, List.length_cons, List.length_nil, List.replicate_succ, List.replicate_zero, List.tail_cons, reduceIte, if_true, if_false, ite_true, ite_false, Bool.false_eq_true, true_and, and_true, and_self, false_and, and_false, or_self, or_true, true_or, or_false, false_or, not_true_eq_false, not_false_eq_true, ne_eq, forall_const, implies_true, imp_self, true_implies, false_implies, Nat.reduceAdd, Nat.reduceSub, Nat.reduceMul, Nat.reduceDiv, Nat.reduceMod, Nat.reduceEqDiff, Nat.reduceLT, Nat.reduceLeDiff, Nat.reduceBEq, Nat.add_zero, Nat.zero_add, Nat.le_refl, Nat.not_lt_zero, Nat.succ_eq_add_one, Int.reduceNatCast, Int.cast_ofNat_Int, Int.reduceSub, Int.reduceMul, Int.reduceNeg, Int.reduceLE, Int.reduceLT, Int.reduceToNat, Int.reduceEq, Int.reduceNe, Int.reduceAdd, Option.some.injEq, kX9_findGains, rmX9_findGains, ↓ofX9_13, ↓ofX9_79, ↓ocX9_findGains_204, ↓spX9_findBest, ↓ocX9_findGains_210, ↓spX9_unitsOf, ↓ocX9_findGains_167, ↓spX9_timeAt, G_240, G_241, G_242, G_243, G_244, G_245, G_246, G_247, G_248, G_249, G_250, G_251, G_252, G_253, G_254, G_255, G_256, G_257, G_258, G_259, G_260, G_261, G_262, G_263, G_264, G_265, G_266, G_267, G_268, G_269, G_270, G_271, G_272, PF_240_6, PF_240_7, PF_240_8, PF_240_9, PF_240_10, PF_240_11, PF_240_12, PF_240_13, PF_240_14, PF_240_15, PF_240_16, PF_240_17, PF_240_18, PF_240_19, PF_240_20, PF_240_21, PF_240_22, PF_240_23, PF_240_24, PF_240_26, PF_240_27, PF_240_28, PF_240_29, PF_240_30, PF_240_31, PF_240_32, PF_240_33, PF_240_34, PF_240_35, PF_240_36, PF_240_37]
    rw [show u = 61 by omega] at h2 ⊢
    exact ⟨by omega, fun _ => h I1 h1 (fun u' a b => h2 u' a (by omega)), fun q => by omega⟩
  | m + 1, u, I1, hu, u0, h1, h2 => by
    have ih := lpX9_h0 (U := U) (post := post) (N := N) (L := L) (t2 := t2) (t3 := t3) (t4 := t4) h m (u + 1)
    refine Ok.seg mdX9_findGains [6, 25] 20 ?_
    simp only [wp_nil, wp_cons, ↓stp, ↓lI, ↓lL, ↓lR, ↓lIn_0, ↓lIn_1, ↓lIn_2, ↓lIn_3, ↓lLn_0, ↓lLn_1, ↓lLn_2, ↓lLn_3, ↓lRn_0, ↓lRn_1, ↓lRn_2, ↓lRn_3, ↓pI, ↓pL, ↓pR, ↓pA, ↓pN, ↓pV, ↓fp, ↓tsw, ↓oS, ↓spMax, ↓spMin, ↓spAbs, ↓spObj, RI, RLg, b2i_lo, b2i_hi, getL, setL, ltL, killL, isLong, inl, cnd, br, tgt, rcv, rpl, mputI, mputL, mputP, fv, fr, mcat, mcs, entL, entA, rfit, nf_0, nf_1, nf_2, nf_3, nf2_0, nf2_1, b2i_0, b2i_1, RI_b2i, b2i_fit, List.append, List.length, List.replicate, List.cons_append, List.nil_append, List.length_cons, List.length_nil, List.replicate_succ, List.replicate_zero, List.tail_cons, reduceIte, if_true, if_false, ite_true, ite_false, Bool.false_eq_true, true_and, and_true, and_self, false_and, and_false, or_self, or_true, true_or, or_false, false_or, not_true_eq_false, not_false_eq_true, ne_eq, forall_const, implies_true, imp_self, true_implies, false_implies, Nat.reduceAdd, Nat.reduceSub, Nat.reduceMul, Nat.reduceDiv, Nat.reduceMod, Nat.reduceEqDiff, Nat.reduceLT, Nat.reduceLeDiff, Nat.reduceBEq, Nat.add_zero, Nat.zero_add, Nat.le_refl, Nat.not_lt_zero, Nat.succ_eq_add_one, Int.reduceNatCast, Int.cast_ofNat_Int, Int.reduceSub, Int.reduceMul, Int.reduceNeg, Int.reduceLE, Int.reduceLT, Int.reduceToNat, Int.reduceEq, Int.reduceNe, Int.reduceAdd, Option.some.injEq, kX9_findGains, rmX9_findGains, ↓ofX9_13, ↓ofX9_79, ↓ocX9_findGains_204, ↓spX9_findBest, ↓ocX9_findGains_210, ↓spX9_unitsOf, ↓ocX9_findGains_167, ↓spX9_timeAt, G_240, G_241, G_242, G_243, G_244, G_245, G_246, G_247, G_248, G_249, G_250, G_251, G_252, G_253, G_254, G_255, G_256, G_257, G_258, G_259, G_260, G_261, G_262, G_263, G_264, G_265, G_266, G_267, G_268, G_269, G_270, G_271, G_272, PF_240_6, PF_240_7, PF_240_8, PF_240_9, PF_240_10, PF_240_11, PF_240_12, PF_240_13, PF_240_14, PF_240_15, PF_240_16, PF_240_17, PF_240_18, PF_240_19, PF_240_20, PF_240_21, PF_240_22, PF_240_23, PF_240_24, PF_240_26, PF_240_27, PF_240_28, PF_240_29, PF_240_30, PF_240_31, PF_240_32, PF_240_33, PF_240_34, PF_240_35, PF_240_36, PF_240_37]
    refine ⟨by omega, fun z => by omega, fun z => ⟨by omega, by omega, ih _ (by omega) (by omega) (fun b k hb => by rw [upI_ne hb]; exact h1 b k hb) (fun q' a b => ?_)⟩⟩
    by_cases e : q' = u
    · rw [e]; exact upI_same
    · rw [upI_nj e]; exact h2 q' a (by omega)
theorem bestM_257 {I J : Int → Int → Int} (h : ∀ b k, b ≠ 257 → J b k = I b k) (hb : bestM I) : bestM J := by
  have eV : VM J = VM I := VM_cg (fun k _ => h _ _ (by omega)) (fun b k _ _ => h _ _ (by omega)) (fun b k _ _ => h _ _ (by omega))
  obtain ⟨B, a, b, c⟩ := hb
  unfold bestM mMx
  rw [eV, h 240 2 (by omega), h 240 3 (by omega), h 240 4 (by omega), h 240 1 (by omega), show J 250 = I 250 from funext fun k => h _ _ (by omega), show J 251 = I 251 from funext fun k => h _ _ (by omega), show J 246 = I 246 from funext fun k => h _ _ (by omega), show J 247 = I 247 from funext fun k => h _ _ (by omega), show mlm J = mlm I from funext fun j => by unfold mlm; rw [eV, h 240 2 (by omega), h 250 j (by omega)]]
  exact ⟨B, a, b, c⟩
theorem tmM_257 {I J : Int → Int → Int} (h : ∀ b k, b ≠ 257 → J b k = I b k) : tmM J = tmM I ∧ mC J = mC I ∧ mG J = mG I := by
  have e1 : tmM J = tmM I := funext fun i => by
    unfold tmM
    rw [h 242 i (by omega), show J 250 = I 250 from funext fun k => h _ _ (by omega), h 251 i (by omega)]
  exact ⟨e1, funext fun i => by unfold mC; rw [h 242 i (by omega)], funext fun i => by unfold mG; rw [e1]⟩
set_option maxRecDepth 100000 in
set_option maxHeartbeats 800000 in
theorem mX9_findGains : MOK yX9_findGains cX9_findGains 5 none rmX9_findGains ciX9_findGains := by
  refine mok_of (ini := false) (by decide +kernel) (by decide) rfl rfl ?_
  intro σ As K hrc hl h
  obtain ⟨N, P, I, L⟩ := σ
  have h9 := pR_iff.mp h
  clear h
  obtain ⟨a, r, e9, h⟩ := h9
  subst e9
  have h9 := pN_iff.mp h
  clear h
  obtain ⟨e9, h⟩ := h9
  subst e9
  try dsimp only at h
  obtain ⟨rfl, rfl, hx, h⟩ := h
  have hx' := hx
  obtain ⟨x1, x2, x3, x4, x5⟩ := hx'
  refine ⟨Nat.le_of_ble_eq_true rfl, Ok.seg mdX9_findGains [6] 20 ?_⟩
  simp only [wp_nil, wp_cons, ↓stp, ↓lI, ↓lL, ↓lR, ↓lIn_0, ↓lIn_1, ↓lIn_2, ↓lIn_3, ↓lLn_0, ↓lLn_1, ↓lLn_2, ↓lLn_3, ↓lRn_0, ↓lRn_1, ↓lRn_2, ↓lRn_3, ↓pI, ↓pL, ↓pR, ↓pA, ↓pN, ↓pV, ↓fp, ↓tsw, ↓oS, ↓spMax, ↓spMin, ↓spAbs, ↓spObj, RI, RLg, b2i_lo, b2i_hi, getL, setL, ltL, killL, isLong, inl, cnd, br, tgt, rcv, rpl, mputI, mputL, mputP, fv, fr, mcat, mcs, entL, entA, rfit, nf_0, nf_1, nf_2, nf_3, nf2_0, nf2_1, b2i_0, b2i_1, RI_b2i, b2i_fit, List.append, List.length, List.replicate, List.cons_append, List.nil_append, List.length_cons, List.length_nil, List.replicate_succ, List.replicate_zero, List.tail_cons, reduceIte, if_true, if_false, ite_true, ite_false, Bool.false_eq_true, true_and, and_true, and_self, false_and, and_false, or_self, or_true, true_or, or_false, false_or, not_true_eq_false, not_false_eq_true, ne_eq, forall_const, implies_true, imp_self, true_implies, false_implies, Nat.reduceAdd, Nat.reduceSub, Nat.reduceMul, Nat.reduceDiv, Nat.reduceMod, Nat.reduceEqDiff, Nat.reduceLT, Nat.reduceLeDiff, Nat.reduceBEq, Nat.add_zero, Nat.zero_add, Nat.le_refl, Nat.not_lt_zero, Nat.succ_eq_add_one, Int.reduceNatCast, Int.cast_ofNat_Int, Int.reduceSub, Int.reduceMul, Int.reduceNeg, Int.reduceLE, Int.reduceLT, Int.reduceToNat, Int.reduceEq, Int.reduceNe, Int.reduceAdd, Option.some.injEq, kX9_findGains, rmX9_findGains, ↓ofX9_13, ↓ofX9_79, ↓ocX9_findGains_204, ↓spX9_findBest, ↓ocX9_findGains_210, ↓spX9_unitsOf, ↓ocX9_findGains_167, ↓spX9_timeAt, x1, x2, G_240, G_241, G_242, G_243, G_244, G_245, G_246, G_247, G_248, G_249, G_250, G_251, G_252, G_253, G_254, G_255, G_256, G_257, G_258, G_259, G_260, G_261, G_262, G_263, G_264, G_265, G_266, G_267, G_268, G_269, G_270, G_271, G_272, PF_240_6, PF_240_7, PF_240_8, PF_240_9, PF_240_10, PF_240_11, PF_240_12, PF_240_13, PF_240_14, PF_240_15, PF_240_16, PF_240_17, PF_240_18, PF_240_19, PF_240_20, PF_240_21, PF_240_22, PF_240_23, PF_240_24, PF_240_26, PF_240_27, PF_240_28, PF_240_29, PF_240_30, PF_240_31, PF_240_32, PF_240_33, PF_240_34, PF_240_35, PF_240_36, PF_240_37]
  intro J M k1 k2 k3
  obtain ⟨a, b, c⟩ := fB hx k1 k2
  obtain ⟨d, e⟩ := bestM_l k3
  have y1 : 0 ≤ J 240 1 := a.1.1
  refine lpX9_h0 (t2 := none) (t3 := none) (t4 := none) (fun I1 h1 h2 => ?_) 61 0 J (by omega) (by omega) (fun _ _ _ => rfl) (fun u' a b => by omega)
  refine Ok.seg mdX9_findGains [27] 12 ?_
  simp only [wp_nil, wp_cons, ↓stp, ↓lI, ↓lL, ↓lR, ↓lIn_0, ↓lIn_1, ↓lIn_2, ↓lIn_3, ↓lLn_0, ↓lLn_1, ↓lLn_2, ↓lLn_3, ↓lRn_0, ↓lRn_1, ↓lRn_2, ↓lRn_3, ↓pI, ↓pL, ↓pR, ↓pA, ↓pN, ↓pV, ↓fp, ↓tsw, ↓oS, ↓spMax, ↓spMin, ↓spAbs, ↓spObj, RI, RLg, b2i_lo, b2i_hi, getL, setL, ltL, killL, isLong, inl, cnd, br, tgt, rcv, rpl, mputI, mputL, mputP, fv, fr, mcat, mcs, entL, entA, rfit, nf_0, nf_1, nf_2, nf_3, nf2_0, nf2_1, b2i_0, b2i_1, RI_b2i, b2i_fit, List.append, List.length, List.replicate, List.cons_append, List.nil_append, List.length_cons, List.length_nil, List.replicate_succ, List.replicate_zero, List.tail_cons, reduceIte, if_true, if_false, ite_true, ite_false, Bool.false_eq_true, true_and, and_true, and_self, false_and, and_false, or_self, or_true, true_or, or_false, false_or, not_true_eq_false, not_false_eq_true, ne_eq, forall_const, implies_true, imp_self, true_implies, false_implies, Nat.reduceAdd, Nat.reduceSub, Nat.reduceMul, Nat.reduceDiv, Nat.reduceMod, Nat.reduceEqDiff, Nat.reduceLT, Nat.reduceLeDiff, Nat.reduceBEq, Nat.add_zero, Nat.zero_add, Nat.le_refl, Nat.not_lt_zero, Nat.succ_eq_add_one, Int.reduceNatCast, Int.cast_ofNat_Int, Int.reduceSub, Int.reduceMul, Int.reduceNeg, Int.reduceLE, Int.reduceLT, Int.reduceToNat, Int.reduceEq, Int.reduceNe, Int.reduceAdd, Option.some.injEq, kX9_findGains, rmX9_findGains, ↓ofX9_13, ↓ofX9_79, ↓ocX9_findGains_204, ↓spX9_findBest, ↓ocX9_findGains_210, ↓spX9_unitsOf, ↓ocX9_findGains_167, ↓spX9_timeAt, G_240, G_241, G_242, G_243, G_244, G_245, G_246, G_247, G_248, G_249, G_250, G_251, G_252, G_253, G_254, G_255, G_256, G_257, G_258, G_259, G_260, G_261, G_262, G_263, G_264, G_265, G_266, G_267, G_268, G_269, G_270, G_271, G_272, PF_240_6, PF_240_7, PF_240_8, PF_240_9, PF_240_10, PF_240_11, PF_240_12, PF_240_13, PF_240_14, PF_240_15, PF_240_16, PF_240_17, PF_240_18, PF_240_19, PF_240_20, PF_240_21, PF_240_22, PF_240_23, PF_240_24, PF_240_26, PF_240_27, PF_240_28, PF_240_29, PF_240_30, PF_240_31, PF_240_32, PF_240_33, PF_240_34, PF_240_35, PF_240_36, PF_240_37]
  refine lpX9_h1 (post := fun r σ' => rfit none r ∧ K r σ') a.1 d e (fun I2 m1 m2 => ⟨trivial, ?_⟩) (J 240 1).toNat 0 I1 _ _ _ (by omega) h1 (fun j u j0 u0 u1 => ?_)
  · obtain ⟨q1, q2, q3⟩ := tmM_257 m1
    refine h I2 M (fun b' k b0 b1 b2 b3 => by rw [m1 b' k (by omega)]; exact b b' k b0 b1 b2 b3) c (mOK_w a (fun b' k b0 b1 b2 b3 => m1 b' k (by omega)) (fun k => m1 _ _ (by omega)) (fun _ => rfl)) (bestM_257 m1 k3) (fun j u j0 u0 u1 => ?_)
    rw [q2, q3]
    exact m2 j u (by rw [← m1 240 1 (by omega)]; exact j0) u0 u1
  · rw [show j = 0 by omega, show 61 * ((0 : Nat) : Int) + u = u by omega]
    exact h2 u u0 u1
def spX9_spend (As : List MV) (σ : MS) (K : Option MV → MS → Prop) : Prop := pR As fun a r => pI r fun u r => pN r (a = 240 ∧ σ.2.1 = PF ∧ RI u ∧ mOK σ.2.2.1 σ.2.2.2 ∧ (¬ (0 ≤ u ∧ u ≤ 60) → K (some (.inl (-1))) σ) ∧ (0 ≤ u ∧ u ≤ 60 → ∀ (I' L' : Int → Int → Int), frW σ.2.2.1 I' → frWL σ.2.2.2 L' → mOK I' L' → bestM I' → K (some (.inl (gv (mC I') (mG I') (I' 240 1).toNat u))) (σ.1, σ.2.1, I', L')))
def ciX9_spend : CI := (2, 9, 0, 0, spX9_spend)
def kX9_spend (pc : Nat) : List ME := match pc with
  | 0 => [(.aload_n 0, 1, []), (.iload_n 1, 1, []), (.iconst 0, 1, []), (.bipush 60, 2, []), (.invokevirtual 128, 3, []), (.ifCond .ne 5, 3, [13]), (.iconst (-1), 1, []), (.ireturn, 1, [])]
  | 13 => [(.aload_n 0, 1, []), (.invokevirtual 213, 3, []), (.aload_n 0, 1, []), (.getfield 79, 3, []), (.bipush 61, 2, []), (.aload_n 0, 1, []), (.getfield 13, 3, []), (.imul, 1, []), (.iload_n 1, 1, []), (.iadd, 1, []), (.iaload, 1, []), (.ireturn, 1, [])]
  | _ => []
theorem qX9_spend : ∀ pc, chk cX9_spend pc (kX9_spend pc) = true := by
  intro pc
  unfold kX9_spend
  split <;> first | decide +kernel | exact chk_nil
abbrev rmX9_spend : Room := { frames := 5, cells := 0, slots := 0, locals := 132 }
def aX9_spend (x : Nat) : Option CI := match x with
  | 128 => some ciX9_in
  | 213 => some ciX9_findGains
  | _ => none
theorem aokX9_spend : ∀ x ci, aX9_spend x = some ci → CalOK RX9 rmX9_spend x ci := by
  intro x ci h
  unfold aX9_spend at h
  split at h
  · cases h; exact cal_V mX9_in (by decide) rfl (List.forall_mem_cons.mpr ⟨(ws_mem (List.mem_of_getElem? (i := 979) (by decide +kernel)) (by decide +kernel)), List.forall_mem_cons.mpr ⟨(ws_mem (List.mem_of_getElem? (i := 981) (by decide +kernel)) (by decide +kernel)), List.forall_mem_cons.mpr ⟨(ws_mem (List.mem_of_getElem? (i := 20) (by decide +kernel)) (by decide +kernel)), List.forall_mem_cons.mpr ⟨(ws_mem (List.mem_of_getElem? (i := 64) (by decide +kernel)) (by decide +kernel)), List.forall_mem_cons.mpr ⟨(ws_mem (List.mem_of_getElem? (i := 982) (by decide +kernel)) (by decide +kernel)), fun _ h => absurd h List.not_mem_nil⟩⟩⟩⟩⟩) rfl (by unfold nice; decide +kernel) (by unfold rfits; decide) ⟨rfl, rfl⟩
  · cases h; exact cal_V mX9_findGains (by decide) rfl (List.forall_mem_cons.mpr ⟨(ws_mem (List.mem_of_getElem? (i := 1125) (by decide +kernel)) (by decide +kernel)), List.forall_mem_cons.mpr ⟨(ws_mem (List.mem_of_getElem? (i := 1127) (by decide +kernel)) (by decide +kernel)), List.forall_mem_cons.mpr ⟨(ws_mem (List.mem_of_getElem? (i := 42) (by decide +kernel)) (by decide +kernel)), List.forall_mem_cons.mpr ⟨(ws_mem (List.mem_of_getElem? (i := 64) (by decide +kernel)) (by decide +kernel)), List.forall_mem_cons.mpr ⟨(ws_mem (List.mem_of_getElem? (i := 1128) (by decide +kernel)) (by decide +kernel)), fun _ h => absurd h List.not_mem_nil⟩⟩⟩⟩⟩) rfl (by unfold nice; decide +kernel) (by unfold rfits; decide) ⟨rfl, rfl⟩
  · cases h
theorem ocX9_spend_128 (f : Nat → Nat → Nat → Nat → (List MV → MS → (Option MV → MS → Prop) → Prop) → Prop) : oC aX9_spend 128 f = f 4 9 0 0 spX9_in := propext Iff.rfl
theorem ocX9_spend_213 (f : Nat → Nat → Nat → Nat → (List MV → MS → (Option MV → MS → Prop) → Prop) → Prop) : oC aX9_spend 213 f = f 1 9 0 0 spX9_findGains := propext Iff.rfl
theorem mdX9_spend : MD RX9 cX9_spend rmX9_spend kX9_spend fX9 aX9_spend zX9 uX9 := ⟨fokX9, zokX9, uokX9, aokX9_spend, qX9_spend⟩
set_option maxRecDepth 100000 in
set_option maxHeartbeats 800000 in
theorem mX9_spend : MOK yX9_spend cX9_spend 2 (some .int) rmX9_spend ciX9_spend := by
  refine mok_of (ini := false) (by decide +kernel) (by decide) rfl rfl ?_
  intro σ As K hrc hl h
  obtain ⟨N, P, I, L⟩ := σ
  have h9 := pR_iff.mp h
  clear h
  obtain ⟨a, r, e9, h⟩ := h9
  subst e9
  have h9 := pI_iff.mp h
  clear h
  obtain ⟨u, r, e9, h⟩ := h9
  subst e9
  have h9 := pN_iff.mp h
  clear h
  obtain ⟨e9, h⟩ := h9
  subst e9
  try dsimp only at h
  obtain ⟨rfl, rfl, hu, hx, h1, h2⟩ := h
  unfold RI at hu
  refine ⟨Nat.le_of_ble_eq_true rfl, Ok.seg mdX9_spend [] 30 ?_⟩
  simp only [wp_nil, wp_cons, ↓stp, ↓lI, ↓lL, ↓lR, ↓lIn_0, ↓lIn_1, ↓lIn_2, ↓lIn_3, ↓lLn_0, ↓lLn_1, ↓lLn_2, ↓lLn_3, ↓lRn_0, ↓lRn_1, ↓lRn_2, ↓lRn_3, ↓pI, ↓pL, ↓pR, ↓pA, ↓pN, ↓pV, ↓fp, ↓tsw, ↓oS, ↓spMax, ↓spMin, ↓spAbs, ↓spObj, RI, RLg, b2i_lo, b2i_hi, getL, setL, ltL, killL, isLong, inl, cnd, br, tgt, rcv, rpl, mputI, mputL, mputP, fv, fr, mcat, mcs, entL, entA, rfit, nf_0, nf_1, nf_2, nf_3, nf2_0, nf2_1, b2i_0, b2i_1, RI_b2i, b2i_fit, List.append, List.length, List.replicate, List.cons_append, List.nil_append, List.length_cons, List.length_nil, List.replicate_succ, List.replicate_zero, List.tail_cons, reduceIte, if_true, if_false, ite_true, ite_false, Bool.false_eq_true, true_and, and_true, and_self, false_and, and_false, or_self, or_true, true_or, or_false, false_or, not_true_eq_false, not_false_eq_true, ne_eq, forall_const, implies_true, imp_self, true_implies, false_implies, Nat.reduceAdd, Nat.reduceSub, Nat.reduceMul, Nat.reduceDiv, Nat.reduceMod, Nat.reduceEqDiff, Nat.reduceLT, Nat.reduceLeDiff, Nat.reduceBEq, Nat.add_zero, Nat.zero_add, Nat.le_refl, Nat.not_lt_zero, Nat.succ_eq_add_one, Int.reduceNatCast, Int.cast_ofNat_Int, Int.reduceSub, Int.reduceMul, Int.reduceNeg, Int.reduceLE, Int.reduceLT, Int.reduceToNat, Int.reduceEq, Int.reduceNe, Int.reduceAdd, Option.some.injEq, kX9_spend, rmX9_spend, ↓ofX9_13, ↓ofX9_79, ↓ocX9_spend_128, ↓spX9_in, ↓ocX9_spend_213, ↓spX9_findGains, hx, G_240, G_241, G_242, G_243, G_244, G_245, G_246, G_247, G_248, G_249, G_250, G_251, G_252, G_253, G_254, G_255, G_256, G_257, G_258, G_259, G_260, G_261, G_262, G_263, G_264, G_265, G_266, G_267, G_268, G_269, G_270, G_271, G_272, PF_240_6, PF_240_7, PF_240_8, PF_240_9, PF_240_10, PF_240_11, PF_240_12, PF_240_13, PF_240_14, PF_240_15, PF_240_16, PF_240_17, PF_240_18, PF_240_19, PF_240_20, PF_240_21, PF_240_22, PF_240_23, PF_240_24, PF_240_26, PF_240_27, PF_240_28, PF_240_29, PF_240_30, PF_240_31, PF_240_32, PF_240_33, PF_240_34, PF_240_35, PF_240_36, PF_240_37]
  refine ⟨by omega, fun q J M k1 k2 k3 k4 k5 => ?_, fun q => h1 (by omega)⟩
  have y1 : 0 ≤ J 240 1 := k3.1.1
  have y2 : J 240 1 ≤ 30 := k3.1.2.1
  have e := k5 (J 240 1).toNat u (by omega) (by omega) (by omega)
  rw [show (((J 240 1).toNat : Nat) : Int) = J 240 1 by omega] at e
  rw [e]
  exact ⟨by omega, by omega, h2 (by omega) J M k1 k2 k3 k4⟩
def spX9_where (As : List MV) (σ : MS) (K : Option MV → MS → Prop) : Prop := pR As fun a r => pI r fun u r => pN r (a = 240 ∧ σ.2.1 = PF ∧ RI u ∧ mOK σ.2.2.1 σ.2.2.2 ∧ (¬ (0 ≤ u ∧ u ≤ 60) → K (some (.inl (-1))) σ) ∧ (0 ≤ u ∧ u ≤ 60 → ∀ (I' L' : Int → Int → Int), frW σ.2.2.1 I' → frWL σ.2.2.2 L' → mOK I' L' → bestM I' → K (some (.inl (wst (mC I') (mG I') (I' 240 1).toNat 0 u))) (σ.1, σ.2.1, I', L')))
def ciX9_where : CI := (2, 9, 0, 0, spX9_where)
def kX9_where (pc : Nat) : List ME := match pc with
  | 0 => [(.aload_n 0, 1, []), (.iload_n 1, 1, []), (.iconst 0, 1, []), (.bipush 60, 2, []), (.invokevirtual 128, 3, []), (.ifCond .ne 5, 3, [13]), (.iconst (-1), 1, []), (.ireturn, 1, [])]
  | 13 => [(.aload_n 0, 1, []), (.invokevirtual 213, 3, []), (.iconst 0, 1, []), (.istore_n 2, 1, []), (.iload_n 1, 1, []), (.istore_n 3, 1, []), (.aload_n 0, 1, []), (.getfield 13, 3, []), (.iconst 1, 1, []), (.isub, 1, []), (.istore 4, 2, [])]
  | 29 => [(.iload 4, 2, []), (.ifCond .lt 57, 3, [88]), (.aload_n 0, 1, []), (.getfield 79, 3, []), (.bipush 61, 2, []), (.iload 4, 2, []), (.iconst 1, 1, []), (.iadd, 1, []), (.imul, 1, []), (.iload_n 3, 1, []), (.iadd, 1, []), (.iaload, 1, []), (.aload_n 0, 1, []), (.getfield 79, 3, []), (.bipush 61, 2, []), (.iload 4, 2, []), (.imul, 1, []), (.iload_n 3, 1, []), (.iadd, 1, []), (.iaload, 1, []), (.if_icmp .ne 6, 3, [66]), (.goto 19, 3, [82])]
  | 66 => [(.iload_n 2, 1, []), (.iconst 1, 1, []), (.iload 4, 2, []), (.ishl, 1, []), (.ior, 1, []), (.istore_n 2, 1, []), (.iload_n 3, 1, []), (.aload_n 0, 1, []), (.iload 4, 2, []), (.invokevirtual 210, 3, []), (.isub, 1, []), (.istore_n 3, 1, [])]
  | 82 => [(.iinc 4 (-1), 3, []), (.goto (-56), 3, [29])]
  | 88 => [(.iload_n 2, 1, []), (.ireturn, 1, [])]
  | _ => []
theorem qX9_where : ∀ pc, chk cX9_where pc (kX9_where pc) = true := by
  intro pc
  unfold kX9_where
  split <;> first | decide +kernel | exact chk_nil
abbrev rmX9_where : Room := { frames := 5, cells := 0, slots := 0, locals := 132 }
def aX9_where (x : Nat) : Option CI := match x with
  | 128 => some ciX9_in
  | 213 => some ciX9_findGains
  | 210 => some ciX9_unitsOf
  | _ => none
theorem aokX9_where : ∀ x ci, aX9_where x = some ci → CalOK RX9 rmX9_where x ci := by
  intro x ci h
  unfold aX9_where at h
  split at h
  · cases h; exact cal_V mX9_in (by decide) rfl (List.forall_mem_cons.mpr ⟨(ws_mem (List.mem_of_getElem? (i := 979) (by decide +kernel)) (by decide +kernel)), List.forall_mem_cons.mpr ⟨(ws_mem (List.mem_of_getElem? (i := 981) (by decide +kernel)) (by decide +kernel)), List.forall_mem_cons.mpr ⟨(ws_mem (List.mem_of_getElem? (i := 20) (by decide +kernel)) (by decide +kernel)), List.forall_mem_cons.mpr ⟨(ws_mem (List.mem_of_getElem? (i := 64) (by decide +kernel)) (by decide +kernel)), List.forall_mem_cons.mpr ⟨(ws_mem (List.mem_of_getElem? (i := 982) (by decide +kernel)) (by decide +kernel)), fun _ h => absurd h List.not_mem_nil⟩⟩⟩⟩⟩) rfl (by unfold nice; decide +kernel) (by unfold rfits; decide) ⟨rfl, rfl⟩
  · cases h; exact cal_V mX9_findGains (by decide) rfl (List.forall_mem_cons.mpr ⟨(ws_mem (List.mem_of_getElem? (i := 1125) (by decide +kernel)) (by decide +kernel)), List.forall_mem_cons.mpr ⟨(ws_mem (List.mem_of_getElem? (i := 1127) (by decide +kernel)) (by decide +kernel)), List.forall_mem_cons.mpr ⟨(ws_mem (List.mem_of_getElem? (i := 42) (by decide +kernel)) (by decide +kernel)), List.forall_mem_cons.mpr ⟨(ws_mem (List.mem_of_getElem? (i := 64) (by decide +kernel)) (by decide +kernel)), List.forall_mem_cons.mpr ⟨(ws_mem (List.mem_of_getElem? (i := 1128) (by decide +kernel)) (by decide +kernel)), fun _ h => absurd h List.not_mem_nil⟩⟩⟩⟩⟩) rfl (by unfold nice; decide +kernel) (by unfold rfits; decide) ⟨rfl, rfl⟩
  · cases h; exact cal_V mX9_unitsOf (by decide) rfl (List.forall_mem_cons.mpr ⟨(ws_mem (List.mem_of_getElem? (i := 1129) (by decide +kernel)) (by decide +kernel)), List.forall_mem_cons.mpr ⟨(ws_mem (List.mem_of_getElem? (i := 1131) (by decide +kernel)) (by decide +kernel)), List.forall_mem_cons.mpr ⟨(ws_mem (List.mem_of_getElem? (i := 43) (by decide +kernel)) (by decide +kernel)), List.forall_mem_cons.mpr ⟨(ws_mem (List.mem_of_getElem? (i := 64) (by decide +kernel)) (by decide +kernel)), List.forall_mem_cons.mpr ⟨(ws_mem (List.mem_of_getElem? (i := 1132) (by decide +kernel)) (by decide +kernel)), fun _ h => absurd h List.not_mem_nil⟩⟩⟩⟩⟩) rfl (by unfold nice; decide +kernel) (by unfold rfits; decide) ⟨rfl, rfl⟩
  · cases h
theorem ocX9_where_128 (f : Nat → Nat → Nat → Nat → (List MV → MS → (Option MV → MS → Prop) → Prop) → Prop) : oC aX9_where 128 f = f 4 9 0 0 spX9_in := propext Iff.rfl
theorem ocX9_where_213 (f : Nat → Nat → Nat → Nat → (List MV → MS → (Option MV → MS → Prop) → Prop) → Prop) : oC aX9_where 213 f = f 1 9 0 0 spX9_findGains := propext Iff.rfl
theorem ocX9_where_210 (f : Nat → Nat → Nat → Nat → (List MV → MS → (Option MV → MS → Prop) → Prop) → Prop) : oC aX9_where 210 f = f 2 9 0 0 spX9_unitsOf := propext Iff.rfl
theorem mdX9_where : MD RX9 cX9_where rmX9_where kX9_where fX9 aX9_where zX9 uX9 := ⟨fokX9, zokX9, uokX9, aokX9_where, qX9_where⟩
set_option maxHeartbeats 1600000 in
set_option maxRecDepth 100000 in
theorem lpX9_wh {post : Option MV → MS → Prop} {U : Pt → Prop} {N : Nat} {I L : Int → Int → Int} {u : Int} (u1 : u ≤ 60) (ht : tOK (VM I)) (hp : pacM I) (hG : ∀ (i : Nat) w, (i : Int) ≤ I 240 1 → 0 ≤ w → w ≤ 60 → I 257 (61 * i + w) = gv (mC I) (mG I) i w)
    (h : post (some (.inl (wst (mC I) (mG I) (I 240 1).toNat 0 u))) (N, PF, I, L)) :
    ∀ (i : Nat) (x w : Int), (i : Int) ≤ I 240 1 → 0 ≤ w → w ≤ u → wst (mC I) (mG I) i x w = wst (mC I) (mG I) (I 240 1).toNat 0 u →
    Ok RX9 cX9_where 5 rmX9_where false none post U (29, [some (.inr (.inr (some 240))), some (.inl u), some (.inl x), some (.inl w), some (.inl ((i : Int) - 1))], [], (N, PF, I, L), 0, 0)
  | 0, x, w, hi, w0, w1, e => by
    refine Ok.seg mdX9_where [29] 10 ?_
    simp only [wp_nil, wp_cons, ↓stp, ↓lI, ↓lL, ↓lR, ↓lIn_0, ↓lIn_1, ↓lIn_2, ↓lIn_3, ↓lLn_0, ↓lLn_1, ↓lLn_2, ↓lLn_3, ↓lRn_0, ↓lRn_1, ↓lRn_2, ↓lRn_3, ↓pI, ↓pL, ↓pR, ↓pA, ↓pN, ↓pV, ↓fp, ↓tsw, ↓oS, ↓spMax, ↓spMin, ↓spAbs, ↓spObj, RI, RLg, b2i_lo, b2i_hi, getL, setL, ltL, killL, isLong, inl, cnd, br, tgt, rcv, rpl, mputI, mputL, mputP, fv, fr, mcat, mcs, entL, entA, rfit, nf_0, nf_1, nf_2, nf_3, nf2_0, nf2_1, b2i_0, b2i_1, RI_b2i, b2i_fit, List.append, List.length, List.replicate, List.cons_append, List.nil_append, List.length_cons, List.length_nil, List.replicate_succ, List.replicate_zero, List.tail_cons, reduceIte, if_true, if_false, ite_true, ite_false, Bool.false_eq_true, true_and, and_true, and_self, false_and, and_false, or_self, or_true, true_or, or_false, false_or, not_true_eq_false, not_false_eq_true, ne_eq, forall_const, implies_true, imp_self, true_implies, false_implies, Nat.reduceAdd, Nat.reduceSub, Nat.reduceMul, Nat.reduceDiv, Nat.reduceMod, Nat.reduceEqDiff, Nat.reduceLT, Nat.reduceLeDiff, Nat.reduceBEq, Nat.add_zero, Nat.zero_add, Nat.le_refl, Nat.not_lt_zero, Nat.succ_eq_add_one, Int.reduceNatCast, Int.cast_ofNat_Int, Int.reduceSub, Int.reduceMul, Int.reduceNeg, Int.reduceLE, Int.reduceLT, Int.reduceToNat, Int.reduceEq, Int.reduceNe, Int.reduceAdd, Option.some.injEq, kX9_where, rmX9_where, ↓ofX9_13, ↓ofX9_79, ↓ocX9_where_128, ↓spX9_in, ↓ocX9_where_213, ↓spX9_findGains, ↓ocX9_where_210, ↓spX9_unitsOf, G_240, G_241, G_242, G_243, G_244, G_245, G_246, G_247, G_248, G_249, G_250, G_251, G_252, G_253, G_254, G_255, G_256, G_257, G_258, G_259, G_260, G_261, G_262, G_263, G_264, G_265, G_266, G_267, G_268, G_269, G_270, G_271, G_272, PF_240_6, PF_240_7, PF_240_8, PF_240_9, PF_240_10, PF_240_11, PF_240_12, PF_240_13, PF_240_14, PF_240_15, PF_240_16, PF_240_17, PF_240_18, PF_240_19, PF_240_20, PF_240_21, PF_240_22, PF_240_23, PF_240_24, PF_240_26, PF_240_27, PF_240_28, PF_240_29, PF_240_30, PF_240_31, PF_240_32, PF_240_33, PF_240_34, PF_240_35, PF_240_36, PF_240_37]
    rw [show x = wst (mC I) (mG I) (I 240 1).toNat 0 u from e]
    exact h
  | i + 1, x, w, hi, w0, w1, e => by
    have ih := lpX9_wh (U := U) (post := post) u1 ht hp hG h i
    have y2 : I 240 1 ≤ 30 := ht.2.1
    have hst := stM ht (i := i) (by omega) (by omega)
    have hci := mC_rng ht (i := i) (by omega) (by omega)
    have e1 := hG i w (by omega) w0 (by omega)
    have e2 := hG (i + 1) w (by omega) w0 (by omega)
    rw [show ((i + 1 : Nat) : Int) = (i : Int) + 1 by omega] at e2
    have r1 := gv_rng (c := mC I) (g := mG I) (n := i) (M := 10100) (fun j a b => mG_rng ht hp (by omega) (by omega)) i w (Nat.le_refl _)
    have r2 := gv_rng (c := mC I) (g := mG I) (n := i + 1) (M := 10100) (fun j a b => mG_rng ht hp (by omega) (by omega)) (i + 1) w (Nat.le_refl _)
    have ei : ((i + 1 : Nat) : Int) - 1 = i := by omega
    rw [ei]
    have e : (if gv (mC I) (mG I) (i + 1) w = gv (mC I) (mG I) i w then wst (mC I) (mG I) i x w else wst (mC I) (mG I) i (or1 x i) (w - mC I i)) = wst (mC I) (mG I) (I 240 1).toNat 0 u := e
    have no : gv (mC I) (mG I) (i + 1) w = gv (mC I) (mG I) i w → Ok RX9 cX9_where 5 rmX9_where false none post U (29, [some (.inr (.inr (some 240))), some (.inl u), some (.inl x), some (.inl w), some (.inl ((i : Int) + -1))], [], (N, PF, I, L), 0, 0) := fun q => by
      rw [if_pos q] at e
      exact ih x w (by omega) w0 w1 e
    have hcw : ¬ gv (mC I) (mG I) (i + 1) w = gv (mC I) (mG I) i w → mC I i ≤ w := fun q => by
      by_cases z : mC I i ≤ w
      · exact z
      · exact (q (show (if mC I i ≤ w then _ else gv (mC I) (mG I) i w) = _ from if_neg z)).elim
    refine Ok.seg mdX9_where [29] 60 ?_
    simp only [wp_nil, wp_cons, ↓stp, ↓lI, ↓lL, ↓lR, ↓lIn_0, ↓lIn_1, ↓lIn_2, ↓lIn_3, ↓lLn_0, ↓lLn_1, ↓lLn_2, ↓lLn_3, ↓lRn_0, ↓lRn_1, ↓lRn_2, ↓lRn_3, ↓pI, ↓pL, ↓pR, ↓pA, ↓pN, ↓pV, ↓fp, ↓tsw, ↓oS, ↓spMax, ↓spMin, ↓spAbs, ↓spObj, RI, RLg, b2i_lo, b2i_hi, getL, setL, ltL, killL, isLong, inl, cnd, br, tgt, rcv, rpl, mputI, mputL, mputP, fv, fr, mcat, mcs, entL, entA, rfit, nf_0, nf_1, nf_2, nf_3, nf2_0, nf2_1, b2i_0, b2i_1, RI_b2i, b2i_fit, List.append, List.length, List.replicate, List.cons_append, List.nil_append, List.length_cons, List.length_nil, List.replicate_succ, List.replicate_zero, List.tail_cons, reduceIte, if_true, if_false, ite_true, ite_false, Bool.false_eq_true, true_and, and_true, and_self, false_and, and_false, or_self, or_true, true_or, or_false, false_or, not_true_eq_false, not_false_eq_true, ne_eq, forall_const, implies_true, imp_self, true_implies, false_implies, Nat.reduceAdd, Nat.reduceSub, Nat.reduceMul, Nat.reduceDiv, Nat.reduceMod, Nat.reduceEqDiff, Nat.reduceLT, Nat.reduceLeDiff, Nat.reduceBEq, Nat.add_zero, Nat.zero_add, Nat.le_refl, Nat.not_lt_zero, Nat.succ_eq_add_one, Int.reduceNatCast, Int.cast_ofNat_Int, Int.reduceSub, Int.reduceMul, Int.reduceNeg, Int.reduceLE, Int.reduceLT, Int.reduceToNat, Int.reduceEq, Int.reduceNe, Int.reduceAdd, Option.some.injEq, kX9_where, rmX9_where, ↓ofX9_13, ↓ofX9_79, ↓ocX9_where_128, ↓spX9_in, ↓ocX9_where_213, ↓spX9_findGains, ↓ocX9_where_210, ↓spX9_unitsOf, e1, e2, G_240, G_241, G_242, G_243, G_244, G_245, G_246, G_247, G_248, G_249, G_250, G_251, G_252, G_253, G_254, G_255, G_256, G_257, G_258, G_259, G_260, G_261, G_262, G_263, G_264, G_265, G_266, G_267, G_268, G_269, G_270, G_271, G_272, PF_240_6, PF_240_7, PF_240_8, PF_240_9, PF_240_10, PF_240_11, PF_240_12, PF_240_13, PF_240_14, PF_240_15, PF_240_16, PF_240_17, PF_240_18, PF_240_19, PF_240_20, PF_240_21, PF_240_22, PF_240_23, PF_240_24, PF_240_26, PF_240_27, PF_240_28, PF_240_29, PF_240_30, PF_240_31, PF_240_32, PF_240_33, PF_240_34, PF_240_35, PF_240_36, PF_240_37]
    refine ⟨by omega, fun q => by omega, fun q => ⟨by omega, by omega, by omega, by omega, by omega, by omega, fun q2 => ⟨by omega, by omega, by omega, ?_⟩, fun q2 => no (by omega)⟩⟩
    rw [if_neg q2] at e
    have := hcw q2
    exact ih (or1 x i) (w - mC I i) (by omega) (by omega) (by omega) e
set_option maxRecDepth 100000 in
set_option maxHeartbeats 800000 in
theorem mX9_where : MOK yX9_where cX9_where 5 (some .int) rmX9_where ciX9_where := by
  refine mok_of (ini := false) (by decide +kernel) (by decide) rfl rfl ?_
  intro σ As K hrc hl h
  obtain ⟨N, P, I, L⟩ := σ
  have h9 := pR_iff.mp h
  clear h
  obtain ⟨a, r, e9, h⟩ := h9
  subst e9
  have h9 := pI_iff.mp h
  clear h
  obtain ⟨u, r, e9, h⟩ := h9
  subst e9
  have h9 := pN_iff.mp h
  clear h
  obtain ⟨e9, h⟩ := h9
  subst e9
  try dsimp only at h
  obtain ⟨rfl, rfl, hu, hx, h1, h2⟩ := h
  unfold RI at hu
  refine ⟨Nat.le_of_ble_eq_true rfl, Ok.seg mdX9_where [29] 30 ?_⟩
  simp only [wp_nil, wp_cons, ↓stp, ↓lI, ↓lL, ↓lR, ↓lIn_0, ↓lIn_1, ↓lIn_2, ↓lIn_3, ↓lLn_0, ↓lLn_1, ↓lLn_2, ↓lLn_3, ↓lRn_0, ↓lRn_1, ↓lRn_2, ↓lRn_3, ↓pI, ↓pL, ↓pR, ↓pA, ↓pN, ↓pV, ↓fp, ↓tsw, ↓oS, ↓spMax, ↓spMin, ↓spAbs, ↓spObj, RI, RLg, b2i_lo, b2i_hi, getL, setL, ltL, killL, isLong, inl, cnd, br, tgt, rcv, rpl, mputI, mputL, mputP, fv, fr, mcat, mcs, entL, entA, rfit, nf_0, nf_1, nf_2, nf_3, nf2_0, nf2_1, b2i_0, b2i_1, RI_b2i, b2i_fit, List.append, List.length, List.replicate, List.cons_append, List.nil_append, List.length_cons, List.length_nil, List.replicate_succ, List.replicate_zero, List.tail_cons, reduceIte, if_true, if_false, ite_true, ite_false, Bool.false_eq_true, true_and, and_true, and_self, false_and, and_false, or_self, or_true, true_or, or_false, false_or, not_true_eq_false, not_false_eq_true, ne_eq, forall_const, implies_true, imp_self, true_implies, false_implies, Nat.reduceAdd, Nat.reduceSub, Nat.reduceMul, Nat.reduceDiv, Nat.reduceMod, Nat.reduceEqDiff, Nat.reduceLT, Nat.reduceLeDiff, Nat.reduceBEq, Nat.add_zero, Nat.zero_add, Nat.le_refl, Nat.not_lt_zero, Nat.succ_eq_add_one, Int.reduceNatCast, Int.cast_ofNat_Int, Int.reduceSub, Int.reduceMul, Int.reduceNeg, Int.reduceLE, Int.reduceLT, Int.reduceToNat, Int.reduceEq, Int.reduceNe, Int.reduceAdd, Option.some.injEq, kX9_where, rmX9_where, ↓ofX9_13, ↓ofX9_79, ↓ocX9_where_128, ↓spX9_in, ↓ocX9_where_213, ↓spX9_findGains, ↓ocX9_where_210, ↓spX9_unitsOf, hx, G_240, G_241, G_242, G_243, G_244, G_245, G_246, G_247, G_248, G_249, G_250, G_251, G_252, G_253, G_254, G_255, G_256, G_257, G_258, G_259, G_260, G_261, G_262, G_263, G_264, G_265, G_266, G_267, G_268, G_269, G_270, G_271, G_272, PF_240_6, PF_240_7, PF_240_8, PF_240_9, PF_240_10, PF_240_11, PF_240_12, PF_240_13, PF_240_14, PF_240_15, PF_240_16, PF_240_17, PF_240_18, PF_240_19, PF_240_20, PF_240_21, PF_240_22, PF_240_23, PF_240_24, PF_240_26, PF_240_27, PF_240_28, PF_240_29, PF_240_30, PF_240_31, PF_240_32, PF_240_33, PF_240_34, PF_240_35, PF_240_36, PF_240_37]
  refine ⟨by omega, fun q J M k1 k2 k3 k4 k5 => ?_, fun q => h1 (by omega)⟩
  have y1 : 0 ≤ J 240 1 := k3.1.1
  have := lpX9_wh (post := fun r σ' => rfit (some .int) r ∧ K r σ') (U := fun _ => False) (N := N) (L := M) (u := u) (by omega) k3.1 (bestM_l k4).2 k5 ⟨trivial, h2 (by omega) J M k1 k2 k3 k4⟩ (J 240 1).toNat 0 u (by omega) (by omega) (by omega) rfl
  rwa [show (((J 240 1).toNat : Nat) : Int) - 1 = J 240 1 - 1 by omega] at this
