/-! LapBoardModel: isShelf, lacksStation, weight, toss, wipe, make, element -/
theorem msh_d {I J : Int → Int → Int} {d : Int} (h : ∀ b, 264 ≤ b → b ≤ 269 → J b d = I b d) (h2 : ∀ i, 0 ≤ i → i < 60 → J 270 (60 * d + i) = I 270 (60 * d + i)) (hs : msh I d) : msh J d := by
  unfold msh
  rw [h 264 (by omega) (by omega), h 265 (by omega) (by omega), h 266 (by omega) (by omega), h 267 (by omega) (by omega), h 268 (by omega) (by omega), h 269 (by omega) (by omega)]
  exact ⟨hs.1, hs.2.1, hs.2.2.1, fun i a b => by rw [h2 i a b]; exact hs.2.2.2 i a b⟩
theorem VM_H {I J : Int → Int → Int} (hf : ∀ c k, ¬ (264 ≤ c ∧ c ≤ 271) → J c k = I c k) : VM J = VM I := VM_cg (fun k _ => hf _ _ (by omega)) (fun b k _ _ => hf _ _ (by omega)) (fun b k _ _ => hf _ _ (by omega))
theorem mOK_H {I J L : Int → Int → Int} (h : mOK I L) (hf : ∀ c k, ¬ (264 ≤ c ∧ c ≤ 271) → J c k = I c k) (hs : ∀ d, 0 ≤ d → d ≤ 7 → msh J d) : mOK J L := by
  obtain ⟨a, b, c, d, e⟩ := h
  have eV := VM_H hf
  refine ⟨by rw [eV]; exact a, by rw [eV]; exact b, by rw [eV]; exact c, fun g g0 g1 => ?_, hs⟩
  rw [eV, hf 248 _ (by omega), hf 240 3 (by omega), hf 240 4 (by omega)]
  exact d g g0 g1
def spX9_isShelf (As : List MV) (σ : MS) (K : Option MV → MS → Prop) : Prop := pR As fun a r => pI r fun d r => pN r (a = 240 ∧ RI d ∧ K (some (.inl (b2i (0 ≤ d ∧ d ≤ 7)))) σ)
def ciX9_isShelf : CI := (2, 9, 0, 0, spX9_isShelf)
def kX9_isShelf (pc : Nat) : List ME := match pc with
  | 0 => [(.aload_n 0, 1, []), (.iload_n 1, 1, []), (.iconst 0, 1, []), (.bipush 7, 2, []), (.invokevirtual 128, 3, []), (.ireturn, 1, [])]
  | _ => []
theorem qX9_isShelf : ∀ pc, chk cX9_isShelf pc (kX9_isShelf pc) = true := by
  intro pc
  unfold kX9_isShelf
  split <;> first | decide +kernel | exact chk_nil
abbrev rmX9_isShelf : Room := { frames := 1, cells := 0, slots := 0, locals := 23 }
def aX9_isShelf (x : Nat) : Option CI := match x with
  | 128 => some ciX9_in
  | _ => none
theorem aokX9_isShelf : ∀ x ci, aX9_isShelf x = some ci → CalOK RX9 rmX9_isShelf x ci := by
  intro x ci h
  unfold aX9_isShelf at h
  split at h
  · cases h; exact cal_V mX9_in (by decide) rfl (List.forall_mem_cons.mpr ⟨(ws_mem (List.mem_of_getElem? (i := 979) (by decide +kernel)) (by decide +kernel)), List.forall_mem_cons.mpr ⟨(ws_mem (List.mem_of_getElem? (i := 981) (by decide +kernel)) (by decide +kernel)), List.forall_mem_cons.mpr ⟨(ws_mem (List.mem_of_getElem? (i := 20) (by decide +kernel)) (by decide +kernel)), List.forall_mem_cons.mpr ⟨(ws_mem (List.mem_of_getElem? (i := 64) (by decide +kernel)) (by decide +kernel)), List.forall_mem_cons.mpr ⟨(ws_mem (List.mem_of_getElem? (i := 982) (by decide +kernel)) (by decide +kernel)), fun _ h => absurd h List.not_mem_nil⟩⟩⟩⟩⟩) rfl (by unfold nice; decide +kernel) (by unfold rfits; decide) ⟨rfl, rfl⟩
  · cases h
theorem ocX9_isShelf_128 (f : Nat → Nat → Nat → Nat → (List MV → MS → (Option MV → MS → Prop) → Prop) → Prop) : oC aX9_isShelf 128 f = f 4 9 0 0 spX9_in := propext Iff.rfl
theorem mdX9_isShelf : MD RX9 cX9_isShelf rmX9_isShelf kX9_isShelf fX9 aX9_isShelf zX9 uX9 := ⟨fokX9, zokX9, uokX9, aokX9_isShelf, qX9_isShelf⟩
set_option maxRecDepth 100000 in
set_option maxHeartbeats 800000 in
theorem mX9_isShelf : MOK yX9_isShelf cX9_isShelf 2 (some .boolean) rmX9_isShelf ciX9_isShelf := by
  refine mok_of (ini := false) (by decide +kernel) (by decide) rfl rfl ?_
  intro σ As K hrc hl h
  obtain ⟨N, P, I, L⟩ := σ
  have h9 := pR_iff.mp h
  clear h
  obtain ⟨a, r, e9, h⟩ := h9
  subst e9
  have h9 := pI_iff.mp h
  clear h
  obtain ⟨d, r, e9, h⟩ := h9
  subst e9
  have h9 := pN_iff.mp h
  clear h
  obtain ⟨e9, h⟩ := h9
  subst e9
  try dsimp only at h
  obtain ⟨rfl, hd, h⟩ := h
  unfold RI at hd
  refine ⟨Nat.le_of_ble_eq_true rfl, Ok.seg mdX9_isShelf [] 20 ?_⟩
  simp only [wp_nil, wp_cons, ↓stp, ↓lI, ↓lL, ↓lR, ↓lIn_0, ↓lIn_1, ↓lIn_2, ↓lIn_3, ↓lLn_0, ↓lLn_1, ↓lLn_2, ↓lLn_3, ↓lRn_0, ↓lRn_1, ↓lRn_2, ↓lRn_3, ↓pI, ↓pL, ↓pR, ↓pA, ↓pN, ↓pV, ↓fp, ↓tsw, ↓oS, ↓spMax, ↓spMin, ↓spAbs, ↓spObj, RI, RLg, b2i_lo, b2i_hi, getL, setL, ltL, killL, isLong, inl, cnd, br, tgt, rcv, rpl, mputI, mputL, mputP, fv, fr, mcat, mcs, entL, entA, rfit, nf_0, nf_1, nf_2, nf_3, nf2_0, nf2_1, b2i_0, b2i_1, RI_b2i, b2i_fit, List.append, List.length, List.replicate, List.cons_append, List.nil_append, List.length_cons, List.length_nil, List.replicate_succ, List.replicate_zero, List.tail_cons, reduceIte, if_true, if_false, ite_true, ite_false, Bool.false_eq_true, true_and, and_true, and_self, false_and, and_false, or_self, or_true, true_or, or_false, false_or, not_true_eq_false, not_false_eq_true, ne_eq, forall_const, implies_true, imp_self, true_implies, false_implies, Nat.reduceAdd, Nat.reduceSub, Nat.reduceMul, Nat.reduceDiv, Nat.reduceMod, Nat.reduceEqDiff, Nat.reduceLT, Nat.reduceLeDiff, Nat.reduceBEq, Nat.add_zero, Nat.zero_add, Nat.le_refl, Nat.not_lt_zero, Nat.succ_eq_add_one, Int.reduceNatCast, Int.cast_ofNat_Int, Int.reduceSub, Int.reduceMul, Int.reduceNeg, Int.reduceLE, Int.reduceLT, Int.reduceToNat, Int.reduceEq, Int.reduceNe, Int.reduceAdd, Option.some.injEq, kX9_isShelf, rmX9_isShelf, ↓ocX9_isShelf_128, ↓spX9_in, G_240, G_241, G_242, G_243, G_244, G_245, G_246, G_247, G_248, G_249, G_250, G_251, G_252, G_253, G_254, G_255, G_256, G_257, G_258, G_259, G_260, G_261, G_262, G_263, G_264, G_265, G_266, G_267, G_268, G_269, G_270, G_271, G_272, PF_240_6, PF_240_7, PF_240_8, PF_240_9, PF_240_10, PF_240_11, PF_240_12, PF_240_13, PF_240_14, PF_240_15, PF_240_16, PF_240_17, PF_240_18, PF_240_19, PF_240_20, PF_240_21, PF_240_22, PF_240_23, PF_240_24, PF_240_26, PF_240_27, PF_240_28, PF_240_29, PF_240_30, PF_240_31, PF_240_32, PF_240_33, PF_240_34, PF_240_35, PF_240_36, PF_240_37]
  exact ⟨by omega, by omega, h⟩
/-- why a shelf has no station -/
def lckM (I : Int → Int → Int) (d : Int) : Int := if ¬ (0 ≤ d ∧ d ≤ 7) then -1 else if I 264 d = 0 then -11 else if I 264 d = 1 then 0 else -12
def spX9_lacksStation (As : List MV) (σ : MS) (K : Option MV → MS → Prop) : Prop := pR As fun a r => pI r fun d r => pN r (a = 240 ∧ σ.2.1 = PF ∧ RI d ∧ mOK σ.2.2.1 σ.2.2.2 ∧ K (some (.inl (lckM σ.2.2.1 d))) σ)
def ciX9_lacksStation : CI := (2, 9, 0, 0, spX9_lacksStation)
def kX9_lacksStation (pc : Nat) : List ME := match pc with
  | 0 => [(.aload_n 0, 1, []), (.iload_n 1, 1, []), (.invokevirtual 235, 3, []), (.ifCond .ne 7, 3, [12]), (.iconst (-1), 1, []), (.goto 33, 3, [42])]
  | 12 => [(.aload_n 0, 1, []), (.getfield 104, 3, []), (.iload_n 1, 1, []), (.iaload, 1, []), (.ifCond .ne 8, 3, [26]), (.bipush (-11), 2, []), (.goto 19, 3, [42])]
  | 26 => [(.aload_n 0, 1, []), (.getfield 104, 3, []), (.iload_n 1, 1, []), (.iaload, 1, []), (.iconst 1, 1, []), (.if_icmp .eq 8, 3, [41]), (.bipush (-12), 2, []), (.goto 4, 3, [42])]
  | 41 => [(.iconst 0, 1, [])]
  | 42 => [(.ireturn, 1, [])]
  | _ => []
theorem qX9_lacksStation : ∀ pc, chk cX9_lacksStation pc (kX9_lacksStation pc) = true := by
  intro pc
  unfold kX9_lacksStation
  split <;> first | decide +kernel | exact chk_nil
abbrev rmX9_lacksStation : Room := { frames := 2, cells := 0, slots := 0, locals := 44 }
def aX9_lacksStation (x : Nat) : Option CI := match x with
  | 235 => some ciX9_isShelf
  | _ => none
theorem aokX9_lacksStation : ∀ x ci, aX9_lacksStation x = some ci → CalOK RX9 rmX9_lacksStation x ci := by
  intro x ci h
  unfold aX9_lacksStation at h
  split at h
  · cases h; exact cal_V mX9_isShelf (by decide) rfl (List.forall_mem_cons.mpr ⟨(ws_mem (List.mem_of_getElem? (i := 1202) (by decide +kernel)) (by decide +kernel)), List.forall_mem_cons.mpr ⟨(ws_mem (List.mem_of_getElem? (i := 1204) (by decide +kernel)) (by decide +kernel)), List.forall_mem_cons.mpr ⟨(ws_mem (List.mem_of_getElem? (i := 49) (by decide +kernel)) (by decide +kernel)), List.forall_mem_cons.mpr ⟨(ws_mem (List.mem_of_getElem? (i := 64) (by decide +kernel)) (by decide +kernel)), List.forall_mem_cons.mpr ⟨(ws_mem (List.mem_of_getElem? (i := 1205) (by decide +kernel)) (by decide +kernel)), fun _ h => absurd h List.not_mem_nil⟩⟩⟩⟩⟩) rfl (by unfold nice; decide +kernel) (by unfold rfits; decide) ⟨rfl, rfl⟩
  · cases h
theorem ocX9_lacksStation_235 (f : Nat → Nat → Nat → Nat → (List MV → MS → (Option MV → MS → Prop) → Prop) → Prop) : oC aX9_lacksStation 235 f = f 2 9 0 0 spX9_isShelf := propext Iff.rfl
theorem mdX9_lacksStation : MD RX9 cX9_lacksStation rmX9_lacksStation kX9_lacksStation fX9 aX9_lacksStation zX9 uX9 := ⟨fokX9, zokX9, uokX9, aokX9_lacksStation, qX9_lacksStation⟩
set_option maxRecDepth 100000 in
set_option maxHeartbeats 800000 in
theorem mX9_lacksStation : MOK yX9_lacksStation cX9_lacksStation 2 (some .int) rmX9_lacksStation ciX9_lacksStation := by
  refine mok_of (ini := false) (by decide +kernel) (by decide) rfl rfl ?_
  intro σ As K hrc hl h
  obtain ⟨N, P, I, L⟩ := σ
  have h9 := pR_iff.mp h
  clear h
  obtain ⟨a, r, e9, h⟩ := h9
  subst e9
  have h9 := pI_iff.mp h
  clear h
  obtain ⟨d, r, e9, h⟩ := h9
  subst e9
  have h9 := pN_iff.mp h
  clear h
  obtain ⟨e9, h⟩ := h9
  subst e9
  try dsimp only at h
  obtain ⟨rfl, rfl, hd, hx, h⟩ := h
  unfold RI at hd
  unfold lckM at h
  by_cases q : 0 ≤ d ∧ d ≤ 7
  · have sd := (hx.2.2.2.2 d q.1 q.2).1
    rw [if_neg (fun z => z q)] at h
    refine ⟨Nat.le_of_ble_eq_true rfl, Ok.seg mdX9_lacksStation [] 40 ?_⟩
    simp only [wp_nil, wp_cons, ↓stp, ↓lI, ↓lL, ↓lR, ↓lIn_0, ↓lIn_1, ↓lIn_2, ↓lIn_3, ↓lLn_0, ↓lLn_1, ↓lLn_2, ↓lLn_3, ↓lRn_0, ↓lRn_1, ↓lRn_2, ↓lRn_3, ↓pI, ↓pL, ↓pR, ↓pA, ↓pN, ↓pV, ↓fp, ↓tsw, ↓oS, ↓spMax, ↓spMin, ↓spAbs, ↓spObj, RI, RLg, b2i_lo, b2i_hi, getL, setL, ltL, killL, isLong, inl, cnd, br, tgt, rcv, rpl, mputI, mputL, mputP, fv, fr, mcat, mcs, entL, entA, rfit, nf_0, nf_1, nf_2, nf_3, nf2_0, nf2_1, b2i_0, b2i_1, RI_b2i, b2i_fit, List.append, List.length, List.replicate, List.cons_append, List.nil_append, List.length_cons, List.length_nil, List.replicate_succ, List.replicate_zero, List.tail_cons, reduceIte, if_true, if_false, ite_true, ite_false, Bool.false_eq_true, true_and, and_true, and_self, false_and, and_false, or_self, or_true, true_or, or_false, false_or, not_true_eq_false, not_false_eq_true, ne_eq, forall_const, implies_true, imp_self, true_implies, false_implies, Nat.reduceAdd, Nat.reduceSub, Nat.reduceMul, Nat.reduceDiv, Nat.reduceMod, Nat.reduceEqDiff, Nat.reduceLT, Nat.reduceLeDiff, Nat.reduceBEq, Nat.add_zero, Nat.zero_add, Nat.le_refl, Nat.not_lt_zero, Nat.succ_eq_add_one, Int.reduceNatCast, Int.cast_ofNat_Int, Int.reduceSub, Int.reduceMul, Int.reduceNeg, Int.reduceLE, Int.reduceLT, Int.reduceToNat, Int.reduceEq, Int.reduceNe, Int.reduceAdd, Option.some.injEq, kX9_lacksStation, rmX9_lacksStation, ↓ofX9_104, ↓ocX9_lacksStation_235, ↓spX9_isShelf, q, G_240, G_241, G_242, G_243, G_244, G_245, G_246, G_247, G_248, G_249, G_250, G_251, G_252, G_253, G_254, G_255, G_256, G_257, G_258, G_259, G_260, G_261, G_262, G_263, G_264, G_265, G_266, G_267, G_268, G_269, G_270, G_271, G_272, PF_240_6, PF_240_7, PF_240_8, PF_240_9, PF_240_10, PF_240_11, PF_240_12, PF_240_13, PF_240_14, PF_240_15, PF_240_16, PF_240_17, PF_240_18, PF_240_19, PF_240_20, PF_240_21, PF_240_22, PF_240_23, PF_240_24, PF_240_26, PF_240_27, PF_240_28, PF_240_29, PF_240_30, PF_240_31, PF_240_32, PF_240_33, PF_240_34, PF_240_35, PF_240_36, PF_240_37]
    refine ⟨by omega, by omega, by omega, fun z => ⟨by omega, by omega, fun z2 => ?_, fun z2 => ?_⟩, fun z => ?_⟩
    · rw [if_neg z, if_pos z2] at h; exact h
    · rw [if_neg z, if_neg z2] at h; exact h
    · rw [if_pos (by omega)] at h; exact h
  · rw [if_pos q] at h
    refine ⟨Nat.le_of_ble_eq_true rfl, Ok.seg mdX9_lacksStation [] 40 ?_⟩
    simp only [wp_nil, wp_cons, ↓stp, ↓lI, ↓lL, ↓lR, ↓lIn_0, ↓lIn_1, ↓lIn_2, ↓lIn_3, ↓lLn_0, ↓lLn_1, ↓lLn_2, ↓lLn_3, ↓lRn_0, ↓lRn_1, ↓lRn_2, ↓lRn_3, ↓pI, ↓pL, ↓pR, ↓pA, ↓pN, ↓pV, ↓fp, ↓tsw, ↓oS, ↓spMax, ↓spMin, ↓spAbs, ↓spObj, RI, RLg, b2i_lo, b2i_hi, getL, setL, ltL, killL, isLong, inl, cnd, br, tgt, rcv, rpl, mputI, mputL, mputP, fv, fr, mcat, mcs, entL, entA, rfit, nf_0, nf_1, nf_2, nf_3, nf2_0, nf2_1, b2i_0, b2i_1, RI_b2i, b2i_fit, List.append, List.length, List.replicate, List.cons_append, List.nil_append, List.length_cons, List.length_nil, List.replicate_succ, List.replicate_zero, List.tail_cons, reduceIte, if_true, if_false, ite_true, ite_false, Bool.false_eq_true, true_and, and_true, and_self, false_and, and_false, or_self, or_true, true_or, or_false, false_or, not_true_eq_false, not_false_eq_true, ne_eq, forall_const, implies_true, imp_self, true_implies, false_implies, Nat.reduceAdd, Nat.reduceSub, Nat.reduceMul, Nat.reduceDiv, Nat.reduceMod, Nat.reduceEqDiff, Nat.reduceLT, Nat.reduceLeDiff, Nat.reduceBEq, Nat.add_zero, Nat.zero_add, Nat.le_refl, Nat.not_lt_zero, Nat.succ_eq_add_one, Int.reduceNatCast, Int.cast_ofNat_Int, Int.reduceSub, Int.reduceMul, Int.reduceNeg, Int.reduceLE, Int.reduceLT, Int.reduceToNat, Int.reduceEq, Int.reduceNe, Int.reduceAdd, Option.some.injEq, kX9_lacksStation, rmX9_lacksStation, ↓ofX9_104, ↓ocX9_lacksStation_235, ↓spX9_isShelf, q, G_240, G_241, G_242, G_243, G_244, G_245, G_246, G_247, G_248, G_249, G_250, G_251, G_252, G_253, G_254, G_255, G_256, G_257, G_258, G_259, G_260, G_261, G_262, G_263, G_264, G_265, G_266, G_267, G_268, G_269, G_270, G_271, G_272, PF_240_6, PF_240_7, PF_240_8, PF_240_9, PF_240_10, PF_240_11, PF_240_12, PF_240_13, PF_240_14, PF_240_15, PF_240_16, PF_240_17, PF_240_18, PF_240_19, PF_240_20, PF_240_21, PF_240_22, PF_240_23, PF_240_24, PF_240_26, PF_240_27, PF_240_28, PF_240_29, PF_240_30, PF_240_31, PF_240_32, PF_240_33, PF_240_34, PF_240_35, PF_240_36, PF_240_37]
    exact ⟨by omega, h⟩
def spX9_wipe (As : List MV) (σ : MS) (K : Option MV → MS → Prop) : Prop := pR As fun a r => pI r fun d r => pN r (a = 240 ∧ σ.2.1 = PF ∧ 0 ≤ d ∧ d ≤ 7 ∧ ∀ I' : Int → Int → Int, (∀ c k, ¬ (c = 270 ∧ 60 * d ≤ k ∧ k < 60 * d + 60) → I' c k = σ.2.2.1 c k) → (∀ i, 0 ≤ i → i < 60 → I' 270 (60 * d + i) = 0) → K none (σ.1, σ.2.1, I', σ.2.2.2))
def ciX9_wipe : CI := (2, 9, 0, 0, spX9_wipe)
def kX9_wipe (pc : Nat) : List ME := match pc with
  | 0 => [(.iconst 0, 1, []), (.istore_n 2, 1, [])]
  | 2 => [(.iload_n 2, 1, []), (.bipush 60, 2, []), (.if_icmp .ge 21, 3, [26]), (.aload_n 0, 1, []), (.getfield 122, 3, []), (.bipush 60, 2, []), (.iload_n 1, 1, []), (.imul, 1, []), (.iload_n 2, 1, []), (.iadd, 1, []), (.iconst 0, 1, []), (.iastore, 1, []), (.iinc 2 1, 3, []), (.goto (-21), 3, [2])]
  | 26 => [(.return_, 1, [])]
  | _ => []
theorem qX9_wipe : ∀ pc, chk cX9_wipe pc (kX9_wipe pc) = true := by
  intro pc
  unfold kX9_wipe
  split <;> first | decide +kernel | exact chk_nil
abbrev rmX9_wipe : Room := { frames := 0, cells := 0, slots := 0, locals := 0 }
def aX9_wipe (_ : Nat) : Option CI := none
theorem aokX9_wipe : ∀ x ci, aX9_wipe x = some ci → CalOK RX9 rmX9_wipe x ci := fun _ _ h => by cases h
theorem mdX9_wipe : MD RX9 cX9_wipe rmX9_wipe kX9_wipe fX9 aX9_wipe zX9 uX9 := ⟨fokX9, zokX9, uokX9, aokX9_wipe, qX9_wipe⟩
theorem lpX9_wipe {post : Option MV → MS → Prop} {U : Pt → Prop} {N : Nat} {I L : Int → Int → Int} {d : Int} (d0 : 0 ≤ d) (d1 : d ≤ 7)
    (h : ∀ I' : Int → Int → Int, (∀ c k, ¬ (c = 270 ∧ 60 * d ≤ k ∧ k < 60 * d + 60) → I' c k = I c k) → (∀ i, 0 ≤ i → i < 60 → I' 270 (60 * d + i) = 0) → post none (N, PF, I', L)) :
    ∀ (m : Nat) (i : Int) (J : Int → Int → Int), i + m = 60 → 0 ≤ i → (∀ c k, ¬ (c = 270 ∧ 60 * d ≤ k ∧ k < 60 * d + 60) → J c k = I c k) → (∀ k, 0 ≤ k → k < i → J 270 (60 * d + k) = 0) →
    Ok RX9 cX9_wipe 3 rmX9_wipe false none post U (2, [some (.inr (.inr (some 240))), some (.inl d), some (.inl i)], [], (N, PF, J, L), 0, 0)
  | 0, i, J, hi, i0, h1, h2 => by
    refine Ok.seg mdX9_wipe [2] 20 ?_
    simp only [wp_nil, wp_cons, ↓stp, ↓lI, ↓lL, ↓lR, ↓lIn_0, ↓lIn_1, ↓lIn_2, ↓lIn_3, ↓lLn_0, ↓lLn_1, ↓lLn_2, ↓lLn_3, ↓lRn_0, ↓lRn_1, ↓lRn_2, ↓lRn_3, ↓pI, ↓pL, ↓pR, ↓pA, ↓pN, ↓pV, ↓fp, ↓tsw, ↓oS, ↓spMax, ↓spMin, ↓spAbs, ↓spObj, RI, RLg, b2i_lo, b2i_hi, getL, setL, ltL, killL, isLong, inl, cnd, br, tgt, rcv, rpl, mputI, mputL, mputP, fv, fr, mcat, mcs, entL, entA, rfit, nf_0, nf_1, nf_2, nf_3, nf2_0, nf2_1, b2i_0, b2i_1, RI_b2i, b2i_fit, List.append, List.length, List.replicate, List.cons_append, List.nil_append, List.length_cons, List.length_nil, List.replicate_succ, List.replicate_zero, List.tail_cons, reduceIte, if_true, if_false, ite_true, ite_false, Bool.false_eq_true, true_and, and_true, and_self, false_and, and_false, or_self, or_true, true_or, or_false, false_or, not_true_eq_false, not_false_eq_true, ne_eq, forall_const, implies_true, imp_self, true_implies, false_implies, Nat.reduceAdd, Nat.reduceSub, Nat.reduceMul, Nat.reduceDiv, Nat.reduceMod, Nat.reduceEqDiff, Nat.reduceLT, Nat.reduceLeDiff, Nat.reduceBEq, Nat.add_zero, Nat.zero_add, Nat.le_refl, Nat.not_lt_zero, Nat.succ_eq_add_one, Int.reduceNatCast, Int.cast_ofNat_Int, Int.reduceSub, Int.reduceMul, Int.reduceNeg, Int.reduceLE, Int.reduceLT, Int.reduceToNat, Int.reduceEq, Int.reduceNe, Int.reduceAdd, Option.some.injEq, kX9_wipe, rmX9_wipe, ↓ofX9_122, G_240, G_241, G_242, G_243, G_244, G_245, G_246, G_247, G_248, G_249, G_250, G_251, G_252, G_253, G_254, G_255, G_256, G_257, G_258, G_259, G_260, G_261, G_262, G_263, G_264, G_265, G_266, G_267, G_268, G_269, G_270, G_271, G_272, PF_240_6, PF_240_7, PF_240_8, PF_240_9, PF_240_10, PF_240_11, PF_240_12, PF_240_13, PF_240_14, PF_240_15, PF_240_16, PF_240_17, PF_240_18, PF_240_19, PF_240_20, PF_240_21, PF_240_22, PF_240_23, PF_240_24, PF_240_26, PF_240_27, PF_240_28, PF_240_29, PF_240_30, PF_240_31, PF_240_32, PF_240_33, PF_240_34, PF_240_35, PF_240_36, PF_240_37]
    exact ⟨by omega, fun _ => h J h1 (fun k k0 k1 => h2 k k0 (by omega)), fun q => by omega⟩
  | m + 1, i, J, hi, i0, h1, h2 => by
    have ih := fun J => lpX9_wipe (U := U) (post := post) (N := N) (L := L) d0 d1 h m (i + 1) J (by omega) (by omega)
    refine Ok.seg mdX9_wipe [2] 20 ?_
    simp only [wp_nil, wp_cons, ↓stp, ↓lI, ↓lL, ↓lR, ↓lIn_0, ↓lIn_1, ↓lIn_2, ↓lIn_3, ↓lLn_0, ↓lLn_1, ↓lLn_2, ↓lLn_3, ↓lRn_0, ↓lRn_1, ↓lRn_2, ↓lRn_3, ↓pI, ↓pL, ↓pR, ↓pA, ↓pN, ↓pV, ↓fp, ↓tsw, ↓oS, ↓spMax, ↓spMin, ↓spAbs, ↓spObj, RI, RLg, b2i_lo, b2i_hi, getL, setL, ltL, killL, isLong, inl, cnd, br, tgt, rcv, rpl, mputI, mputL, mputP, fv, fr, mcat, mcs, entL, entA, rfit, nf_0, nf_1, nf_2, nf_3, nf2_0, nf2_1, b2i_0, b2i_1, RI_b2i, b2i_fit, List.append, List.length, List.replicate, List.cons_append, List.nil_append, List.length_cons, List.length_nil, List.replicate_succ, List.replicate_zero, List.tail_cons, reduceIte, if_true, if_false, ite_true, ite_false, Bool.false_eq_true, true_and, and_true, and_self, false_and, and_false, or_self, or_true, true_or, or_false, false_or, not_true_eq_false, not_false_eq_true, ne_eq, forall_const, implies_true, imp_self, true_implies, false_implies, Nat.reduceAdd, Nat.reduceSub, Nat.reduceMul, Nat.reduceDiv, Nat.reduceMod, Nat.reduceEqDiff, Nat.reduceLT, Nat.reduceLeDiff, Nat.reduceBEq, Nat.add_zero, Nat.zero_add, Nat.le_refl, Nat.not_lt_zero, Nat.succ_eq_add_one, Int.reduceNatCast, Int.cast_ofNat_Int, Int.reduceSub, Int.reduceMul, Int.reduceNeg, Int.reduceLE, Int.reduceLT, Int.reduceToNat, Int.reduceEq, Int.reduceNe, Int.reduceAdd, Option.some.injEq, kX9_wipe, rmX9_wipe, ↓ofX9_122, G_240, G_241, G_242, G_243, G_244, G_245, G_246, G_247, G_248, G_249, G_250, G_251, G_252, G_253, G_254, G_255, G_256, G_257, G_258, G_259, G_260, G_261, G_262, G_263, G_264, G_265, G_266, G_267, G_268, G_269, G_270, G_271, G_272, PF_240_6, PF_240_7, PF_240_8, PF_240_9, PF_240_10, PF_240_11, PF_240_12, PF_240_13, PF_240_14, PF_240_15, PF_240_16, PF_240_17, PF_240_18, PF_240_19, PF_240_20, PF_240_21, PF_240_22, PF_240_23, PF_240_24, PF_240_26, PF_240_27, PF_240_28, PF_240_29, PF_240_30, PF_240_31, PF_240_32, PF_240_33, PF_240_34, PF_240_35, PF_240_36, PF_240_37]
    refine ⟨by omega, fun q => by omega, fun _ => ⟨by omega, by omega, ih _ (fun c k hc => ?_) (fun k k0 k1 => ?_)⟩⟩
    · rw [show upI J 270 (60 * d + i) 0 c k = J c k from if_neg (by omega)]; exact h1 c k hc
    · by_cases z : k = i
      · rw [z, upI_same]
      · rw [upI_nj (by omega)]; exact h2 k k0 (by omega)
set_option maxRecDepth 100000 in
set_option maxHeartbeats 800000 in
theorem mX9_wipe : MOK yX9_wipe cX9_wipe 3 none rmX9_wipe ciX9_wipe := by
  refine mok_of (ini := false) (by decide +kernel) (by decide) rfl rfl ?_
  intro σ As K hrc hl h
  obtain ⟨N, P, I, L⟩ := σ
  have h9 := pR_iff.mp h
  clear h
  obtain ⟨a, r, e9, h⟩ := h9
  subst e9
  have h9 := pI_iff.mp h
  clear h
  obtain ⟨d, r, e9, h⟩ := h9
  subst e9
  have h9 := pN_iff.mp h
  clear h
  obtain ⟨e9, h⟩ := h9
  subst e9
  try dsimp only at h
  obtain ⟨rfl, rfl, d0, d1, h⟩ := h
  refine ⟨Nat.le_of_ble_eq_true rfl, Ok.seg mdX9_wipe [2] 20 ?_⟩
  simp only [wp_nil, wp_cons, ↓stp, ↓lI, ↓lL, ↓lR, ↓lIn_0, ↓lIn_1, ↓lIn_2, ↓lIn_3, ↓lLn_0, ↓lLn_1, ↓lLn_2, ↓lLn_3, ↓lRn_0, ↓lRn_1, ↓lRn_2, ↓lRn_3, ↓pI, ↓pL, ↓pR, ↓pA, ↓pN, ↓pV, ↓fp, ↓tsw, ↓oS, ↓spMax, ↓spMin, ↓spAbs, ↓spObj, RI, RLg, b2i_lo, b2i_hi, getL, setL, ltL, killL, isLong, inl, cnd, br, tgt, rcv, rpl, mputI, mputL, mputP, fv, fr, mcat, mcs, entL, entA, rfit, nf_0, nf_1, nf_2, nf_3, nf2_0, nf2_1, b2i_0, b2i_1, RI_b2i, b2i_fit, List.append, List.length, List.replicate, List.cons_append, List.nil_append, List.length_cons, List.length_nil, List.replicate_succ, List.replicate_zero, List.tail_cons, reduceIte, if_true, if_false, ite_true, ite_false, Bool.false_eq_true, true_and, and_true, and_self, false_and, and_false, or_self, or_true, true_or, or_false, false_or, not_true_eq_false, not_false_eq_true, ne_eq, forall_const, implies_true, imp_self, true_implies, false_implies, Nat.reduceAdd, Nat.reduceSub, Nat.reduceMul, Nat.reduceDiv, Nat.reduceMod, Nat.reduceEqDiff, Nat.reduceLT, Nat.reduceLeDiff, Nat.reduceBEq, Nat.add_zero, Nat.zero_add, Nat.le_refl, Nat.not_lt_zero, Nat.succ_eq_add_one, Int.reduceNatCast, Int.cast_ofNat_Int, Int.reduceSub, Int.reduceMul, Int.reduceNeg, Int.reduceLE, Int.reduceLT, Int.reduceToNat, Int.reduceEq, Int.reduceNe, Int.reduceAdd, Option.some.injEq, kX9_wipe, rmX9_wipe, ↓ofX9_122, G_240, G_241, G_242, G_243, G_244, G_245, G_246, G_247, G_248, G_249, G_250, G_251, G_252, G_253, G_254, G_255, G_256, G_257, G_258, G_259, G_260, G_261, G_262, G_263, G_264, G_265, G_266, G_267, G_268, G_269, G_270, G_271, G_272, PF_240_6, PF_240_7, PF_240_8, PF_240_9, PF_240_10, PF_240_11, PF_240_12, PF_240_13, PF_240_14, PF_240_15, PF_240_16, PF_240_17, PF_240_18, PF_240_19, PF_240_20, PF_240_21, PF_240_22, PF_240_23, PF_240_24, PF_240_26, PF_240_27, PF_240_28, PF_240_29, PF_240_30, PF_240_31, PF_240_32, PF_240_33, PF_240_34, PF_240_35, PF_240_36, PF_240_37]
  exact lpX9_wipe (post := fun r σ' => rfit none r ∧ K r σ') d0 d1 (fun J a b => ⟨trivial, h J a b⟩) 60 0 I (by omega) (by omega) (fun _ _ _ => rfl) (fun k a b => by omega)
def spX9_make (As : List MV) (σ : MS) (K : Option MV → MS → Prop) : Prop := pR As fun a r => pI r fun d r => pI r fun w r => pI r fun n r => pN r (a = 240 ∧ σ.2.1 = PF ∧ RI d ∧ RI w ∧ RI n ∧ mOK σ.2.2.1 σ.2.2.2 ∧ (¬ (0 ≤ d ∧ d ≤ 7 ∧ 3 ≤ w ∧ w ≤ 4 ∧ n ≤ 60) → K (some (.inl (-1))) σ) ∧ (0 ≤ d ∧ d ≤ 7 ∧ 3 ≤ w ∧ w ≤ 4 ∧ n ≤ 60 → (n < 0 → K (some (.inl (-14))) σ) ∧ (0 ≤ n → ∀ I' : Int → Int → Int, (∀ c k, ¬ (c = 264 ∧ k = d) → ¬ (c = 269 ∧ k = d) → ¬ (c = 270 ∧ 60 * d ≤ k ∧ k < 60 * d + 60) → I' c k = σ.2.2.1 c k) → mOK I' σ.2.2.2 → I' 264 d = w → I' 269 d = n → (∀ i, 0 ≤ i → i < 60 → I' 270 (60 * d + i) = 0) → K (some (.inl 0)) (σ.1, σ.2.1, I', σ.2.2.2))))
def ciX9_make : CI := (4, 9, 0, 0, spX9_make)
def kX9_make (pc : Nat) : List ME := match pc with
  | 0 => [(.aload_n 0, 1, []), (.iload_n 1, 1, []), (.invokevirtual 235, 3, []), (.ifCond .eq 19, 3, [24]), (.aload_n 0, 1, []), (.iload_n 2, 1, []), (.iconst 3, 1, []), (.iconst 4, 1, []), (.invokevirtual 128, 3, []), (.ifCond .eq 9, 3, [24]), (.iload_n 3, 1, []), (.bipush 60, 2, []), (.if_icmp .le 5, 3, [26])]
  | 24 => [(.iconst (-1), 1, []), (.ireturn, 1, [])]
  | 26 => [(.iload_n 3, 1, []), (.ifCond .ge 6, 3, [33]), (.bipush (-14), 2, []), (.ireturn, 1, [])]
  | 33 => [(.aload_n 0, 1, []), (.getfield 104, 3, []), (.iload_n 1, 1, []), (.iload_n 2, 1, []), (.iastore, 1, []), (.aload_n 0, 1, []), (.getfield 119, 3, []), (.iload_n 1, 1, []), (.iload_n 3, 1, []), (.iastore, 1, []), (.aload_n 0, 1, []), (.iload_n 1, 1, []), (.invokevirtual 238, 3, []), (.iconst 0, 1, []), (.ireturn, 1, [])]
  | _ => []
theorem qX9_make : ∀ pc, chk cX9_make pc (kX9_make pc) = true := by
  intro pc
  unfold kX9_make
  split <;> first | decide +kernel | exact chk_nil
abbrev rmX9_make : Room := { frames := 2, cells := 0, slots := 0, locals := 44 }
def aX9_make (x : Nat) : Option CI := match x with
  | 235 => some ciX9_isShelf
  | 128 => some ciX9_in
  | 238 => some ciX9_wipe
  | _ => none
theorem aokX9_make : ∀ x ci, aX9_make x = some ci → CalOK RX9 rmX9_make x ci := by
  intro x ci h
  unfold aX9_make at h
  split at h
  · cases h; exact cal_V mX9_isShelf (by decide) rfl (List.forall_mem_cons.mpr ⟨(ws_mem (List.mem_of_getElem? (i := 1202) (by decide +kernel)) (by decide +kernel)), List.forall_mem_cons.mpr ⟨(ws_mem (List.mem_of_getElem? (i := 1204) (by decide +kernel)) (by decide +kernel)), List.forall_mem_cons.mpr ⟨(ws_mem (List.mem_of_getElem? (i := 49) (by decide +kernel)) (by decide +kernel)), List.forall_mem_cons.mpr ⟨(ws_mem (List.mem_of_getElem? (i := 64) (by decide +kernel)) (by decide +kernel)), List.forall_mem_cons.mpr ⟨(ws_mem (List.mem_of_getElem? (i := 1205) (by decide +kernel)) (by decide +kernel)), fun _ h => absurd h List.not_mem_nil⟩⟩⟩⟩⟩) rfl (by unfold nice; decide +kernel) (by unfold rfits; decide) ⟨rfl, rfl⟩
  · cases h; exact cal_V mX9_in (by decide) rfl (List.forall_mem_cons.mpr ⟨(ws_mem (List.mem_of_getElem? (i := 979) (by decide +kernel)) (by decide +kernel)), List.forall_mem_cons.mpr ⟨(ws_mem (List.mem_of_getElem? (i := 981) (by decide +kernel)) (by decide +kernel)), List.forall_mem_cons.mpr ⟨(ws_mem (List.mem_of_getElem? (i := 20) (by decide +kernel)) (by decide +kernel)), List.forall_mem_cons.mpr ⟨(ws_mem (List.mem_of_getElem? (i := 64) (by decide +kernel)) (by decide +kernel)), List.forall_mem_cons.mpr ⟨(ws_mem (List.mem_of_getElem? (i := 982) (by decide +kernel)) (by decide +kernel)), fun _ h => absurd h List.not_mem_nil⟩⟩⟩⟩⟩) rfl (by unfold nice; decide +kernel) (by unfold rfits; decide) ⟨rfl, rfl⟩
  · cases h; exact cal_V mX9_wipe (by decide) rfl (List.forall_mem_cons.mpr ⟨(ws_mem (List.mem_of_getElem? (i := 1206) (by decide +kernel)) (by decide +kernel)), List.forall_mem_cons.mpr ⟨(ws_mem (List.mem_of_getElem? (i := 1208) (by decide +kernel)) (by decide +kernel)), List.forall_mem_cons.mpr ⟨(ws_mem (List.mem_of_getElem? (i := 50) (by decide +kernel)) (by decide +kernel)), List.forall_mem_cons.mpr ⟨(ws_mem (List.mem_of_getElem? (i := 64) (by decide +kernel)) (by decide +kernel)), List.forall_mem_cons.mpr ⟨(ws_mem (List.mem_of_getElem? (i := 1209) (by decide +kernel)) (by decide +kernel)), fun _ h => absurd h List.not_mem_nil⟩⟩⟩⟩⟩) rfl (by unfold nice; decide +kernel) (by unfold rfits; decide) ⟨rfl, rfl⟩
  · cases h
theorem ocX9_make_235 (f : Nat → Nat → Nat → Nat → (List MV → MS → (Option MV → MS → Prop) → Prop) → Prop) : oC aX9_make 235 f = f 2 9 0 0 spX9_isShelf := propext Iff.rfl
theorem ocX9_make_128 (f : Nat → Nat → Nat → Nat → (List MV → MS → (Option MV → MS → Prop) → Prop) → Prop) : oC aX9_make 128 f = f 4 9 0 0 spX9_in := propext Iff.rfl
theorem ocX9_make_238 (f : Nat → Nat → Nat → Nat → (List MV → MS → (Option MV → MS → Prop) → Prop) → Prop) : oC aX9_make 238 f = f 2 9 0 0 spX9_wipe := propext Iff.rfl
theorem mdX9_make : MD RX9 cX9_make rmX9_make kX9_make fX9 aX9_make zX9 uX9 := ⟨fokX9, zokX9, uokX9, aokX9_make, qX9_make⟩
set_option maxRecDepth 100000 in
set_option maxHeartbeats 800000 in
theorem mX9_make : MOK yX9_make cX9_make 4 (some .int) rmX9_make ciX9_make := by
  refine mok_of (ini := false) (by decide +kernel) (by decide) rfl rfl ?_
  intro σ As K hrc hl h
  obtain ⟨N, P, I, L⟩ := σ
  have h9 := pR_iff.mp h
  clear h
  obtain ⟨a, r, e9, h⟩ := h9
  subst e9
  have h9 := pI_iff.mp h
  clear h
  obtain ⟨d, r, e9, h⟩ := h9
  subst e9
  have h9 := pI_iff.mp h
  clear h
  obtain ⟨w, r, e9, h⟩ := h9
  subst e9
  have h9 := pI_iff.mp h
  clear h
  obtain ⟨n, r, e9, h⟩ := h9
  subst e9
  have h9 := pN_iff.mp h
  clear h
  obtain ⟨e9, h⟩ := h9
  subst e9
  try dsimp only at h
  obtain ⟨rfl, rfl, hd, hw, hn, hx, h1, h2⟩ := h
  unfold RI at hd hw hn
  by_cases q : 0 ≤ d ∧ d ≤ 7
  · refine ⟨Nat.le_of_ble_eq_true rfl, Ok.seg mdX9_make [] 60 ?_⟩
    simp only [wp_nil, wp_cons, ↓stp, ↓lI, ↓lL, ↓lR, ↓lIn_0, ↓lIn_1, ↓lIn_2, ↓lIn_3, ↓lLn_0, ↓lLn_1, ↓lLn_2, ↓lLn_3, ↓lRn_0, ↓lRn_1, ↓lRn_2, ↓lRn_3, ↓pI, ↓pL, ↓pR, ↓pA, ↓pN, ↓pV, ↓fp, ↓tsw, ↓oS, ↓spMax, ↓spMin, ↓spAbs, ↓spObj, RI, RLg, b2i_lo, b2i_hi, getL, setL, ltL, killL, isLong, inl, cnd, br, tgt, rcv, rpl, mputI, mputL, mputP, fv, fr, mcat, mcs, entL, entA, rfit, nf_0, nf_1, nf_2, nf_3, nf2_0, nf2_1, b2i_0, b2i_1, RI_b2i, b2i_fit, List.append, List.length, List.replicate, List.cons_append, List.nil_append, List.length_cons, List.length_nil, List.replicate_succ, List.replicate_zero, List.tail_cons, reduceIte, if_true, if_false, ite_true, ite_false, Bool.false_eq_true, true_and, and_true, and_self, false_and, and_false, or_self, or_true, true_or, or_false, false_or, not_true_eq_false, not_false_eq_true, ne_eq, forall_const, implies_true, imp_self, true_implies, false_implies, Nat.reduceAdd, Nat.reduceSub, Nat.reduceMul, Nat.reduceDiv, Nat.reduceMod, Nat.reduceEqDiff, Nat.reduceLT, Nat.reduceLeDiff, Nat.reduceBEq, Nat.add_zero, Nat.zero_add, Nat.le_refl, Nat.not_lt_zero, Nat.succ_eq_add_one, Int.reduceNatCast, Int.cast_ofNat_Int, Int.reduceSub, Int.reduceMul, Int.reduceNeg, Int.reduceLE, Int.reduceLT, Int.reduceToNat, Int.reduceEq, Int.reduceNe, Int.reduceAdd, Option.some.injEq, kX9_make, rmX9_make, ↓ofX9_104, ↓ofX9_119, ↓ocX9_make_235, ↓spX9_isShelf, ↓ocX9_make_128, ↓spX9_in, ↓ocX9_make_238, ↓spX9_wipe, q, G_240, G_241, G_242, G_243, G_244, G_245, G_246, G_247, G_248, G_249, G_250, G_251, G_252, G_253, G_254, G_255, G_256, G_257, G_258, G_259, G_260, G_261, G_262, G_263, G_264, G_265, G_266, G_267, G_268, G_269, G_270, G_271, G_272, PF_240_6, PF_240_7, PF_240_8, PF_240_9, PF_240_10, PF_240_11, PF_240_12, PF_240_13, PF_240_14, PF_240_15, PF_240_16, PF_240_17, PF_240_18, PF_240_19, PF_240_20, PF_240_21, PF_240_22, PF_240_23, PF_240_24, PF_240_26, PF_240_27, PF_240_28, PF_240_29, PF_240_30, PF_240_31, PF_240_32, PF_240_33, PF_240_34, PF_240_35, PF_240_36, PF_240_37]
    refine ⟨by omega, by omega, fun z => h1 (by omega), fun z => ⟨by omega, fun z2 => ?_, fun z2 => h1 (by omega)⟩⟩
    obtain ⟨h3, h4⟩ := h2 (by omega)
    refine ⟨by omega, fun z3 => ⟨by omega, by omega, fun J k1 k2 => ?_⟩, fun z3 => h3 (by omega)⟩
    have ue : ∀ c k, ¬ (c = 264 ∧ k = d) → ¬ (c = 269 ∧ k = d) → upI (upI I 264 d w) 269 d n c k = I c k := fun c k a b => (if_neg b).trans (if_neg a)
    have fJ : ∀ c k, ¬ (c = 264 ∧ k = d) → ¬ (c = 269 ∧ k = d) → ¬ (c = 270 ∧ 60 * d ≤ k ∧ k < 60 * d + 60) → J c k = I c k := fun c k a b c' => (k1 c k c').trans (ue c k a b)
    have e4 : J 264 d = w := (k1 _ _ (by omega)).trans ((upI_ne (by omega)).trans upI_same)
    have e9 : J 269 d = n := (k1 _ _ (by omega)).trans upI_same
    refine h4 (by omega) J fJ (mOK_H hx (fun c k hc => fJ c k (by omega) (by omega) (by omega)) (fun e e0 e1 => ?_)) e4 e9 k2
    by_cases y : e = d
    · rw [y]
      exact ⟨by omega, by omega, fun y1 => by omega, fun i i0 i1 => by rw [k2 i i0 i1]; omega⟩
    · exact msh_d (fun b b0 b1 => fJ b e (fun y1 => y y1.2) (fun y1 => y y1.2) (by omega)) (fun i i0 i1 => fJ _ _ (by omega) (by omega) (by omega)) (hx.2.2.2.2 e e0 e1)
  · refine ⟨Nat.le_of_ble_eq_true rfl, Ok.seg mdX9_make [] 60 ?_⟩
    simp only [wp_nil, wp_cons, ↓stp, ↓lI, ↓lL, ↓lR, ↓lIn_0, ↓lIn_1, ↓lIn_2, ↓lIn_3, ↓lLn_0, ↓lLn_1, ↓lLn_2, ↓lLn_3, ↓lRn_0, ↓lRn_1, ↓lRn_2, ↓lRn_3, ↓pI, ↓pL, ↓pR, ↓pA, ↓pN, ↓pV, ↓fp, ↓tsw, ↓oS, ↓spMax, ↓spMin, ↓spAbs, ↓spObj, RI, RLg, b2i_lo, b2i_hi, getL, setL, ltL, killL, isLong, inl, cnd, br, tgt, rcv, rpl, mputI, mputL, mputP, fv, fr, mcat, mcs, entL, entA, rfit, nf_0, nf_1, nf_2, nf_3, nf2_0, nf2_1, b2i_0, b2i_1, RI_b2i, b2i_fit, List.append, List.length, List.replicate, List.cons_append, List.nil_append, List.length_cons, List.length_nil, List.replicate_succ, List.replicate_zero, List.tail_cons, reduceIte, if_true, if_false, ite_true, ite_false, Bool.false_eq_true, true_and, and_true, and_self, false_and, and_false, or_self, or_true, true_or, or_false, false_or, not_true_eq_false, not_false_eq_true, ne_eq, forall_const, implies_true, imp_self, true_implies, false_implies, Nat.reduceAdd, Nat.reduceSub, Nat.reduceMul, Nat.reduceDiv, Nat.reduceMod, Nat.reduceEqDiff, Nat.reduceLT, Nat.reduceLeDiff, Nat.reduceBEq, Nat.add_zero, Nat.zero_add, Nat.le_refl, Nat.not_lt_zero, Nat.succ_eq_add_one, Int.reduceNatCast, Int.cast_ofNat_Int, Int.reduceSub, Int.reduceMul, Int.reduceNeg, Int.reduceLE, Int.reduceLT, Int.reduceToNat, Int.reduceEq, Int.reduceNe, Int.reduceAdd, Option.some.injEq, kX9_make, rmX9_make, ↓ofX9_104, ↓ofX9_119, ↓ocX9_make_235, ↓spX9_isShelf, ↓ocX9_make_128, ↓spX9_in, ↓ocX9_make_238, ↓spX9_wipe, q, G_240, G_241, G_242, G_243, G_244, G_245, G_246, G_247, G_248, G_249, G_250, G_251, G_252, G_253, G_254, G_255, G_256, G_257, G_258, G_259, G_260, G_261, G_262, G_263, G_264, G_265, G_266, G_267, G_268, G_269, G_270, G_271, G_272, PF_240_6, PF_240_7, PF_240_8, PF_240_9, PF_240_10, PF_240_11, PF_240_12, PF_240_13, PF_240_14, PF_240_15, PF_240_16, PF_240_17, PF_240_18, PF_240_19, PF_240_20, PF_240_21, PF_240_22, PF_240_23, PF_240_24, PF_240_26, PF_240_27, PF_240_28, PF_240_29, PF_240_30, PF_240_31, PF_240_32, PF_240_33, PF_240_34, PF_240_35, PF_240_36, PF_240_37]
    exact ⟨by omega, h1 (by omega)⟩
def spX9_weight (As : List MV) (σ : MS) (K : Option MV → MS → Prop) : Prop := pR As fun a r => pI r fun d r => pN r (a = 240 ∧ σ.2.1 = PF ∧ RI d ∧ mOK σ.2.2.1 σ.2.2.2 ∧ K (some (.inl (if ¬ (0 ≤ d ∧ d ≤ 7) then -1 else if σ.2.2.1 264 d = 0 then -11 else if σ.2.2.1 264 d = 1 then heft (σ.2.2.1 265 d) (σ.2.2.1 266 d) (σ.2.2.1 267 d) (σ.2.2.1 268 d) else -12))) σ)
def ciX9_weight : CI := (2, 9, 0, 0, spX9_weight)
def kX9_weight (pc : Nat) : List ME := match pc with
  | 0 => [(.aload_n 0, 1, []), (.iload_n 1, 1, []), (.invokevirtual 241, 3, []), (.ifCond .eq 9, 3, [14]), (.aload_n 0, 1, []), (.iload_n 1, 1, []), (.invokevirtual 241, 3, []), (.ireturn, 1, [])]
  | 14 => [(.aload_n 0, 1, []), (.getfield 107, 3, []), (.iload_n 1, 1, []), (.iaload, 1, []), (.istore_n 2, 1, []), (.bipush 10, 2, []), (.aload_n 0, 1, []), (.getfield 110, 3, []), (.iload_n 1, 1, []), (.iaload, 1, []), (.iadd, 1, []), (.iload_n 2, 1, []), (.iconst 1, 1, []), (.if_icmp .eq 8, 3, [40]), (.iload_n 2, 1, []), (.iconst 2, 1, []), (.if_icmp .ne 15, 3, [52])]
  | 40 => [(.aload_n 0, 1, []), (.getfield 113, 3, []), (.iload_n 1, 1, []), (.iaload, 1, []), (.bipush 100, 2, []), (.iadd, 1, []), (.goto 4, 3, [53])]
  | 52 => [(.iconst 0, 1, [])]
  | 53 => [(.iadd, 1, []), (.iload_n 2, 1, []), (.iconst 3, 1, []), (.if_icmp .ne 12, 3, [68]), (.aload_n 0, 1, []), (.getfield 116, 3, []), (.iload_n 1, 1, []), (.iaload, 1, []), (.goto 4, 3, [69])]
  | 68 => [(.iconst 0, 1, [])]
  | 69 => [(.iadd, 1, []), (.istore_n 3, 1, []), (.iload_n 2, 1, []), (.iconst 2, 1, []), (.if_icmp .ne 9, 3, [82]), (.iconst 2, 1, []), (.iload_n 3, 1, []), (.imul, 1, []), (.goto 4, 3, [83])]
  | 82 => [(.iload_n 3, 1, [])]
  | 83 => [(.ireturn, 1, [])]
  | _ => []
theorem qX9_weight : ∀ pc, chk cX9_weight pc (kX9_weight pc) = true := by
  intro pc
  unfold kX9_weight
  split <;> first | decide +kernel | exact chk_nil
abbrev rmX9_weight : Room := { frames := 3, cells := 0, slots := 0, locals := 65 }
def aX9_weight (x : Nat) : Option CI := match x with
  | 241 => some ciX9_lacksStation
  | _ => none
theorem aokX9_weight : ∀ x ci, aX9_weight x = some ci → CalOK RX9 rmX9_weight x ci := by
  intro x ci h
  unfold aX9_weight at h
  split at h
  · cases h; exact cal_V mX9_lacksStation (by decide) rfl (List.forall_mem_cons.mpr ⟨(ws_mem (List.mem_of_getElem? (i := 1226) (by decide +kernel)) (by decide +kernel)), List.forall_mem_cons.mpr ⟨(ws_mem (List.mem_of_getElem? (i := 1228) (by decide +kernel)) (by decide +kernel)), List.forall_mem_cons.mpr ⟨(ws_mem (List.mem_of_getElem? (i := 51) (by decide +kernel)) (by decide +kernel)), List.forall_mem_cons.mpr ⟨(ws_mem (List.mem_of_getElem? (i := 64) (by decide +kernel)) (by decide +kernel)), List.forall_mem_cons.mpr ⟨(ws_mem (List.mem_of_getElem? (i := 1229) (by decide +kernel)) (by decide +kernel)), fun _ h => absurd h List.not_mem_nil⟩⟩⟩⟩⟩) rfl (by unfold nice; decide +kernel) (by unfold rfits; decide) ⟨rfl, rfl⟩
  · cases h
theorem ocX9_weight_241 (f : Nat → Nat → Nat → Nat → (List MV → MS → (Option MV → MS → Prop) → Prop) → Prop) : oC aX9_weight 241 f = f 2 9 0 0 spX9_lacksStation := propext Iff.rfl
theorem mdX9_weight : MD RX9 cX9_weight rmX9_weight kX9_weight fX9 aX9_weight zX9 uX9 := ⟨fokX9, zokX9, uokX9, aokX9_weight, qX9_weight⟩
set_option maxRecDepth 100000 in
set_option maxHeartbeats 800000 in
theorem mX9_weight : MOK yX9_weight cX9_weight 4 (some .int) rmX9_weight ciX9_weight := by
  refine mok_of (ini := false) (by decide +kernel) (by decide) rfl rfl ?_
  intro σ As K hrc hl h
  obtain ⟨N, P, I, L⟩ := σ
  have h9 := pR_iff.mp h
  clear h
  obtain ⟨a, r, e9, h⟩ := h9
  subst e9
  have h9 := pI_iff.mp h
  clear h
  obtain ⟨d, r, e9, h⟩ := h9
  subst e9
  have h9 := pN_iff.mp h
  clear h
  obtain ⟨e9, h⟩ := h9
  subst e9
  try dsimp only at h
  obtain ⟨rfl, rfl, hd, hx, h⟩ := h
  unfold RI at hd
  by_cases q : lckM I d = 0
  · have q' : (0 ≤ d ∧ d ≤ 7) ∧ I 264 d = 1 := by
      unfold lckM at q
      by_cases y : 0 ≤ d ∧ d ≤ 7
      · rw [if_neg (fun z => z y)] at q
        by_cases y1 : I 264 d = 0
        · rw [if_pos y1] at q; omega
        · rw [if_neg y1] at q
          by_cases y2 : I 264 d = 1
          · exact ⟨y, y2⟩
          · rw [if_neg y2] at q; omega
      · rw [if_pos y] at q; omega
    have sd := (hx.2.2.2.2 d q'.1.1 q'.1.2).2.2.1 q'.2
    rw [if_neg (fun z => z q'.1), if_neg (by omega), if_pos q'.2] at h
    have fin : ∀ v, v = heft (I 265 d) (I 266 d) (I 267 d) (I 268 d) → K (some (.inl v)) (N, PF, I, L) := fun v e => by rw [e]; exact h
    rcases (show I 265 d = 0 ∨ I 265 d = 1 ∨ I 265 d = 2 ∨ I 265 d = 3 by omega) with e | e | e | e
    all_goals
      refine ⟨Nat.le_of_ble_eq_true rfl, Ok.seg mdX9_weight [] 60 ?_⟩
      simp only [wp_nil, wp_cons, ↓stp, ↓lI, ↓lL, ↓lR, ↓lIn_0, ↓lIn_1, ↓lIn_2, ↓lIn_3, ↓lLn_0, ↓lLn_1, ↓lLn_2, ↓lLn_3, ↓lRn_0, ↓lRn_1, ↓lRn_2, ↓lRn_3, ↓pI, ↓pL, ↓pR, ↓pA, ↓pN, ↓pV, ↓fp, ↓tsw, ↓oS, ↓spMax, ↓spMin, ↓spAbs, ↓spObj, RI, RLg, b2i_lo, b2i_hi, getL, setL, ltL, killL, isLong, inl, cnd, br, tgt, rcv, rpl, mputI, mputL, mputP, fv, fr, mcat, mcs, entL, entA, rfit, nf_0, nf_1, nf_2, nf_3, nf2_0, nf2_1, b2i_0, b2i_1, RI_b2i, b2i_fit, List.append, List.length, List.replicate, List.cons_append, List.nil_append, List.length_cons, List.length_nil, List.replicate_succ, List.replicate_zero, List.tail_cons, reduceIte, if_true, if_false, ite_true, ite_false, Bool.false_eq_true, true_and, and_true, and_self, false_and, and_false, or_self, or_true, true_or, or_false, false_or, not_true_eq_false, not_false_eq_true, ne_eq, forall_const, implies_true, imp_self, true_implies, false_implies, Nat.reduceAdd, Nat.reduceSub, Nat.reduceMul, Nat.reduceDiv, Nat.reduceMod, Nat.reduceEqDiff, Nat.reduceLT, Nat.reduceLeDiff, Nat.reduceBEq, Nat.add_zero, Nat.zero_add, Nat.le_refl, Nat.not_lt_zero, Nat.succ_eq_add_one, Int.reduceNatCast, Int.cast_ofNat_Int, Int.reduceSub, Int.reduceMul, Int.reduceNeg, Int.reduceLE, Int.reduceLT, Int.reduceToNat, Int.reduceEq, Int.reduceNe, Int.reduceAdd, Option.some.injEq, kX9_weight, rmX9_weight, ↓ofX9_107, ↓ofX9_110, ↓ofX9_113, ↓ofX9_116, ↓ocX9_weight_241, ↓spX9_lacksStation, q, q', hx, e, G_240, G_241, G_242, G_243, G_244, G_245, G_246, G_247, G_248, G_249, G_250, G_251, G_252, G_253, G_254, G_255, G_256, G_257, G_258, G_259, G_260, G_261, G_262, G_263, G_264, G_265, G_266, G_267, G_268, G_269, G_270, G_271, G_272, PF_240_6, PF_240_7, PF_240_8, PF_240_9, PF_240_10, PF_240_11, PF_240_12, PF_240_13, PF_240_14, PF_240_15, PF_240_16, PF_240_17, PF_240_18, PF_240_19, PF_240_20, PF_240_21, PF_240_22, PF_240_23, PF_240_24, PF_240_26, PF_240_27, PF_240_28, PF_240_29, PF_240_30, PF_240_31, PF_240_32, PF_240_33, PF_240_34, PF_240_35, PF_240_36, PF_240_37]
      repeat refine ⟨by omega, ?_⟩
      exact fin _ (by unfold heft; repeat' split
                      all_goals omega)
  · have fin : K (some (.inl (lckM I d))) (N, PF, I, L) := by
      have e : (if ¬ (0 ≤ d ∧ d ≤ 7) then -1 else if I 264 d = 0 then -11 else if I 264 d = 1 then heft (I 265 d) (I 266 d) (I 267 d) (I 268 d) else -12) = lckM I d := by
        unfold lckM at q ⊢
        by_cases y : 0 ≤ d ∧ d ≤ 7
        · by_cases y1 : I 264 d = 0
          · simp [y, y1]
          · by_cases y2 : I 264 d = 1
            · exact (q (by simp [y, y2])).elim
            · simp [y, y1, y2]
        · simp [y]
      rw [e] at h
      exact h
    have er : -12 ≤ lckM I d ∧ lckM I d ≤ 0 := by unfold lckM; split; omega; split; omega; split <;> omega
    refine ⟨Nat.le_of_ble_eq_true rfl, Ok.seg mdX9_weight [] 60 ?_⟩
    simp only [wp_nil, wp_cons, ↓stp, ↓lI, ↓lL, ↓lR, ↓lIn_0, ↓lIn_1, ↓lIn_2, ↓lIn_3, ↓lLn_0, ↓lLn_1, ↓lLn_2, ↓lLn_3, ↓lRn_0, ↓lRn_1, ↓lRn_2, ↓lRn_3, ↓pI, ↓pL, ↓pR, ↓pA, ↓pN, ↓pV, ↓fp, ↓tsw, ↓oS, ↓spMax, ↓spMin, ↓spAbs, ↓spObj, RI, RLg, b2i_lo, b2i_hi, getL, setL, ltL, killL, isLong, inl, cnd, br, tgt, rcv, rpl, mputI, mputL, mputP, fv, fr, mcat, mcs, entL, entA, rfit, nf_0, nf_1, nf_2, nf_3, nf2_0, nf2_1, b2i_0, b2i_1, RI_b2i, b2i_fit, List.append, List.length, List.replicate, List.cons_append, List.nil_append, List.length_cons, List.length_nil, List.replicate_succ, List.replicate_zero, List.tail_cons, reduceIte, if_true, if_false, ite_true, ite_false, Bool.false_eq_true, true_and, and_true, and_self, false_and, and_false, or_self, or_true, true_or, or_false, false_or, not_true_eq_false, not_false_eq_true, ne_eq, forall_const, implies_true, imp_self, true_implies, false_implies, Nat.reduceAdd, Nat.reduceSub, Nat.reduceMul, Nat.reduceDiv, Nat.reduceMod, Nat.reduceEqDiff, Nat.reduceLT, Nat.reduceLeDiff, Nat.reduceBEq, Nat.add_zero, Nat.zero_add, Nat.le_refl, Nat.not_lt_zero, Nat.succ_eq_add_one, Int.reduceNatCast, Int.cast_ofNat_Int, Int.reduceSub, Int.reduceMul, Int.reduceNeg, Int.reduceLE, Int.reduceLT, Int.reduceToNat, Int.reduceEq, Int.reduceNe, Int.reduceAdd, Option.some.injEq, kX9_weight, rmX9_weight, ↓ofX9_107, ↓ofX9_110, ↓ofX9_113, ↓ofX9_116, ↓ocX9_weight_241, ↓spX9_lacksStation, q, hx, G_240, G_241, G_242, G_243, G_244, G_245, G_246, G_247, G_248, G_249, G_250, G_251, G_252, G_253, G_254, G_255, G_256, G_257, G_258, G_259, G_260, G_261, G_262, G_263, G_264, G_265, G_266, G_267, G_268, G_269, G_270, G_271, G_272, PF_240_6, PF_240_7, PF_240_8, PF_240_9, PF_240_10, PF_240_11, PF_240_12, PF_240_13, PF_240_14, PF_240_15, PF_240_16, PF_240_17, PF_240_18, PF_240_19, PF_240_20, PF_240_21, PF_240_22, PF_240_23, PF_240_24, PF_240_26, PF_240_27, PF_240_28, PF_240_29, PF_240_30, PF_240_31, PF_240_32, PF_240_33, PF_240_34, PF_240_35, PF_240_36, PF_240_37]
    exact ⟨by omega, by omega, by omega, fin⟩
def spX9_toss (As : List MV) (σ : MS) (K : Option MV → MS → Prop) : Prop := pR As fun a r => pI r fun d r => pN r (a = 240 ∧ σ.2.1 = PF ∧ RI d ∧ mOK σ.2.2.1 σ.2.2.2 ∧ (¬ lckM σ.2.2.1 d = 0 → K (some (.inl (lckM σ.2.2.1 d))) σ) ∧ (lckM σ.2.2.1 d = 0 → K (some (.inl (if σ.2.2.1 265 d = 1 ∨ σ.2.2.1 265 d = 2 then σ.2.2.1 268 d else -15))) σ))
def ciX9_toss : CI := (2, 9, 0, 0, spX9_toss)
def kX9_toss (pc : Nat) : List ME := match pc with
  | 0 => [(.aload_n 0, 1, []), (.iload_n 1, 1, []), (.invokevirtual 241, 3, []), (.ifCond .eq 9, 3, [14]), (.aload_n 0, 1, []), (.iload_n 1, 1, []), (.invokevirtual 241, 3, []), (.ireturn, 1, [])]
  | 14 => [(.aload_n 0, 1, []), (.getfield 107, 3, []), (.iload_n 1, 1, []), (.iaload, 1, []), (.iconst 1, 1, []), (.if_icmp .eq 13, 3, [34]), (.aload_n 0, 1, []), (.getfield 107, 3, []), (.iload_n 1, 1, []), (.iaload, 1, []), (.iconst 2, 1, []), (.if_icmp .ne 12, 3, [43])]
  | 34 => [(.aload_n 0, 1, []), (.getfield 116, 3, []), (.iload_n 1, 1, []), (.iaload, 1, []), (.goto 5, 3, [45])]
  | 43 => [(.bipush (-15), 2, [])]
  | 45 => [(.ireturn, 1, [])]
  | _ => []
theorem qX9_toss : ∀ pc, chk cX9_toss pc (kX9_toss pc) = true := by
  intro pc
  unfold kX9_toss
  split <;> first | decide +kernel | exact chk_nil
abbrev rmX9_toss : Room := { frames := 3, cells := 0, slots := 0, locals := 65 }
def aX9_toss (x : Nat) : Option CI := match x with
  | 241 => some ciX9_lacksStation
  | _ => none
theorem aokX9_toss : ∀ x ci, aX9_toss x = some ci → CalOK RX9 rmX9_toss x ci := by
  intro x ci h
  unfold aX9_toss at h
  split at h
  · cases h; exact cal_V mX9_lacksStation (by decide) rfl (List.forall_mem_cons.mpr ⟨(ws_mem (List.mem_of_getElem? (i := 1226) (by decide +kernel)) (by decide +kernel)), List.forall_mem_cons.mpr ⟨(ws_mem (List.mem_of_getElem? (i := 1228) (by decide +kernel)) (by decide +kernel)), List.forall_mem_cons.mpr ⟨(ws_mem (List.mem_of_getElem? (i := 51) (by decide +kernel)) (by decide +kernel)), List.forall_mem_cons.mpr ⟨(ws_mem (List.mem_of_getElem? (i := 64) (by decide +kernel)) (by decide +kernel)), List.forall_mem_cons.mpr ⟨(ws_mem (List.mem_of_getElem? (i := 1229) (by decide +kernel)) (by decide +kernel)), fun _ h => absurd h List.not_mem_nil⟩⟩⟩⟩⟩) rfl (by unfold nice; decide +kernel) (by unfold rfits; decide) ⟨rfl, rfl⟩
  · cases h
theorem ocX9_toss_241 (f : Nat → Nat → Nat → Nat → (List MV → MS → (Option MV → MS → Prop) → Prop) → Prop) : oC aX9_toss 241 f = f 2 9 0 0 spX9_lacksStation := propext Iff.rfl
theorem mdX9_toss : MD RX9 cX9_toss rmX9_toss kX9_toss fX9 aX9_toss zX9 uX9 := ⟨fokX9, zokX9, uokX9, aokX9_toss, qX9_toss⟩
set_option maxRecDepth 100000 in
set_option maxHeartbeats 800000 in
theorem mX9_toss : MOK yX9_toss cX9_toss 2 (some .int) rmX9_toss ciX9_toss := by
  refine mok_of (ini := false) (by decide +kernel) (by decide) rfl rfl ?_
  intro σ As K hrc hl h
  obtain ⟨N, P, I, L⟩ := σ
  have h9 := pR_iff.mp h
  clear h
  obtain ⟨a, r, e9, h⟩ := h9
  subst e9
  have h9 := pI_iff.mp h
  clear h
  obtain ⟨d, r, e9, h⟩ := h9
  subst e9
  have h9 := pN_iff.mp h
  clear h
  obtain ⟨e9, h⟩ := h9
  subst e9
  try dsimp only at h
  obtain ⟨rfl, rfl, hd, hx, h1, h2⟩ := h
  unfold RI at hd
  by_cases q : lckM I d = 0
  · have q' : (0 ≤ d ∧ d ≤ 7) ∧ I 264 d = 1 := by
      unfold lckM at q
      by_cases y : 0 ≤ d ∧ d ≤ 7
      · rw [if_neg (fun z => z y)] at q
        by_cases y1 : I 264 d = 0
        · rw [if_pos y1] at q; omega
        · rw [if_neg y1] at q
          by_cases y2 : I 264 d = 1
          · exact ⟨y, y2⟩
          · rw [if_neg y2] at q; omega
      · rw [if_pos y] at q; omega
    have sd := (hx.2.2.2.2 d q'.1.1 q'.1.2).2.2.1 q'.2
    have h2 := h2 q
    refine ⟨Nat.le_of_ble_eq_true rfl, Ok.seg mdX9_toss [] 60 ?_⟩
    simp only [wp_nil, wp_cons, ↓stp, ↓lI, ↓lL, ↓lR, ↓lIn_0, ↓lIn_1, ↓lIn_2, ↓lIn_3, ↓lLn_0, ↓lLn_1, ↓lLn_2, ↓lLn_3, ↓lRn_0, ↓lRn_1, ↓lRn_2, ↓lRn_3, ↓pI, ↓pL, ↓pR, ↓pA, ↓pN, ↓pV, ↓fp, ↓tsw, ↓oS, ↓spMax, ↓spMin, ↓spAbs, ↓spObj, RI, RLg, b2i_lo, b2i_hi, getL, setL, ltL, killL, isLong, inl, cnd, br, tgt, rcv, rpl, mputI, mputL, mputP, fv, fr, mcat, mcs, entL, entA, rfit, nf_0, nf_1, nf_2, nf_3, nf2_0, nf2_1, b2i_0, b2i_1, RI_b2i, b2i_fit, List.append, List.length, List.replicate, List.cons_append, List.nil_append, List.length_cons, List.length_nil, List.replicate_succ, List.replicate_zero, List.tail_cons, reduceIte, if_true, if_false, ite_true, ite_false, Bool.false_eq_true, true_and, and_true, and_self, false_and, and_false, or_self, or_true, true_or, or_false, false_or, not_true_eq_false, not_false_eq_true, ne_eq, forall_const, implies_true, imp_self, true_implies, false_implies, Nat.reduceAdd, Nat.reduceSub, Nat.reduceMul, Nat.reduceDiv, Nat.reduceMod, Nat.reduceEqDiff, Nat.reduceLT, Nat.reduceLeDiff, Nat.reduceBEq, Nat.add_zero, Nat.zero_add, Nat.le_refl, Nat.not_lt_zero, Nat.succ_eq_add_one, Int.reduceNatCast, Int.cast_ofNat_Int, Int.reduceSub, Int.reduceMul, Int.reduceNeg, Int.reduceLE, Int.reduceLT, Int.reduceToNat, Int.reduceEq, Int.reduceNe, Int.reduceAdd, Option.some.injEq, kX9_toss, rmX9_toss, ↓ofX9_107, ↓ofX9_116, ↓ocX9_toss_241, ↓spX9_lacksStation, q, q', hx, G_240, G_241, G_242, G_243, G_244, G_245, G_246, G_247, G_248, G_249, G_250, G_251, G_252, G_253, G_254, G_255, G_256, G_257, G_258, G_259, G_260, G_261, G_262, G_263, G_264, G_265, G_266, G_267, G_268, G_269, G_270, G_271, G_272, PF_240_6, PF_240_7, PF_240_8, PF_240_9, PF_240_10, PF_240_11, PF_240_12, PF_240_13, PF_240_14, PF_240_15, PF_240_16, PF_240_17, PF_240_18, PF_240_19, PF_240_20, PF_240_21, PF_240_22, PF_240_23, PF_240_24, PF_240_26, PF_240_27, PF_240_28, PF_240_29, PF_240_30, PF_240_31, PF_240_32, PF_240_33, PF_240_34, PF_240_35, PF_240_36, PF_240_37]
    refine ⟨by omega, by omega, by omega, fun z => ⟨by omega, ?_⟩, fun z => ⟨by omega, by omega, fun z2 => ?_, fun z2 => ⟨by omega, ?_⟩⟩⟩
    · rw [if_pos (.inl z)] at h2; exact h2
    · rw [if_neg (by omega)] at h2; exact h2
    · rw [if_pos (by omega)] at h2; exact h2
  · have er : -12 ≤ lckM I d ∧ lckM I d ≤ 0 := by unfold lckM; split; omega; split; omega; split <;> omega
    refine ⟨Nat.le_of_ble_eq_true rfl, Ok.seg mdX9_toss [] 60 ?_⟩
    simp only [wp_nil, wp_cons, ↓stp, ↓lI, ↓lL, ↓lR, ↓lIn_0, ↓lIn_1, ↓lIn_2, ↓lIn_3, ↓lLn_0, ↓lLn_1, ↓lLn_2, ↓lLn_3, ↓lRn_0, ↓lRn_1, ↓lRn_2, ↓lRn_3, ↓pI, ↓pL, ↓pR, ↓pA, ↓pN, ↓pV, ↓fp, ↓tsw, ↓oS, ↓spMax, ↓spMin, ↓spAbs, ↓spObj, RI, RLg, b2i_lo, b2i_hi, getL, setL, ltL, killL, isLong, inl, cnd, br, tgt, rcv, rpl, mputI, mputL, mputP, fv, fr, mcat, mcs, entL, entA, rfit, nf_0, nf_1, nf_2, nf_3, nf2_0, nf2_1, b2i_0, b2i_1, RI_b2i, b2i_fit, List.append, List.length, List.replicate, List.cons_append, List.nil_append, List.length_cons, List.length_nil, List.replicate_succ, List.replicate_zero, List.tail_cons, reduceIte, if_true, if_false, ite_true, ite_false, Bool.false_eq_true, true_and, and_true, and_self, false_and, and_false, or_self, or_true, true_or, or_false, false_or, not_true_eq_false, not_false_eq_true, ne_eq, forall_const, implies_true, imp_self, true_implies, false_implies, Nat.reduceAdd, Nat.reduceSub, Nat.reduceMul, Nat.reduceDiv, Nat.reduceMod, Nat.reduceEqDiff, Nat.reduceLT, Nat.reduceLeDiff, Nat.reduceBEq, Nat.add_zero, Nat.zero_add, Nat.le_refl, Nat.not_lt_zero, Nat.succ_eq_add_one, Int.reduceNatCast, Int.cast_ofNat_Int, Int.reduceSub, Int.reduceMul, Int.reduceNeg, Int.reduceLE, Int.reduceLT, Int.reduceToNat, Int.reduceEq, Int.reduceNe, Int.reduceAdd, Option.some.injEq, kX9_toss, rmX9_toss, ↓ofX9_107, ↓ofX9_116, ↓ocX9_toss_241, ↓spX9_lacksStation, q, hx, G_240, G_241, G_242, G_243, G_244, G_245, G_246, G_247, G_248, G_249, G_250, G_251, G_252, G_253, G_254, G_255, G_256, G_257, G_258, G_259, G_260, G_261, G_262, G_263, G_264, G_265, G_266, G_267, G_268, G_269, G_270, G_271, G_272, PF_240_6, PF_240_7, PF_240_8, PF_240_9, PF_240_10, PF_240_11, PF_240_12, PF_240_13, PF_240_14, PF_240_15, PF_240_16, PF_240_17, PF_240_18, PF_240_19, PF_240_20, PF_240_21, PF_240_22, PF_240_23, PF_240_24, PF_240_26, PF_240_27, PF_240_28, PF_240_29, PF_240_30, PF_240_31, PF_240_32, PF_240_33, PF_240_34, PF_240_35, PF_240_36, PF_240_37]
    exact ⟨by omega, by omega, by omega, h1 q⟩
def spX9_element (As : List MV) (σ : MS) (K : Option MV → MS → Prop) : Prop := pR As fun a r => pI r fun d r => pI r fun i r => pN r (a = 240 ∧ σ.2.1 = PF ∧ RI d ∧ RI i ∧ mOK σ.2.2.1 σ.2.2.2 ∧ (∀ (v : Int) (I' : Int → Int → Int), ((¬ (0 ≤ d ∧ d ≤ 7) ∧ v = 1) ∨ ((0 ≤ d ∧ d ≤ 7) ∧ ¬ (3 ≤ σ.2.2.1 264 d ∧ 0 ≤ i ∧ i < σ.2.2.1 269 d) ∧ v = 2)) → frW σ.2.2.1 I' → mOK I' σ.2.2.2 → I' 240 0 = v → K (some (.inr (.inl 0))) (σ.1, σ.2.1, I', σ.2.2.2)) ∧ ((0 ≤ d ∧ d ≤ 7) ∧ 3 ≤ σ.2.2.1 264 d ∧ 0 ≤ i ∧ i < σ.2.2.1 269 d → ∀ I' : Int → Int → Int, frW σ.2.2.1 I' → mOK I' σ.2.2.2 → I' 240 0 = 0 → K (some (.inr (.inl (σ.2.2.1 270 (60 * d + i))))) (σ.1, σ.2.1, I', σ.2.2.2)))
def ciX9_element : CI := (3, 9, 0, 0, spX9_element)
def kX9_element (pc : Nat) : List ME := match pc with
  | 0 => [(.aload_n 0, 1, []), (.aload_n 0, 1, []), (.iload_n 1, 1, []), (.invokevirtual 235, 3, []), (.ifCond .ne 7, 3, [13]), (.iconst 1, 1, []), (.goto 35, 3, [45])]
  | 13 => [(.aload_n 0, 1, []), (.getfield 104, 3, []), (.iload_n 1, 1, []), (.iaload, 1, []), (.iconst 3, 1, []), (.if_icmp .lt 20, 3, [40]), (.aload_n 0, 1, []), (.iload_n 2, 1, []), (.iconst 0, 1, []), (.aload_n 0, 1, []), (.getfield 119, 3, []), (.iload_n 1, 1, []), (.iaload, 1, []), (.iconst 1, 1, []), (.isub, 1, []), (.invokevirtual 128, 3, []), (.ifCond .ne 7, 3, [44])]
  | 40 => [(.iconst 2, 1, []), (.goto 4, 3, [45])]
  | 44 => [(.iconst 0, 1, [])]
  | 45 => [(.putfield 7, 3, []), (.aload_n 0, 1, []), (.getfield 7, 3, []), (.ifCond .le 7, 3, [59]), (.lconst 0, 1, []), (.goto 15, 3, [71])]
  | 59 => [(.aload_n 0, 1, []), (.getfield 122, 3, []), (.bipush 60, 2, []), (.iload_n 1, 1, []), (.imul, 1, []), (.iload_n 2, 1, []), (.iadd, 1, []), (.iaload, 1, []), (.i2l, 1, [])]
  | 71 => [(.lreturn, 1, [])]
  | _ => []
theorem qX9_element : ∀ pc, chk cX9_element pc (kX9_element pc) = true := by
  intro pc
  unfold kX9_element
  split <;> first | decide +kernel | exact chk_nil
abbrev rmX9_element : Room := { frames := 2, cells := 0, slots := 0, locals := 44 }
def aX9_element (x : Nat) : Option CI := match x with
  | 235 => some ciX9_isShelf
  | 128 => some ciX9_in
  | _ => none
theorem aokX9_element : ∀ x ci, aX9_element x = some ci → CalOK RX9 rmX9_element x ci := by
  intro x ci h
  unfold aX9_element at h
  split at h
  · cases h; exact cal_V mX9_isShelf (by decide) rfl (List.forall_mem_cons.mpr ⟨(ws_mem (List.mem_of_getElem? (i := 1202) (by decide +kernel)) (by decide +kernel)), List.forall_mem_cons.mpr ⟨(ws_mem (List.mem_of_getElem? (i := 1204) (by decide +kernel)) (by decide +kernel)), List.forall_mem_cons.mpr ⟨(ws_mem (List.mem_of_getElem? (i := 49) (by decide +kernel)) (by decide +kernel)), List.forall_mem_cons.mpr ⟨(ws_mem (List.mem_of_getElem? (i := 64) (by decide +kernel)) (by decide +kernel)), List.forall_mem_cons.mpr ⟨(ws_mem (List.mem_of_getElem? (i := 1205) (by decide +kernel)) (by decide +kernel)), fun _ h => absurd h List.not_mem_nil⟩⟩⟩⟩⟩) rfl (by unfold nice; decide +kernel) (by unfold rfits; decide) ⟨rfl, rfl⟩
  · cases h; exact cal_V mX9_in (by decide) rfl (List.forall_mem_cons.mpr ⟨(ws_mem (List.mem_of_getElem? (i := 979) (by decide +kernel)) (by decide +kernel)), List.forall_mem_cons.mpr ⟨(ws_mem (List.mem_of_getElem? (i := 981) (by decide +kernel)) (by decide +kernel)), List.forall_mem_cons.mpr ⟨(ws_mem (List.mem_of_getElem? (i := 20) (by decide +kernel)) (by decide +kernel)), List.forall_mem_cons.mpr ⟨(ws_mem (List.mem_of_getElem? (i := 64) (by decide +kernel)) (by decide +kernel)), List.forall_mem_cons.mpr ⟨(ws_mem (List.mem_of_getElem? (i := 982) (by decide +kernel)) (by decide +kernel)), fun _ h => absurd h List.not_mem_nil⟩⟩⟩⟩⟩) rfl (by unfold nice; decide +kernel) (by unfold rfits; decide) ⟨rfl, rfl⟩
  · cases h
theorem ocX9_element_235 (f : Nat → Nat → Nat → Nat → (List MV → MS → (Option MV → MS → Prop) → Prop) → Prop) : oC aX9_element 235 f = f 2 9 0 0 spX9_isShelf := propext Iff.rfl
theorem ocX9_element_128 (f : Nat → Nat → Nat → Nat → (List MV → MS → (Option MV → MS → Prop) → Prop) → Prop) : oC aX9_element 128 f = f 4 9 0 0 spX9_in := propext Iff.rfl
theorem mdX9_element : MD RX9 cX9_element rmX9_element kX9_element fX9 aX9_element zX9 uX9 := ⟨fokX9, zokX9, uokX9, aokX9_element, qX9_element⟩
set_option maxRecDepth 100000 in
set_option maxHeartbeats 800000 in
theorem mX9_element : MOK yX9_element cX9_element 3 (some .long) rmX9_element ciX9_element := by
  refine mok_of (ini := false) (by decide +kernel) (by decide) rfl rfl ?_
  intro σ As K hrc hl h
  obtain ⟨N, P, I, L⟩ := σ
  have h9 := pR_iff.mp h
  clear h
  obtain ⟨a, r, e9, h⟩ := h9
  subst e9
  have h9 := pI_iff.mp h
  clear h
  obtain ⟨d, r, e9, h⟩ := h9
  subst e9
  have h9 := pI_iff.mp h
  clear h
  obtain ⟨i, r, e9, h⟩ := h9
  subst e9
  have h9 := pN_iff.mp h
  clear h
  obtain ⟨e9, h⟩ := h9
  subst e9
  try dsimp only at h
  obtain ⟨rfl, rfl, hd, hi, hx, h1, h2⟩ := h
  unfold RI at hd hi
  have fu : ∀ v, frW I (upI I 240 0 v) := fun v b k b0 b1 b2 b3 => if_neg b3
  have mu : ∀ v, mOK (upI I 240 0 v) L := fun v => mOK_w hx (fu v) (fun k => upI_ne (by omega)) (fun _ => rfl)
  have bad : ∀ v, (v = 1 ∨ v = 2) → ((¬ (0 ≤ d ∧ d ≤ 7) ∧ v = 1) ∨ ((0 ≤ d ∧ d ≤ 7) ∧ ¬ (3 ≤ I 264 d ∧ 0 ≤ i ∧ i < I 269 d) ∧ v = 2)) → Ok RX9 cX9_element 3 rmX9_element false none (fun r σ' => rfit (some .long) r ∧ K r σ') (fun _ => False) (45, [some (.inr (.inr (some 240))), some (.inl d), some (.inl i)], [.inl v, .inr (.inr (some 240))], (N, PF, I, L), 0, 0) := fun v hv q => by
    refine Ok.seg mdX9_element [] 20 ?_
    simp only [wp_nil, wp_cons, ↓stp, ↓lI, ↓lL, ↓lR, ↓lIn_0, ↓lIn_1, ↓lIn_2, ↓lIn_3, ↓lLn_0, ↓lLn_1, ↓lLn_2, ↓lLn_3, ↓lRn_0, ↓lRn_1, ↓lRn_2, ↓lRn_3, ↓pI, ↓pL, ↓pR, ↓pA, ↓pN, ↓pV, ↓fp, ↓tsw, ↓oS, ↓spMax, ↓spMin, ↓spAbs, ↓spObj, RI, RLg, b2i_lo, b2i_hi, getL, setL, ltL, killL, isLong, inl, cnd, br, tgt, rcv, rpl, mputI, mputL, mputP, fv, fr, mcat, mcs, entL, entA, rfit, nf_0, nf_1, nf_2, nf_3, nf2_0, nf2_1, b2i_0, b2i_1, RI_b2i, b2i_fit, List.append, List.length, List.replicate, List.cons_append, List.nil_append, List.length_cons, List.length_nil, List.replicate_succ, List.replicate_zero, List.tail_cons, reduceIte, if_true, if_false, ite_true, ite_false, Bool.false_eq_true, true_and, and_true, and_self, false_and, and_false, or_self, or_true, true_or, or_false, false_or, not_true_eq_false, not_false_eq_true, ne_eq, forall_const, implies_true, imp_self, true_implies, false_implies, Nat.reduceAdd, Nat.reduceSub, Nat.reduceMul, Nat.reduceDiv, Nat.reduceMod, Nat.reduceEqDiff, Nat.reduceLT, Nat.reduceLeDiff, Nat.reduceBEq, Nat.add_zero, Nat.zero_add, Nat.le_refl, Nat.not_lt_zero, Nat.succ_eq_add_one, Int.reduceNatCast, Int.cast_ofNat_Int, Int.reduceSub, Int.reduceMul, Int.reduceNeg, Int.reduceLE, Int.reduceLT, Int.reduceToNat, Int.reduceEq, Int.reduceNe, Int.reduceAdd, Option.some.injEq, kX9_element, rmX9_element, ↓ofX9_104, ↓ofX9_119, ↓ofX9_122, ↓ofX9_7, ↓ocX9_element_235, ↓spX9_isShelf, ↓ocX9_element_128, ↓spX9_in, upI_same, G_240, G_241, G_242, G_243, G_244, G_245, G_246, G_247, G_248, G_249, G_250, G_251, G_252, G_253, G_254, G_255, G_256, G_257, G_258, G_259, G_260, G_261, G_262, G_263, G_264, G_265, G_266, G_267, G_268, G_269, G_270, G_271, G_272, PF_240_6, PF_240_7, PF_240_8, PF_240_9, PF_240_10, PF_240_11, PF_240_12, PF_240_13, PF_240_14, PF_240_15, PF_240_16, PF_240_17, PF_240_18, PF_240_19, PF_240_20, PF_240_21, PF_240_22, PF_240_23, PF_240_24, PF_240_26, PF_240_27, PF_240_28, PF_240_29, PF_240_30, PF_240_31, PF_240_32, PF_240_33, PF_240_34, PF_240_35, PF_240_36, PF_240_37]
    exact ⟨by omega, fun z => by omega, fun _ => h1 v _ q (fu v) (mu v) upI_same⟩
  have good : ((0 ≤ d ∧ d ≤ 7) ∧ 3 ≤ I 264 d ∧ 0 ≤ i ∧ i < I 269 d) → Ok RX9 cX9_element 3 rmX9_element false none (fun r σ' => rfit (some .long) r ∧ K r σ') (fun _ => False) (45, [some (.inr (.inr (some 240))), some (.inl d), some (.inl i)], [.inl 0, .inr (.inr (some 240))], (N, PF, I, L), 0, 0) := fun q => by
    have sd := hx.2.2.2.2 d q.1.1 q.1.2
    have s60 := sd.2.1
    have si := sd.2.2.2 i q.2.2.1 (by omega)
    have e : upI I 240 0 0 270 (60 * d + i) = I 270 (60 * d + i) := if_neg (by omega)
    refine Ok.seg mdX9_element [] 60 ?_
    simp only [wp_nil, wp_cons, ↓stp, ↓lI, ↓lL, ↓lR, ↓lIn_0, ↓lIn_1, ↓lIn_2, ↓lIn_3, ↓lLn_0, ↓lLn_1, ↓lLn_2, ↓lLn_3, ↓lRn_0, ↓lRn_1, ↓lRn_2, ↓lRn_3, ↓pI, ↓pL, ↓pR, ↓pA, ↓pN, ↓pV, ↓fp, ↓tsw, ↓oS, ↓spMax, ↓spMin, ↓spAbs, ↓spObj, RI, RLg, b2i_lo, b2i_hi, getL, setL, ltL, killL, isLong, inl, cnd, br, tgt, rcv, rpl, mputI, mputL, mputP, fv, fr, mcat, mcs, entL, entA, rfit, nf_0, nf_1, nf_2, nf_3, nf2_0, nf2_1, b2i_0, b2i_1, RI_b2i, b2i_fit, List.append, List.length, List.replicate, List.cons_append, List.nil_append, List.length_cons, List.length_nil, List.replicate_succ, List.replicate_zero, List.tail_cons, reduceIte, if_true, if_false, ite_true, ite_false, Bool.false_eq_true, true_and, and_true, and_self, false_and, and_false, or_self, or_true, true_or, or_false, false_or, not_true_eq_false, not_false_eq_true, ne_eq, forall_const, implies_true, imp_self, true_implies, false_implies, Nat.reduceAdd, Nat.reduceSub, Nat.reduceMul, Nat.reduceDiv, Nat.reduceMod, Nat.reduceEqDiff, Nat.reduceLT, Nat.reduceLeDiff, Nat.reduceBEq, Nat.add_zero, Nat.zero_add, Nat.le_refl, Nat.not_lt_zero, Nat.succ_eq_add_one, Int.reduceNatCast, Int.cast_ofNat_Int, Int.reduceSub, Int.reduceMul, Int.reduceNeg, Int.reduceLE, Int.reduceLT, Int.reduceToNat, Int.reduceEq, Int.reduceNe, Int.reduceAdd, Option.some.injEq, kX9_element, rmX9_element, ↓ofX9_104, ↓ofX9_119, ↓ofX9_122, ↓ofX9_7, ↓ocX9_element_235, ↓spX9_isShelf, ↓ocX9_element_128, ↓spX9_in, upI_same, e, G_240, G_241, G_242, G_243, G_244, G_245, G_246, G_247, G_248, G_249, G_250, G_251, G_252, G_253, G_254, G_255, G_256, G_257, G_258, G_259, G_260, G_261, G_262, G_263, G_264, G_265, G_266, G_267, G_268, G_269, G_270, G_271, G_272, PF_240_6, PF_240_7, PF_240_8, PF_240_9, PF_240_10, PF_240_11, PF_240_12, PF_240_13, PF_240_14, PF_240_15, PF_240_16, PF_240_17, PF_240_18, PF_240_19, PF_240_20, PF_240_21, PF_240_22, PF_240_23, PF_240_24, PF_240_26, PF_240_27, PF_240_28, PF_240_29, PF_240_30, PF_240_31, PF_240_32, PF_240_33, PF_240_34, PF_240_35, PF_240_36, PF_240_37]
    exact ⟨by omega, by omega, by omega, h2 q _ (fu 0) (mu 0) upI_same⟩
  by_cases q : 0 ≤ d ∧ d ≤ 7
  · have sd := hx.2.2.2.2 d q.1 q.2
    refine ⟨Nat.le_of_ble_eq_true rfl, Ok.seg mdX9_element [45] 30 ?_⟩
    have s1 := sd.1
    have s60 := sd.2.1
    simp only [wp_nil, wp_cons, ↓stp, ↓lI, ↓lL, ↓lR, ↓lIn_0, ↓lIn_1, ↓lIn_2, ↓lIn_3, ↓lLn_0, ↓lLn_1, ↓lLn_2, ↓lLn_3, ↓lRn_0, ↓lRn_1, ↓lRn_2, ↓lRn_3, ↓pI, ↓pL, ↓pR, ↓pA, ↓pN, ↓pV, ↓fp, ↓tsw, ↓oS, ↓spMax, ↓spMin, ↓spAbs, ↓spObj, RI, RLg, b2i_lo, b2i_hi, getL, setL, ltL, killL, isLong, inl, cnd, br, tgt, rcv, rpl, mputI, mputL, mputP, fv, fr, mcat, mcs, entL, entA, rfit, nf_0, nf_1, nf_2, nf_3, nf2_0, nf2_1, b2i_0, b2i_1, RI_b2i, b2i_fit, List.append, List.length, List.replicate, List.cons_append, List.nil_append, List.length_cons, List.length_nil, List.replicate_succ, List.replicate_zero, List.tail_cons, reduceIte, if_true, if_false, ite_true, ite_false, Bool.false_eq_true, true_and, and_true, and_self, false_and, and_false, or_self, or_true, true_or, or_false, false_or, not_true_eq_false, not_false_eq_true, ne_eq, forall_const, implies_true, imp_self, true_implies, false_implies, Nat.reduceAdd, Nat.reduceSub, Nat.reduceMul, Nat.reduceDiv, Nat.reduceMod, Nat.reduceEqDiff, Nat.reduceLT, Nat.reduceLeDiff, Nat.reduceBEq, Nat.add_zero, Nat.zero_add, Nat.le_refl, Nat.not_lt_zero, Nat.succ_eq_add_one, Int.reduceNatCast, Int.cast_ofNat_Int, Int.reduceSub, Int.reduceMul, Int.reduceNeg, Int.reduceLE, Int.reduceLT, Int.reduceToNat, Int.reduceEq, Int.reduceNe, Int.reduceAdd, Option.some.injEq, kX9_element, rmX9_element, ↓ofX9_104, ↓ofX9_119, ↓ofX9_122, ↓ofX9_7, ↓ocX9_element_235, ↓spX9_isShelf, ↓ocX9_element_128, ↓spX9_in, q, G_240, G_241, G_242, G_243, G_244, G_245, G_246, G_247, G_248, G_249, G_250, G_251, G_252, G_253, G_254, G_255, G_256, G_257, G_258, G_259, G_260, G_261, G_262, G_263, G_264, G_265, G_266, G_267, G_268, G_269, G_270, G_271, G_272, PF_240_6, PF_240_7, PF_240_8, PF_240_9, PF_240_10, PF_240_11, PF_240_12, PF_240_13, PF_240_14, PF_240_15, PF_240_16, PF_240_17, PF_240_18, PF_240_19, PF_240_20, PF_240_21, PF_240_22, PF_240_23, PF_240_24, PF_240_26, PF_240_27, PF_240_28, PF_240_29, PF_240_30, PF_240_31, PF_240_32, PF_240_33, PF_240_34, PF_240_35, PF_240_36, PF_240_37]
    exact ⟨by omega, by omega, by omega, fun z => bad 2 (.inr rfl) (.inr ⟨q, by omega, rfl⟩), fun z => ⟨by omega, by omega, by omega, fun z2 => good ⟨q, by omega⟩, fun z2 => bad 2 (.inr rfl) (.inr ⟨q, by omega, rfl⟩)⟩⟩
  · refine ⟨Nat.le_of_ble_eq_true rfl, Ok.seg mdX9_element [45] 30 ?_⟩
    simp only [wp_nil, wp_cons, ↓stp, ↓lI, ↓lL, ↓lR, ↓lIn_0, ↓lIn_1, ↓lIn_2, ↓lIn_3, ↓lLn_0, ↓lLn_1, ↓lLn_2, ↓lLn_3, ↓lRn_0, ↓lRn_1, ↓lRn_2, ↓lRn_3, ↓pI, ↓pL, ↓pR, ↓pA, ↓pN, ↓pV, ↓fp, ↓tsw, ↓oS, ↓spMax, ↓spMin, ↓spAbs, ↓spObj, RI, RLg, b2i_lo, b2i_hi, getL, setL, ltL, killL, isLong, inl, cnd, br, tgt, rcv, rpl, mputI, mputL, mputP, fv, fr, mcat, mcs, entL, entA, rfit, nf_0, nf_1, nf_2, nf_3, nf2_0, nf2_1, b2i_0, b2i_1, RI_b2i, b2i_fit, List.append, List.length, List.replicate, List.cons_append, List.nil_append, List.length_cons, List.length_nil, List.replicate_succ, List.replicate_zero, List.tail_cons, reduceIte, if_true, if_false, ite_true, ite_false, Bool.false_eq_true, true_and, and_true, and_self, false_and, and_false, or_self, or_true, true_or, or_false, false_or, not_true_eq_false, not_false_eq_true, ne_eq, forall_const, implies_true, imp_self, true_implies, false_implies, Nat.reduceAdd, Nat.reduceSub, Nat.reduceMul, Nat.reduceDiv, Nat.reduceMod, Nat.reduceEqDiff, Nat.reduceLT, Nat.reduceLeDiff, Nat.reduceBEq, Nat.add_zero, Nat.zero_add, Nat.le_refl, Nat.not_lt_zero, Nat.succ_eq_add_one, Int.reduceNatCast, Int.cast_ofNat_Int, Int.reduceSub, Int.reduceMul, Int.reduceNeg, Int.reduceLE, Int.reduceLT, Int.reduceToNat, Int.reduceEq, Int.reduceNe, Int.reduceAdd, Option.some.injEq, kX9_element, rmX9_element, ↓ofX9_104, ↓ofX9_119, ↓ofX9_122, ↓ofX9_7, ↓ocX9_element_235, ↓spX9_isShelf, ↓ocX9_element_128, ↓spX9_in, q, G_240, G_241, G_242, G_243, G_244, G_245, G_246, G_247, G_248, G_249, G_250, G_251, G_252, G_253, G_254, G_255, G_256, G_257, G_258, G_259, G_260, G_261, G_262, G_263, G_264, G_265, G_266, G_267, G_268, G_269, G_270, G_271, G_272, PF_240_6, PF_240_7, PF_240_8, PF_240_9, PF_240_10, PF_240_11, PF_240_12, PF_240_13, PF_240_14, PF_240_15, PF_240_16, PF_240_17, PF_240_18, PF_240_19, PF_240_20, PF_240_21, PF_240_22, PF_240_23, PF_240_24, PF_240_26, PF_240_27, PF_240_28, PF_240_29, PF_240_30, PF_240_31, PF_240_32, PF_240_33, PF_240_34, PF_240_35, PF_240_36, PF_240_37]
    exact ⟨by omega, bad 1 (.inl rfl) (.inl ⟨q, rfl⟩)⟩
