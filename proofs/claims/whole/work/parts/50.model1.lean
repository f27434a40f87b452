/-! LapBoardModel: its state seen as the board's; the small methods -/
def VM (I : Int → Int → Int) : Int → Int → Int := fun b k =>
  if b = 3 then (if k = 1 then I 240 1 else 0)
  else if 5 ≤ b ∧ b ≤ 34 then (if k = 0 then I 241 (b - 5) else if k = 1 then I 242 (b - 5) else if k = 2 then I 243 (b - 5) else if k = 3 then I 244 (b - 5) else I 245 (b - 5))
  else if b = 36 then (if k = 0 then I 240 2 else if k = 1 then I 240 3 else I 240 4)
  else if b = 37 then rch (I 246) (I 247) k
  else if b = 38 then I 246 k
  else if b = 39 then I 247 k
  else if b = 179 then (if k = 4 then I 240 5 else if k = 5 then I 240 25 else 0)
  else if b = 180 then I 258 k
  else if b = 181 then I 259 k
  else 0
theorem VM_31 (I : Int → Int → Int) : VM I 3 1 = I 240 1 := rfl
theorem VM_st {I : Int → Int → Int} {i : Int} (h0 : 0 ≤ i) (h1 : i < 30) : VM I (5 + i) 0 = I 241 i ∧ VM I (5 + i) 1 = I 242 i ∧ VM I (5 + i) 2 = I 243 i ∧ VM I (5 + i) 3 = I 244 i ∧ VM I (5 + i) 4 = I 245 i := by
  have e : ∀ k, VM I (5 + i) k = if k = 0 then I 241 i else if k = 1 then I 242 i else if k = 2 then I 243 i else if k = 3 then I 244 i else I 245 i := fun k => by
    unfold VM
    rw [if_neg (by omega), if_pos (by omega), show 5 + i - 5 = i by omega]
  rw [e, e, e, e, e]
  simp
theorem VM_36_0 (I : Int → Int → Int) : VM I 36 0 = I 240 2 := rfl
theorem VM_36_1 (I : Int → Int → Int) : VM I 36 1 = I 240 3 := rfl
theorem VM_36_2 (I : Int → Int → Int) : VM I 36 2 = I 240 4 := rfl
theorem VM_37 (I : Int → Int → Int) : VM I 37 = rch (I 246) (I 247) := rfl
theorem VM_38 (I : Int → Int → Int) : VM I 38 = I 246 := rfl
theorem VM_39 (I : Int → Int → Int) : VM I 39 = I 247 := rfl
theorem VM_179_4 (I : Int → Int → Int) : VM I 179 4 = I 240 5 := rfl
theorem VM_179_5 (I : Int → Int → Int) : VM I 179 5 = I 240 25 := rfl
theorem VM_180 (I : Int → Int → Int) : VM I 180 = I 258 := rfl
theorem VM_181 (I : Int → Int → Int) : VM I 181 = I 259 := rfl
theorem VM_cg {I J : Int → Int → Int} (h1 : ∀ k, (1 ≤ k ∧ k ≤ 5) ∨ k = 25 → J 240 k = I 240 k) (h2 : ∀ b k, 241 ≤ b → b ≤ 247 → J b k = I b k) (h3 : ∀ b k, 258 ≤ b → b ≤ 259 → J b k = I b k) : VM J = VM I := by
  have e : ∀ b, 241 ≤ b → b ≤ 247 → J b = I b := fun b b0 b1 => funext fun k => h2 b k b0 b1
  funext b k
  unfold VM
  rw [h1 1 (by omega), h1 2 (by omega), h1 3 (by omega), h1 4 (by omega), h1 5 (by omega), h1 25 (by omega), e 241 (by omega) (by omega), e 242 (by omega) (by omega), e 243 (by omega) (by omega), e 244 (by omega) (by omega), e 245 (by omega) (by omega), e 246 (by omega) (by omega), e 247 (by omega) (by omega), h3 258 k (by omega) (by omega), h3 259 k (by omega) (by omega)]
/-- rows of its own work change alone -/
def frW (I J : Int → Int → Int) : Prop := ∀ b k, ¬ (248 ≤ b ∧ b ≤ 257) → ¬ (260 ≤ b ∧ b ≤ 263) → b ≠ 271 → ¬ (b = 240 ∧ k = 0) → J b k = I b k
theorem frW.rf {I : Int → Int → Int} : frW I I := fun _ _ _ _ _ _ => rfl
theorem frW.tr {I J M : Int → Int → Int} (h : frW I J) (h' : frW J M) : frW I M := fun b k b0 b1 b2 b3 => (h' b k b0 b1 b2 b3).trans (h b k b0 b1 b2 b3)
theorem frW.V {I J : Int → Int → Int} (h : frW I J) : VM J = VM I := VM_cg (fun k _ => h _ _ (by omega) (by omega) (by omega) (by omega)) (fun b k _ _ => h _ _ (by omega) (by omega) (by omega) (by omega)) (fun b k _ _ => h _ _ (by omega) (by omega) (by omega) (by omega))
def frWL (L L' : Int → Int → Int) : Prop := ∀ b k, ¬ (249 ≤ b ∧ b ≤ 260) → L' b k = L b k
theorem frWL.rf {I : Int → Int → Int} : frWL I I := fun _ _ _ => rfl
theorem frWL.tr {I J M : Int → Int → Int} (h : frWL I J) (h' : frWL J M) : frWL I M := fun b k b0 => (h' b k b0).trans (h b k b0)
def msh (I : Int → Int → Int) (d : Int) : Prop := (0 ≤ I 264 d ∧ I 264 d ≤ 4 ∧ I 264 d ≠ 2) ∧ (0 ≤ I 269 d ∧ I 269 d ≤ 60) ∧ (I 264 d = 1 → (0 ≤ I 265 d ∧ I 265 d ≤ 3) ∧ (1 ≤ I 266 d ∧ I 266 d ≤ 99) ∧ (1 ≤ I 267 d ∧ I 267 d ≤ 60) ∧ 0 ≤ I 268 d ∧ I 268 d ≤ 2) ∧ ∀ i, 0 ≤ i → i < 60 → 0 ≤ I 270 (60 * d + i) ∧ I 270 (60 * d + i) ≤ 60
/-- the laps that it has kept are right -/
def knoOK (I L : Int → Int → Int) : Prop := ∀ g, -20 ≤ g → g ≤ 20 → I 248 (g + 20) = 0 ∨ (I 248 (g + 20) = 1 ∧ lapT (VM I) g (I 240 3) (I 240 4) (L 249 (g + 20)))
def mOK (I L : Int → Int → Int) : Prop := tOK (VM I) ∧ carOK (VM I) ∧ raceR (VM I) ∧ knoOK I L ∧ ∀ d, 0 ≤ d → d ≤ 7 → msh I d
theorem msh_cg {I J : Int → Int → Int} {d : Int} (h : ∀ b k, 264 ≤ b → b ≤ 270 → J b k = I b k) (hs : msh I d) : msh J d := by
  unfold msh
  rw [h 264 d (by omega) (by omega), h 265 d (by omega) (by omega), h 266 d (by omega) (by omega), h 267 d (by omega) (by omega), h 268 d (by omega) (by omega), h 269 d (by omega) (by omega)]
  exact ⟨hs.1, hs.2.1, hs.2.2.1, fun i a b => by rw [h _ _ (by omega) (by omega)]; exact hs.2.2.2 i a b⟩
def spX9_thrown (As : List MV) (σ : MS) (K : Option MV → MS → Prop) : Prop := pR As fun a r => pN r (a = 240 ∧ K (some (.inl (σ.2.2.1 240 0))) σ)
def ciX9_thrown : CI := (1, 9, 0, 0, spX9_thrown)
def kX9_thrown (pc : Nat) : List ME := match pc with
  | 0 => [(.aload_n 0, 1, []), (.getfield 7, 3, []), (.ireturn, 1, [])]
  | _ => []
theorem qX9_thrown : ∀ pc, chk cX9_thrown pc (kX9_thrown pc) = true := by
  intro pc
  unfold kX9_thrown
  split <;> first | decide +kernel | exact chk_nil
abbrev rmX9_thrown : Room := { frames := 0, cells := 0, slots := 0, locals := 0 }
def aX9_thrown (_ : Nat) : Option CI := none
theorem aokX9_thrown : ∀ x ci, aX9_thrown x = some ci → CalOK RX9 rmX9_thrown x ci := fun _ _ h => by cases h
theorem mdX9_thrown : MD RX9 cX9_thrown rmX9_thrown kX9_thrown fX9 aX9_thrown zX9 uX9 := ⟨fokX9, zokX9, uokX9, aokX9_thrown, qX9_thrown⟩
set_option maxRecDepth 100000 in
set_option maxHeartbeats 800000 in
theorem mX9_thrown : MOK yX9_thrown cX9_thrown 1 (some .int) rmX9_thrown ciX9_thrown := by
  refine mok_of (ini := false) (by decide +kernel) (by decide) rfl rfl ?_
  intro σ As K hrc hl h
  obtain ⟨N, P, I, L⟩ := σ
  have h9 := pR_iff.mp h
  clear h
  obtain ⟨a, r, e9, h⟩ := h9
  subst e9
  have h9 := pN_iff.mp h
  clear h
  obtain ⟨e9, h⟩ := h9
  subst e9
  try dsimp only at h
  obtain ⟨rfl, h⟩ := h
  refine ⟨Nat.le_of_ble_eq_true rfl, Ok.seg mdX9_thrown [] 10 ?_⟩
  simp only [wp_nil, wp_cons, ↓stp, ↓lI, ↓lL, ↓lR, ↓lIn_0, ↓lIn_1, ↓lIn_2, ↓lIn_3, ↓lLn_0, ↓lLn_1, ↓lLn_2, ↓lLn_3, ↓lRn_0, ↓lRn_1, ↓lRn_2, ↓lRn_3, ↓pI, ↓pL, ↓pR, ↓pA, ↓pN, ↓pV, ↓fp, ↓tsw, ↓oS, ↓spMax, ↓spMin, ↓spAbs, ↓spObj, RI, RLg, b2i_lo, b2i_hi, getL, setL, ltL, killL, isLong, inl, cnd, br, tgt, rcv, rpl, mputI, mputL, mputP, fv, fr, mcat, mcs, entL, entA, rfit, nf_0, nf_1, nf_2, nf_3, nf2_0, nf2_1, b2i_0, b2i_1, RI_b2i, b2i_fit, List.append, List.length, List.replicate, List.cons_append, List.nil_append, List.length_cons, List.length_nil, List.replicate_succ, List.replicate_zero, List.tail_cons, reduceIte, if_true, if_false, ite_true, ite_false, Bool.false_eq_true, true_and, and_true, and_self, false_and, and_false, or_self, or_true, true_or, or_false, false_or, not_true_eq_false, not_false_eq_true, ne_eq, forall_const, implies_true, imp_self, true_implies, false_implies, Nat.reduceAdd, Nat.reduceSub, Nat.reduceMul, Nat.reduceDiv, Nat.reduceMod, Nat.reduceEqDiff, Nat.reduceLT, Nat.reduceLeDiff, Nat.reduceBEq, Nat.add_zero, Nat.zero_add, Nat.le_refl, Nat.not_lt_zero, Nat.succ_eq_add_one, Int.reduceNatCast, Int.cast_ofNat_Int, Int.reduceSub, Int.reduceMul, Int.reduceNeg, Int.reduceLE, Int.reduceLT, Int.reduceToNat, Int.reduceEq, Int.reduceNe, Int.reduceAdd, Option.some.injEq, kX9_thrown, rmX9_thrown, ↓ofX9_7, G_240, G_241, G_242, G_243, G_244, G_245, G_246, G_247, G_248, G_249, G_250, G_251, G_252, G_253, G_254, G_255, G_256, G_257, G_258, G_259, G_260, G_261, G_262, G_263, G_264, G_265, G_266, G_267, G_268, G_269, G_270, G_271, G_272, PF_240_6, PF_240_7, PF_240_8, PF_240_9, PF_240_10, PF_240_11, PF_240_12, PF_240_13, PF_240_14, PF_240_15, PF_240_16, PF_240_17, PF_240_18, PF_240_19, PF_240_20, PF_240_21, PF_240_22, PF_240_23, PF_240_24, PF_240_26, PF_240_27, PF_240_28, PF_240_29, PF_240_30, PF_240_31, PF_240_32, PF_240_33, PF_240_34, PF_240_35, PF_240_36, PF_240_37]
  exact h
def spX9_in (As : List MV) (σ : MS) (K : Option MV → MS → Prop) : Prop := pR As fun a r => pI r fun n r => pI r fun lo r => pI r fun hi r => pN r (RI n ∧ RI lo ∧ RI hi ∧ K (some (.inl (b2i (lo ≤ n ∧ n ≤ hi)))) σ)
def ciX9_in : CI := (4, 9, 0, 0, spX9_in)
def kX9_in (pc : Nat) : List ME := match pc with
  | 0 => [(.iload_n 1, 1, []), (.iload_n 2, 1, []), (.if_icmp .lt 12, 3, [14]), (.iload_n 1, 1, []), (.iload_n 3, 1, []), (.if_icmp .gt 7, 3, [14]), (.iconst 1, 1, []), (.goto 4, 3, [15])]
  | 14 => [(.iconst 0, 1, [])]
  | 15 => [(.ireturn, 1, [])]
  | _ => []
theorem qX9_in : ∀ pc, chk cX9_in pc (kX9_in pc) = true := by
  intro pc
  unfold kX9_in
  split <;> first | decide +kernel | exact chk_nil
abbrev rmX9_in : Room := { frames := 0, cells := 0, slots := 0, locals := 0 }
def aX9_in (_ : Nat) : Option CI := none
theorem aokX9_in : ∀ x ci, aX9_in x = some ci → CalOK RX9 rmX9_in x ci := fun _ _ h => by cases h
theorem mdX9_in : MD RX9 cX9_in rmX9_in kX9_in fX9 aX9_in zX9 uX9 := ⟨fokX9, zokX9, uokX9, aokX9_in, qX9_in⟩
set_option maxRecDepth 100000 in
set_option maxHeartbeats 800000 in
theorem mX9_in : MOK yX9_in cX9_in 4 (some .boolean) rmX9_in ciX9_in := by
  refine mok_of (ini := false) (by decide +kernel) (by decide) rfl rfl ?_
  intro σ As K hrc hl h
  obtain ⟨N, P, I, L⟩ := σ
  have h9 := pR_iff.mp h
  clear h
  obtain ⟨a, r, e9, h⟩ := h9
  subst e9
  have h9 := pI_iff.mp h
  clear h
  obtain ⟨n, r, e9, h⟩ := h9
  subst e9
  have h9 := pI_iff.mp h
  clear h
  obtain ⟨lo, r, e9, h⟩ := h9
  subst e9
  have h9 := pI_iff.mp h
  clear h
  obtain ⟨hi, r, e9, h⟩ := h9
  subst e9
  have h9 := pN_iff.mp h
  clear h
  obtain ⟨e9, h⟩ := h9
  subst e9
  try dsimp only at h
  obtain ⟨hn, hlo, hhi, h⟩ := h
  unfold RI at hn hlo hhi
  have hs := b2i_split (F := fun x => K (some (.inl x)) (N, P, I, L)) h
  refine ⟨Nat.le_of_ble_eq_true rfl, Ok.seg mdX9_in [] 20 ?_⟩
  simp only [wp_nil, wp_cons, ↓stp, ↓lI, ↓lL, ↓lR, ↓lIn_0, ↓lIn_1, ↓lIn_2, ↓lIn_3, ↓lLn_0, ↓lLn_1, ↓lLn_2, ↓lLn_3, ↓lRn_0, ↓lRn_1, ↓lRn_2, ↓lRn_3, ↓pI, ↓pL, ↓pR, ↓pA, ↓pN, ↓pV, ↓fp, ↓tsw, ↓oS, ↓spMax, ↓spMin, ↓spAbs, ↓spObj, RI, RLg, b2i_lo, b2i_hi, getL, setL, ltL, killL, isLong, inl, cnd, br, tgt, rcv, rpl, mputI, mputL, mputP, fv, fr, mcat, mcs, entL, entA, rfit, nf_0, nf_1, nf_2, nf_3, nf2_0, nf2_1, b2i_0, b2i_1, RI_b2i, b2i_fit, List.append, List.length, List.replicate, List.cons_append, List.nil_append, List.length_cons, List.length_nil, List.replicate_succ, List.replicate_zero, List.tail_cons, reduceIte, if_true, if_false, ite_true, ite_false, Bool.false_eq_true, true_and, and_true, and_self, false_and, and_false, or_self, or_true, true_or, or_false, false_or, not_true_eq_false, not_false_eq_true, ne_eq, forall_const, implies_true, imp_self, true_implies, false_implies, Nat.reduceAdd, Nat.reduceSub, Nat.reduceMul, Nat.reduceDiv, Nat.reduceMod, Nat.reduceEqDiff, Nat.reduceLT, Nat.reduceLeDiff, Nat.reduceBEq, Nat.add_zero, Nat.zero_add, Nat.le_refl, Nat.not_lt_zero, Nat.succ_eq_add_one, Int.reduceNatCast, Int.cast_ofNat_Int, Int.reduceSub, Int.reduceMul, Int.reduceNeg, Int.reduceLE, Int.reduceLT, Int.reduceToNat, Int.reduceEq, Int.reduceNe, Int.reduceAdd, Option.some.injEq, kX9_in, rmX9_in]
  exact ⟨by omega, by omega, fun q => hs.1 (by omega), fun q => ⟨by omega, by omega, fun q2 => hs.1 (by omega), fun q2 => hs.2 (by omega)⟩⟩
theorem b2i_c {c d : Prop} [Decidable c] [Decidable d] (h : c ↔ d) : b2i c = b2i d := by
  unfold b2i
  by_cases q : c
  · rw [if_pos q, if_pos (h.mp q)]
  · rw [if_neg q, if_neg (fun z => q (h.mpr z))]
def spX9_isStation (As : List MV) (σ : MS) (K : Option MV → MS → Prop) : Prop := pR As fun a r => pI r fun s r => pN r (a = 240 ∧ σ.2.1 = PF ∧ RI s ∧ 0 ≤ σ.2.2.1 240 1 ∧ σ.2.2.1 240 1 ≤ 30 ∧ K (some (.inl (b2i (0 ≤ s ∧ s < σ.2.2.1 240 1)))) σ)
def ciX9_isStation : CI := (2, 9, 0, 0, spX9_isStation)
def kX9_isStation (pc : Nat) : List ME := match pc with
  | 0 => [(.aload_n 0, 1, []), (.iload_n 1, 1, []), (.iconst 0, 1, []), (.aload_n 0, 1, []), (.getfield 13, 3, []), (.iconst 1, 1, []), (.isub, 1, []), (.invokevirtual 128, 3, []), (.ireturn, 1, [])]
  | _ => []
theorem qX9_isStation : ∀ pc, chk cX9_isStation pc (kX9_isStation pc) = true := by
  intro pc
  unfold kX9_isStation
  split <;> first | decide +kernel | exact chk_nil
abbrev rmX9_isStation : Room := { frames := 1, cells := 0, slots := 0, locals := 23 }
def aX9_isStation (x : Nat) : Option CI := match x with
  | 128 => some ciX9_in
  | _ => none
theorem aokX9_isStation : ∀ x ci, aX9_isStation x = some ci → CalOK RX9 rmX9_isStation x ci := by
  intro x ci h
  unfold aX9_isStation at h
  split at h
  · cases h; exact cal_V mX9_in (by decide) rfl (List.forall_mem_cons.mpr ⟨(ws_mem (List.mem_of_getElem? (i := 979) (by decide +kernel)) (by decide +kernel)), List.forall_mem_cons.mpr ⟨(ws_mem (List.mem_of_getElem? (i := 981) (by decide +kernel)) (by decide +kernel)), List.forall_mem_cons.mpr ⟨(ws_mem (List.mem_of_getElem? (i := 20) (by decide +kernel)) (by decide +kernel)), List.forall_mem_cons.mpr ⟨(ws_mem (List.mem_of_getElem? (i := 64) (by decide +kernel)) (by decide +kernel)), List.forall_mem_cons.mpr ⟨(ws_mem (List.mem_of_getElem? (i := 982) (by decide +kernel)) (by decide +kernel)), fun _ h => absurd h List.not_mem_nil⟩⟩⟩⟩⟩) rfl (by unfold nice; decide +kernel) (by unfold rfits; decide) ⟨rfl, rfl⟩
  · cases h
theorem ocX9_isStation_128 (f : Nat → Nat → Nat → Nat → (List MV → MS → (Option MV → MS → Prop) → Prop) → Prop) : oC aX9_isStation 128 f = f 4 9 0 0 spX9_in := propext Iff.rfl
theorem mdX9_isStation : MD RX9 cX9_isStation rmX9_isStation kX9_isStation fX9 aX9_isStation zX9 uX9 := ⟨fokX9, zokX9, uokX9, aokX9_isStation, qX9_isStation⟩
set_option maxRecDepth 100000 in
set_option maxHeartbeats 800000 in
theorem mX9_isStation : MOK yX9_isStation cX9_isStation 2 (some .boolean) rmX9_isStation ciX9_isStation := by
  refine mok_of (ini := false) (by decide +kernel) (by decide) rfl rfl ?_
  intro σ As K hrc hl h
  obtain ⟨N, P, I, L⟩ := σ
  have h9 := pR_iff.mp h
  clear h
  obtain ⟨a, r, e9, h⟩ := h9
  subst e9
  have h9 := pI_iff.mp h
  clear h
  obtain ⟨s, r, e9, h⟩ := h9
  subst e9
  have h9 := pN_iff.mp h
  clear h
  obtain ⟨e9, h⟩ := h9
  subst e9
  try dsimp only at h
  obtain ⟨rfl, rfl, hs, h0, h1, h⟩ := h
  unfold RI at hs
  refine ⟨Nat.le_of_ble_eq_true rfl, Ok.seg mdX9_isStation [] 20 ?_⟩
  simp only [wp_nil, wp_cons, ↓stp, ↓lI, ↓lL, ↓lR, ↓lIn_0, ↓lIn_1, ↓lIn_2, ↓lIn_3, ↓lLn_0, ↓lLn_1, ↓lLn_2, ↓lLn_3, ↓lRn_0, ↓lRn_1, ↓lRn_2, ↓lRn_3, ↓pI, ↓pL, ↓pR, ↓pA, ↓pN, ↓pV, ↓fp, ↓tsw, ↓oS, ↓spMax, ↓spMin, ↓spAbs, ↓spObj, RI, RLg, b2i_lo, b2i_hi, getL, setL, ltL, killL, isLong, inl, cnd, br, tgt, rcv, rpl, mputI, mputL, mputP, fv, fr, mcat, mcs, entL, entA, rfit, nf_0, nf_1, nf_2, nf_3, nf2_0, nf2_1, b2i_0, b2i_1, RI_b2i, b2i_fit, List.append, List.length, List.replicate, List.cons_append, List.nil_append, List.length_cons, List.length_nil, List.replicate_succ, List.replicate_zero, List.tail_cons, reduceIte, if_true, if_false, ite_true, ite_false, Bool.false_eq_true, true_and, and_true, and_self, false_and, and_false, or_self, or_true, true_or, or_false, false_or, not_true_eq_false, not_false_eq_true, ne_eq, forall_const, implies_true, imp_self, true_implies, false_implies, Nat.reduceAdd, Nat.reduceSub, Nat.reduceMul, Nat.reduceDiv, Nat.reduceMod, Nat.reduceEqDiff, Nat.reduceLT, Nat.reduceLeDiff, Nat.reduceBEq, Nat.add_zero, Nat.zero_add, Nat.le_refl, Nat.not_lt_zero, Nat.succ_eq_add_one, Int.reduceNatCast, Int.cast_ofNat_Int, Int.reduceSub, Int.reduceMul, Int.reduceNeg, Int.reduceLE, Int.reduceLT, Int.reduceToNat, Int.reduceEq, Int.reduceNe, Int.reduceAdd, Option.some.injEq, kX9_isStation, rmX9_isStation, ↓ofX9_13, ↓ocX9_isStation_128, ↓spX9_in, G_240, G_241, G_242, G_243, G_244, G_245, G_246, G_247, G_248, G_249, G_250, G_251, G_252, G_253, G_254, G_255, G_256, G_257, G_258, G_259, G_260, G_261, G_262, G_263, G_264, G_265, G_266, G_267, G_268, G_269, G_270, G_271, G_272, PF_240_6, PF_240_7, PF_240_8, PF_240_9, PF_240_10, PF_240_11, PF_240_12, PF_240_13, PF_240_14, PF_240_15, PF_240_16, PF_240_17, PF_240_18, PF_240_19, PF_240_20, PF_240_21, PF_240_22, PF_240_23, PF_240_24, PF_240_26, PF_240_27, PF_240_28, PF_240_29, PF_240_30, PF_240_31, PF_240_32, PF_240_33, PF_240_34, PF_240_35, PF_240_36, PF_240_37]
  rw [b2i_c (show (0 ≤ s ∧ s ≤ I 240 1 - 1) ↔ (0 ≤ s ∧ s < I 240 1) by omega)]
  exact ⟨by omega, by omega, by omega, h⟩
def spX9_changed (As : List MV) (σ : MS) (K : Option MV → MS → Prop) : Prop := pR As fun a r => pN r (a = 240 ∧ σ.2.1 = PF ∧ K none (σ.1, σ.2.1, filI σ.2.2.1 248 0 41, σ.2.2.2))
def ciX9_changed : CI := (1, 9, 0, 0, spX9_changed)
def kX9_changed (pc : Nat) : List ME := match pc with
  | 0 => [(.iconst 0, 1, []), (.istore_n 1, 1, [])]
  | 2 => [(.iload_n 1, 1, []), (.bipush 41, 2, []), (.if_icmp .ge 16, 3, [21]), (.aload_n 0, 1, []), (.getfield 50, 3, []), (.iload_n 1, 1, []), (.iconst 0, 1, []), (.bastore, 1, []), (.iinc 1 1, 3, []), (.goto (-16), 3, [2])]
  | 21 => [(.return_, 1, [])]
  | _ => []
theorem qX9_changed : ∀ pc, chk cX9_changed pc (kX9_changed pc) = true := by
  intro pc
  unfold kX9_changed
  split <;> first | decide +kernel | exact chk_nil
abbrev rmX9_changed : Room := { frames := 0, cells := 0, slots := 0, locals := 0 }
def aX9_changed (_ : Nat) : Option CI := none
theorem aokX9_changed : ∀ x ci, aX9_changed x = some ci → CalOK RX9 rmX9_changed x ci := fun _ _ h => by cases h
theorem mdX9_changed : MD RX9 cX9_changed rmX9_changed kX9_changed fX9 aX9_changed zX9 uX9 := ⟨fokX9, zokX9, uokX9, aokX9_changed, qX9_changed⟩
set_option maxHeartbeats 800000 in
theorem lpX9_ch {post : Option MV → MS → Prop} {U : Pt → Prop} {N : Nat} {I L : Int → Int → Int} (h : post none (N, PF, filI I 248 0 41, L)) : ∀ (m : Nat) (i : Int), 0 ≤ i → i + m = 41 →
    Ok RX9 cX9_changed 2 rmX9_changed false none post U (2, [some (.inr (.inr (some 240))), some (.inl i)], [], (N, PF, filI I 248 0 i, L), 0, 0)
  | 0, i, h0, hi => by
    refine Ok.seg mdX9_changed [2] 20 ?_
    simp only [wp_nil, wp_cons, ↓stp, ↓lI, ↓lL, ↓lR, ↓lIn_0, ↓lIn_1, ↓lIn_2, ↓lIn_3, ↓lLn_0, ↓lLn_1, ↓lLn_2, ↓lLn_3, ↓lRn_0, ↓lRn_1, ↓lRn_2, ↓lRn_3, ↓pI, ↓pL, ↓pR, ↓pA, ↓pN, ↓pV, ↓fp, ↓tsw, ↓oS, ↓spMax, ↓spMin, ↓spAbs, ↓spObj, RI, RLg, b2i_lo, b2i_hi, getL, setL, ltL, killL, isLong, inl, cnd, br, tgt, rcv, rpl, mputI, mputL, mputP, fv, fr, mcat, mcs, entL, entA, rfit, nf_0, nf_1, nf_2, nf_3, nf2_0, nf2_1, b2i_0, b2i_1, RI_b2i, b2i_fit, List.append, List.length, List.replicate, List.cons_append, List.nil_append, List.length_cons, List.length_nil, List.replicate_succ, List.replicate_zero, List.tail_cons, reduceIte, if_true, if_false, ite_true, ite_false, Bool.false_eq_true, true_and, and_true, and_self, false_and, and_false, or_self, or_true, true_or, or_false, false_or, not_true_eq_false, not_false_eq_true, ne_eq, forall_const, implies_true, imp_self, true_implies, false_implies, Nat.reduceAdd, Nat.reduceSub, Nat.reduceMul, Nat.reduceDiv, Nat.reduceMod, Nat.reduceEqDiff, Nat.reduceLT, Nat.reduceLeDiff, Nat.reduceBEq, Nat.add_zero, Nat.zero_add, Nat.le_refl, Nat.not_lt_zero, Nat.succ_eq_add_one, Int.reduceNatCast, Int.cast_ofNat_Int, Int.reduceSub, Int.reduceMul, Int.reduceNeg, Int.reduceLE, Int.reduceLT, Int.reduceToNat, Int.reduceEq, Int.reduceNe, Int.reduceAdd, Option.some.injEq, kX9_changed, rmX9_changed, ↓ofX9_50, G_240, G_241, G_242, G_243, G_244, G_245, G_246, G_247, G_248, G_249, G_250, G_251, G_252, G_253, G_254, G_255, G_256, G_257, G_258, G_259, G_260, G_261, G_262, G_263, G_264, G_265, G_266, G_267, G_268, G_269, G_270, G_271, G_272, PF_240_6, PF_240_7, PF_240_8, PF_240_9, PF_240_10, PF_240_11, PF_240_12, PF_240_13, PF_240_14, PF_240_15, PF_240_16, PF_240_17, PF_240_18, PF_240_19, PF_240_20, PF_240_21, PF_240_22, PF_240_23, PF_240_24, PF_240_26, PF_240_27, PF_240_28, PF_240_29, PF_240_30, PF_240_31, PF_240_32, PF_240_33, PF_240_34, PF_240_35, PF_240_36, PF_240_37]
    rw [show i = 41 by omega]
    exact ⟨by omega, fun _ => h, fun q => by omega⟩
  | m + 1, i, h0, hi => by
    have ih := lpX9_ch (U := U) (L := L) h m (i + 1) (by omega) (by omega)
    rw [← filI_s I 248 0 i h0] at ih
    refine Ok.seg mdX9_changed [2] 20 ?_
    simp only [wp_nil, wp_cons, ↓stp, ↓lI, ↓lL, ↓lR, ↓lIn_0, ↓lIn_1, ↓lIn_2, ↓lIn_3, ↓lLn_0, ↓lLn_1, ↓lLn_2, ↓lLn_3, ↓lRn_0, ↓lRn_1, ↓lRn_2, ↓lRn_3, ↓pI, ↓pL, ↓pR, ↓pA, ↓pN, ↓pV, ↓fp, ↓tsw, ↓oS, ↓spMax, ↓spMin, ↓spAbs, ↓spObj, RI, RLg, b2i_lo, b2i_hi, getL, setL, ltL, killL, isLong, inl, cnd, br, tgt, rcv, rpl, mputI, mputL, mputP, fv, fr, mcat, mcs, entL, entA, rfit, nf_0, nf_1, nf_2, nf_3, nf2_0, nf2_1, b2i_0, b2i_1, RI_b2i, b2i_fit, List.append, List.length, List.replicate, List.cons_append, List.nil_append, List.length_cons, List.length_nil, List.replicate_succ, List.replicate_zero, List.tail_cons, reduceIte, if_true, if_false, ite_true, ite_false, Bool.false_eq_true, true_and, and_true, and_self, false_and, and_false, or_self, or_true, true_or, or_false, false_or, not_true_eq_false, not_false_eq_true, ne_eq, forall_const, implies_true, imp_self, true_implies, false_implies, Nat.reduceAdd, Nat.reduceSub, Nat.reduceMul, Nat.reduceDiv, Nat.reduceMod, Nat.reduceEqDiff, Nat.reduceLT, Nat.reduceLeDiff, Nat.reduceBEq, Nat.add_zero, Nat.zero_add, Nat.le_refl, Nat.not_lt_zero, Nat.succ_eq_add_one, Int.reduceNatCast, Int.cast_ofNat_Int, Int.reduceSub, Int.reduceMul, Int.reduceNeg, Int.reduceLE, Int.reduceLT, Int.reduceToNat, Int.reduceEq, Int.reduceNe, Int.reduceAdd, Option.some.injEq, kX9_changed, rmX9_changed, ↓ofX9_50, G_240, G_241, G_242, G_243, G_244, G_245, G_246, G_247, G_248, G_249, G_250, G_251, G_252, G_253, G_254, G_255, G_256, G_257, G_258, G_259, G_260, G_261, G_262, G_263, G_264, G_265, G_266, G_267, G_268, G_269, G_270, G_271, G_272, PF_240_6, PF_240_7, PF_240_8, PF_240_9, PF_240_10, PF_240_11, PF_240_12, PF_240_13, PF_240_14, PF_240_15, PF_240_16, PF_240_17, PF_240_18, PF_240_19, PF_240_20, PF_240_21, PF_240_22, PF_240_23, PF_240_24, PF_240_26, PF_240_27, PF_240_28, PF_240_29, PF_240_30, PF_240_31, PF_240_32, PF_240_33, PF_240_34, PF_240_35, PF_240_36, PF_240_37]
    exact ⟨by omega, fun q => by omega, fun q => ⟨by omega, by omega, ih⟩⟩
set_option maxRecDepth 100000 in
set_option maxHeartbeats 800000 in
theorem mX9_changed : MOK yX9_changed cX9_changed 2 none rmX9_changed ciX9_changed := by
  refine mok_of (ini := false) (by decide +kernel) (by decide) rfl rfl ?_
  intro σ As K hrc hl h
  obtain ⟨N, P, I, L⟩ := σ
  have h9 := pR_iff.mp h
  clear h
  obtain ⟨a, r, e9, h⟩ := h9
  subst e9
  have h9 := pN_iff.mp h
  clear h
  obtain ⟨e9, h⟩ := h9
  subst e9
  try dsimp only at h
  obtain ⟨rfl, rfl, h⟩ := h
  refine ⟨Nat.le_of_ble_eq_true rfl, Ok.seg mdX9_changed [2] 6 ?_⟩
  simp only [wp_nil, wp_cons, ↓stp, ↓lI, ↓lL, ↓lR, ↓lIn_0, ↓lIn_1, ↓lIn_2, ↓lIn_3, ↓lLn_0, ↓lLn_1, ↓lLn_2, ↓lLn_3, ↓lRn_0, ↓lRn_1, ↓lRn_2, ↓lRn_3, ↓pI, ↓pL, ↓pR, ↓pA, ↓pN, ↓pV, ↓fp, ↓tsw, ↓oS, ↓spMax, ↓spMin, ↓spAbs, ↓spObj, RI, RLg, b2i_lo, b2i_hi, getL, setL, ltL, killL, isLong, inl, cnd, br, tgt, rcv, rpl, mputI, mputL, mputP, fv, fr, mcat, mcs, entL, entA, rfit, nf_0, nf_1, nf_2, nf_3, nf2_0, nf2_1, b2i_0, b2i_1, RI_b2i, b2i_fit, List.append, List.length, List.replicate, List.cons_append, List.nil_append, List.length_cons, List.length_nil, List.replicate_succ, List.replicate_zero, List.tail_cons, reduceIte, if_true, if_false, ite_true, ite_false, Bool.false_eq_true, true_and, and_true, and_self, false_and, and_false, or_self, or_true, true_or, or_false, false_or, not_true_eq_false, not_false_eq_true, ne_eq, forall_const, implies_true, imp_self, true_implies, false_implies, Nat.reduceAdd, Nat.reduceSub, Nat.reduceMul, Nat.reduceDiv, Nat.reduceMod, Nat.reduceEqDiff, Nat.reduceLT, Nat.reduceLeDiff, Nat.reduceBEq, Nat.add_zero, Nat.zero_add, Nat.le_refl, Nat.not_lt_zero, Nat.succ_eq_add_one, Int.reduceNatCast, Int.cast_ofNat_Int, Int.reduceSub, Int.reduceMul, Int.reduceNeg, Int.reduceLE, Int.reduceLT, Int.reduceToNat, Int.reduceEq, Int.reduceNe, Int.reduceAdd, Option.some.injEq, kX9_changed, rmX9_changed, ↓ofX9_50, G_240, G_241, G_242, G_243, G_244, G_245, G_246, G_247, G_248, G_249, G_250, G_251, G_252, G_253, G_254, G_255, G_256, G_257, G_258, G_259, G_260, G_261, G_262, G_263, G_264, G_265, G_266, G_267, G_268, G_269, G_270, G_271, G_272, PF_240_6, PF_240_7, PF_240_8, PF_240_9, PF_240_10, PF_240_11, PF_240_12, PF_240_13, PF_240_14, PF_240_15, PF_240_16, PF_240_17, PF_240_18, PF_240_19, PF_240_20, PF_240_21, PF_240_22, PF_240_23, PF_240_24, PF_240_26, PF_240_27, PF_240_28, PF_240_29, PF_240_30, PF_240_31, PF_240_32, PF_240_33, PF_240_34, PF_240_35, PF_240_36, PF_240_37]
  have := lpX9_ch (post := fun r σ' => rfit none r ∧ K r σ') (U := fun _ => False) (N := N) (L := L) ⟨trivial, h⟩ 41 0 (by omega) (by omega)
  rw [filI_0] at this
  exact this
theorem fil_o {I : Int → Int → Int} {a v n b k : Int} (h : b ≠ a) : filI I a v n b k = I b k := if_neg (fun z => h z.1)
theorem fil_i {I : Int → Int → Int} {a v n k : Int} (h0 : 0 ≤ k) (h1 : k < n) : filI I a v n a k = v := if_pos ⟨rfl, h0, h1⟩
