/-! LapBoard: fail, along, worth, delta, on, race, element -/
theorem xwX8_125 : xW RX8 125 IAE = true := by decide +kernel
theorem xwX8_236 : xW RX8 236 ISE = true := by decide +kernel
theorem xwX3_45 : xW RX3 45 ISE = true := by decide +kernel
def spX3_fail (As : List MV) (σ : MS) (K : Option MV → MS → Prop) (KX : String → MS → Prop) : Prop := pR As fun a r => pN r (stOK σ.2.2.1 a ∧ (σ.2.2.1 a 0 = 1 ∨ σ.2.2.1 a 0 = 2 → KX ISE σ) ∧ (¬ (σ.2.2.1 a 0 = 1 ∨ σ.2.2.1 a 0 = 2) → K none σ))
def kX3_fail (pc : Nat) : List ME := match pc with
  | 0 => [(.aload_n 0, 1, []), (.invokevirtual 24, 3, []), (.ifCond .eq 13, 3, [17]), (.new 41, 3, []), (.dup, 1, []), (.ldc 43, 2, []), (.invokespecial 45, 3, []), (.athrow, 1, [])]
  | 17 => [(.return_, 1, [])]
  | _ => []
theorem qX3_fail : ∀ pc, chk cX3_fail pc (kX3_fail pc) = true := by
  intro pc
  unfold kX3_fail
  split <;> first | decide +kernel | exact chk_nil
abbrev rmX3_fail : Room := { frames := 6, cells := 1, slots := 6, locals := 82 }
def aX3_fail (x : Nat) : Option CI := match x with
  | 24 => some ciX3_bends
  | _ => none
theorem aokX3_fail : ∀ x ci, aX3_fail x = some ci → CalOK RX3 rmX3_fail x ci := by
  intro x ci h
  unfold aX3_fail at h
  split at h
  · cases h; exact cal_V mX3_bends (by decide) rfl (List.forall_mem_cons.mpr ⟨(ws_mem (List.mem_of_getElem? (i := 418) (by decide +kernel)) (by decide +kernel)), List.forall_mem_cons.mpr ⟨(ws_mem (List.mem_of_getElem? (i := 419) (by decide +kernel)) (by decide +kernel)), List.forall_mem_cons.mpr ⟨(ws_mem (List.mem_of_getElem? (i := 420) (by decide +kernel)) (by decide +kernel)), List.forall_mem_cons.mpr ⟨(ws_mem (List.mem_of_getElem? (i := 56) (by decide +kernel)) (by decide +kernel)), List.forall_mem_cons.mpr ⟨(ws_mem (List.mem_of_getElem? (i := 421) (by decide +kernel)) (by decide +kernel)), fun _ h => absurd h List.not_mem_nil⟩⟩⟩⟩⟩) rfl (by unfold nice; decide +kernel) (by unfold rfits; decide) ⟨rfl, rfl⟩
  · cases h
theorem ocX3_fail_24 (f : Nat → Nat → Nat → Nat → (List MV → MS → (Option MV → MS → Prop) → Prop) → Prop) : oC aX3_fail 24 f = f 1 3 0 0 spX3_bends := propext Iff.rfl
theorem mdX3_fail : MD RX3 cX3_fail rmX3_fail kX3_fail fX3 aX3_fail zX3 uX3 := ⟨fokX3, zokX3, uokX3, aokX3_fail, qX3_fail⟩
def tSX3_fail (pc : Nat) : Option (Nat × Nat × Nat × String × String) := match pc with
  | 7 => some (41, 43, 45, ISE, "the station fails")
  | _ => none
theorem xsX3_fail : XS RX3 cX3_fail rmX3_fail tSX3_fail := by
  refine ⟨by decide, by decide, fun pc ik is ic E text h => ?_⟩
  unfold tSX3_fail at h
  split at h
  · cases h; exact ⟨⟨by decide +kernel, by decide +kernel, by decide +kernel, by decide +kernel, by decide +kernel⟩, (ws_mem (List.mem_of_getElem? (i := 704) (by decide +kernel)) (by decide +kernel)), (ws_mem (List.mem_of_getElem? (i := 70) (by decide +kernel)) (by decide +kernel)), by decide, Or.inr rfl, xwX3_45⟩
  · cases h
set_option maxRecDepth 100000 in
set_option maxHeartbeats 800000 in
theorem mX3_fail : MOX yX3_fail cX3_fail 1 none rmX3_fail 1 3 1 6 spX3_fail := by
  refine mox_of xsX3_fail (by decide +kernel) rfl rfl ?_
  intro σ As K KX hrc hl h
  obtain ⟨N, P, I, L⟩ := σ
  have h9 := pR_iff.mp h
  clear h
  obtain ⟨a, r, e9, h⟩ := h9
  subst e9
  have h9 := pN_iff.mp h
  clear h
  obtain ⟨e9, h⟩ := h9
  subst e9
  try dsimp only at h
  obtain ⟨hs, h1, h2⟩ := h
  have hr : (G a).1 = 3 ∧ 0 < a := hrc
  refine ⟨Nat.le_of_ble_eq_true rfl, Ok.seg mdX3_fail [] 20 ?_⟩
  simp only [wp_nil, wp_cons, ↓stp, ↓lI, ↓lL, ↓lR, ↓lIn_0, ↓lIn_1, ↓lIn_2, ↓lIn_3, ↓lLn_0, ↓lLn_1, ↓lLn_2, ↓lLn_3, ↓lRn_0, ↓lRn_1, ↓lRn_2, ↓lRn_3, ↓pI, ↓pL, ↓pR, ↓pA, ↓pN, ↓pV, ↓fp, ↓tsw, ↓oS, ↓spMax, ↓spMin, ↓spAbs, ↓spObj, RI, RLg, b2i_lo, b2i_hi, getL, setL, ltL, killL, isLong, inl, cnd, br, tgt, rcv, rpl, mputI, mputL, mputP, fv, fr, mcat, mcs, entL, entA, rfit, nf_0, nf_1, nf_2, nf_3, nf2_0, nf2_1, b2i_0, b2i_1, RI_b2i, b2i_fit, List.append, List.length, List.replicate, List.cons_append, List.nil_append, List.length_cons, List.length_nil, List.replicate_succ, List.replicate_zero, List.tail_cons, reduceIte, if_true, if_false, ite_true, ite_false, Bool.false_eq_true, true_and, and_true, and_self, false_and, and_false, or_self, or_true, true_or, or_false, false_or, not_true_eq_false, not_false_eq_true, ne_eq, forall_const, implies_true, imp_self, true_implies, false_implies, Nat.reduceAdd, Nat.reduceSub, Nat.reduceMul, Nat.reduceDiv, Nat.reduceMod, Nat.reduceEqDiff, Nat.reduceLT, Nat.reduceLeDiff, Nat.reduceBEq, Nat.add_zero, Nat.zero_add, Nat.le_refl, Nat.not_lt_zero, Nat.succ_eq_add_one, Int.reduceNatCast, Int.cast_ofNat_Int, Int.reduceSub, Int.reduceMul, Int.reduceNeg, Int.reduceLE, Int.reduceLT, Int.reduceToNat, Int.reduceEq, Int.reduceNe, Int.reduceAdd, Option.some.injEq, kX3_fail, rmX3_fail, ↓onX3_41, ↓ocX3_fail_24, ↓spX3_bends, hs, hr]
  exact ⟨h2, fun q => Ok.thr ⟨_, _, _, _, _, rfl, h1 (Classical.not_not.mp q), rfl, Nat.le_refl _, Nat.le_refl _⟩⟩
/-- what the board says to along, worth, delta, on, race, element; J: behind the call -/
def anA (I J : Int → Int → Int) (l v : Int) : Prop := ∃ q, stayV I l q ∧ v = sumI (fun i => tmv (I (5 + i) 1) 0 (q i)) (I 3 1).toNat
def anW (I J : Int → Int → Int) (w n v : Int) : Prop := ∃ A B, lapT I (I 36 0) (I 36 1) (I 36 2) A ∧ lapT I (if w = 0 then n else I 36 0) (if w = 1 then n else I 36 1) (if w = 2 then n else I 36 2) B ∧ v = A - B
def anD (I J : Int → Int → Int) (s v : Int) : Prop := (I (5 + s) 4 = 0 → v = 0) ∧ (0 < I (5 + s) 4 → bestOK J ∧ v = I (5 + s) 4 - J 43 s)
def anO (I J : Int → Int → Int) (t d v : Int) : Prop := v = lpf I t d
def anR (I J : Int → Int → Int) (n v : Int) : Prop := planI J n ∧ v = J 179 7
def anE (I J : Int → Int → Int) (d i v : Int) : Prop := v = itm I (208 + 4 * d) i
def spX8_along (As : List MV) (σ : MS) (K : Option MV → MS → Prop) (KX : String → MS → Prop) : Prop := pR As fun a r => pI r fun l r => pN r (a = 1 ∧ σ.2.1 = PF ∧ RI l ∧ xOK σ.2.2.1 ∧ (¬ (0 ≤ l ∧ l ≤ 2) → KX IAE σ) ∧ (0 ≤ l ∧ l ≤ 2 → ∀ (I' : Int → Int → Int) (v : Int), frQ σ.2.2.1 I' → xOK I' → anA σ.2.2.1 I' l v → K (some (.inr (.inl v))) (σ.1, σ.2.1, I', σ.2.2.2)))
def kX8_along (pc : Nat) : List ME := match pc with
  | 0 => [(.iload_n 1, 1, []), (.iconst 0, 1, []), (.iconst 2, 1, []), (.invokestatic 37, 3, []), (.ifCond .ne 13, 3, [19]), (.new 121, 3, []), (.dup, 1, []), (.ldc 123, 2, []), (.invokespecial 125, 3, []), (.athrow, 1, [])]
  | 19 => [(.aload_n 0, 1, []), (.getfield 10, 3, []), (.iload_n 1, 1, []), (.invokevirtual 112, 3, []), (.getfield 128, 3, []), (.i2l, 1, []), (.lreturn, 1, [])]
  | _ => []
theorem qX8_along : ∀ pc, chk cX8_along pc (kX8_along pc) = true := by
  intro pc
  unfold kX8_along
  split <;> first | decide +kernel | exact chk_nil
abbrev rmX8_along : Room := { frames := 6, cells := 1, slots := 6, locals := 89 }
def aX8_along (x : Nat) : Option CI := match x with
  | 37 => some ciX8_within
  | 112 => some ciX7_stayOn
  | _ => none
theorem aokX8_along : ∀ x ci, aX8_along x = some ci → CalOK RX8 rmX8_along x ci := by
  intro x ci h
  unfold aX8_along at h
  split at h
  · cases h; exact cal_S mX8_within rfl (List.forall_mem_cons.mpr ⟨(ws_mem (List.mem_of_getElem? (i := 363) (by decide +kernel)) (by decide +kernel)), List.forall_mem_cons.mpr ⟨(ws_mem (List.mem_of_getElem? (i := 364) (by decide +kernel)) (by decide +kernel)), List.forall_mem_cons.mpr ⟨(ws_mem (List.mem_of_getElem? (i := 53) (by decide +kernel)) (by decide +kernel)), List.forall_mem_cons.mpr ⟨(ws_mem (List.mem_of_getElem? (i := 365) (by decide +kernel)) (by decide +kernel)), fun _ h => absurd h List.not_mem_nil⟩⟩⟩⟩) rfl (by unfold nice; decide +kernel) (by unfold rfits; decide) ⟨rfl, rfl⟩
  · cases h; exact cal_V mX7_stayOn (by decide) rfl (List.forall_mem_cons.mpr ⟨(ws_mem (List.mem_of_getElem? (i := 443) (by decide +kernel)) (by decide +kernel)), List.forall_mem_cons.mpr ⟨(ws_mem (List.mem_of_getElem? (i := 444) (by decide +kernel)) (by decide +kernel)), List.forall_mem_cons.mpr ⟨(ws_mem (List.mem_of_getElem? (i := 445) (by decide +kernel)) (by decide +kernel)), List.forall_mem_cons.mpr ⟨(ws_mem (List.mem_of_getElem? (i := 54) (by decide +kernel)) (by decide +kernel)), List.forall_mem_cons.mpr ⟨(ws_mem (List.mem_of_getElem? (i := 446) (by decide +kernel)) (by decide +kernel)), fun _ h => absurd h List.not_mem_nil⟩⟩⟩⟩⟩) rfl (by unfold nice; decide +kernel) (by unfold rfits; decide) ⟨rfl, rfl⟩
  · cases h
theorem ocX8_along_37 (f : Nat → Nat → Nat → Nat → (List MV → MS → (Option MV → MS → Prop) → Prop) → Prop) : oC aX8_along 37 f = f 3 10 0 0 spX8_within := propext Iff.rfl
theorem ocX8_along_112 (f : Nat → Nat → Nat → Nat → (List MV → MS → (Option MV → MS → Prop) → Prop) → Prop) : oC aX8_along 112 f = f 2 7 0 0 spX7_stayOn := propext Iff.rfl
theorem mdX8_along : MD RX8 cX8_along rmX8_along kX8_along fX8 aX8_along zX8 uX8 := ⟨fokX8, zokX8, uokX8, aokX8_along, qX8_along⟩
def tSX8_along (pc : Nat) : Option (Nat × Nat × Nat × String × String) := match pc with
  | 9 => some (121, 123, 125, IAE, "no such lane")
  | _ => none
theorem xsX8_along : XS RX8 cX8_along rmX8_along tSX8_along := by
  refine ⟨by decide, by decide, fun pc ik is ic E text h => ?_⟩
  unfold tSX8_along at h
  split at h
  · cases h; exact ⟨⟨by decide +kernel, by decide +kernel, by decide +kernel, by decide +kernel, by decide +kernel⟩, (ws_mem (List.mem_of_getElem? (i := 778) (by decide +kernel)) (by decide +kernel)), (ws_mem (List.mem_of_getElem? (i := 68) (by decide +kernel)) (by decide +kernel)), by decide, Or.inl rfl, xwX8_125⟩
  · cases h
set_option maxRecDepth 100000 in
set_option maxHeartbeats 800000 in
theorem mX8_along : MOX yX8_along cX8_along 2 (some .long) rmX8_along 2 8 1 6 spX8_along := by
  refine mox_of xsX8_along (by decide +kernel) rfl rfl ?_
  intro σ As K KX hrc hl h
  obtain ⟨N, P, I, L⟩ := σ
  have h9 := pR_iff.mp h
  clear h
  obtain ⟨a, r, e9, h⟩ := h9
  subst e9
  have h9 := pI_iff.mp h
  clear h
  obtain ⟨l, r, e9, h⟩ := h9
  subst e9
  have h9 := pN_iff.mp h
  clear h
  obtain ⟨e9, h⟩ := h9
  subst e9
  try dsimp only at h
  obtain ⟨rfl, rfl, hl2, hx, h1, h2⟩ := h
  unfold RI at hl2
  have hx' := hx
  obtain ⟨x1, x2, x3, x4, x5, x6, x7⟩ := hx'
  have y1 := x1.1
  have y2 := x1.2.1
  refine ⟨Nat.le_of_ble_eq_true rfl, Ok.seg mdX8_along [] 60 ?_⟩
  simp only [wp_nil, wp_cons, ↓stp, ↓lI, ↓lL, ↓lR, ↓lIn_0, ↓lIn_1, ↓lIn_2, ↓lIn_3, ↓lLn_0, ↓lLn_1, ↓lLn_2, ↓lLn_3, ↓lRn_0, ↓lRn_1, ↓lRn_2, ↓lRn_3, ↓pI, ↓pL, ↓pR, ↓pA, ↓pN, ↓pV, ↓fp, ↓tsw, ↓oS, ↓spMax, ↓spMin, ↓spAbs, ↓spObj, RI, RLg, b2i_lo, b2i_hi, getL, setL, ltL, killL, isLong, inl, cnd, br, tgt, rcv, rpl, mputI, mputL, mputP, fv, fr, mcat, mcs, entL, entA, rfit, nf_0, nf_1, nf_2, nf_3, nf2_0, nf2_1, b2i_0, b2i_1, RI_b2i, b2i_fit, List.append, List.length, List.replicate, List.cons_append, List.nil_append, List.length_cons, List.length_nil, List.replicate_succ, List.replicate_zero, List.tail_cons, reduceIte, if_true, if_false, ite_true, ite_false, Bool.false_eq_true, true_and, and_true, and_self, false_and, and_false, or_self, or_true, true_or, or_false, false_or, not_true_eq_false, not_false_eq_true, ne_eq, forall_const, implies_true, imp_self, true_implies, false_implies, Nat.reduceAdd, Nat.reduceSub, Nat.reduceMul, Nat.reduceDiv, Nat.reduceMod, Nat.reduceEqDiff, Nat.reduceLT, Nat.reduceLeDiff, Nat.reduceBEq, Nat.add_zero, Nat.zero_add, Nat.le_refl, Nat.not_lt_zero, Nat.succ_eq_add_one, Int.reduceNatCast, Int.cast_ofNat_Int, Int.reduceSub, Int.reduceMul, Int.reduceNeg, Int.reduceLE, Int.reduceLT, Int.reduceToNat, Int.reduceEq, Int.reduceNe, Int.reduceAdd, Option.some.injEq, kX8_along, rmX8_along, ↓ofX8_10, ↓ofX8_128, ↓onX8_121, ↓ocX8_along_37, ↓spX8_within, ↓ocX8_along_112, ↓spX7_stayOn, x1, x2, y1, y2, G_1, G_2, G_3, G_4, G_35, G_36, G_37, G_38, G_39, G_40, G_41, G_42, G_43, G_44, G_45, G_46, G_47, G_48, G_49, G_140, G_141, G_142, G_143, G_144, G_145, G_146, G_178, G_179, G_180, G_181, G_182, G_183, G_184, G_189, G_198, G_207, PF_1_0, PF_1_1, PF_1_2, PF_1_3, PF_2_0, PF_2_1, PF_2_3, PF_2_4, PF_2_5, PF_2_6, PF_2_7, PF_2_8, PF_2_9, PF_2_10, PF_2_11, PF_3_0, PF_35_0, PF_35_1, PF_35_2, PF_35_3, PF_40_0, PF_40_1, PF_40_2, PF_44_0, PF_44_1, PF_44_2, PF_145_0, PF_145_1, PF_179_0, PF_179_1, PF_179_2, PF_179_3, PF_179_8, PF_179_9, PF_179_10]
  refine ⟨by omega, fun q => ⟨by omega, by omega, fun I' k1 k2 k3 k4 => ?_⟩, fun q => Ok.thr ⟨_, _, _, _, _, rfl, h1 (by omega), rfl, Nat.le_refl _, Nat.le_refl _⟩⟩
  obtain ⟨s1, s2⟩ := stay_of x1 x2 k1 k2 k3
  have e : sumI (wtm I' 44) (I 3 1).toNat = sumI (fun i => tmv (I (5 + i) 1) 0 (I' 46 i)) (I 3 1).toNat := sumI_congr _ (fun i i0 i1 => s2 i i0 (by omega))
  have rg := sumI_rng (c := 101000) (f := fun i => tmv (I (5 + i) 1) 0 (I' 46 i)) (I 3 1).toNat (fun i i0 i1 => by
    have a := x1.2.2 i i0 (by omega)
    unfold stOK at a
    exact tmv_rng (by omega) (by omega) (s1.1.2.1 i i0 (by omega)).1)
  rw [← e, ← k4] at rg
  refine ⟨by omega, ?_⟩
  exact h2 (by omega) I' _ (fun b k b0 b1 b2 b3 => k1 b k (by omega)) (xOK_E hx (fun b k b0 b1 => k1 b k (by omega))) ⟨_, s1, k4.trans e⟩
def spX8_worth (As : List MV) (σ : MS) (K : Option MV → MS → Prop) (KX : String → MS → Prop) : Prop := pR As fun a r => pI r fun w r => pI r fun n r => pN r (a = 1 ∧ σ.2.1 = PF ∧ RI w ∧ RI n ∧ xOK σ.2.2.1 ∧ (¬ (0 ≤ w ∧ w ≤ 2 ∧ setP w n) → KX IAE σ) ∧ (0 ≤ w ∧ w ≤ 2 ∧ setP w n → ∀ (I' : Int → Int → Int) (v : Int), frQ σ.2.2.1 I' → xOK I' → anW σ.2.2.1 I' w n v → K (some (.inr (.inl v))) (σ.1, σ.2.1, I', σ.2.2.2)))
def kX8_worth (pc : Nat) : List ME := match pc with
  | 0 => [(.iload_n 1, 1, []), (.iconst 3, 1, []), (.if_icmp .eq 11, 3, [13]), (.iload_n 1, 1, []), (.iload_n 2, 1, []), (.invokestatic 83, 3, []), (.ifCond .ne 13, 3, [23])]
  | 13 => [(.new 121, 3, []), (.dup, 1, []), (.ldc 141, 2, []), (.invokespecial 125, 3, []), (.athrow, 1, [])]
  | 23 => [(.aload_n 0, 1, []), (.getfield 10, 3, []), (.invokevirtual 131, 3, []), (.getfield 128, 3, []), (.i2l, 1, []), (.aload_n 0, 1, []), (.getfield 10, 3, []), (.iload_n 1, 1, []), (.iload_n 2, 1, []), (.invokevirtual 143, 3, []), (.i2l, 1, []), (.lsub, 1, []), (.lreturn, 1, [])]
  | _ => []
theorem qX8_worth : ∀ pc, chk cX8_worth pc (kX8_worth pc) = true := by
  intro pc
  unfold kX8_worth
  split <;> first | decide +kernel | exact chk_nil
abbrev rmX8_worth : Room := { frames := 6, cells := 1, slots := 6, locals := 145 }
def aX8_worth (x : Nat) : Option CI := match x with
  | 83 => some ciX8_settable
  | 131 => some ciX7_bestWay
  | 143 => some ciX7_lapIf
  | _ => none
theorem aokX8_worth : ∀ x ci, aX8_worth x = some ci → CalOK RX8 rmX8_worth x ci := by
  intro x ci h
  unfold aX8_worth at h
  split at h
  · cases h; exact cal_S mX8_settable rfl (List.forall_mem_cons.mpr ⟨(ws_mem (List.mem_of_getElem? (i := 406) (by decide +kernel)) (by decide +kernel)), List.forall_mem_cons.mpr ⟨(ws_mem (List.mem_of_getElem? (i := 407) (by decide +kernel)) (by decide +kernel)), List.forall_mem_cons.mpr ⟨(ws_mem (List.mem_of_getElem? (i := 53) (by decide +kernel)) (by decide +kernel)), List.forall_mem_cons.mpr ⟨(ws_mem (List.mem_of_getElem? (i := 408) (by decide +kernel)) (by decide +kernel)), fun _ h => absurd h List.not_mem_nil⟩⟩⟩⟩) rfl (by unfold nice; decide +kernel) (by unfold rfits; decide) ⟨rfl, rfl⟩
  · cases h; exact cal_V mX7_bestWay (by decide) rfl (List.forall_mem_cons.mpr ⟨(ws_mem (List.mem_of_getElem? (i := 465) (by decide +kernel)) (by decide +kernel)), List.forall_mem_cons.mpr ⟨(ws_mem (List.mem_of_getElem? (i := 466) (by decide +kernel)) (by decide +kernel)), List.forall_mem_cons.mpr ⟨(ws_mem (List.mem_of_getElem? (i := 467) (by decide +kernel)) (by decide +kernel)), List.forall_mem_cons.mpr ⟨(ws_mem (List.mem_of_getElem? (i := 54) (by decide +kernel)) (by decide +kernel)), List.forall_mem_cons.mpr ⟨(ws_mem (List.mem_of_getElem? (i := 468) (by decide +kernel)) (by decide +kernel)), fun _ h => absurd h List.not_mem_nil⟩⟩⟩⟩⟩) rfl (by unfold nice; decide +kernel) (by unfold rfits; decide) ⟨rfl, rfl⟩
  · cases h; exact cal_V mX7_lapIf (by decide) rfl (List.forall_mem_cons.mpr ⟨(ws_mem (List.mem_of_getElem? (i := 802) (by decide +kernel)) (by decide +kernel)), List.forall_mem_cons.mpr ⟨(ws_mem (List.mem_of_getElem? (i := 803) (by decide +kernel)) (by decide +kernel)), List.forall_mem_cons.mpr ⟨(ws_mem (List.mem_of_getElem? (i := 804) (by decide +kernel)) (by decide +kernel)), List.forall_mem_cons.mpr ⟨(ws_mem (List.mem_of_getElem? (i := 54) (by decide +kernel)) (by decide +kernel)), List.forall_mem_cons.mpr ⟨(ws_mem (List.mem_of_getElem? (i := 805) (by decide +kernel)) (by decide +kernel)), fun _ h => absurd h List.not_mem_nil⟩⟩⟩⟩⟩) rfl (by unfold nice; decide +kernel) (by unfold rfits; decide) ⟨rfl, rfl⟩
  · cases h
theorem ocX8_worth_83 (f : Nat → Nat → Nat → Nat → (List MV → MS → (Option MV → MS → Prop) → Prop) → Prop) : oC aX8_worth 83 f = f 2 10 0 0 spX8_settable := propext Iff.rfl
theorem ocX8_worth_131 (f : Nat → Nat → Nat → Nat → (List MV → MS → (Option MV → MS → Prop) → Prop) → Prop) : oC aX8_worth 131 f = f 1 7 0 0 spX7_bestWay := propext Iff.rfl
theorem ocX8_worth_143 (f : Nat → Nat → Nat → Nat → (List MV → MS → (Option MV → MS → Prop) → Prop) → Prop) : oC aX8_worth 143 f = f 3 7 0 0 spX7_lapIf := propext Iff.rfl
theorem mdX8_worth : MD RX8 cX8_worth rmX8_worth kX8_worth fX8 aX8_worth zX8 uX8 := ⟨fokX8, zokX8, uokX8, aokX8_worth, qX8_worth⟩
def tSX8_worth (pc : Nat) : Option (Nat × Nat × Nat × String × String) := match pc with
  | 13 => some (121, 141, 125, IAE, "no such number, or out of range")
  | _ => none
theorem xsX8_worth : XS RX8 cX8_worth rmX8_worth tSX8_worth := by
  refine ⟨by decide, by decide, fun pc ik is ic E text h => ?_⟩
  unfold tSX8_worth at h
  split at h
  · cases h; exact ⟨⟨by decide +kernel, by decide +kernel, by decide +kernel, by decide +kernel, by decide +kernel⟩, (ws_mem (List.mem_of_getElem? (i := 778) (by decide +kernel)) (by decide +kernel)), (ws_mem (List.mem_of_getElem? (i := 68) (by decide +kernel)) (by decide +kernel)), by decide, Or.inl rfl, xwX8_125⟩
  · cases h
set_option maxRecDepth 100000 in
set_option maxHeartbeats 800000 in
theorem mX8_worth : MOX yX8_worth cX8_worth 3 (some .long) rmX8_worth 3 8 1 6 spX8_worth := by
  refine mox_of xsX8_worth (by decide +kernel) rfl rfl ?_
  intro σ As K KX hrc hl h
  obtain ⟨N, P, I, L⟩ := σ
  have h9 := pR_iff.mp h
  clear h
  obtain ⟨a, r, e9, h⟩ := h9
  subst e9
  have h9 := pI_iff.mp h
  clear h
  obtain ⟨w, r, e9, h⟩ := h9
  subst e9
  have h9 := pI_iff.mp h
  clear h
  obtain ⟨n, r, e9, h⟩ := h9
  subst e9
  have h9 := pN_iff.mp h
  clear h
  obtain ⟨e9, h⟩ := h9
  subst e9
  try dsimp only at h
  obtain ⟨rfl, rfl, hw, hn, hx, h1, h2⟩ := h
  unfold RI at hw hn
  have hx' := hx
  obtain ⟨x1, x2, x3, x4, x5, x6, x7⟩ := hx'
  refine ⟨Nat.le_of_ble_eq_true rfl, Ok.seg mdX8_worth [] 60 ?_⟩
  simp only [wp_nil, wp_cons, ↓stp, ↓lI, ↓lL, ↓lR, ↓lIn_0, ↓lIn_1, ↓lIn_2, ↓lIn_3, ↓lLn_0, ↓lLn_1, ↓lLn_2, ↓lLn_3, ↓lRn_0, ↓lRn_1, ↓lRn_2, ↓lRn_3, ↓pI, ↓pL, ↓pR, ↓pA, ↓pN, ↓pV, ↓fp, ↓tsw, ↓oS, ↓spMax, ↓spMin, ↓spAbs, ↓spObj, RI, RLg, b2i_lo, b2i_hi, getL, setL, ltL, killL, isLong, inl, cnd, br, tgt, rcv, rpl, mputI, mputL, mputP, fv, fr, mcat, mcs, entL, entA, rfit, nf_0, nf_1, nf_2, nf_3, nf2_0, nf2_1, b2i_0, b2i_1, RI_b2i, b2i_fit, List.append, List.length, List.replicate, List.cons_append, List.nil_append, List.length_cons, List.length_nil, List.replicate_succ, List.replicate_zero, List.tail_cons, reduceIte, if_true, if_false, ite_true, ite_false, Bool.false_eq_true, true_and, and_true, and_self, false_and, and_false, or_self, or_true, true_or, or_false, false_or, not_true_eq_false, not_false_eq_true, ne_eq, forall_const, implies_true, imp_self, true_implies, false_implies, Nat.reduceAdd, Nat.reduceSub, Nat.reduceMul, Nat.reduceDiv, Nat.reduceMod, Nat.reduceEqDiff, Nat.reduceLT, Nat.reduceLeDiff, Nat.reduceBEq, Nat.add_zero, Nat.zero_add, Nat.le_refl, Nat.not_lt_zero, Nat.succ_eq_add_one, Int.reduceNatCast, Int.cast_ofNat_Int, Int.reduceSub, Int.reduceMul, Int.reduceNeg, Int.reduceLE, Int.reduceLT, Int.reduceToNat, Int.reduceEq, Int.reduceNe, Int.reduceAdd, Option.some.injEq, kX8_worth, rmX8_worth, ↓ofX8_10, ↓ofX8_128, ↓onX8_121, ↓ocX8_worth_83, ↓spX8_settable, ↓ocX8_worth_131, ↓spX7_bestWay, ↓ocX8_worth_143, ↓spX7_lapIf, x1, x2, x4, G_1, G_2, G_3, G_4, G_35, G_36, G_37, G_38, G_39, G_40, G_41, G_42, G_43, G_44, G_45, G_46, G_47, G_48, G_49, G_140, G_141, G_142, G_143, G_144, G_145, G_146, G_178, G_179, G_180, G_181, G_182, G_183, G_184, G_189, G_198, G_207, PF_1_0, PF_1_1, PF_1_2, PF_1_3, PF_2_0, PF_2_1, PF_2_3, PF_2_4, PF_2_5, PF_2_6, PF_2_7, PF_2_8, PF_2_9, PF_2_10, PF_2_11, PF_3_0, PF_35_0, PF_35_1, PF_35_2, PF_35_3, PF_40_0, PF_40_1, PF_40_2, PF_44_0, PF_44_1, PF_44_2, PF_145_0, PF_145_1, PF_179_0, PF_179_1, PF_179_2, PF_179_3, PF_179_8, PF_179_9, PF_179_10]
  refine ⟨by omega, fun q => Ok.thr ⟨_, _, _, _, _, rfl, h1 (by omega), rfl, Nat.le_refl _, Nat.le_refl _⟩, fun q => ⟨by omega, by omega, fun v v01 hv => ⟨by omega, fun z => ?_, fun z => Ok.thr ⟨_, _, _, _, _, rfl, h1 (fun y => z (fun y2 => by have := hv.mpr y.2.2; omega)), rfl, Nat.le_refl _, Nat.le_refl _⟩⟩⟩⟩
  have hs := hv.mp (by omega)
  have hs2 := hs
  unfold setP at hs2
  intro I1 k1 k2 k3
  have hb := best_lap x1 k1.c3 k2
  have hx1 := xOK_B hx k1 (.inr ⟨k3, k2⟩)
  have e36 : ∀ k, I1 36 k = I 36 k := fun k => k1 _ _ (by omega) (by omega) (by omega)
  refine ⟨by omega, by omega, hx1.1, hx1.2.1, hx1.2.2.1, fun I2 v k4 k5 k6 => ?_⟩
  rw [e36, e36, e36] at k6
  have k6' := (lapT_iff (tsame_c3 k1.c3 x1.2.1)).mpr k6
  have r6 := lapT_rng x1 k6'
  refine ⟨by omega, h2 ⟨by omega, by omega, hs⟩ I2 _ (fun b k b0 b1 b2 b3 => (k4.q b k b0 b1 b2 b3).trans (k1.q b k b0 b1 b2 b3)) (xOK_S hx1 k4 k5) ⟨_, _, hb.1, k6', rfl⟩⟩
def spX8_delta (As : List MV) (σ : MS) (K : Option MV → MS → Prop) (KX : String → MS → Prop) : Prop := pR As fun a r => pI r fun s r => pN r (a = 1 ∧ σ.2.1 = PF ∧ RI s ∧ xOK σ.2.2.1 ∧ (¬ (0 ≤ s ∧ s < σ.2.2.1 3 1) → KX IAE σ) ∧ (0 ≤ s ∧ s < σ.2.2.1 3 1 → ∀ (I' : Int → Int → Int) (v : Int), frQ σ.2.2.1 I' → xOK I' → anD σ.2.2.1 I' s v → K (some (.inr (.inl v))) (σ.1, σ.2.1, I', σ.2.2.2)))
def kX8_delta (pc : Nat) : List ME := match pc with
  | 0 => [(.aload_n 0, 1, []), (.getfield 10, 3, []), (.getfield 41, 3, []), (.iload_n 1, 1, []), (.invokevirtual 61, 3, []), (.ifCond .ne 13, 3, [24]), (.new 121, 3, []), (.dup, 1, []), (.ldc 164, 2, []), (.invokespecial 125, 3, []), (.athrow, 1, [])]
  | 24 => [(.aload_n 0, 1, []), (.getfield 10, 3, []), (.iload_n 1, 1, []), (.invokevirtual 166, 3, []), (.i2l, 1, []), (.lreturn, 1, [])]
  | _ => []
theorem qX8_delta : ∀ pc, chk cX8_delta pc (kX8_delta pc) = true := by
  intro pc
  unfold kX8_delta
  split <;> first | decide +kernel | exact chk_nil
abbrev rmX8_delta : Room := { frames := 6, cells := 1, slots := 6, locals := 142 }
def aX8_delta (x : Nat) : Option CI := match x with
  | 61 => some ciX5_has
  | 166 => some ciX7_behind
  | _ => none
theorem aokX8_delta : ∀ x ci, aX8_delta x = some ci → CalOK RX8 rmX8_delta x ci := by
  intro x ci h
  unfold aX8_delta at h
  split at h
  · cases h; exact cal_V mX5_has (by decide) rfl (List.forall_mem_cons.mpr ⟨(ws_mem (List.mem_of_getElem? (i := 390) (by decide +kernel)) (by decide +kernel)), List.forall_mem_cons.mpr ⟨(ws_mem (List.mem_of_getElem? (i := 391) (by decide +kernel)) (by decide +kernel)), List.forall_mem_cons.mpr ⟨(ws_mem (List.mem_of_getElem? (i := 392) (by decide +kernel)) (by decide +kernel)), List.forall_mem_cons.mpr ⟨(ws_mem (List.mem_of_getElem? (i := 55) (by decide +kernel)) (by decide +kernel)), List.forall_mem_cons.mpr ⟨(ws_mem (List.mem_of_getElem? (i := 393) (by decide +kernel)) (by decide +kernel)), fun _ h => absurd h List.not_mem_nil⟩⟩⟩⟩⟩) rfl (by unfold nice; decide +kernel) (by unfold rfits; decide) ⟨rfl, rfl⟩
  · cases h; exact cal_V mX7_behind (by decide) rfl (List.forall_mem_cons.mpr ⟨(ws_mem (List.mem_of_getElem? (i := 555) (by decide +kernel)) (by decide +kernel)), List.forall_mem_cons.mpr ⟨(ws_mem (List.mem_of_getElem? (i := 556) (by decide +kernel)) (by decide +kernel)), List.forall_mem_cons.mpr ⟨(ws_mem (List.mem_of_getElem? (i := 557) (by decide +kernel)) (by decide +kernel)), List.forall_mem_cons.mpr ⟨(ws_mem (List.mem_of_getElem? (i := 54) (by decide +kernel)) (by decide +kernel)), List.forall_mem_cons.mpr ⟨(ws_mem (List.mem_of_getElem? (i := 558) (by decide +kernel)) (by decide +kernel)), fun _ h => absurd h List.not_mem_nil⟩⟩⟩⟩⟩) rfl (by unfold nice; decide +kernel) (by unfold rfits; decide) ⟨rfl, rfl⟩
  · cases h
theorem ocX8_delta_61 (f : Nat → Nat → Nat → Nat → (List MV → MS → (Option MV → MS → Prop) → Prop) → Prop) : oC aX8_delta 61 f = f 2 5 0 0 spX5_has := propext Iff.rfl
theorem ocX8_delta_166 (f : Nat → Nat → Nat → Nat → (List MV → MS → (Option MV → MS → Prop) → Prop) → Prop) : oC aX8_delta 166 f = f 2 7 0 0 spX7_behind := propext Iff.rfl
theorem mdX8_delta : MD RX8 cX8_delta rmX8_delta kX8_delta fX8 aX8_delta zX8 uX8 := ⟨fokX8, zokX8, uokX8, aokX8_delta, qX8_delta⟩
def tSX8_delta (pc : Nat) : Option (Nat × Nat × Nat × String × String) := match pc with
  | 14 => some (121, 164, 125, IAE, "no such station")
  | _ => none
theorem xsX8_delta : XS RX8 cX8_delta rmX8_delta tSX8_delta := by
  refine ⟨by decide, by decide, fun pc ik is ic E text h => ?_⟩
  unfold tSX8_delta at h
  split at h
  · cases h; exact ⟨⟨by decide +kernel, by decide +kernel, by decide +kernel, by decide +kernel, by decide +kernel⟩, (ws_mem (List.mem_of_getElem? (i := 778) (by decide +kernel)) (by decide +kernel)), (ws_mem (List.mem_of_getElem? (i := 68) (by decide +kernel)) (by decide +kernel)), by decide, Or.inl rfl, xwX8_125⟩
  · cases h
set_option maxRecDepth 100000 in
set_option maxHeartbeats 800000 in
theorem mX8_delta : MOX yX8_delta cX8_delta 2 (some .long) rmX8_delta 2 8 1 6 spX8_delta := by
  refine mox_of xsX8_delta (by decide +kernel) rfl rfl ?_
  intro σ As K KX hrc hl h
  obtain ⟨N, P, I, L⟩ := σ
  have h9 := pR_iff.mp h
  clear h
  obtain ⟨a, r, e9, h⟩ := h9
  subst e9
  have h9 := pI_iff.mp h
  clear h
  obtain ⟨s, r, e9, h⟩ := h9
  subst e9
  have h9 := pN_iff.mp h
  clear h
  obtain ⟨e9, h⟩ := h9
  subst e9
  try dsimp only at h
  obtain ⟨rfl, rfl, hs, hx, h1, h2⟩ := h
  unfold RI at hs
  have hx' := hx
  obtain ⟨x1, x2, x3, x4, x5, x6, x7⟩ := hx'
  have y1 := x1.1
  have y2 := x1.2.1
  refine ⟨Nat.le_of_ble_eq_true rfl, Ok.seg mdX8_delta [] 60 ?_⟩
  simp only [wp_nil, wp_cons, ↓stp, ↓lI, ↓lL, ↓lR, ↓lIn_0, ↓lIn_1, ↓lIn_2, ↓lIn_3, ↓lLn_0, ↓lLn_1, ↓lLn_2, ↓lLn_3, ↓lRn_0, ↓lRn_1, ↓lRn_2, ↓lRn_3, ↓pI, ↓pL, ↓pR, ↓pA, ↓pN, ↓pV, ↓fp, ↓tsw, ↓oS, ↓spMax, ↓spMin, ↓spAbs, ↓spObj, RI, RLg, b2i_lo, b2i_hi, getL, setL, ltL, killL, isLong, inl, cnd, br, tgt, rcv, rpl, mputI, mputL, mputP, fv, fr, mcat, mcs, entL, entA, rfit, nf_0, nf_1, nf_2, nf_3, nf2_0, nf2_1, b2i_0, b2i_1, RI_b2i, b2i_fit, List.append, List.length, List.replicate, List.cons_append, List.nil_append, List.length_cons, List.length_nil, List.replicate_succ, List.replicate_zero, List.tail_cons, reduceIte, if_true, if_false, ite_true, ite_false, Bool.false_eq_true, true_and, and_true, and_self, false_and, and_false, or_self, or_true, true_or, or_false, false_or, not_true_eq_false, not_false_eq_true, ne_eq, forall_const, implies_true, imp_self, true_implies, false_implies, Nat.reduceAdd, Nat.reduceSub, Nat.reduceMul, Nat.reduceDiv, Nat.reduceMod, Nat.reduceEqDiff, Nat.reduceLT, Nat.reduceLeDiff, Nat.reduceBEq, Nat.add_zero, Nat.zero_add, Nat.le_refl, Nat.not_lt_zero, Nat.succ_eq_add_one, Int.reduceNatCast, Int.cast_ofNat_Int, Int.reduceSub, Int.reduceMul, Int.reduceNeg, Int.reduceLE, Int.reduceLT, Int.reduceToNat, Int.reduceEq, Int.reduceNe, Int.reduceAdd, Option.some.injEq, kX8_delta, rmX8_delta, ↓ofX8_10, ↓ofX8_41, ↓onX8_121, ↓ocX8_delta_61, ↓spX5_has, ↓ocX8_delta_166, ↓spX7_behind, x1, x2, x4, G_1, G_2, G_3, G_4, G_35, G_36, G_37, G_38, G_39, G_40, G_41, G_42, G_43, G_44, G_45, G_46, G_47, G_48, G_49, G_140, G_141, G_142, G_143, G_144, G_145, G_146, G_178, G_179, G_180, G_181, G_182, G_183, G_184, G_189, G_198, G_207, PF_1_0, PF_1_1, PF_1_2, PF_1_3, PF_2_0, PF_2_1, PF_2_3, PF_2_4, PF_2_5, PF_2_6, PF_2_7, PF_2_8, PF_2_9, PF_2_10, PF_2_11, PF_3_0, PF_35_0, PF_35_1, PF_35_2, PF_35_3, PF_40_0, PF_40_1, PF_40_2, PF_44_0, PF_44_1, PF_44_2, PF_145_0, PF_145_1, PF_179_0, PF_179_1, PF_179_2, PF_179_3, PF_179_8, PF_179_9, PF_179_10]
  refine ⟨by omega, by omega, by omega, fun q => ⟨by omega, by omega, fun I' v k1 k2 k3 k4 k5 k6 => ?_⟩, fun q => Ok.thr ⟨_, _, _, _, _, rfl, h1 (by omega), rfl, Nat.le_refl _, Nat.le_refl _⟩⟩
  refine ⟨by omega, h2 (by omega) I' v k1.q (xOK_B hx k1 k2) ⟨fun z => k4 (by omega), fun z => (k3 z).2⟩⟩
def spX8_on (As : List MV) (σ : MS) (K : Option MV → MS → Prop) (KX : String → MS → Prop) : Prop := pR As fun a r => pI r fun t r => pI r fun d r => pN r (a = 1 ∧ σ.2.1 = PF ∧ RI t ∧ RI d ∧ xOK σ.2.2.1 ∧ (¬ (0 ≤ t ∧ t ≤ 3 ∧ 0 ≤ d ∧ d ≤ 39) → KX IAE σ) ∧ (0 ≤ t ∧ t ≤ 3 ∧ 0 ≤ d ∧ d ≤ 39 → ∀ (I' : Int → Int → Int) (v : Int), frQ σ.2.2.1 I' → xOK I' → anO σ.2.2.1 I' t d v → K (some (.inr (.inl v))) (σ.1, σ.2.1, I', σ.2.2.2)))
def kX8_on (pc : Nat) : List ME := match pc with
  | 0 => [(.iload_n 1, 1, []), (.iconst 0, 1, []), (.iconst 3, 1, []), (.invokestatic 37, 3, []), (.ifCond .eq 13, 3, [19]), (.iload_n 2, 1, []), (.iconst 0, 1, []), (.bipush 39, 2, []), (.invokestatic 37, 3, []), (.ifCond .ne 13, 3, [29])]
  | 19 => [(.new 121, 3, []), (.dup, 1, []), (.ldc 178, 2, []), (.invokespecial 125, 3, []), (.athrow, 1, [])]
  | 29 => [(.aload_n 0, 1, []), (.getfield 10, 3, []), (.aload_n 0, 1, []), (.getfield 26, 3, []), (.iload_n 1, 1, []), (.iload_n 2, 1, []), (.invokevirtual 180, 3, []), (.invokevirtual 183, 3, []), (.i2l, 1, []), (.lreturn, 1, [])]
  | _ => []
theorem qX8_on : ∀ pc, chk cX8_on pc (kX8_on pc) = true := by
  intro pc
  unfold kX8_on
  split <;> first | decide +kernel | exact chk_nil
abbrev rmX8_on : Room := { frames := 6, cells := 1, slots := 6, locals := 121 }
def aX8_on (x : Nat) : Option CI := match x with
  | 37 => some ciX8_within
  | 180 => some ciX1_gripOf
  | 183 => some ciX7_lapByGrip
  | _ => none
theorem aokX8_on : ∀ x ci, aX8_on x = some ci → CalOK RX8 rmX8_on x ci := by
  intro x ci h
  unfold aX8_on at h
  split at h
  · cases h; exact cal_S mX8_within rfl (List.forall_mem_cons.mpr ⟨(ws_mem (List.mem_of_getElem? (i := 363) (by decide +kernel)) (by decide +kernel)), List.forall_mem_cons.mpr ⟨(ws_mem (List.mem_of_getElem? (i := 364) (by decide +kernel)) (by decide +kernel)), List.forall_mem_cons.mpr ⟨(ws_mem (List.mem_of_getElem? (i := 53) (by decide +kernel)) (by decide +kernel)), List.forall_mem_cons.mpr ⟨(ws_mem (List.mem_of_getElem? (i := 365) (by decide +kernel)) (by decide +kernel)), fun _ h => absurd h List.not_mem_nil⟩⟩⟩⟩) rfl (by unfold nice; decide +kernel) (by unfold rfits; decide) ⟨rfl, rfl⟩
  · cases h; exact cal_V mX1_gripOf (by decide) rfl (List.forall_mem_cons.mpr ⟨(ws_mem (List.mem_of_getElem? (i := 823) (by decide +kernel)) (by decide +kernel)), List.forall_mem_cons.mpr ⟨(ws_mem (List.mem_of_getElem? (i := 577) (by decide +kernel)) (by decide +kernel)), List.forall_mem_cons.mpr ⟨(ws_mem (List.mem_of_getElem? (i := 578) (by decide +kernel)) (by decide +kernel)), List.forall_mem_cons.mpr ⟨(ws_mem (List.mem_of_getElem? (i := 62) (by decide +kernel)) (by decide +kernel)), List.forall_mem_cons.mpr ⟨(ws_mem (List.mem_of_getElem? (i := 579) (by decide +kernel)) (by decide +kernel)), fun _ h => absurd h List.not_mem_nil⟩⟩⟩⟩⟩) rfl (by unfold nice; decide +kernel) (by unfold rfits; decide) ⟨rfl, rfl⟩
  · cases h; exact cal_V mX7_lapByGrip (by decide) rfl (List.forall_mem_cons.mpr ⟨(ws_mem (List.mem_of_getElem? (i := 824) (by decide +kernel)) (by decide +kernel)), List.forall_mem_cons.mpr ⟨(ws_mem (List.mem_of_getElem? (i := 582) (by decide +kernel)) (by decide +kernel)), List.forall_mem_cons.mpr ⟨(ws_mem (List.mem_of_getElem? (i := 583) (by decide +kernel)) (by decide +kernel)), List.forall_mem_cons.mpr ⟨(ws_mem (List.mem_of_getElem? (i := 54) (by decide +kernel)) (by decide +kernel)), List.forall_mem_cons.mpr ⟨(ws_mem (List.mem_of_getElem? (i := 584) (by decide +kernel)) (by decide +kernel)), fun _ h => absurd h List.not_mem_nil⟩⟩⟩⟩⟩) rfl (by unfold nice; decide +kernel) (by unfold rfits; decide) ⟨rfl, rfl⟩
  · cases h
theorem ocX8_on_37 (f : Nat → Nat → Nat → Nat → (List MV → MS → (Option MV → MS → Prop) → Prop) → Prop) : oC aX8_on 37 f = f 3 10 0 0 spX8_within := propext Iff.rfl
theorem ocX8_on_180 (f : Nat → Nat → Nat → Nat → (List MV → MS → (Option MV → MS → Prop) → Prop) → Prop) : oC aX8_on 180 f = f 3 1 0 0 spX1_gripOf := propext Iff.rfl
theorem ocX8_on_183 (f : Nat → Nat → Nat → Nat → (List MV → MS → (Option MV → MS → Prop) → Prop) → Prop) : oC aX8_on 183 f = f 2 7 0 0 spX7_lapByGrip := propext Iff.rfl
theorem mdX8_on : MD RX8 cX8_on rmX8_on kX8_on fX8 aX8_on zX8 uX8 := ⟨fokX8, zokX8, uokX8, aokX8_on, qX8_on⟩
def tSX8_on (pc : Nat) : Option (Nat × Nat × Nat × String × String) := match pc with
  | 19 => some (121, 178, 125, IAE, "no such tyre, or laps out of range")
  | _ => none
theorem xsX8_on : XS RX8 cX8_on rmX8_on tSX8_on := by
  refine ⟨by decide, by decide, fun pc ik is ic E text h => ?_⟩
  unfold tSX8_on at h
  split at h
  · cases h; exact ⟨⟨by decide +kernel, by decide +kernel, by decide +kernel, by decide +kernel, by decide +kernel⟩, (ws_mem (List.mem_of_getElem? (i := 778) (by decide +kernel)) (by decide +kernel)), (ws_mem (List.mem_of_getElem? (i := 68) (by decide +kernel)) (by decide +kernel)), by decide, Or.inl rfl, xwX8_125⟩
  · cases h
set_option maxRecDepth 100000 in
set_option maxHeartbeats 800000 in
theorem mX8_on : MOX yX8_on cX8_on 3 (some .long) rmX8_on 3 8 1 6 spX8_on := by
  refine mox_of xsX8_on (by decide +kernel) rfl rfl ?_
  intro σ As K KX hrc hl h
  obtain ⟨N, P, I, L⟩ := σ
  have h9 := pR_iff.mp h
  clear h
  obtain ⟨a, r, e9, h⟩ := h9
  subst e9
  have h9 := pI_iff.mp h
  clear h
  obtain ⟨t, r, e9, h⟩ := h9
  subst e9
  have h9 := pI_iff.mp h
  clear h
  obtain ⟨d, r, e9, h⟩ := h9
  subst e9
  have h9 := pN_iff.mp h
  clear h
  obtain ⟨e9, h⟩ := h9
  subst e9
  try dsimp only at h
  obtain ⟨rfl, rfl, ht, hd, hx, h1, h2⟩ := h
  unfold RI at ht hd
  have hx' := hx
  obtain ⟨x1, x2, x3, x4, x5, x6, x7⟩ := hx'
  have rr := x5.1
  refine ⟨Nat.le_of_ble_eq_true rfl, Ok.seg mdX8_on [] 60 ?_⟩
  simp only [wp_nil, wp_cons, ↓stp, ↓lI, ↓lL, ↓lR, ↓lIn_0, ↓lIn_1, ↓lIn_2, ↓lIn_3, ↓lLn_0, ↓lLn_1, ↓lLn_2, ↓lLn_3, ↓lRn_0, ↓lRn_1, ↓lRn_2, ↓lRn_3, ↓pI, ↓pL, ↓pR, ↓pA, ↓pN, ↓pV, ↓fp, ↓tsw, ↓oS, ↓spMax, ↓spMin, ↓spAbs, ↓spObj, RI, RLg, b2i_lo, b2i_hi, getL, setL, ltL, killL, isLong, inl, cnd, br, tgt, rcv, rpl, mputI, mputL, mputP, fv, fr, mcat, mcs, entL, entA, rfit, nf_0, nf_1, nf_2, nf_3, nf2_0, nf2_1, b2i_0, b2i_1, RI_b2i, b2i_fit, List.append, List.length, List.replicate, List.cons_append, List.nil_append, List.length_cons, List.length_nil, List.replicate_succ, List.replicate_zero, List.tail_cons, reduceIte, if_true, if_false, ite_true, ite_false, Bool.false_eq_true, true_and, and_true, and_self, false_and, and_false, or_self, or_true, true_or, or_false, false_or, not_true_eq_false, not_false_eq_true, ne_eq, forall_const, implies_true, imp_self, true_implies, false_implies, Nat.reduceAdd, Nat.reduceSub, Nat.reduceMul, Nat.reduceDiv, Nat.reduceMod, Nat.reduceEqDiff, Nat.reduceLT, Nat.reduceLeDiff, Nat.reduceBEq, Nat.add_zero, Nat.zero_add, Nat.le_refl, Nat.not_lt_zero, Nat.succ_eq_add_one, Int.reduceNatCast, Int.cast_ofNat_Int, Int.reduceSub, Int.reduceMul, Int.reduceNeg, Int.reduceLE, Int.reduceLT, Int.reduceToNat, Int.reduceEq, Int.reduceNe, Int.reduceAdd, Option.some.injEq, kX8_on, rmX8_on, ↓ofX8_10, ↓ofX8_26, ↓onX8_121, ↓ocX8_on_37, ↓spX8_within, ↓ocX8_on_180, ↓spX1_gripOf, ↓ocX8_on_183, ↓spX7_lapByGrip, x1, x2, x3, rr, G_1, G_2, G_3, G_4, G_35, G_36, G_37, G_38, G_39, G_40, G_41, G_42, G_43, G_44, G_45, G_46, G_47, G_48, G_49, G_140, G_141, G_142, G_143, G_144, G_145, G_146, G_178, G_179, G_180, G_181, G_182, G_183, G_184, G_189, G_198, G_207, PF_1_0, PF_1_1, PF_1_2, PF_1_3, PF_2_0, PF_2_1, PF_2_3, PF_2_4, PF_2_5, PF_2_6, PF_2_7, PF_2_8, PF_2_9, PF_2_10, PF_2_11, PF_3_0, PF_35_0, PF_35_1, PF_35_2, PF_35_3, PF_40_0, PF_40_1, PF_40_2, PF_44_0, PF_44_1, PF_44_2, PF_145_0, PF_145_1, PF_179_0, PF_179_1, PF_179_2, PF_179_3, PF_179_8, PF_179_9, PF_179_10]
  refine ⟨by omega, fun q => Ok.thr ⟨_, _, _, _, _, rfl, h1 (by omega), rfl, Nat.le_refl _, Nat.le_refl _⟩, fun q => ⟨by omega, fun q2 => ?_, fun q2 => Ok.thr ⟨_, _, _, _, _, rfl, h1 (by omega), rfl, Nat.le_refl _, Nat.le_refl _⟩⟩⟩
  have rg := grpv_rng (gr := I 180) (we := I 181) (t := t) (d := d) (rr.1 t (by omega) (by omega)) (by omega)
  refine ⟨by omega, by omega, by omega, by omega, by omega, by omega, fun I' v k1 k2 k3 => ?_⟩
  have rl := lapT_rng x1 k3
  exact ⟨by omega, h2 (by omega) I' v k1.q (xOK_S hx k1 k2) (lpf_of k3).symm⟩
def spX8_race (As : List MV) (σ : MS) (K : Option MV → MS → Prop) (KX : String → MS → Prop) : Prop := pR As fun a r => pI r fun n r => pN r (a = 1 ∧ σ.2.1 = PF ∧ RI n ∧ xOK σ.2.2.1 ∧ (¬ (1 ≤ n ∧ n ≤ 40) → KX IAE σ) ∧ (1 ≤ n ∧ n ≤ 40 → ∀ (I' : Int → Int → Int) (v : Int), frQ σ.2.2.1 I' → xOK I' → anR σ.2.2.1 I' n v → K (some (.inr (.inl v))) (σ.1, σ.2.1, I', σ.2.2.2)))
def kX8_race (pc : Nat) : List ME := match pc with
  | 0 => [(.iload_n 1, 1, []), (.iconst 1, 1, []), (.bipush 40, 2, []), (.invokestatic 37, 3, []), (.ifCond .ne 13, 3, [20]), (.new 121, 3, []), (.dup, 1, []), (.ldc 186, 2, []), (.invokespecial 125, 3, []), (.athrow, 1, [])]
  | 20 => [(.aload_n 0, 1, []), (.getfield 26, 3, []), (.aload_n 0, 1, []), (.getfield 10, 3, []), (.iload_n 1, 1, []), (.invokevirtual 188, 3, []), (.aload_n 0, 1, []), (.getfield 26, 3, []), (.getfield 192, 3, []), (.i2l, 1, []), (.lreturn, 1, [])]
  | _ => []
theorem qX8_race : ∀ pc, chk cX8_race pc (kX8_race pc) = true := by
  intro pc
  unfold kX8_race
  split <;> first | decide +kernel | exact chk_nil
abbrev rmX8_race : Room := { frames := 6, cells := 1, slots := 6, locals := 145 }
def aX8_race (x : Nat) : Option CI := match x with
  | 37 => some ciX8_within
  | 188 => some ciX1_prepare
  | _ => none
theorem aokX8_race : ∀ x ci, aX8_race x = some ci → CalOK RX8 rmX8_race x ci := by
  intro x ci h
  unfold aX8_race at h
  split at h
  · cases h; exact cal_S mX8_within rfl (List.forall_mem_cons.mpr ⟨(ws_mem (List.mem_of_getElem? (i := 363) (by decide +kernel)) (by decide +kernel)), List.forall_mem_cons.mpr ⟨(ws_mem (List.mem_of_getElem? (i := 364) (by decide +kernel)) (by decide +kernel)), List.forall_mem_cons.mpr ⟨(ws_mem (List.mem_of_getElem? (i := 53) (by decide +kernel)) (by decide +kernel)), List.forall_mem_cons.mpr ⟨(ws_mem (List.mem_of_getElem? (i := 365) (by decide +kernel)) (by decide +kernel)), fun _ h => absurd h List.not_mem_nil⟩⟩⟩⟩) rfl (by unfold nice; decide +kernel) (by unfold rfits; decide) ⟨rfl, rfl⟩
  · cases h; exact cal_V mX1_prepare (by decide) rfl (List.forall_mem_cons.mpr ⟨(ws_mem (List.mem_of_getElem? (i := 572) (by decide +kernel)) (by decide +kernel)), List.forall_mem_cons.mpr ⟨(ws_mem (List.mem_of_getElem? (i := 573) (by decide +kernel)) (by decide +kernel)), List.forall_mem_cons.mpr ⟨(ws_mem (List.mem_of_getElem? (i := 574) (by decide +kernel)) (by decide +kernel)), List.forall_mem_cons.mpr ⟨(ws_mem (List.mem_of_getElem? (i := 62) (by decide +kernel)) (by decide +kernel)), List.forall_mem_cons.mpr ⟨(ws_mem (List.mem_of_getElem? (i := 575) (by decide +kernel)) (by decide +kernel)), fun _ h => absurd h List.not_mem_nil⟩⟩⟩⟩⟩) rfl (by unfold nice; decide +kernel) (by unfold rfits; decide) ⟨rfl, rfl⟩
  · cases h
theorem ocX8_race_37 (f : Nat → Nat → Nat → Nat → (List MV → MS → (Option MV → MS → Prop) → Prop) → Prop) : oC aX8_race 37 f = f 3 10 0 0 spX8_within := propext Iff.rfl
theorem ocX8_race_188 (f : Nat → Nat → Nat → Nat → (List MV → MS → (Option MV → MS → Prop) → Prop) → Prop) : oC aX8_race 188 f = f 3 1 0 0 spX1_prepare := propext Iff.rfl
theorem mdX8_race : MD RX8 cX8_race rmX8_race kX8_race fX8 aX8_race zX8 uX8 := ⟨fokX8, zokX8, uokX8, aokX8_race, qX8_race⟩
def tSX8_race (pc : Nat) : Option (Nat × Nat × Nat × String × String) := match pc with
  | 10 => some (121, 186, 125, IAE, "no such race")
  | _ => none
theorem xsX8_race : XS RX8 cX8_race rmX8_race tSX8_race := by
  refine ⟨by decide, by decide, fun pc ik is ic E text h => ?_⟩
  unfold tSX8_race at h
  split at h
  · cases h; exact ⟨⟨by decide +kernel, by decide +kernel, by decide +kernel, by decide +kernel, by decide +kernel⟩, (ws_mem (List.mem_of_getElem? (i := 778) (by decide +kernel)) (by decide +kernel)), (ws_mem (List.mem_of_getElem? (i := 68) (by decide +kernel)) (by decide +kernel)), by decide, Or.inl rfl, xwX8_125⟩
  · cases h
set_option maxRecDepth 100000 in
set_option maxHeartbeats 800000 in
theorem mX8_race : MOX yX8_race cX8_race 2 (some .long) rmX8_race 2 8 1 6 spX8_race := by
  refine mox_of xsX8_race (by decide +kernel) rfl rfl ?_
  intro σ As K KX hrc hl h
  obtain ⟨N, P, I, L⟩ := σ
  have h9 := pR_iff.mp h
  clear h
  obtain ⟨a, r, e9, h⟩ := h9
  subst e9
  have h9 := pI_iff.mp h
  clear h
  obtain ⟨n, r, e9, h⟩ := h9
  subst e9
  have h9 := pN_iff.mp h
  clear h
  obtain ⟨e9, h⟩ := h9
  subst e9
  try dsimp only at h
  obtain ⟨rfl, rfl, hn, hx, h1, h2⟩ := h
  unfold RI at hn
  have hx' := hx
  obtain ⟨x1, x2, x3, x4, x5, x6, x7⟩ := hx'
  refine ⟨Nat.le_of_ble_eq_true rfl, Ok.seg mdX8_race [] 60 ?_⟩
  simp only [wp_nil, wp_cons, ↓stp, ↓lI, ↓lL, ↓lR, ↓lIn_0, ↓lIn_1, ↓lIn_2, ↓lIn_3, ↓lLn_0, ↓lLn_1, ↓lLn_2, ↓lLn_3, ↓lRn_0, ↓lRn_1, ↓lRn_2, ↓lRn_3, ↓pI, ↓pL, ↓pR, ↓pA, ↓pN, ↓pV, ↓fp, ↓tsw, ↓oS, ↓spMax, ↓spMin, ↓spAbs, ↓spObj, RI, RLg, b2i_lo, b2i_hi, getL, setL, ltL, killL, isLong, inl, cnd, br, tgt, rcv, rpl, mputI, mputL, mputP, fv, fr, mcat, mcs, entL, entA, rfit, nf_0, nf_1, nf_2, nf_3, nf2_0, nf2_1, b2i_0, b2i_1, RI_b2i, b2i_fit, List.append, List.length, List.replicate, List.cons_append, List.nil_append, List.length_cons, List.length_nil, List.replicate_succ, List.replicate_zero, List.tail_cons, reduceIte, if_true, if_false, ite_true, ite_false, Bool.false_eq_true, true_and, and_true, and_self, false_and, and_false, or_self, or_true, true_or, or_false, false_or, not_true_eq_false, not_false_eq_true, ne_eq, forall_const, implies_true, imp_self, true_implies, false_implies, Nat.reduceAdd, Nat.reduceSub, Nat.reduceMul, Nat.reduceDiv, Nat.reduceMod, Nat.reduceEqDiff, Nat.reduceLT, Nat.reduceLeDiff, Nat.reduceBEq, Nat.add_zero, Nat.zero_add, Nat.le_refl, Nat.not_lt_zero, Nat.succ_eq_add_one, Int.reduceNatCast, Int.cast_ofNat_Int, Int.reduceSub, Int.reduceMul, Int.reduceNeg, Int.reduceLE, Int.reduceLT, Int.reduceToNat, Int.reduceEq, Int.reduceNe, Int.reduceAdd, Option.some.injEq, kX8_race, rmX8_race, ↓ofX8_10, ↓ofX8_192, ↓ofX8_26, ↓onX8_121, ↓ocX8_race_37, ↓spX8_within, ↓ocX8_race_188, ↓spX1_prepare, x1, x2, x3, x5, G_1, G_2, G_3, G_4, G_35, G_36, G_37, G_38, G_39, G_40, G_41, G_42, G_43, G_44, G_45, G_46, G_47, G_48, G_49, G_140, G_141, G_142, G_143, G_144, G_145, G_146, G_178, G_179, G_180, G_181, G_182, G_183, G_184, G_189, G_198, G_207, PF_1_0, PF_1_1, PF_1_2, PF_1_3, PF_2_0, PF_2_1, PF_2_3, PF_2_4, PF_2_5, PF_2_6, PF_2_7, PF_2_8, PF_2_9, PF_2_10, PF_2_11, PF_3_0, PF_35_0, PF_35_1, PF_35_2, PF_35_3, PF_40_0, PF_40_1, PF_40_2, PF_44_0, PF_44_1, PF_44_2, PF_145_0, PF_145_1, PF_179_0, PF_179_1, PF_179_2, PF_179_3, PF_179_8, PF_179_9, PF_179_10]
  refine ⟨by omega, fun q => ⟨by omega, by omega, fun I' k1 k2 k3 k4 => ?_⟩, fun q => Ok.thr ⟨_, _, _, _, _, rfl, h1 (by omega), rfl, Nat.le_refl _, Nat.le_refl _⟩⟩
  have hxI := xOK_P hx k1 k2 k3
  have hp := planI_of k3 k4 (by omega)
  have rg : 0 ≤ I' 179 7 ∧ I' 179 7 ≤ 130000000 := by
    obtain ⟨W, _, _, ⟨c0, c1, _⟩, _⟩ := hp
    have := Fr_rng (hxI.2.2.2.2.1.1.2.1) (fun t d _ _ _ _ => lapT_rng hxI.1 (lpf_T hxI.1 hxI.2.1 t d)) (by omega) c0.1 c0.2 c1
    omega
  exact ⟨by omega, h2 (by omega) I' _ k1.q hxI ⟨hp, rfl⟩⟩
def spX8_element (As : List MV) (σ : MS) (K : Option MV → MS → Prop) (KX : String → MS → Prop) : Prop := pR As fun a r => pI r fun d r => pI r fun i r => pN r (a = 1 ∧ σ.2.1 = PF ∧ RI d ∧ RI i ∧ xOK σ.2.2.1 ∧ (¬ (0 ≤ d ∧ d ≤ 7) → KX IAE σ) ∧ (0 ≤ d ∧ d ≤ 7 → (¬ (3 ≤ σ.2.2.1 (208 + 4 * d) 0 ∧ 0 ≤ i ∧ i < σ.2.2.1 (208 + 4 * d) 1) → KX ISE σ) ∧ (3 ≤ σ.2.2.1 (208 + 4 * d) 0 ∧ 0 ≤ i ∧ i < σ.2.2.1 (208 + 4 * d) 1 → RI (itm σ.2.2.1 (208 + 4 * d) i) ∧ K (some (.inr (.inl (itm σ.2.2.1 (208 + 4 * d) i)))) σ)))
def kX8_element (pc : Nat) : List ME := match pc with
  | 0 => [(.iload_n 1, 1, []), (.iconst 0, 1, []), (.bipush 7, 2, []), (.invokestatic 37, 3, []), (.ifCond .ne 13, 3, [20]), (.new 121, 3, []), (.dup, 1, []), (.ldc 225, 2, []), (.invokespecial 125, 3, []), (.athrow, 1, [])]
  | 20 => [(.aload_n 0, 1, []), (.getfield 32, 3, []), (.iload_n 1, 1, []), (.aaload, 1, []), (.astore_n 3, 1, []), (.aload_n 3, 1, []), (.invokevirtual 227, 3, []), (.ifCond .eq 17, 3, [48]), (.iload_n 2, 1, []), (.iconst 0, 1, []), (.aload_n 3, 1, []), (.getfield 231, 3, []), (.iconst 1, 1, []), (.isub, 1, []), (.invokestatic 37, 3, []), (.ifCond .ne 13, 3, [58])]
  | 48 => [(.new 232, 3, []), (.dup, 1, []), (.ldc 234, 2, []), (.invokespecial 236, 3, []), (.athrow, 1, [])]
  | 58 => [(.aload_n 3, 1, []), (.iload_n 2, 1, []), (.invokevirtual 237, 3, []), (.i2l, 1, []), (.lreturn, 1, [])]
  | _ => []
theorem qX8_element : ∀ pc, chk cX8_element pc (kX8_element pc) = true := by
  intro pc
  unfold kX8_element
  split <;> first | decide +kernel | exact chk_nil
abbrev rmX8_element : Room := { frames := 6, cells := 1, slots := 6, locals := 82 }
def aX8_element (x : Nat) : Option CI := match x with
  | 37 => some ciX8_within
  | 227 => some ciX2_holdsRow
  | 237 => some ciX2_at
  | _ => none
theorem aokX8_element : ∀ x ci, aX8_element x = some ci → CalOK RX8 rmX8_element x ci := by
  intro x ci h
  unfold aX8_element at h
  split at h
  · cases h; exact cal_S mX8_within rfl (List.forall_mem_cons.mpr ⟨(ws_mem (List.mem_of_getElem? (i := 363) (by decide +kernel)) (by decide +kernel)), List.forall_mem_cons.mpr ⟨(ws_mem (List.mem_of_getElem? (i := 364) (by decide +kernel)) (by decide +kernel)), List.forall_mem_cons.mpr ⟨(ws_mem (List.mem_of_getElem? (i := 53) (by decide +kernel)) (by decide +kernel)), List.forall_mem_cons.mpr ⟨(ws_mem (List.mem_of_getElem? (i := 365) (by decide +kernel)) (by decide +kernel)), fun _ h => absurd h List.not_mem_nil⟩⟩⟩⟩) rfl (by unfold nice; decide +kernel) (by unfold rfits; decide) ⟨rfl, rfl⟩
  · cases h; exact cal_V mX2_holdsRow (by decide) rfl (List.forall_mem_cons.mpr ⟨(ws_mem (List.mem_of_getElem? (i := 670) (by decide +kernel)) (by decide +kernel)), List.forall_mem_cons.mpr ⟨(ws_mem (List.mem_of_getElem? (i := 671) (by decide +kernel)) (by decide +kernel)), List.forall_mem_cons.mpr ⟨(ws_mem (List.mem_of_getElem? (i := 672) (by decide +kernel)) (by decide +kernel)), List.forall_mem_cons.mpr ⟨(ws_mem (List.mem_of_getElem? (i := 63) (by decide +kernel)) (by decide +kernel)), List.forall_mem_cons.mpr ⟨(ws_mem (List.mem_of_getElem? (i := 673) (by decide +kernel)) (by decide +kernel)), fun _ h => absurd h List.not_mem_nil⟩⟩⟩⟩⟩) rfl (by unfold nice; decide +kernel) (by unfold rfits; decide) ⟨rfl, rfl⟩
  · cases h; exact cal_V mX2_at (by decide) rfl (List.forall_mem_cons.mpr ⟨(ws_mem (List.mem_of_getElem? (i := 844) (by decide +kernel)) (by decide +kernel)), List.forall_mem_cons.mpr ⟨(ws_mem (List.mem_of_getElem? (i := 845) (by decide +kernel)) (by decide +kernel)), List.forall_mem_cons.mpr ⟨(ws_mem (List.mem_of_getElem? (i := 846) (by decide +kernel)) (by decide +kernel)), List.forall_mem_cons.mpr ⟨(ws_mem (List.mem_of_getElem? (i := 63) (by decide +kernel)) (by decide +kernel)), List.forall_mem_cons.mpr ⟨(ws_mem (List.mem_of_getElem? (i := 847) (by decide +kernel)) (by decide +kernel)), fun _ h => absurd h List.not_mem_nil⟩⟩⟩⟩⟩) rfl (by unfold nice; decide +kernel) (by unfold rfits; decide) ⟨rfl, rfl⟩
  · cases h
theorem ocX8_element_37 (f : Nat → Nat → Nat → Nat → (List MV → MS → (Option MV → MS → Prop) → Prop) → Prop) : oC aX8_element 37 f = f 3 10 0 0 spX8_within := propext Iff.rfl
theorem ocX8_element_227 (f : Nat → Nat → Nat → Nat → (List MV → MS → (Option MV → MS → Prop) → Prop) → Prop) : oC aX8_element 227 f = f 1 2 0 0 spX2_holdsRow := propext Iff.rfl
theorem ocX8_element_237 (f : Nat → Nat → Nat → Nat → (List MV → MS → (Option MV → MS → Prop) → Prop) → Prop) : oC aX8_element 237 f = f 2 2 0 0 spX2_at := propext Iff.rfl
theorem mdX8_element : MD RX8 cX8_element rmX8_element kX8_element fX8 aX8_element zX8 uX8 := ⟨fokX8, zokX8, uokX8, aokX8_element, qX8_element⟩
def tSX8_element (pc : Nat) : Option (Nat × Nat × Nat × String × String) := match pc with
  | 10 => some (121, 225, 125, IAE, "no such shelf")
  | 48 => some (232, 234, 236, ISE, "no row with such a place")
  | _ => none
theorem xsX8_element : XS RX8 cX8_element rmX8_element tSX8_element := by
  refine ⟨by decide, by decide, fun pc ik is ic E text h => ?_⟩
  unfold tSX8_element at h
  split at h
  · cases h; exact ⟨⟨by decide +kernel, by decide +kernel, by decide +kernel, by decide +kernel, by decide +kernel⟩, (ws_mem (List.mem_of_getElem? (i := 778) (by decide +kernel)) (by decide +kernel)), (ws_mem (List.mem_of_getElem? (i := 68) (by decide +kernel)) (by decide +kernel)), by decide, Or.inl rfl, xwX8_125⟩
  · cases h; exact ⟨⟨by decide +kernel, by decide +kernel, by decide +kernel, by decide +kernel, by decide +kernel⟩, (ws_mem (List.mem_of_getElem? (i := 699) (by decide +kernel)) (by decide +kernel)), (ws_mem (List.mem_of_getElem? (i := 70) (by decide +kernel)) (by decide +kernel)), by decide, Or.inr rfl, xwX8_236⟩
  · cases h
set_option maxRecDepth 100000 in
set_option maxHeartbeats 800000 in
theorem mX8_element : MOX yX8_element cX8_element 4 (some .long) rmX8_element 3 8 1 6 spX8_element := by
  refine mox_of xsX8_element (by decide +kernel) rfl rfl ?_
  intro σ As K KX hrc hl h
  obtain ⟨N, P, I, L⟩ := σ
  have h9 := pR_iff.mp h
  clear h
  obtain ⟨a, r, e9, h⟩ := h9
  subst e9
  have h9 := pI_iff.mp h
  clear h
  obtain ⟨d, r, e9, h⟩ := h9
  subst e9
  have h9 := pI_iff.mp h
  clear h
  obtain ⟨i, r, e9, h⟩ := h9
  subst e9
  have h9 := pN_iff.mp h
  clear h
  obtain ⟨e9, h⟩ := h9
  subst e9
  try dsimp only at h
  obtain ⟨rfl, rfl, hd, hi, hx, h1, h2⟩ := h
  unfold RI at hd hi
  by_cases q : 0 ≤ d ∧ d ≤ 7
  · have hb := shB_d q.1 q.2
    have hp := PF_shelf (i := d) (by omega) (by omega)
    obtain ⟨g0, g1, g2, g3, p2, p3, p4, b0⟩ := shB_rows hb
    have sb := hx.2.2.2.2.2.2 _ hb
    obtain ⟨s1, s2, s3, s4⟩ := sb
    obtain ⟨h3, h4⟩ := h2 q
    refine ⟨Nat.le_of_ble_eq_true rfl, Ok.seg mdX8_element [] 60 ?_⟩
    simp only [wp_nil, wp_cons, ↓stp, ↓lI, ↓lL, ↓lR, ↓lIn_0, ↓lIn_1, ↓lIn_2, ↓lIn_3, ↓lLn_0, ↓lLn_1, ↓lLn_2, ↓lLn_3, ↓lRn_0, ↓lRn_1, ↓lRn_2, ↓lRn_3, ↓pI, ↓pL, ↓pR, ↓pA, ↓pN, ↓pV, ↓fp, ↓tsw, ↓oS, ↓spMax, ↓spMin, ↓spAbs, ↓spObj, RI, RLg, b2i_lo, b2i_hi, getL, setL, ltL, killL, isLong, inl, cnd, br, tgt, rcv, rpl, mputI, mputL, mputP, fv, fr, mcat, mcs, entL, entA, rfit, nf_0, nf_1, nf_2, nf_3, nf2_0, nf2_1, b2i_0, b2i_1, RI_b2i, b2i_fit, List.append, List.length, List.replicate, List.cons_append, List.nil_append, List.length_cons, List.length_nil, List.replicate_succ, List.replicate_zero, List.tail_cons, reduceIte, if_true, if_false, ite_true, ite_false, Bool.false_eq_true, true_and, and_true, and_self, false_and, and_false, or_self, or_true, true_or, or_false, false_or, not_true_eq_false, not_false_eq_true, ne_eq, forall_const, implies_true, imp_self, true_implies, false_implies, Nat.reduceAdd, Nat.reduceSub, Nat.reduceMul, Nat.reduceDiv, Nat.reduceMod, Nat.reduceEqDiff, Nat.reduceLT, Nat.reduceLeDiff, Nat.reduceBEq, Nat.add_zero, Nat.zero_add, Nat.le_refl, Nat.not_lt_zero, Nat.succ_eq_add_one, Int.reduceNatCast, Int.cast_ofNat_Int, Int.reduceSub, Int.reduceMul, Int.reduceNeg, Int.reduceLE, Int.reduceLT, Int.reduceToNat, Int.reduceEq, Int.reduceNe, Int.reduceAdd, Option.some.injEq, kX8_element, rmX8_element, ↓ofX8_231, ↓ofX8_32, ↓onX8_121, ↓onX8_232, ↓ocX8_element_37, ↓spX8_within, ↓ocX8_element_227, ↓spX2_holdsRow, ↓ocX8_element_237, ↓spX2_at, q, hp, g0, g1, hb, b0, G_1, G_2, G_3, G_4, G_35, G_36, G_37, G_38, G_39, G_40, G_41, G_42, G_43, G_44, G_45, G_46, G_47, G_48, G_49, G_140, G_141, G_142, G_143, G_144, G_145, G_146, G_178, G_179, G_180, G_181, G_182, G_183, G_184, G_189, G_198, G_207, PF_1_0, PF_1_1, PF_1_2, PF_1_3, PF_2_0, PF_2_1, PF_2_3, PF_2_4, PF_2_5, PF_2_6, PF_2_7, PF_2_8, PF_2_9, PF_2_10, PF_2_11, PF_3_0, PF_35_0, PF_35_1, PF_35_2, PF_35_3, PF_40_0, PF_40_1, PF_40_2, PF_44_0, PF_44_1, PF_44_2, PF_145_0, PF_145_1, PF_179_0, PF_179_1, PF_179_2, PF_179_3, PF_179_8, PF_179_9, PF_179_10]
    refine ⟨by omega, by omega, by omega, by omega, fun z => Ok.thr ⟨_, _, _, _, _, rfl, h3 (fun y => z y.1), rfl, Nat.le_refl _, Nat.le_refl _⟩, fun z => ⟨by omega, by omega, fun z2 => ⟨by omega, by omega, by omega, by omega, h4 (by omega)⟩, fun z2 => Ok.thr ⟨_, _, _, _, _, rfl, h3 (by omega), rfl, Nat.le_refl _, Nat.le_refl _⟩⟩⟩
  · refine ⟨Nat.le_of_ble_eq_true rfl, Ok.seg mdX8_element [] 60 ?_⟩
    simp only [wp_nil, wp_cons, ↓stp, ↓lI, ↓lL, ↓lR, ↓lIn_0, ↓lIn_1, ↓lIn_2, ↓lIn_3, ↓lLn_0, ↓lLn_1, ↓lLn_2, ↓lLn_3, ↓lRn_0, ↓lRn_1, ↓lRn_2, ↓lRn_3, ↓pI, ↓pL, ↓pR, ↓pA, ↓pN, ↓pV, ↓fp, ↓tsw, ↓oS, ↓spMax, ↓spMin, ↓spAbs, ↓spObj, RI, RLg, b2i_lo, b2i_hi, getL, setL, ltL, killL, isLong, inl, cnd, br, tgt, rcv, rpl, mputI, mputL, mputP, fv, fr, mcat, mcs, entL, entA, rfit, nf_0, nf_1, nf_2, nf_3, nf2_0, nf2_1, b2i_0, b2i_1, RI_b2i, b2i_fit, List.append, List.length, List.replicate, List.cons_append, List.nil_append, List.length_cons, List.length_nil, List.replicate_succ, List.replicate_zero, List.tail_cons, reduceIte, if_true, if_false, ite_true, ite_false, Bool.false_eq_true, true_and, and_true, and_self, false_and, and_false, or_self, or_true, true_or, or_false, false_or, not_true_eq_false, not_false_eq_true, ne_eq, forall_const, implies_true, imp_self, true_implies, false_implies, Nat.reduceAdd, Nat.reduceSub, Nat.reduceMul, Nat.reduceDiv, Nat.reduceMod, Nat.reduceEqDiff, Nat.reduceLT, Nat.reduceLeDiff, Nat.reduceBEq, Nat.add_zero, Nat.zero_add, Nat.le_refl, Nat.not_lt_zero, Nat.succ_eq_add_one, Int.reduceNatCast, Int.cast_ofNat_Int, Int.reduceSub, Int.reduceMul, Int.reduceNeg, Int.reduceLE, Int.reduceLT, Int.reduceToNat, Int.reduceEq, Int.reduceNe, Int.reduceAdd, Option.some.injEq, kX8_element, rmX8_element, ↓ofX8_231, ↓ofX8_32, ↓onX8_121, ↓onX8_232, ↓ocX8_element_37, ↓spX8_within, ↓ocX8_element_227, ↓spX2_holdsRow, ↓ocX8_element_237, ↓spX2_at, q, G_1, G_2, G_3, G_4, G_35, G_36, G_37, G_38, G_39, G_40, G_41, G_42, G_43, G_44, G_45, G_46, G_47, G_48, G_49, G_140, G_141, G_142, G_143, G_144, G_145, G_146, G_178, G_179, G_180, G_181, G_182, G_183, G_184, G_189, G_198, G_207, PF_1_0, PF_1_1, PF_1_2, PF_1_3, PF_2_0, PF_2_1, PF_2_3, PF_2_4, PF_2_5, PF_2_6, PF_2_7, PF_2_8, PF_2_9, PF_2_10, PF_2_11, PF_3_0, PF_35_0, PF_35_1, PF_35_2, PF_35_3, PF_40_0, PF_40_1, PF_40_2, PF_44_0, PF_44_1, PF_44_2, PF_145_0, PF_145_1, PF_179_0, PF_179_1, PF_179_2, PF_179_3, PF_179_8, PF_179_9, PF_179_10]
    refine ⟨by omega, Ok.thr ⟨_, _, _, _, _, rfl, h1 q, rfl, Nat.le_refl _, Nat.le_refl _⟩⟩
