/-! LapBoard$Ways, 1 -/
def spX7_forget (As : List MV) (σ : MS) (K : Option MV → MS → Prop) : Prop := pR As fun a r => pN r (a = 2 ∧ σ.2.1 = PF ∧ K none (σ.1, σ.2.1, filI (upI σ.2.2.1 2 2 0) 144 (-1) 41, σ.2.2.2))
def ciX7_forget : CI := (1, 7, 0, 0, spX7_forget)
def kX7_forget (pc : Nat) : List ME := match pc with
  | 0 => [(.aload_n 0, 1, []), (.iconst 0, 1, []), (.putfield 65, 3, []), (.aload_n 0, 1, []), (.getfield 56, 3, []), (.iconst (-1), 1, []), (.invokestatic 59, 3, []), (.return_, 1, [])]
  | _ => []
theorem qX7_forget : ∀ pc, chk cX7_forget pc (kX7_forget pc) = true := by
  intro pc
  unfold kX7_forget
  split <;> first | decide +kernel | exact chk_nil
abbrev rmX7_forget : Room := { frames := 1, cells := 0, slots := 0, locals := 23 }
def aX7_forget (x : Nat) : Option CI := match x with
  | 59 => some ciJ7_fill_53178
  | _ => none
theorem aokX7_forget : ∀ x ci, aX7_forget x = some ci → CalOK RX7 rmX7_forget x ci := by
  intro x ci h
  unfold aX7_forget at h
  split at h
  · cases h; exact cal_S mJ7_fill_53178 rfl (List.forall_mem_cons.mpr ⟨(ws_mem (List.mem_of_getElem? (i := 207) (by decide +kernel)) (by decide +kernel)), List.forall_mem_cons.mpr ⟨(ws_mem (List.mem_of_getElem? (i := 208) (by decide +kernel)) (by decide +kernel)), List.forall_mem_cons.mpr ⟨(ws_mem (List.mem_of_getElem? (i := 60) (by decide +kernel)) (by decide +kernel)), List.forall_mem_cons.mpr ⟨(ws_mem (List.mem_of_getElem? (i := 209) (by decide +kernel)) (by decide +kernel)), fun _ h => absurd h List.not_mem_nil⟩⟩⟩⟩) rfl (by unfold nice; decide +kernel) (by unfold rfits; decide) ⟨rfl, rfl⟩
  · cases h
theorem ocX7_forget_59 (f : Nat → Nat → Nat → Nat → (List MV → MS → (Option MV → MS → Prop) → Prop) → Prop) : oC aX7_forget 59 f = f 2 10 0 0 spJ7_fill_53178 := propext Iff.rfl
theorem mdX7_forget : MD RX7 cX7_forget rmX7_forget kX7_forget fX7 aX7_forget zX7 uX7 := ⟨fokX7, zokX7, uokX7, aokX7_forget, qX7_forget⟩
set_option maxRecDepth 100000 in
set_option maxHeartbeats 800000 in
theorem mX7_forget : MOK yX7_forget cX7_forget 1 none rmX7_forget ciX7_forget := by
  refine mok_of (ini := false) (by decide +kernel) (by decide) rfl rfl ?_
  intro σ As K hrc hl h
  obtain ⟨N, P, I, L⟩ := σ
  have h9 := pR_iff.mp h
  clear h
  obtain ⟨a, r, e9, h⟩ := h9
  subst e9
  have h9 := pN_iff.mp h
  clear h
  obtain ⟨e9, h⟩ := h9
  subst e9
  dsimp only at h
  obtain ⟨rfl, rfl, h⟩ := h
  refine ⟨Nat.le_of_ble_eq_true rfl, Ok.seg mdX7_forget [] 20 ?_⟩
  simp only [wp_nil, wp_cons, ↓stp, ↓lI, ↓lL, ↓lR, ↓lIn_0, ↓lIn_1, ↓lIn_2, ↓lIn_3, ↓lLn_0, ↓lLn_1, ↓lLn_2, ↓lLn_3, ↓lRn_0, ↓lRn_1, ↓lRn_2, ↓lRn_3, ↓pI, ↓pL, ↓pR, ↓pA, ↓pN, ↓pV, ↓fp, ↓tsw, ↓oS, ↓spMax, ↓spMin, ↓spAbs, ↓spObj, RI, RLg, b2i_lo, b2i_hi, getL, setL, ltL, killL, isLong, inl, cnd, br, tgt, rcv, rpl, mputI, mputL, mputP, fv, fr, mcat, mcs, entL, entA, rfit, nf_0, nf_1, nf_2, nf_3, nf2_0, nf2_1, b2i_0, b2i_1, RI_b2i, b2i_fit, List.append, List.length, List.replicate, List.cons_append, List.nil_append, List.length_cons, List.length_nil, List.replicate_succ, List.replicate_zero, List.tail_cons, reduceIte, if_true, if_false, ite_true, ite_false, Bool.false_eq_true, true_and, and_true, and_self, false_and, and_false, or_self, or_true, true_or, or_false, false_or, not_true_eq_false, not_false_eq_true, ne_eq, forall_const, implies_true, imp_self, true_implies, false_implies, Nat.reduceAdd, Nat.reduceSub, Nat.reduceMul, Nat.reduceDiv, Nat.reduceMod, Nat.reduceEqDiff, Nat.reduceLT, Nat.reduceLeDiff, Nat.reduceBEq, Nat.add_zero, Nat.zero_add, Nat.le_refl, Nat.not_lt_zero, Nat.succ_eq_add_one, Int.reduceNatCast, Int.cast_ofNat_Int, Int.reduceSub, Int.reduceMul, Int.reduceNeg, Int.reduceLE, Int.reduceLT, Int.reduceToNat, Int.reduceEq, Int.reduceNe, Int.reduceAdd, Option.some.injEq, kX7_forget, rmX7_forget, ↓ofX7_56, ↓ofX7_65, ↓ocX7_forget_59, ↓spJ7_fill_53178, G_1, G_2, G_3, G_4, G_35, G_36, G_37, G_38, G_39, G_40, G_41, G_42, G_43, G_44, G_45, G_46, G_47, G_48, G_49, G_140, G_141, G_142, G_143, G_144, G_145, G_146, G_178, G_179, G_180, G_181, G_182, G_183, G_184, G_189, G_198, G_207, PF_1_0, PF_1_1, PF_1_2, PF_1_3, PF_2_0, PF_2_1, PF_2_3, PF_2_4, PF_2_5, PF_2_6, PF_2_7, PF_2_8, PF_2_9, PF_2_10, PF_2_11, PF_3_0, PF_35_0, PF_35_1, PF_35_2, PF_35_3, PF_40_0, PF_40_1, PF_40_2, PF_44_0, PF_44_1, PF_44_2, PF_145_0, PF_145_1, PF_179_0, PF_179_1, PF_179_2, PF_179_3, PF_179_8, PF_179_9, PF_179_10]
  exact h
def spX7_stayOn (As : List MV) (σ : MS) (K : Option MV → MS → Prop) : Prop := pR As fun a r => pI r fun l r => pN r (a = 2 ∧ σ.2.1 = PF ∧ 0 ≤ l ∧ l ≤ 2 ∧ tOK σ.2.2.1 ∧ carOK σ.2.2.1 ∧
  ∀ I' : Int → Int → Int, (∀ b j, (b < 44 ∨ 47 < b) → I' b j = σ.2.2.1 b j) → (∀ i, 0 ≤ i → i < 30 → I' 45 i = l) → (∀ i, 0 ≤ i → i < σ.2.2.1 3 1 → I' 46 i = wqp I' 44 i ∧ I' 47 i = wtm I' 44 i) → I' 44 3 = sumI (wtm I' 44) (σ.2.2.1 3 1).toNat → K (some (.inr (.inr (some 44)))) (σ.1, σ.2.1, I', σ.2.2.2))
def ciX7_stayOn : CI := (2, 7, 0, 0, spX7_stayOn)
def kX7_stayOn (pc : Nat) : List ME := match pc with
  | 0 => [(.aload_n 0, 1, []), (.getfield 32, 3, []), (.getfield 69, 3, []), (.iload_n 1, 1, []), (.invokestatic 59, 3, []), (.aload_n 0, 1, []), (.getfield 32, 3, []), (.aload_n 0, 1, []), (.getfield 12, 3, []), (.aload_n 0, 1, []), (.getfield 21, 3, []), (.invokevirtual 72, 3, []), (.aload_n 0, 1, []), (.getfield 32, 3, []), (.areturn, 1, [])]
  | _ => []
theorem qX7_stayOn : ∀ pc, chk cX7_stayOn pc (kX7_stayOn pc) = true := by
  intro pc
  unfold kX7_stayOn
  split <;> first | decide +kernel | exact chk_nil
abbrev rmX7_stayOn : Room := { frames := 3, cells := 0, slots := 0, locals := 68 }
def aX7_stayOn (x : Nat) : Option CI := match x with
  | 59 => some ciJ7_fill_53178
  | 72 => some ciX6_quicken
  | _ => none
theorem aokX7_stayOn : ∀ x ci, aX7_stayOn x = some ci → CalOK RX7 rmX7_stayOn x ci := by
  intro x ci h
  unfold aX7_stayOn at h
  split at h
  · cases h; exact cal_S mJ7_fill_53178 rfl (List.forall_mem_cons.mpr ⟨(ws_mem (List.mem_of_getElem? (i := 207) (by decide +kernel)) (by decide +kernel)), List.forall_mem_cons.mpr ⟨(ws_mem (List.mem_of_getElem? (i := 208) (by decide +kernel)) (by decide +kernel)), List.forall_mem_cons.mpr ⟨(ws_mem (List.mem_of_getElem? (i := 60) (by decide +kernel)) (by decide +kernel)), List.forall_mem_cons.mpr ⟨(ws_mem (List.mem_of_getElem? (i := 209) (by decide +kernel)) (by decide +kernel)), fun _ h => absurd h List.not_mem_nil⟩⟩⟩⟩) rfl (by unfold nice; decide +kernel) (by unfold rfits; decide) ⟨rfl, rfl⟩
  · cases h; exact cal_V mX6_quicken (by decide) rfl (List.forall_mem_cons.mpr ⟨(ws_mem (List.mem_of_getElem? (i := 447) (by decide +kernel)) (by decide +kernel)), List.forall_mem_cons.mpr ⟨(ws_mem (List.mem_of_getElem? (i := 448) (by decide +kernel)) (by decide +kernel)), List.forall_mem_cons.mpr ⟨(ws_mem (List.mem_of_getElem? (i := 449) (by decide +kernel)) (by decide +kernel)), List.forall_mem_cons.mpr ⟨(ws_mem (List.mem_of_getElem? (i := 59) (by decide +kernel)) (by decide +kernel)), List.forall_mem_cons.mpr ⟨(ws_mem (List.mem_of_getElem? (i := 450) (by decide +kernel)) (by decide +kernel)), fun _ h => absurd h List.not_mem_nil⟩⟩⟩⟩⟩) rfl (by unfold nice; decide +kernel) (by unfold rfits; decide) ⟨rfl, rfl⟩
  · cases h
theorem ocX7_stayOn_59 (f : Nat → Nat → Nat → Nat → (List MV → MS → (Option MV → MS → Prop) → Prop) → Prop) : oC aX7_stayOn 59 f = f 2 10 0 0 spJ7_fill_53178 := propext Iff.rfl
theorem ocX7_stayOn_72 (f : Nat → Nat → Nat → Nat → (List MV → MS → (Option MV → MS → Prop) → Prop) → Prop) : oC aX7_stayOn 72 f = f 3 6 0 0 spX6_quicken := propext Iff.rfl
theorem mdX7_stayOn : MD RX7 cX7_stayOn rmX7_stayOn kX7_stayOn fX7 aX7_stayOn zX7 uX7 := ⟨fokX7, zokX7, uokX7, aokX7_stayOn, qX7_stayOn⟩
theorem wqp_cg {I J : Int → Int → Int} {w : Int} (h0 : ∀ b j, b < 40 → J b j = I b j) (h1 : ∀ j, J (w + 1) j = I (w + 1) j) (hn : 0 ≤ I 3 1 ∧ I 3 1 ≤ 30) : ∀ i, 0 ≤ i → i < I 3 1 → wqp J w i = wqp I w i := fun i i0 i1 => by
  have e36 : J 36 = I 36 := funext fun j => h0 _ j (by omega)
  have e38 : J 38 = I 38 := funext fun j => h0 _ j (by omega)
  have e39 : J 39 = I 39 := funext fun j => h0 _ j (by omega)
  have e3 : J 3 = I 3 := funext fun j => h0 _ j (by omega)
  have el : ∀ g i, i < I 3 1 → wlim J w g i = wlim I w g i := fun g i hi => by
    unfold wlim
    rw [h0 _ 0 (by omega), h0 _ 2 (by omega), h0 _ 3 (by omega), h1]
  unfold wqp
  rw [e36, e38, e39, e3]
  have eb : ∀ m : Nat, (m : Int) < I 3 1 → bqv (wlim J w (I 36 0)) (I 36 1) (I 3 1) m = bqv (wlim I w (I 36 0)) (I 36 1) (I 3 1) m := fun m => by
    induction m with
    | zero => intro _; exact el _ _ (by omega)
    | succ m ih =>
      intro h
      unfold bqv
      rw [ih (by omega), el _ _ (by omega)]
  have ebq : ∀ j, 0 ≤ j → j < I 3 1 → bq (wlim J w (I 36 0)) (I 36 1) (I 3 1) j = bq (wlim I w (I 36 0)) (I 36 1) (I 3 1) j := fun j j0 j1 => eb _ (by omega)
  unfold qp
  have : ∀ m : Nat, (m : Int) < I 3 1 → fqv (bq (wlim J w (I 36 0)) (I 36 1) (I 3 1)) (rch (I 38) (I 39)) (I 36 2) m = fqv (bq (wlim I w (I 36 0)) (I 36 1) (I 3 1)) (rch (I 38) (I 39)) (I 36 2) m := fun m => by
    induction m with
    | zero => intro _; unfold fqv; rw [ebq 0 (by omega) (by omega)]
    | succ m ih =>
      intro h
      unfold fqv
      rw [ih (by omega), ebq _ (by omega) (by omega)]
  exact this _ (by omega)
theorem wtm_cg {I J : Int → Int → Int} {w : Int} (h0 : ∀ b j, b < 40 → J b j = I b j) (h1 : ∀ j, J (w + 1) j = I (w + 1) j) (hn : 0 ≤ I 3 1 ∧ I 3 1 ≤ 30) : ∀ i, 0 ≤ i → i < I 3 1 → wtm J w i = wtm I w i := fun i i0 i1 => by
  unfold wtm
  rw [wqp_cg h0 h1 hn i i0 i1, chgI_cg h1, h0 _ 1 (by omega)]
theorem tOK_cg {I J : Int → Int → Int} (h0 : ∀ b j, b < 40 → J b j = I b j) (h : tOK I) : tOK J := by
  unfold tOK at h ⊢
  rw [h0 3 1 (by omega)]
  exact ⟨h.1, h.2.1, fun i i0 i1 => stOK_cg (fun j => h0 _ j (by omega)) (h.2.2 i i0 i1)⟩
theorem carOK_cg {I J : Int → Int → Int} (h0 : ∀ b j, b < 40 → J b j = I b j) (h : carOK I) : carOK J := by
  unfold carOK nOK at h ⊢
  rw [show J 36 = I 36 from funext fun j => h0 _ j (by omega), show J 37 = I 37 from funext fun j => h0 _ j (by omega), show J 38 = I 38 from funext fun j => h0 _ j (by omega), show J 39 = I 39 from funext fun j => h0 _ j (by omega)]
  exact h
set_option maxRecDepth 100000 in
set_option maxHeartbeats 800000 in
theorem mX7_stayOn : MOK yX7_stayOn cX7_stayOn 2 (some (.object "LapBoard$Way")) rmX7_stayOn ciX7_stayOn := by
  refine mok_of (ini := false) (by decide +kernel) (by decide) rfl rfl ?_
  intro σ As K hrc hl h
  obtain ⟨N, P, I, L⟩ := σ
  have h9 := pR_iff.mp h
  clear h
  obtain ⟨a, r, e9, h⟩ := h9
  subst e9
  have h9 := pI_iff.mp h
  clear h
  obtain ⟨l, r, e9, h⟩ := h9
  subst e9
  have h9 := pN_iff.mp h
  clear h
  obtain ⟨e9, h⟩ := h9
  subst e9
  dsimp only at h
  obtain ⟨rfl, rfl, l0, l1, ht, hc, h⟩ := h
  have hI : ∀ b j, b ≠ 45 → filI I 45 l 30 b j = I b j := fun b j hb => if_neg (fun z => hb z.1)
  have h45 : ∀ i, 0 ≤ i → i < 30 → filI I 45 l 30 45 i = l := fun i i0 i1 => if_pos ⟨rfl, i0, i1⟩
  have e3 : filI I 45 l 30 3 1 = I 3 1 := hI _ _ (by omega)
  have ht2 := tOK_cg (J := filI I 45 l 30) (fun b j hb => hI b j (by omega)) ht
  have hc2 := carOK_cg (J := filI I 45 l 30) (fun b j hb => hI b j (by omega)) hc
  have hl2 : laneOK (filI I 45 l 30) 44 (I 3 1) := fun i i0 i1 => by
    have := ht.2.1
    rw [show (44 : Int) + 1 = 45 by rfl, h45 i i0 (by omega)]; omega
  refine ⟨Nat.le_of_ble_eq_true rfl, Ok.seg mdX7_stayOn [] 20 ?_⟩
  simp only [wp_nil, wp_cons, ↓stp, ↓lI, ↓lL, ↓lR, ↓lIn_0, ↓lIn_1, ↓lIn_2, ↓lIn_3, ↓lLn_0, ↓lLn_1, ↓lLn_2, ↓lLn_3, ↓lRn_0, ↓lRn_1, ↓lRn_2, ↓lRn_3, ↓pI, ↓pL, ↓pR, ↓pA, ↓pN, ↓pV, ↓fp, ↓tsw, ↓oS, ↓spMax, ↓spMin, ↓spAbs, ↓spObj, RI, RLg, b2i_lo, b2i_hi, getL, setL, ltL, killL, isLong, inl, cnd, br, tgt, rcv, rpl, mputI, mputL, mputP, fv, fr, mcat, mcs, entL, entA, rfit, nf_0, nf_1, nf_2, nf_3, nf2_0, nf2_1, b2i_0, b2i_1, RI_b2i, b2i_fit, List.append, List.length, List.replicate, List.cons_append, List.nil_append, List.length_cons, List.length_nil, List.replicate_succ, List.replicate_zero, List.tail_cons, reduceIte, if_true, if_false, ite_true, ite_false, Bool.false_eq_true, true_and, and_true, and_self, false_and, and_false, or_self, or_true, true_or, or_false, false_or, not_true_eq_false, not_false_eq_true, ne_eq, forall_const, implies_true, imp_self, true_implies, false_implies, Nat.reduceAdd, Nat.reduceSub, Nat.reduceMul, Nat.reduceDiv, Nat.reduceMod, Nat.reduceEqDiff, Nat.reduceLT, Nat.reduceLeDiff, Nat.reduceBEq, Nat.add_zero, Nat.zero_add, Nat.le_refl, Nat.not_lt_zero, Nat.succ_eq_add_one, Int.reduceNatCast, Int.cast_ofNat_Int, Int.reduceSub, Int.reduceMul, Int.reduceNeg, Int.reduceLE, Int.reduceLT, Int.reduceToNat, Int.reduceEq, Int.reduceNe, Int.reduceAdd, Option.some.injEq, kX7_stayOn, rmX7_stayOn, ↓ofX7_12, ↓ofX7_21, ↓ofX7_32, ↓ofX7_69, ↓ocX7_stayOn_59, ↓spJ7_fill_53178, ↓ocX7_stayOn_72, ↓spX6_quicken, ht2, hc2, hl2, e3, G_1, G_2, G_3, G_4, G_35, G_36, G_37, G_38, G_39, G_40, G_41, G_42, G_43, G_44, G_45, G_46, G_47, G_48, G_49, G_140, G_141, G_142, G_143, G_144, G_145, G_146, G_178, G_179, G_180, G_181, G_182, G_183, G_184, G_189, G_198, G_207, PF_1_0, PF_1_1, PF_1_2, PF_1_3, PF_2_0, PF_2_1, PF_2_3, PF_2_4, PF_2_5, PF_2_6, PF_2_7, PF_2_8, PF_2_9, PF_2_10, PF_2_11, PF_3_0, PF_35_0, PF_35_1, PF_35_2, PF_35_3, PF_40_0, PF_40_1, PF_40_2, PF_44_0, PF_44_1, PF_44_2, PF_145_0, PF_145_1, PF_179_0, PF_179_1, PF_179_2, PF_179_3, PF_179_8, PF_179_9, PF_179_10]
  intro I' h1 h2 h3 h4
  have c0 : ∀ b j, b < 40 → I' b j = filI I 45 l 30 b j := fun b j hb => h1 b j (by omega) (by omega) (by omega)
  have c1 : ∀ j, I' (44 + 1) j = filI I 45 l 30 (44 + 1) j := fun j => h1 _ j (by omega) (by omega) (by omega)
  have hn : 0 ≤ filI I 45 l 30 3 1 ∧ filI I 45 l 30 3 1 ≤ 30 := ⟨ht2.1, ht2.2.1⟩
  refine h I' (fun b j hb => by rw [h1 b j (by omega) (by omega) (by omega), hI b j (by omega)]) (fun i i0 i1 => by rw [show (45 : Int) = 44 + 1 by rfl, c1]; exact h45 i i0 i1) (fun i i0 i1 => ?_) ?_
  · rw [wqp_cg c0 c1 hn i i0 (by omega), wtm_cg c0 c1 hn i i0 (by omega)]
    exact ⟨h2 i i0 i1, h3 i i0 i1⟩
  · rw [h4]
    exact sumI_congr _ (fun i i0 i1 => (wtm_cg c0 c1 hn i i0 (by omega)).symm)
/-- the limits at a station, by lane and grip -/
def lmv (I : Int → Int → Int) (g i l : Int) : Int := lim (I (5 + i) 0) (I (5 + i) 2) (I (5 + i) 3) l g
def spX7_fillLimits (As : List MV) (σ : MS) (K : Option MV → MS → Prop) : Prop := pR As fun a r => pI r fun i r => pI r fun g r => pN r (a = 2 ∧ σ.2.1 = PF ∧ 0 ≤ i ∧ i < 30 ∧ stOK σ.2.2.1 (5 + i) ∧ -100 ≤ g ∧ g ≤ 100 ∧
  ∀ I' : Int → Int → Int, (∀ b j, ¬ (b = 48 ∧ 3 * i ≤ j ∧ j ≤ 3 * i + 2) → I' b j = σ.2.2.1 b j) → (∀ l, 0 ≤ l → l ≤ 2 → I' 48 (3 * i + l) = lmv σ.2.2.1 g i l) → K none (σ.1, σ.2.1, I', σ.2.2.2))
def ciX7_fillLimits : CI := (3, 7, 0, 0, spX7_fillLimits)
def kX7_fillLimits (pc : Nat) : List ME := match pc with
  | 0 => [(.iconst 0, 1, []), (.istore_n 3, 1, [])]
  | 2 => [(.iload_n 3, 1, []), (.iconst 3, 1, []), (.if_icmp .ge 33, 3, [37]), (.aload_n 0, 1, []), (.getfield 35, 3, []), (.iconst 3, 1, []), (.iload_n 1, 1, []), (.imul, 1, []), (.iload_n 3, 1, []), (.iadd, 1, []), (.aload_n 0, 1, []), (.getfield 12, 3, []), (.getfield 87, 3, []), (.iload_n 1, 1, []), (.aaload, 1, []), (.iload_n 3, 1, []), (.iload_n 2, 1, []), (.invokevirtual 130, 3, []), (.iastore, 1, []), (.iinc 3 1, 3, []), (.goto (-32), 3, [2])]
  | 37 => [(.return_, 1, [])]
  | _ => []
theorem qX7_fillLimits : ∀ pc, chk cX7_fillLimits pc (kX7_fillLimits pc) = true := by
  intro pc
  unfold kX7_fillLimits
  split <;> first | decide +kernel | exact chk_nil
abbrev rmX7_fillLimits : Room := { frames := 2, cells := 0, slots := 0, locals := 44 }
def aX7_fillLimits (x : Nat) : Option CI := match x with
  | 130 => some ciX3_limitOn
  | _ => none
theorem aokX7_fillLimits : ∀ x ci, aX7_fillLimits x = some ci → CalOK RX7 rmX7_fillLimits x ci := by
  intro x ci h
  unfold aX7_fillLimits at h
  split at h
  · cases h; exact cal_V mX3_limitOn (by decide) rfl (List.forall_mem_cons.mpr ⟨(ws_mem (List.mem_of_getElem? (i := 477) (by decide +kernel)) (by decide +kernel)), List.forall_mem_cons.mpr ⟨(ws_mem (List.mem_of_getElem? (i := 415) (by decide +kernel)) (by decide +kernel)), List.forall_mem_cons.mpr ⟨(ws_mem (List.mem_of_getElem? (i := 416) (by decide +kernel)) (by decide +kernel)), List.forall_mem_cons.mpr ⟨(ws_mem (List.mem_of_getElem? (i := 56) (by decide +kernel)) (by decide +kernel)), List.forall_mem_cons.mpr ⟨(ws_mem (List.mem_of_getElem? (i := 417) (by decide +kernel)) (by decide +kernel)), fun _ h => absurd h List.not_mem_nil⟩⟩⟩⟩⟩) rfl (by unfold nice; decide +kernel) (by unfold rfits; decide) ⟨rfl, rfl⟩
  · cases h
theorem ocX7_fillLimits_130 (f : Nat → Nat → Nat → Nat → (List MV → MS → (Option MV → MS → Prop) → Prop) → Prop) : oC aX7_fillLimits 130 f = f 3 3 0 0 spX3_limitOn := propext Iff.rfl
theorem mdX7_fillLimits : MD RX7 cX7_fillLimits rmX7_fillLimits kX7_fillLimits fX7 aX7_fillLimits zX7 uX7 := ⟨fokX7, zokX7, uokX7, aokX7_fillLimits, qX7_fillLimits⟩
set_option maxRecDepth 100000 in
set_option maxHeartbeats 800000 in
theorem mX7_fillLimits : MOK yX7_fillLimits cX7_fillLimits 4 none rmX7_fillLimits ciX7_fillLimits := by
  refine mok_of (ini := false) (by decide +kernel) (by decide) rfl rfl ?_
  intro σ As K hrc hl h
  obtain ⟨N, P, I, L⟩ := σ
  have h9 := pR_iff.mp h
  clear h
  obtain ⟨a, r, e9, h⟩ := h9
  subst e9
  have h9 := pI_iff.mp h
  clear h
  obtain ⟨i, r, e9, h⟩ := h9
  subst e9
  have h9 := pI_iff.mp h
  clear h
  obtain ⟨g, r, e9, h⟩ := h9
  subst e9
  have h9 := pN_iff.mp h
  clear h
  obtain ⟨e9, h⟩ := h9
  subst e9
  dsimp only at h
  obtain ⟨rfl, rfl, i0, i1, hs, g0, g1, h⟩ := h
  have hp := PF_st i0 i1
  have hg := G_st (a := 5 + i) (by omega) (by omega)
  have n48 : 5 + i ≠ 48 := by omega
  have hs2 : ∀ j v, stOK (upI I 48 j v) (5 + i) := fun j v => stOK_cg (fun j => upI_ne n48) hs
  have hs3 : ∀ j v j' v', stOK (upI (upI I 48 j v) 48 j' v') (5 + i) := fun j v j' v' => stOK_cg (fun j => upI_ne n48) (hs2 _ _)
  refine ⟨Nat.le_of_ble_eq_true rfl, Ok.seg mdX7_fillLimits [] 74 ?_⟩
  simp only [wp_nil, wp_cons, ↓stp, ↓lI, ↓lL, ↓lR, ↓lIn_0, ↓lIn_1, ↓lIn_2, ↓lIn_3, ↓lLn_0, ↓lLn_1, ↓lLn_2, ↓lLn_3, ↓lRn_0, ↓lRn_1, ↓lRn_2, ↓lRn_3, ↓pI, ↓pL, ↓pR, ↓pA, ↓pN, ↓pV, ↓fp, ↓tsw, ↓oS, ↓spMax, ↓spMin, ↓spAbs, ↓spObj, RI, RLg, b2i_lo, b2i_hi, getL, setL, ltL, killL, isLong, inl, cnd, br, tgt, rcv, rpl, mputI, mputL, mputP, fv, fr, mcat, mcs, entL, entA, rfit, nf_0, nf_1, nf_2, nf_3, nf2_0, nf2_1, b2i_0, b2i_1, RI_b2i, b2i_fit, List.append, List.length, List.replicate, List.cons_append, List.nil_append, List.length_cons, List.length_nil, List.replicate_succ, List.replicate_zero, List.tail_cons, reduceIte, if_true, if_false, ite_true, ite_false, Bool.false_eq_true, true_and, and_true, and_self, false_and, and_false, or_self, or_true, true_or, or_false, false_or, not_true_eq_false, not_false_eq_true, ne_eq, forall_const, implies_true, imp_self, true_implies, false_implies, Nat.reduceAdd, Nat.reduceSub, Nat.reduceMul, Nat.reduceDiv, Nat.reduceMod, Nat.reduceEqDiff, Nat.reduceLT, Nat.reduceLeDiff, Nat.reduceBEq, Nat.add_zero, Nat.zero_add, Nat.le_refl, Nat.not_lt_zero, Nat.succ_eq_add_one, Int.reduceNatCast, Int.cast_ofNat_Int, Int.reduceSub, Int.reduceMul, Int.reduceNeg, Int.reduceLE, Int.reduceLT, Int.reduceToNat, Int.reduceEq, Int.reduceNe, Int.reduceAdd, Option.some.injEq, kX7_fillLimits, rmX7_fillLimits, ↓ofX7_12, ↓ofX7_35, ↓ofX7_87, ↓ocX7_fillLimits_130, ↓spX3_limitOn, hp, hg, hs, hs2, hs3, upI_ne n48, G_1, G_2, G_3, G_4, G_35, G_36, G_37, G_38, G_39, G_40, G_41, G_42, G_43, G_44, G_45, G_46, G_47, G_48, G_49, G_140, G_141, G_142, G_143, G_144, G_145, G_146, G_178, G_179, G_180, G_181, G_182, G_183, G_184, G_189, G_198, G_207, PF_1_0, PF_1_1, PF_1_2, PF_1_3, PF_2_0, PF_2_1, PF_2_3, PF_2_4, PF_2_5, PF_2_6, PF_2_7, PF_2_8, PF_2_9, PF_2_10, PF_2_11, PF_3_0, PF_35_0, PF_35_1, PF_35_2, PF_35_3, PF_40_0, PF_40_1, PF_40_2, PF_44_0, PF_44_1, PF_44_2, PF_145_0, PF_145_1, PF_179_0, PF_179_1, PF_179_2, PF_179_3, PF_179_8, PF_179_9, PF_179_10]
  refine ⟨by omega, by omega, by omega, by omega, by omega, by omega, by omega, by omega, by omega, by omega, by omega, by omega, by omega, by omega, by omega, by omega, by omega, by omega, by omega, by omega, by omega, ?_⟩
  refine h _ (fun b j hb => ?_) (fun l l0 l1 => ?_)
  · unfold upI; rw [if_neg (by omega), if_neg (by omega), if_neg (by omega)]
  · unfold upI lmv
    by_cases e2 : l = 2
    · subst e2; rw [if_pos ⟨rfl, rfl⟩]
    · rw [if_neg (by omega)]
      by_cases e1 : l = 1
      · subst e1; rw [if_pos ⟨rfl, rfl⟩]
      · have e0 : l = 0 := by omega
        subst e0; rw [if_neg (by omega), if_pos ⟨rfl, rfl⟩]
