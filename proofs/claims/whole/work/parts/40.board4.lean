/-! LapBoard: spend, where, drive, lost, tyre, two, plan, stops, count -/
theorem bestOK_r {I : Int → Int → Int} (ht : tOK I) (h : bestOK I) : tmR I := fun i i0 i1 => best_tm ht h i0 i1
def spX8_spend (As : List MV) (σ : MS) (K : Option MV → MS → Prop) : Prop := pR As fun a r => pI r fun u r => pN r (a = 1 ∧ σ.2.1 = PF ∧ RI u ∧ xOK σ.2.2.1 ∧ (¬ (0 ≤ u ∧ u ≤ 60) → K (some (.inl (-1))) σ) ∧ (0 ≤ u ∧ u ≤ 60 → ∀ I' : Int → Int → Int, frQ σ.2.2.1 I' → xOK I' → bestOK I' → K (some (.inl (gv (stC I') (stG I') (I' 3 1).toNat u))) (σ.1, σ.2.1, I', σ.2.2.2)))
def ciX8_spend : CI := (2, 8, 0, 0, spX8_spend)
def kX8_spend (pc : Nat) : List ME := match pc with
  | 0 => [(.iload_n 1, 1, []), (.iconst 0, 1, []), (.bipush 60, 2, []), (.invokestatic 37, 3, []), (.ifCond .ne 5, 3, [12]), (.iconst (-1), 1, []), (.ireturn, 1, [])]
  | 12 => [(.aload_n 0, 1, []), (.getfield 19, 3, []), (.aload_n 0, 1, []), (.getfield 10, 3, []), (.getfield 41, 3, []), (.aload_n 0, 1, []), (.getfield 10, 3, []), (.invokevirtual 131, 3, []), (.iload_n 1, 1, []), (.invokevirtual 150, 3, []), (.aload_n 0, 1, []), (.getfield 19, 3, []), (.aload_n 0, 1, []), (.getfield 10, 3, []), (.getfield 41, 3, []), (.getfield 45, 3, []), (.iload_n 1, 1, []), (.invokevirtual 154, 3, []), (.ireturn, 1, [])]
  | _ => []
theorem qX8_spend : ∀ pc, chk cX8_spend pc (kX8_spend pc) = true := by
  intro pc
  unfold kX8_spend
  split <;> first | decide +kernel | exact chk_nil
abbrev rmX8_spend : Room := { frames := 5, cells := 0, slots := 0, locals := 120 }
def aX8_spend (x : Nat) : Option CI := match x with
  | 37 => some ciX8_within
  | 131 => some ciX7_bestWay
  | 150 => some ciX4_fill
  | 154 => some ciX4_gainsOf
  | _ => none
theorem aokX8_spend : ∀ x ci, aX8_spend x = some ci → CalOK RX8 rmX8_spend x ci := by
  intro x ci h
  unfold aX8_spend at h
  split at h
  · cases h; exact cal_S mX8_within rfl (List.forall_mem_cons.mpr ⟨(ws_mem (List.mem_of_getElem? (i := 363) (by decide +kernel)) (by decide +kernel)), List.forall_mem_cons.mpr ⟨(ws_mem (List.mem_of_getElem? (i := 364) (by decide +kernel)) (by decide +kernel)), List.forall_mem_cons.mpr ⟨(ws_mem (List.mem_of_getElem? (i := 53) (by decide +kernel)) (by decide +kernel)), List.forall_mem_cons.mpr ⟨(ws_mem (List.mem_of_getElem? (i := 365) (by decide +kernel)) (by decide +kernel)), fun _ h => absurd h List.not_mem_nil⟩⟩⟩⟩) rfl (by unfold nice; decide +kernel) (by unfold rfits; decide) ⟨rfl, rfl⟩
  · cases h; exact cal_V mX7_bestWay (by decide) rfl (List.forall_mem_cons.mpr ⟨(ws_mem (List.mem_of_getElem? (i := 465) (by decide +kernel)) (by decide +kernel)), List.forall_mem_cons.mpr ⟨(ws_mem (List.mem_of_getElem? (i := 466) (by decide +kernel)) (by decide +kernel)), List.forall_mem_cons.mpr ⟨(ws_mem (List.mem_of_getElem? (i := 467) (by decide +kernel)) (by decide +kernel)), List.forall_mem_cons.mpr ⟨(ws_mem (List.mem_of_getElem? (i := 54) (by decide +kernel)) (by decide +kernel)), List.forall_mem_cons.mpr ⟨(ws_mem (List.mem_of_getElem? (i := 468) (by decide +kernel)) (by decide +kernel)), fun _ h => absurd h List.not_mem_nil⟩⟩⟩⟩⟩) rfl (by unfold nice; decide +kernel) (by unfold rfits; decide) ⟨rfl, rfl⟩
  · cases h; exact cal_V mX4_fill (by decide) rfl (List.forall_mem_cons.mpr ⟨(ws_mem (List.mem_of_getElem? (i := 529) (by decide +kernel)) (by decide +kernel)), List.forall_mem_cons.mpr ⟨(ws_mem (List.mem_of_getElem? (i := 530) (by decide +kernel)) (by decide +kernel)), List.forall_mem_cons.mpr ⟨(ws_mem (List.mem_of_getElem? (i := 531) (by decide +kernel)) (by decide +kernel)), List.forall_mem_cons.mpr ⟨(ws_mem (List.mem_of_getElem? (i := 61) (by decide +kernel)) (by decide +kernel)), List.forall_mem_cons.mpr ⟨(ws_mem (List.mem_of_getElem? (i := 532) (by decide +kernel)) (by decide +kernel)), fun _ h => absurd h List.not_mem_nil⟩⟩⟩⟩⟩) rfl (by unfold nice; decide +kernel) (by unfold rfits; decide) ⟨rfl, rfl⟩
  · cases h; exact cal_V mX4_gainsOf (by decide) rfl (List.forall_mem_cons.mpr ⟨(ws_mem (List.mem_of_getElem? (i := 534) (by decide +kernel)) (by decide +kernel)), List.forall_mem_cons.mpr ⟨(ws_mem (List.mem_of_getElem? (i := 535) (by decide +kernel)) (by decide +kernel)), List.forall_mem_cons.mpr ⟨(ws_mem (List.mem_of_getElem? (i := 536) (by decide +kernel)) (by decide +kernel)), List.forall_mem_cons.mpr ⟨(ws_mem (List.mem_of_getElem? (i := 61) (by decide +kernel)) (by decide +kernel)), List.forall_mem_cons.mpr ⟨(ws_mem (List.mem_of_getElem? (i := 537) (by decide +kernel)) (by decide +kernel)), fun _ h => absurd h List.not_mem_nil⟩⟩⟩⟩⟩) rfl (by unfold nice; decide +kernel) (by unfold rfits; decide) ⟨rfl, rfl⟩
  · cases h
theorem ocX8_spend_37 (f : Nat → Nat → Nat → Nat → (List MV → MS → (Option MV → MS → Prop) → Prop) → Prop) : oC aX8_spend 37 f = f 3 10 0 0 spX8_within := propext Iff.rfl
theorem ocX8_spend_131 (f : Nat → Nat → Nat → Nat → (List MV → MS → (Option MV → MS → Prop) → Prop) → Prop) : oC aX8_spend 131 f = f 1 7 0 0 spX7_bestWay := propext Iff.rfl
theorem ocX8_spend_150 (f : Nat → Nat → Nat → Nat → (List MV → MS → (Option MV → MS → Prop) → Prop) → Prop) : oC aX8_spend 150 f = f 4 4 0 0 spX4_fill := propext Iff.rfl
theorem ocX8_spend_154 (f : Nat → Nat → Nat → Nat → (List MV → MS → (Option MV → MS → Prop) → Prop) → Prop) : oC aX8_spend 154 f = f 3 4 0 0 spX4_gainsOf := propext Iff.rfl
theorem mdX8_spend : MD RX8 cX8_spend rmX8_spend kX8_spend fX8 aX8_spend zX8 uX8 := ⟨fokX8, zokX8, uokX8, aokX8_spend, qX8_spend⟩
/-- behind bestWay and fill -/
theorem fill_of {I J M : Int → Int → Int} (hx : xOK I) (k1 : frB I J) (k2 : bestOK J) (k3 : J 2 2 = 1) (m1 : frE J M) : frQ I M ∧ xOK M ∧ bestOK M ∧ M 3 1 = J 3 1 ∧ (∀ j, 0 ≤ j → j < M 3 1 → stC J j = stC M j) ∧ ∀ j, 0 ≤ j → j < M 3 1 → stG J j = stG M j := by
  have hxJ := xOK_B hx k1 (.inr ⟨k3, k2⟩)
  have e3 : M 3 1 = J 3 1 := m1 _ _ (by omega)
  have hn := hxJ.1.2.1
  have c : c3 J M := fun b k b0 b1 => m1 _ _ (by omega)
  refine ⟨fun b k b0 b1 b2 b3 => by rw [m1 b k (by omega)]; exact k1.q b k b0 b1 b2 b3, xOK_E hxJ (fun b k b0 b1 => m1 b k b1), bestOK_c3 c hn (fun b k b0 b1 => m1 _ _ (by omega)) k2, e3, fun j j0 j1 => ?_, fun j j0 j1 => ?_⟩
  · unfold stC; rw [m1 _ _ (by omega)]
  · unfold stG; rw [m1 _ _ (by omega)]
set_option maxRecDepth 100000 in
set_option maxHeartbeats 800000 in
theorem mX8_spend : MOK yX8_spend cX8_spend 2 (some .int) rmX8_spend ciX8_spend := by
  refine mok_of (ini := false) (by decide +kernel) (by decide) rfl rfl ?_
  intro σ As K hrc hl h
  obtain ⟨N, P, I, L⟩ := σ
  have h9 := pR_iff.mp h
  clear h
  obtain ⟨a, r, e9, h⟩ := h9
  subst e9
  have h9 := pI_iff.mp h
  clear h
  obtain ⟨u, r, e9, h⟩ := h9
  subst e9
  have h9 := pN_iff.mp h
  clear h
  obtain ⟨e9, h⟩ := h9
  subst e9
  dsimp only at h
  obtain ⟨rfl, rfl, hu, hx, h1, h2⟩ := h
  unfold RI at hu
  have hx' := hx
  obtain ⟨x1, x2, x3, x4, x5, x6, x7⟩ := hx'
  refine ⟨Nat.le_of_ble_eq_true rfl, Ok.seg mdX8_spend [] 60 ?_⟩
  simp only [wp_nil, wp_cons, ↓stp, ↓lI, ↓lL, ↓lR, ↓lIn_0, ↓lIn_1, ↓lIn_2, ↓lIn_3, ↓lLn_0, ↓lLn_1, ↓lLn_2, ↓lLn_3, ↓lRn_0, ↓lRn_1, ↓lRn_2, ↓lRn_3, ↓pI, ↓pL, ↓pR, ↓pA, ↓pN, ↓pV, ↓fp, ↓tsw, ↓oS, ↓spMax, ↓spMin, ↓spAbs, ↓spObj, RI, RLg, b2i_lo, b2i_hi, getL, setL, ltL, killL, isLong, inl, cnd, br, tgt, rcv, rpl, mputI, mputL, mputP, fv, fr, mcat, mcs, entL, entA, rfit, nf_0, nf_1, nf_2, nf_3, nf2_0, nf2_1, b2i_0, b2i_1, RI_b2i, b2i_fit, List.append, List.length, List.replicate, List.cons_append, List.nil_append, List.length_cons, List.length_nil, List.replicate_succ, List.replicate_zero, List.tail_cons, reduceIte, if_true, if_false, ite_true, ite_false, Bool.false_eq_true, true_and, and_true, and_self, false_and, and_false, or_self, or_true, true_or, or_false, false_or, not_true_eq_false, not_false_eq_true, ne_eq, forall_const, implies_true, imp_self, true_implies, false_implies, Nat.reduceAdd, Nat.reduceSub, Nat.reduceMul, Nat.reduceDiv, Nat.reduceMod, Nat.reduceEqDiff, Nat.reduceLT, Nat.reduceLeDiff, Nat.reduceBEq, Nat.add_zero, Nat.zero_add, Nat.le_refl, Nat.not_lt_zero, Nat.succ_eq_add_one, Int.reduceNatCast, Int.cast_ofNat_Int, Int.reduceSub, Int.reduceMul, Int.reduceNeg, Int.reduceLE, Int.reduceLT, Int.reduceToNat, Int.reduceEq, Int.reduceNe, Int.reduceAdd, Option.some.injEq, kX8_spend, rmX8_spend, ↓ofX8_10, ↓ofX8_19, ↓ofX8_41, ↓ofX8_45, ↓ocX8_spend_37, ↓spX8_within, ↓ocX8_spend_131, ↓spX7_bestWay, ↓ocX8_spend_150, ↓spX4_fill, ↓ocX8_spend_154, ↓spX4_gainsOf, x1, x2, x4, G_1, G_2, G_3, G_4, G_35, G_36, G_37, G_38, G_39, G_40, G_41, G_42, G_43, G_44, G_45, G_46, G_47, G_48, G_49, G_140, G_141, G_142, G_143, G_144, G_145, G_146, G_178, G_179, G_180, G_181, G_182, G_183, G_184, G_189, G_198, G_207, PF_1_0, PF_1_1, PF_1_2, PF_1_3, PF_2_0, PF_2_1, PF_2_3, PF_2_4, PF_2_5, PF_2_6, PF_2_7, PF_2_8, PF_2_9, PF_2_10, PF_2_11, PF_3_0, PF_35_0, PF_35_1, PF_35_2, PF_35_3, PF_40_0, PF_40_1, PF_40_2, PF_44_0, PF_44_1, PF_44_2, PF_145_0, PF_145_1, PF_179_0, PF_179_1, PF_179_2, PF_179_3, PF_179_8, PF_179_9, PF_179_10]
  refine ⟨by omega, fun q J k1 k2 k3 => ?_, fun q => h1 (by omega)⟩
  have hxJ := xOK_B hx k1 (.inr ⟨k3, k2⟩)
  have hn := hxJ.1.2.1
  have hn0 := hxJ.1.1
  refine ⟨by omega, by omega, hxJ.1, bestOK_r hxJ.1 k2, fun k k0 k1' => hxJ.2.2.2.2.2.1 k k0 k1', fun M m1 m2 => ?_⟩
  obtain ⟨a, b, c, d, e, f⟩ := fill_of hx k1 k2 k3 m1
  have := h2 (by omega) M a b c
  have e2 := m2.1 (J 3 1).toNat u (by omega) (by omega) (by omega)
  rw [show ((J 3 1).toNat : Int) = J 3 1 by omega] at e2
  rw [d] at this ⊢
  refine ⟨hn0, hn, by omega, by omega, ?_⟩
  rw [e2, gv_cg _ _ (fun j a b => e j (by omega) (by omega)) (fun j a b => f j (by omega) (by omega))]
  exact this
def spX8_where (As : List MV) (σ : MS) (K : Option MV → MS → Prop) : Prop := pR As fun a r => pI r fun u r => pN r (a = 1 ∧ σ.2.1 = PF ∧ RI u ∧ xOK σ.2.2.1 ∧ (¬ (0 ≤ u ∧ u ≤ 60) → K (some (.inl (-1))) σ) ∧ (0 ≤ u ∧ u ≤ 60 → ∀ I' : Int → Int → Int, frQ σ.2.2.1 I' → xOK I' → bestOK I' → K (some (.inl (wst (stC I') (stG I') (I' 3 1).toNat 0 u))) (σ.1, σ.2.1, I', σ.2.2.2)))
def ciX8_where : CI := (2, 8, 0, 0, spX8_where)
def kX8_where (pc : Nat) : List ME := match pc with
  | 0 => [(.iload_n 1, 1, []), (.iconst 0, 1, []), (.bipush 60, 2, []), (.invokestatic 37, 3, []), (.ifCond .ne 5, 3, [12]), (.iconst (-1), 1, []), (.ireturn, 1, [])]
  | 12 => [(.aload_n 0, 1, []), (.getfield 19, 3, []), (.aload_n 0, 1, []), (.getfield 10, 3, []), (.getfield 41, 3, []), (.aload_n 0, 1, []), (.getfield 10, 3, []), (.invokevirtual 131, 3, []), (.iload_n 1, 1, []), (.invokevirtual 150, 3, []), (.aload_n 0, 1, []), (.getfield 19, 3, []), (.aload_n 0, 1, []), (.getfield 10, 3, []), (.getfield 41, 3, []), (.getfield 45, 3, []), (.iload_n 1, 1, []), (.invokevirtual 157, 3, []), (.ireturn, 1, [])]
  | _ => []
theorem qX8_where : ∀ pc, chk cX8_where pc (kX8_where pc) = true := by
  intro pc
  unfold kX8_where
  split <;> first | decide +kernel | exact chk_nil
abbrev rmX8_where : Room := { frames := 5, cells := 0, slots := 0, locals := 120 }
def aX8_where (x : Nat) : Option CI := match x with
  | 37 => some ciX8_within
  | 131 => some ciX7_bestWay
  | 150 => some ciX4_fill
  | 157 => some ciX4_leastSet
  | _ => none
theorem aokX8_where : ∀ x ci, aX8_where x = some ci → CalOK RX8 rmX8_where x ci := by
  intro x ci h
  unfold aX8_where at h
  split at h
  · cases h; exact cal_S mX8_within rfl (List.forall_mem_cons.mpr ⟨(ws_mem (List.mem_of_getElem? (i := 363) (by decide +kernel)) (by decide +kernel)), List.forall_mem_cons.mpr ⟨(ws_mem (List.mem_of_getElem? (i := 364) (by decide +kernel)) (by decide +kernel)), List.forall_mem_cons.mpr ⟨(ws_mem (List.mem_of_getElem? (i := 53) (by decide +kernel)) (by decide +kernel)), List.forall_mem_cons.mpr ⟨(ws_mem (List.mem_of_getElem? (i := 365) (by decide +kernel)) (by decide +kernel)), fun _ h => absurd h List.not_mem_nil⟩⟩⟩⟩) rfl (by unfold nice; decide +kernel) (by unfold rfits; decide) ⟨rfl, rfl⟩
  · cases h; exact cal_V mX7_bestWay (by decide) rfl (List.forall_mem_cons.mpr ⟨(ws_mem (List.mem_of_getElem? (i := 465) (by decide +kernel)) (by decide +kernel)), List.forall_mem_cons.mpr ⟨(ws_mem (List.mem_of_getElem? (i := 466) (by decide +kernel)) (by decide +kernel)), List.forall_mem_cons.mpr ⟨(ws_mem (List.mem_of_getElem? (i := 467) (by decide +kernel)) (by decide +kernel)), List.forall_mem_cons.mpr ⟨(ws_mem (List.mem_of_getElem? (i := 54) (by decide +kernel)) (by decide +kernel)), List.forall_mem_cons.mpr ⟨(ws_mem (List.mem_of_getElem? (i := 468) (by decide +kernel)) (by decide +kernel)), fun _ h => absurd h List.not_mem_nil⟩⟩⟩⟩⟩) rfl (by unfold nice; decide +kernel) (by unfold rfits; decide) ⟨rfl, rfl⟩
  · cases h; exact cal_V mX4_fill (by decide) rfl (List.forall_mem_cons.mpr ⟨(ws_mem (List.mem_of_getElem? (i := 529) (by decide +kernel)) (by decide +kernel)), List.forall_mem_cons.mpr ⟨(ws_mem (List.mem_of_getElem? (i := 530) (by decide +kernel)) (by decide +kernel)), List.forall_mem_cons.mpr ⟨(ws_mem (List.mem_of_getElem? (i := 531) (by decide +kernel)) (by decide +kernel)), List.forall_mem_cons.mpr ⟨(ws_mem (List.mem_of_getElem? (i := 61) (by decide +kernel)) (by decide +kernel)), List.forall_mem_cons.mpr ⟨(ws_mem (List.mem_of_getElem? (i := 532) (by decide +kernel)) (by decide +kernel)), fun _ h => absurd h List.not_mem_nil⟩⟩⟩⟩⟩) rfl (by unfold nice; decide +kernel) (by unfold rfits; decide) ⟨rfl, rfl⟩
  · cases h; exact cal_V mX4_leastSet (by decide) rfl (List.forall_mem_cons.mpr ⟨(ws_mem (List.mem_of_getElem? (i := 542) (by decide +kernel)) (by decide +kernel)), List.forall_mem_cons.mpr ⟨(ws_mem (List.mem_of_getElem? (i := 543) (by decide +kernel)) (by decide +kernel)), List.forall_mem_cons.mpr ⟨(ws_mem (List.mem_of_getElem? (i := 544) (by decide +kernel)) (by decide +kernel)), List.forall_mem_cons.mpr ⟨(ws_mem (List.mem_of_getElem? (i := 61) (by decide +kernel)) (by decide +kernel)), List.forall_mem_cons.mpr ⟨(ws_mem (List.mem_of_getElem? (i := 545) (by decide +kernel)) (by decide +kernel)), fun _ h => absurd h List.not_mem_nil⟩⟩⟩⟩⟩) rfl (by unfold nice; decide +kernel) (by unfold rfits; decide) ⟨rfl, rfl⟩
  · cases h
theorem ocX8_where_37 (f : Nat → Nat → Nat → Nat → (List MV → MS → (Option MV → MS → Prop) → Prop) → Prop) : oC aX8_where 37 f = f 3 10 0 0 spX8_within := propext Iff.rfl
theorem ocX8_where_131 (f : Nat → Nat → Nat → Nat → (List MV → MS → (Option MV → MS → Prop) → Prop) → Prop) : oC aX8_where 131 f = f 1 7 0 0 spX7_bestWay := propext Iff.rfl
theorem ocX8_where_150 (f : Nat → Nat → Nat → Nat → (List MV → MS → (Option MV → MS → Prop) → Prop) → Prop) : oC aX8_where 150 f = f 4 4 0 0 spX4_fill := propext Iff.rfl
theorem ocX8_where_157 (f : Nat → Nat → Nat → Nat → (List MV → MS → (Option MV → MS → Prop) → Prop) → Prop) : oC aX8_where 157 f = f 3 4 0 0 spX4_leastSet := propext Iff.rfl
theorem mdX8_where : MD RX8 cX8_where rmX8_where kX8_where fX8 aX8_where zX8 uX8 := ⟨fokX8, zokX8, uokX8, aokX8_where, qX8_where⟩
set_option maxRecDepth 100000 in
set_option maxHeartbeats 800000 in
theorem mX8_where : MOK yX8_where cX8_where 2 (some .int) rmX8_where ciX8_where := by
  refine mok_of (ini := false) (by decide +kernel) (by decide) rfl rfl ?_
  intro σ As K hrc hl h
  obtain ⟨N, P, I, L⟩ := σ
  have h9 := pR_iff.mp h
  clear h
  obtain ⟨a, r, e9, h⟩ := h9
  subst e9
  have h9 := pI_iff.mp h
  clear h
  obtain ⟨u, r, e9, h⟩ := h9
  subst e9
  have h9 := pN_iff.mp h
  clear h
  obtain ⟨e9, h⟩ := h9
  subst e9
  dsimp only at h
  obtain ⟨rfl, rfl, hu, hx, h1, h2⟩ := h
  unfold RI at hu
  have hx' := hx
  obtain ⟨x1, x2, x3, x4, x5, x6, x7⟩ := hx'
  refine ⟨Nat.le_of_ble_eq_true rfl, Ok.seg mdX8_where [] 60 ?_⟩
  simp only [wp_nil, wp_cons, ↓stp, ↓lI, ↓lL, ↓lR, ↓lIn_0, ↓lIn_1, ↓lIn_2, ↓lIn_3, ↓lLn_0, ↓lLn_1, ↓lLn_2, ↓lLn_3, ↓lRn_0, ↓lRn_1, ↓lRn_2, ↓lRn_3, ↓pI, ↓pL, ↓pR, ↓pA, ↓pN, ↓pV, ↓fp, ↓tsw, ↓oS, ↓spMax, ↓spMin, ↓spAbs, ↓spObj, RI, RLg, b2i_lo, b2i_hi, getL, setL, ltL, killL, isLong, inl, cnd, br, tgt, rcv, rpl, mputI, mputL, mputP, fv, fr, mcat, mcs, entL, entA, rfit, nf_0, nf_1, nf_2, nf_3, nf2_0, nf2_1, b2i_0, b2i_1, RI_b2i, b2i_fit, List.append, List.length, List.replicate, List.cons_append, List.nil_append, List.length_cons, List.length_nil, List.replicate_succ, List.replicate_zero, List.tail_cons, reduceIte, if_true, if_false, ite_true, ite_false, Bool.false_eq_true, true_and, and_true, and_self, false_and, and_false, or_self, or_true, true_or, or_false, false_or, not_true_eq_false, not_false_eq_true, ne_eq, forall_const, implies_true, imp_self, true_implies, false_implies, Nat.reduceAdd, Nat.reduceSub, Nat.reduceMul, Nat.reduceDiv, Nat.reduceMod, Nat.reduceEqDiff, Nat.reduceLT, Nat.reduceLeDiff, Nat.reduceBEq, Nat.add_zero, Nat.zero_add, Nat.le_refl, Nat.not_lt_zero, Nat.succ_eq_add_one, Int.reduceNatCast, Int.cast_ofNat_Int, Int.reduceSub, Int.reduceMul, Int.reduceNeg, Int.reduceLE, Int.reduceLT, Int.reduceToNat, Int.reduceEq, Int.reduceNe, Int.reduceAdd, Option.some.injEq, kX8_where, rmX8_where, ↓ofX8_10, ↓ofX8_19, ↓ofX8_41, ↓ofX8_45, ↓ocX8_where_37, ↓spX8_within, ↓ocX8_where_131, ↓spX7_bestWay, ↓ocX8_where_150, ↓spX4_fill, ↓ocX8_where_157, ↓spX4_leastSet, x1, x2, x4, G_1, G_2, G_3, G_4, G_35, G_36, G_37, G_38, G_39, G_40, G_41, G_42, G_43, G_44, G_45, G_46, G_47, G_48, G_49, G_140, G_141, G_142, G_143, G_144, G_145, G_146, G_178, G_179, G_180, G_181, G_182, G_183, G_184, G_189, G_198, G_207, PF_1_0, PF_1_1, PF_1_2, PF_1_3, PF_2_0, PF_2_1, PF_2_3, PF_2_4, PF_2_5, PF_2_6, PF_2_7, PF_2_8, PF_2_9, PF_2_10, PF_2_11, PF_3_0, PF_35_0, PF_35_1, PF_35_2, PF_35_3, PF_40_0, PF_40_1, PF_40_2, PF_44_0, PF_44_1, PF_44_2, PF_145_0, PF_145_1, PF_179_0, PF_179_1, PF_179_2, PF_179_3, PF_179_8, PF_179_9, PF_179_10]
  refine ⟨by omega, fun q J k1 k2 k3 => ?_, fun q => h1 (by omega)⟩
  have hxJ := xOK_B hx k1 (.inr ⟨k3, k2⟩)
  have hn := hxJ.1.2.1
  have hn0 := hxJ.1.1
  have hr := bestOK_r hxJ.1 k2
  refine ⟨by omega, by omega, hxJ.1, hr, fun k k0 k1' => hxJ.2.2.2.2.2.1 k k0 k1', fun M m1 m2 => ?_⟩
  obtain ⟨a, b, c, d, e, f⟩ := fill_of hx k1 k2 k3 m1
  have := h2 (by omega) M a b c
  rw [d] at this ⊢
  refine ⟨hn0, hn, by omega, by omega, stC J, stG J, fun i i0 i1 => ⟨(stC_rng hxJ.1 i0 i1).1, (stC_rng hxJ.1 i0 i1).2, m2.2 i i0 i1⟩, fun i i0 i1 => stG_rng hr i0 i1, fun i w a b c => m2.1 i w a b c, ?_⟩
  rw [wst_cg _ _ _ (fun j a b => e j (by omega) (by omega)) (fun j a b => f j (by omega) (by omega))]
  exact this
def spX8_drive (As : List MV) (σ : MS) (K : Option MV → MS → Prop) : Prop := pR As fun a r => pI r fun s r => pI r fun t r => pN r (a = 1 ∧ σ.2.1 = PF ∧ RI s ∧ RI t ∧ xOK σ.2.2.1 ∧ (¬ (0 ≤ s ∧ s < σ.2.2.1 3 1 ∧ 0 ≤ t ∧ t ≤ 200000) → K (some (.inl (-1))) σ) ∧ (0 ≤ s ∧ s < σ.2.2.1 3 1 ∧ 0 ≤ t ∧ t ≤ 200000 → ∀ I' : Int → Int → Int, (∀ c k, ¬ (c = 5 + s ∧ k = 4) → I' c k = σ.2.2.1 c k) → xOK I' → I' (5 + s) 4 = t → K (some (.inl (σ.2.2.1 (5 + s) 4))) (σ.1, σ.2.1, I', σ.2.2.2)))
def ciX8_drive : CI := (3, 8, 0, 0, spX8_drive)
def kX8_drive (pc : Nat) : List ME := match pc with
  | 0 => [(.aload_n 0, 1, []), (.getfield 10, 3, []), (.getfield 41, 3, []), (.iload_n 1, 1, []), (.invokevirtual 61, 3, []), (.ifCond .eq 13, 3, [24]), (.iload_n 2, 1, []), (.iconst 0, 1, []), (.ldc 160, 2, []), (.invokestatic 37, 3, []), (.ifCond .ne 5, 3, [26])]
  | 24 => [(.iconst (-1), 1, []), (.ireturn, 1, [])]
  | 26 => [(.aload_n 0, 1, []), (.getfield 10, 3, []), (.getfield 41, 3, []), (.getfield 65, 3, []), (.iload_n 1, 1, []), (.aaload, 1, []), (.astore_n 3, 1, []), (.aload_n 3, 1, []), (.getfield 161, 3, []), (.istore 4, 2, []), (.aload_n 3, 1, []), (.iload_n 2, 1, []), (.putfield 161, 3, []), (.iload 4, 2, []), (.ireturn, 1, [])]
  | _ => []
theorem qX8_drive : ∀ pc, chk cX8_drive pc (kX8_drive pc) = true := by
  intro pc
  unfold kX8_drive
  split <;> first | decide +kernel | exact chk_nil
abbrev rmX8_drive : Room := { frames := 1, cells := 0, slots := 0, locals := 22 }
def aX8_drive (x : Nat) : Option CI := match x with
  | 61 => some ciX5_has
  | 37 => some ciX8_within
  | _ => none
theorem aokX8_drive : ∀ x ci, aX8_drive x = some ci → CalOK RX8 rmX8_drive x ci := by
  intro x ci h
  unfold aX8_drive at h
  split at h
  · cases h; exact cal_V mX5_has (by decide) rfl (List.forall_mem_cons.mpr ⟨(ws_mem (List.mem_of_getElem? (i := 390) (by decide +kernel)) (by decide +kernel)), List.forall_mem_cons.mpr ⟨(ws_mem (List.mem_of_getElem? (i := 391) (by decide +kernel)) (by decide +kernel)), List.forall_mem_cons.mpr ⟨(ws_mem (List.mem_of_getElem? (i := 392) (by decide +kernel)) (by decide +kernel)), List.forall_mem_cons.mpr ⟨(ws_mem (List.mem_of_getElem? (i := 55) (by decide +kernel)) (by decide +kernel)), List.forall_mem_cons.mpr ⟨(ws_mem (List.mem_of_getElem? (i := 393) (by decide +kernel)) (by decide +kernel)), fun _ h => absurd h List.not_mem_nil⟩⟩⟩⟩⟩) rfl (by unfold nice; decide +kernel) (by unfold rfits; decide) ⟨rfl, rfl⟩
  · cases h; exact cal_S mX8_within rfl (List.forall_mem_cons.mpr ⟨(ws_mem (List.mem_of_getElem? (i := 363) (by decide +kernel)) (by decide +kernel)), List.forall_mem_cons.mpr ⟨(ws_mem (List.mem_of_getElem? (i := 364) (by decide +kernel)) (by decide +kernel)), List.forall_mem_cons.mpr ⟨(ws_mem (List.mem_of_getElem? (i := 53) (by decide +kernel)) (by decide +kernel)), List.forall_mem_cons.mpr ⟨(ws_mem (List.mem_of_getElem? (i := 365) (by decide +kernel)) (by decide +kernel)), fun _ h => absurd h List.not_mem_nil⟩⟩⟩⟩) rfl (by unfold nice; decide +kernel) (by unfold rfits; decide) ⟨rfl, rfl⟩
  · cases h
theorem ocX8_drive_61 (f : Nat → Nat → Nat → Nat → (List MV → MS → (Option MV → MS → Prop) → Prop) → Prop) : oC aX8_drive 61 f = f 2 5 0 0 spX5_has := propext Iff.rfl
theorem ocX8_drive_37 (f : Nat → Nat → Nat → Nat → (List MV → MS → (Option MV → MS → Prop) → Prop) → Prop) : oC aX8_drive 37 f = f 3 10 0 0 spX8_within := propext Iff.rfl
theorem mdX8_drive : MD RX8 cX8_drive rmX8_drive kX8_drive fX8 aX8_drive zX8 uX8 := ⟨fokX8, zokX8, uokX8, aokX8_drive, qX8_drive⟩
set_option maxRecDepth 100000 in
set_option maxHeartbeats 800000 in
theorem mX8_drive : MOK yX8_drive cX8_drive 5 (some .int) rmX8_drive ciX8_drive := by
  refine mok_of (ini := false) (by decide +kernel) (by decide) rfl rfl ?_
  intro σ As K hrc hl h
  obtain ⟨N, P, I, L⟩ := σ
  have h9 := pR_iff.mp h
  clear h
  obtain ⟨a, r, e9, h⟩ := h9
  subst e9
  have h9 := pI_iff.mp h
  clear h
  obtain ⟨s, r, e9, h⟩ := h9
  subst e9
  have h9 := pI_iff.mp h
  clear h
  obtain ⟨t, r, e9, h⟩ := h9
  subst e9
  have h9 := pN_iff.mp h
  clear h
  obtain ⟨e9, h⟩ := h9
  subst e9
  dsimp only at h
  obtain ⟨rfl, rfl, hs, ht, hx, h1, h2⟩ := h
  unfold RI at hs ht
  have hx' := hx
  obtain ⟨x1, x2, x3, x4, x5, x6, x7⟩ := hx'
  have y1 := x1.1
  have y2 := x1.2.1
  by_cases q : 0 ≤ s ∧ s < I 3 1
  · have hp := PF_st (i := s) (by omega) (by omega)
    have hg := G_st (a := 5 + s) (by omega) (by omega)
    refine ⟨Nat.le_of_ble_eq_true rfl, Ok.seg mdX8_drive [] 60 ?_⟩
    simp only [wp_nil, wp_cons, ↓stp, ↓lI, ↓lL, ↓lR, ↓lIn_0, ↓lIn_1, ↓lIn_2, ↓lIn_3, ↓lLn_0, ↓lLn_1, ↓lLn_2, ↓lLn_3, ↓lRn_0, ↓lRn_1, ↓lRn_2, ↓lRn_3, ↓pI, ↓pL, ↓pR, ↓pA, ↓pN, ↓pV, ↓fp, ↓tsw, ↓oS, ↓spMax, ↓spMin, ↓spAbs, ↓spObj, RI, RLg, b2i_lo, b2i_hi, getL, setL, ltL, killL, isLong, inl, cnd, br, tgt, rcv, rpl, mputI, mputL, mputP, fv, fr, mcat, mcs, entL, entA, rfit, nf_0, nf_1, nf_2, nf_3, nf2_0, nf2_1, b2i_0, b2i_1, RI_b2i, b2i_fit, List.append, List.length, List.replicate, List.cons_append, List.nil_append, List.length_cons, List.length_nil, List.replicate_succ, List.replicate_zero, List.tail_cons, reduceIte, if_true, if_false, ite_true, ite_false, Bool.false_eq_true, true_and, and_true, and_self, false_and, and_false, or_self, or_true, true_or, or_false, false_or, not_true_eq_false, not_false_eq_true, ne_eq, forall_const, implies_true, imp_self, true_implies, false_implies, Nat.reduceAdd, Nat.reduceSub, Nat.reduceMul, Nat.reduceDiv, Nat.reduceMod, Nat.reduceEqDiff, Nat.reduceLT, Nat.reduceLeDiff, Nat.reduceBEq, Nat.add_zero, Nat.zero_add, Nat.le_refl, Nat.not_lt_zero, Nat.succ_eq_add_one, Int.reduceNatCast, Int.cast_ofNat_Int, Int.reduceSub, Int.reduceMul, Int.reduceNeg, Int.reduceLE, Int.reduceLT, Int.reduceToNat, Int.reduceEq, Int.reduceNe, Int.reduceAdd, Option.some.injEq, kX8_drive, rmX8_drive, ↓ofX8_10, ↓ofX8_161, ↓ofX8_41, ↓ofX8_65, ↓ozX8_160, ↓ocX8_drive_61, ↓spX5_has, ↓ocX8_drive_37, ↓spX8_within, hp, hg, q, y1, y2, G_1, G_2, G_3, G_4, G_35, G_36, G_37, G_38, G_39, G_40, G_41, G_42, G_43, G_44, G_45, G_46, G_47, G_48, G_49, G_140, G_141, G_142, G_143, G_144, G_145, G_146, G_178, G_179, G_180, G_181, G_182, G_183, G_184, G_189, G_198, G_207, PF_1_0, PF_1_1, PF_1_2, PF_1_3, PF_2_0, PF_2_1, PF_2_3, PF_2_4, PF_2_5, PF_2_6, PF_2_7, PF_2_8, PF_2_9, PF_2_10, PF_2_11, PF_3_0, PF_35_0, PF_35_1, PF_35_2, PF_35_3, PF_40_0, PF_40_1, PF_40_2, PF_44_0, PF_44_1, PF_44_2, PF_145_0, PF_145_1, PF_179_0, PF_179_1, PF_179_2, PF_179_3, PF_179_8, PF_179_9, PF_179_10]
    refine ⟨by omega, by omega, fun q2 => ⟨by omega, ?_⟩, fun q2 => h1 (by omega)⟩
    have ue : ∀ c k, ¬ (c = 5 + s ∧ k = 4) → upI I (5 + s) 4 t c k = I c k := fun c k hc => if_neg hc
    have ts : tsame I (upI I (5 + s) 4 t) := ⟨ue _ _ (by omega), fun i k _ _ _ _ => ue _ _ (by omega), fun k => ue _ _ (by omega), fun k => ue _ _ (by omega)⟩
    have e31 := ts.1
    refine h2 (by omega) _ ue ⟨⟨by omega, by omega, fun i i0 i1 => ?_⟩, carOK_36 (I := I) (fun c k c0 c1 => ue c k (by omega)) x2, capOK_ts ts (ue _ _ (by omega)) (ue _ _ (by omega)) (fun k => ue _ _ (by omega)) x3, ?_, raceOK_ts ts (ue _ _ (by omega)) (ue _ _ (by omega)) (fun b k _ _ => ue _ _ (by omega)) x5, fun k k0 k1 => by rw [ue _ _ (by omega)]; exact x6 k k0 k1, fun b hb => shOK_cg (fun c k c0 _ => ue _ _ (by obtain ⟨d, d0, d1, rfl⟩ := hb; omega)) (x7 b hb)⟩ upI_same
    · have hst := x1.2.2 i i0 (by omega)
      by_cases e : i = s
      · subst e
        unfold stOK at hst ⊢
        rw [upI_same, ue _ 0 (by omega), ue _ 1 (by omega), ue _ 2 (by omega), ue _ 3 (by omega)]
        omega
      · exact stOK_cg (fun k => ue _ k (by omega)) hst
    · unfold bst
      rw [ue 2 2 (by omega)]
      exact x4.imp id (fun z => ⟨z.1, bestOK_ts ts (fun k => ue _ _ (by omega)) (fun b k b0 b1 => ue _ _ (by omega)) z.2⟩)
  · refine ⟨Nat.le_of_ble_eq_true rfl, Ok.seg mdX8_drive [] 60 ?_⟩
    simp only [wp_nil, wp_cons, ↓stp, ↓lI, ↓lL, ↓lR, ↓lIn_0, ↓lIn_1, ↓lIn_2, ↓lIn_3, ↓lLn_0, ↓lLn_1, ↓lLn_2, ↓lLn_3, ↓lRn_0, ↓lRn_1, ↓lRn_2, ↓lRn_3, ↓pI, ↓pL, ↓pR, ↓pA, ↓pN, ↓pV, ↓fp, ↓tsw, ↓oS, ↓spMax, ↓spMin, ↓spAbs, ↓spObj, RI, RLg, b2i_lo, b2i_hi, getL, setL, ltL, killL, isLong, inl, cnd, br, tgt, rcv, rpl, mputI, mputL, mputP, fv, fr, mcat, mcs, entL, entA, rfit, nf_0, nf_1, nf_2, nf_3, nf2_0, nf2_1, b2i_0, b2i_1, RI_b2i, b2i_fit, List.append, List.length, List.replicate, List.cons_append, List.nil_append, List.length_cons, List.length_nil, List.replicate_succ, List.replicate_zero, List.tail_cons, reduceIte, if_true, if_false, ite_true, ite_false, Bool.false_eq_true, true_and, and_true, and_self, false_and, and_false, or_self, or_true, true_or, or_false, false_or, not_true_eq_false, not_false_eq_true, ne_eq, forall_const, implies_true, imp_self, true_implies, false_implies, Nat.reduceAdd, Nat.reduceSub, Nat.reduceMul, Nat.reduceDiv, Nat.reduceMod, Nat.reduceEqDiff, Nat.reduceLT, Nat.reduceLeDiff, Nat.reduceBEq, Nat.add_zero, Nat.zero_add, Nat.le_refl, Nat.not_lt_zero, Nat.succ_eq_add_one, Int.reduceNatCast, Int.cast_ofNat_Int, Int.reduceSub, Int.reduceMul, Int.reduceNeg, Int.reduceLE, Int.reduceLT, Int.reduceToNat, Int.reduceEq, Int.reduceNe, Int.reduceAdd, Option.some.injEq, kX8_drive, rmX8_drive, ↓ofX8_10, ↓ofX8_161, ↓ofX8_41, ↓ofX8_65, ↓ozX8_160, ↓ocX8_drive_61, ↓spX5_has, ↓ocX8_drive_37, ↓spX8_within, q, y1, y2, G_1, G_2, G_3, G_4, G_35, G_36, G_37, G_38, G_39, G_40, G_41, G_42, G_43, G_44, G_45, G_46, G_47, G_48, G_49, G_140, G_141, G_142, G_143, G_144, G_145, G_146, G_178, G_179, G_180, G_181, G_182, G_183, G_184, G_189, G_198, G_207, PF_1_0, PF_1_1, PF_1_2, PF_1_3, PF_2_0, PF_2_1, PF_2_3, PF_2_4, PF_2_5, PF_2_6, PF_2_7, PF_2_8, PF_2_9, PF_2_10, PF_2_11, PF_3_0, PF_35_0, PF_35_1, PF_35_2, PF_35_3, PF_40_0, PF_40_1, PF_40_2, PF_44_0, PF_44_1, PF_44_2, PF_145_0, PF_145_1, PF_179_0, PF_179_1, PF_179_2, PF_179_3, PF_179_8, PF_179_9, PF_179_10]
    exact ⟨by omega, h1 (by omega)⟩
/-- of the first m stations: the one with the greatest delta -/
def lostV (T D : Int → Int) (m v : Int) : Prop := (v = -2 ∧ ∀ i, 0 ≤ i → i < m → ¬ 0 < T i) ∨ (0 ≤ v ∧ v < m ∧ 0 < T v ∧ (∀ i, 0 ≤ i → i < v → 0 < T i → T i - D i < T v - D v) ∧ ∀ i, v ≤ i → i < m → 0 < T i → T i - D i ≤ T v - D v)
theorem lostV_no {T D : Int → Int} {m v : Int} (h : lostV T D m v) (hm : ¬ 0 < T m ∨ (0 ≤ v ∧ T m - D m ≤ T v - D v)) : lostV T D (m + 1) v := by
  rcases h with ⟨a, b⟩ | ⟨a, b, c, d, e⟩
  · refine .inl ⟨a, fun i i0 i1 => ?_⟩
    by_cases q : i = m
    · rw [q]; rcases hm with z | z
      · exact z
      · omega
    · exact b i i0 (by omega)
  · refine .inr ⟨a, by omega, c, d, fun i i0 i1 hi => ?_⟩
    by_cases q : i = m
    · rw [q] at hi ⊢
      rcases hm with z | z
      · omega
      · exact z.2
    · exact e i i0 (by omega) hi
theorem lostV_yes {T D : Int → Int} {m v : Int} (m0 : 0 ≤ m) (h : lostV T D m v) (ht : 0 < T m) (hm : v < 0 ∨ T v - D v < T m - D m) : lostV T D (m + 1) m := by
  refine .inr ⟨m0, by omega, ht, fun i i0 i1 hi => ?_, fun i i0 i1 hi => by rw [show i = m by omega]; exact Int.le_refl _⟩
  rcases h with ⟨a, b⟩ | ⟨a, b, c, d, e⟩
  · exact (b i i0 i1 hi).elim
  · by_cases q : i < v
    · have := d i i0 q hi; omega
    · have := e i (by omega) i1 hi; omega
theorem lostV_cg {T D D' : Int → Int} {m v : Int} (h : ∀ i, 0 ≤ i → i < m → D i = D' i) (hl : lostV T D m v) : lostV T D' m v := by
  rcases hl with ⟨a, b⟩ | ⟨a, b, c, d, e⟩
  · exact .inl ⟨a, b⟩
  · exact .inr ⟨a, b, c, fun i i0 i1 hi => by rw [← h i i0 (by omega), ← h v a b]; exact d i i0 i1 hi, fun i i0 i1 hi => by rw [← h i (by omega) i1, ← h v a b]; exact e i i0 i1 hi⟩
theorem lostV_rng {T D : Int → Int} {m v : Int} (h : lostV T D m v) : -2 ≤ v ∧ (v < m ∨ v = -2) := by rcases h with h | h <;> omega
/-- the times of the best way are the same wherever it stands -/
theorem best_same {I J : Int → Int → Int} (ht : tOK I) (h : c3 I J) (hI : bestOK I) (hJ : bestOK J) : ∀ i, 0 ≤ i → i < I 3 1 → J 41 i = I 41 i ∧ J 42 i = I 42 i ∧ J 43 i = I 43 i := by
  obtain ⟨B, a, b, ⟨c1, c2⟩, d⟩ := hI
  obtain ⟨B', a', b', ⟨c1', c2'⟩, d'⟩ := hJ
  have ts := tsame_c3 h ht.2.1
  have ht2 := ht.2.1
  rw [show J 36 = I 36 from funext fun k => h _ _ (by omega) (by omega)] at a' b' c1'
  rw [show J 38 = I 38 from funext fun k => h _ _ (by omega) (by omega), show J 39 = I 39 from funext fun k => h _ _ (by omega) (by omega), ts.1] at c1'
  have eB : B' = B := lapT.uniq ((lapT_iff ts).mpr a') a
  subst eB
  have hL : LexB I (I 36 0) (I 36 1) (I 36 2) B' (J 41) := by
    have := LexB_ts ts.sy b'
    exact this
  have el : ∀ i, 0 ≤ i → i < I 3 1 → J 41 i = I 41 i := fun i i0 i1 => LexB.uniq hL b (i + 1).toNat i i0 (by omega) i1
  have ep : ∀ i, 0 ≤ i → i < I 3 1 → J 42 i = I 42 i := fun i i0 i1 => by
    refine Mx.uniq (c1'.cg (fun j j0 j1 => ?_) (fun _ _ _ => rfl)) c1 i i0 i1
    show lmv J (I 36 0) j (J 41 j) = lmv I (I 36 0) j (I 41 j)
    rw [el j j0 j1]; exact lmv_c3 h j0 (by omega)
  refine fun i i0 i1 => ⟨el i i0 i1, ep i i0 i1, ?_⟩
  have q := c2 i i0 i1
  have q' := c2' i i0 (by rw [ts.1]; exact i1)
  rw [show (40 : Int) + 3 = 43 by rfl, show (40 : Int) + 1 = 41 by rfl, show (40 : Int) + 2 = 42 by rfl] at q q'
  rw [q, q', ep i i0 i1, h _ 1 (by omega) (by omega)]
  congr 1
  unfold lch
  by_cases z : 0 < i
  · rw [el i i0 i1, el (i - 1) (by omega) (by omega)]
  · rw [if_neg (fun y => z y.1), if_neg (fun y => z y.1)]
def spX8_lost (As : List MV) (σ : MS) (K : Option MV → MS → Prop) : Prop := pR As fun a r => pN r (a = 1 ∧ σ.2.1 = PF ∧ xOK σ.2.2.1 ∧ ∀ (I' : Int → Int → Int) (v : Int), frQ σ.2.2.1 I' → xOK I' → ((∃ i, 0 ≤ i ∧ i < σ.2.2.1 3 1 ∧ 0 < σ.2.2.1 (5 + i) 4) → bestOK I') → lostV (fun i => σ.2.2.1 (5 + i) 4) (I' 43) (σ.2.2.1 3 1) v → K (some (.inl v)) (σ.1, σ.2.1, I', σ.2.2.2))
def ciX8_lost : CI := (1, 8, 0, 0, spX8_lost)
def kX8_lost (pc : Nat) : List ME := match pc with
  | 0 => [(.bipush (-2), 2, []), (.istore_n 1, 1, []), (.iconst 0, 1, []), (.istore_n 2, 1, []), (.iconst 0, 1, []), (.istore_n 3, 1, [])]
  | 7 => [(.iload_n 3, 1, []), (.aload_n 0, 1, []), (.getfield 10, 3, []), (.getfield 41, 3, []), (.getfield 45, 3, []), (.if_icmp .ge 52, 3, [70]), (.aload_n 0, 1, []), (.getfield 10, 3, []), (.getfield 41, 3, []), (.getfield 65, 3, []), (.iload_n 3, 1, []), (.aaload, 1, []), (.getfield 161, 3, []), (.ifCond .le 28, 3, [64]), (.aload_n 0, 1, []), (.getfield 10, 3, []), (.iload_n 3, 1, []), (.invokevirtual 166, 3, []), (.istore 4, 2, []), (.iload_n 1, 1, []), (.ifCond .lt 9, 3, [59]), (.iload 4, 2, []), (.iload_n 2, 1, []), (.if_icmp .le 8, 3, [64])]
  | 59 => [(.iload_n 3, 1, []), (.istore_n 1, 1, []), (.iload 4, 2, []), (.istore_n 2, 1, [])]
  | 64 => [(.iinc 3 1, 3, []), (.goto (-60), 3, [7])]
  | 70 => [(.iload_n 1, 1, []), (.ireturn, 1, [])]
  | _ => []
theorem qX8_lost : ∀ pc, chk cX8_lost pc (kX8_lost pc) = true := by
  intro pc
  unfold kX8_lost
  split <;> first | decide +kernel | exact chk_nil
abbrev rmX8_lost : Room := { frames := 6, cells := 0, slots := 0, locals := 142 }
def aX8_lost (x : Nat) : Option CI := match x with
  | 166 => some ciX7_behind
  | _ => none
theorem aokX8_lost : ∀ x ci, aX8_lost x = some ci → CalOK RX8 rmX8_lost x ci := by
  intro x ci h
  unfold aX8_lost at h
  split at h
  · cases h; exact cal_V mX7_behind (by decide) rfl (List.forall_mem_cons.mpr ⟨(ws_mem (List.mem_of_getElem? (i := 555) (by decide +kernel)) (by decide +kernel)), List.forall_mem_cons.mpr ⟨(ws_mem (List.mem_of_getElem? (i := 556) (by decide +kernel)) (by decide +kernel)), List.forall_mem_cons.mpr ⟨(ws_mem (List.mem_of_getElem? (i := 557) (by decide +kernel)) (by decide +kernel)), List.forall_mem_cons.mpr ⟨(ws_mem (List.mem_of_getElem? (i := 54) (by decide +kernel)) (by decide +kernel)), List.forall_mem_cons.mpr ⟨(ws_mem (List.mem_of_getElem? (i := 558) (by decide +kernel)) (by decide +kernel)), fun _ h => absurd h List.not_mem_nil⟩⟩⟩⟩⟩) rfl (by unfold nice; decide +kernel) (by unfold rfits; decide) ⟨rfl, rfl⟩
  · cases h
theorem ocX8_lost_166 (f : Nat → Nat → Nat → Nat → (List MV → MS → (Option MV → MS → Prop) → Prop) → Prop) : oC aX8_lost 166 f = f 2 7 0 0 spX7_behind := propext Iff.rfl
theorem mdX8_lost : MD RX8 cX8_lost rmX8_lost kX8_lost fX8 aX8_lost zX8 uX8 := ⟨fokX8, zokX8, uokX8, aokX8_lost, qX8_lost⟩
set_option maxHeartbeats 1600000 in
set_option maxRecDepth 100000 in
theorem lpX8_o1 {post : Option MV → MS → Prop} {U : Pt → Prop} {N : Nat} {I L : Int → Int → Int} (hx : xOK I)
    (h : ∀ (I' : Int → Int → Int) (v : Int), frQ I I' → xOK I' → ((∃ i, 0 ≤ i ∧ i < I 3 1 ∧ 0 < I (5 + i) 4) → bestOK I') → lostV (fun i => I (5 + i) 4) (I' 43) (I 3 1) v → post (some (.inl v)) (N, PF, I', L)) :
    ∀ (m : Nat) (i v : Int) (I1 : Int → Int → Int) (t4 : Option MV), i + m = I 3 1 → 0 ≤ i → frQ I I1 → xOK I1 → ((∃ j, 0 ≤ j ∧ j < i ∧ 0 < I (5 + j) 4) → bestOK I1) → lostV (fun j => I (5 + j) 4) (I1 43) i v →
    Ok RX8 cX8_lost 5 rmX8_lost false none post U (7, [some (.inr (.inr (some 1))), some (.inl v), some (.inl (if v < 0 then 0 else I (5 + v) 4 - I1 43 v)), some (.inl i), t4], [], (N, PF, I1, L), 0, 0)
  | 0, i, v, I1, t4, hi, i0, h1, h2, h3, h4 => by
    have e31 : I1 3 1 = I 3 1 := h1.c3 _ _ (by omega) (by omega)
    have y2 := hx.1.2.1
    have hv := lostV_rng h4
    refine Ok.seg mdX8_lost [7] 20 ?_
    simp only [wp_nil, wp_cons, ↓stp, ↓lI, ↓lL, ↓lR, ↓lIn_0, ↓lIn_1, ↓lIn_2, ↓lIn_3, ↓lLn_0, ↓lLn_1, ↓lLn_2, ↓lLn_3, ↓lRn_0, ↓lRn_1, ↓lRn_2, ↓lRn_3, ↓pI, ↓pL, ↓pR, ↓pA, ↓pN, ↓pV, ↓fp, ↓tsw, ↓oS, ↓spMax, ↓spMin, ↓spAbs, ↓spObj, RI, RLg, b2i_lo, b2i_hi, getL, setL, ltL, killL, isLong, inl, cnd, br, tgt, rcv, rpl, mputI, mputL, mputP, fv, fr, mcat, mcs, entL, entA, rfit, nf_0, nf_1, nf_2, nf_3, nf2_0, nf2_1, b2i_0, b2i_1, RI_b2i, b2i_fit, List.append, List.length, List.replicate, List.cons_append, List.nil_append, List.length_cons, List.length_nil, List.replicate_succ, List.replicate_zero, List.tail_cons, reduceIte, if_true, if_false, ite_true, ite_false, Bool.false_eq_true, true_and, and_true, and_self, false_and, and_false, or_self, or_true, true_or, or_false, false_or, not_true_eq_false, not_false_eq_true, ne_eq, forall_const, implies_true, imp_self, true_implies, false_implies, Nat.reduceAdd, Nat.reduceSub, Nat.reduceMul, Nat.reduceDiv, Nat.reduceMod, Nat.reduceEqDiff, Nat.reduceLT, Nat.reduceLeDiff, Nat.reduceBEq, Nat.add_zero, Nat.zero_add, Nat.le_refl, Nat.not_lt_zero, Nat.succ_eq_add_one, Int.reduceNatCast, Int.cast_ofNat_Int, Int.reduceSub, Int.reduceMul, Int.reduceNeg, Int.reduceLE, Int.reduceLT, Int.reduceToNat, Int.reduceEq, Int.reduceNe, Int.reduceAdd, Option.some.injEq, kX8_lost, rmX8_lost, ↓ofX8_10, ↓ofX8_161, ↓ofX8_41, ↓ofX8_45, ↓ofX8_65, ↓ocX8_lost_166, ↓spX7_behind, e31, G_1, G_2, G_3, G_4, G_35, G_36, G_37, G_38, G_39, G_40, G_41, G_42, G_43, G_44, G_45, G_46, G_47, G_48, G_49, G_140, G_141, G_142, G_143, G_144, G_145, G_146, G_178, G_179, G_180, G_181, G_182, G_183, G_184, G_189, G_198, G_207, PF_1_0, PF_1_1, PF_1_2, PF_1_3, PF_2_0, PF_2_1, PF_2_3, PF_2_4, PF_2_5, PF_2_6, PF_2_7, PF_2_8, PF_2_9, PF_2_10, PF_2_11, PF_3_0, PF_35_0, PF_35_1, PF_35_2, PF_35_3, PF_40_0, PF_40_1, PF_40_2, PF_44_0, PF_44_1, PF_44_2, PF_145_0, PF_145_1, PF_179_0, PF_179_1, PF_179_2, PF_179_3, PF_179_8, PF_179_9, PF_179_10]
    refine ⟨by omega, by omega, fun q => h I1 v h1 h2 (fun ⟨j, a, b, c⟩ => h3 ⟨j, a, by omega, c⟩) ?_, fun q => by omega⟩
    rwa [show i = I 3 1 by omega] at h4
  | m + 1, i, v, I1, t4, hi, i0, h1, h2, h3, h4 => by
    have ih := lpX8_o1 (U := U) (post := post) hx h m (i + 1)
    have e31 : I1 3 1 = I 3 1 := h1.c3 _ _ (by omega) (by omega)
    have y2 := hx.1.2.1
    have hv := lostV_rng h4
    have hp := PF_st (i := i) (by omega) (by omega)
    have hg := G_st (a := 5 + i) (by omega) (by omega)
    have e4 : ∀ j, 0 ≤ j → j < 30 → I1 (5 + j) 4 = I (5 + j) 4 := fun j j0 j1 => h1.c3 _ _ (by omega) (by omega)
    have e4i := e4 i i0 (by omega)
    have hst := hx.1.2.2 i i0 (by omega)
    unfold stOK at hst
    have hx2 := h2
    obtain ⟨x1, x2, x3, x4, x5, x6, x7⟩ := hx2
    refine Ok.seg mdX8_lost [7] 60 ?_
    simp only [wp_nil, wp_cons, ↓stp, ↓lI, ↓lL, ↓lR, ↓lIn_0, ↓lIn_1, ↓lIn_2, ↓lIn_3, ↓lLn_0, ↓lLn_1, ↓lLn_2, ↓lLn_3, ↓lRn_0, ↓lRn_1, ↓lRn_2, ↓lRn_3, ↓pI, ↓pL, ↓pR, ↓pA, ↓pN, ↓pV, ↓fp, ↓tsw, ↓oS, ↓spMax, ↓spMin, ↓spAbs, ↓spObj, RI, RLg, b2i_lo, b2i_hi, getL, setL, ltL, killL, isLong, inl, cnd, br, tgt, rcv, rpl, mputI, mputL, mputP, fv, fr, mcat, mcs, entL, entA, rfit, nf_0, nf_1, nf_2, nf_3, nf2_0, nf2_1, b2i_0, b2i_1, RI_b2i, b2i_fit, List.append, List.length, List.replicate, List.cons_append, List.nil_append, List.length_cons, List.length_nil, List.replicate_succ, List.replicate_zero, List.tail_cons, reduceIte, if_true, if_false, ite_true, ite_false, Bool.false_eq_true, true_and, and_true, and_self, false_and, and_false, or_self, or_true, true_or, or_false, false_or, not_true_eq_false, not_false_eq_true, ne_eq, forall_const, implies_true, imp_self, true_implies, false_implies, Nat.reduceAdd, Nat.reduceSub, Nat.reduceMul, Nat.reduceDiv, Nat.reduceMod, Nat.reduceEqDiff, Nat.reduceLT, Nat.reduceLeDiff, Nat.reduceBEq, Nat.add_zero, Nat.zero_add, Nat.le_refl, Nat.not_lt_zero, Nat.succ_eq_add_one, Int.reduceNatCast, Int.cast_ofNat_Int, Int.reduceSub, Int.reduceMul, Int.reduceNeg, Int.reduceLE, Int.reduceLT, Int.reduceToNat, Int.reduceEq, Int.reduceNe, Int.reduceAdd, Option.some.injEq, kX8_lost, rmX8_lost, ↓ofX8_10, ↓ofX8_161, ↓ofX8_41, ↓ofX8_45, ↓ofX8_65, ↓ocX8_lost_166, ↓spX7_behind, e31, hp, hg, e4i, x1, x2, x4, G_1, G_2, G_3, G_4, G_35, G_36, G_37, G_38, G_39, G_40, G_41, G_42, G_43, G_44, G_45, G_46, G_47, G_48, G_49, G_140, G_141, G_142, G_143, G_144, G_145, G_146, G_178, G_179, G_180, G_181, G_182, G_183, G_184, G_189, G_198, G_207, PF_1_0, PF_1_1, PF_1_2, PF_1_3, PF_2_0, PF_2_1, PF_2_3, PF_2_4, PF_2_5, PF_2_6, PF_2_7, PF_2_8, PF_2_9, PF_2_10, PF_2_11, PF_3_0, PF_35_0, PF_35_1, PF_35_2, PF_35_3, PF_40_0, PF_40_1, PF_40_2, PF_44_0, PF_44_1, PF_44_2, PF_145_0, PF_145_1, PF_179_0, PF_179_1, PF_179_2, PF_179_3, PF_179_8, PF_179_9, PF_179_10]
    refine ⟨by omega, by omega, fun q => by omega, fun q => ⟨by omega, by omega, by omega, fun q2 => ?_, fun q2 => ?_⟩⟩
    · exact ih v I1 _ (by omega) (by omega) h1 h2 (fun ⟨j, a, b, c⟩ => by
        by_cases e : j = i
        · subst e; omega
        · exact h3 ⟨j, a, by omega, c⟩) (lostV_no h4 (.inl (by omega)))
    · refine ⟨by omega, by omega, fun I2 w k1 k2 k3 k4 k5 k6 => ?_⟩
      obtain ⟨k7, k8, k9⟩ := k3 (by omega)
      have hx2 := xOK_B h2 k1 k2
      have f2 : frQ I I2 := fun b k b0 b1 b2 b3 => (k1.q b k b0 b1 b2 b3).trans (h1 b k b0 b1 b2 b3)
      have same : ∀ j, 0 ≤ j → j < i → 0 ≤ v → I2 43 j = I1 43 j := fun j j0 j1 hv0 => by
        have hb1 : bestOK I1 := h3 (by
          rcases h4 with z | ⟨z1, z2, z3, _⟩
          · omega
          · exact ⟨v, z1, z2, z3⟩)
        exact (best_same h2.1 k1.c3 hb1 k8 j j0 (by omega)).2.2
      have h4' : lostV (fun j => I (5 + j) 4) (I2 43) i v := by
        rcases h4 with z | z
        · exact .inl z
        · exact lostV_cg (fun j j0 j1 => (same j j0 j1 z.1).symm) (.inr z)
      have ev : (if v < 0 then (0 : Int) else I (5 + v) 4 - I1 43 v) = (if v < 0 then 0 else I (5 + v) 4 - I2 43 v) := by
        by_cases z : v < 0
        · rw [if_pos z, if_pos z]
        · rw [if_neg z, if_neg z, same v (by omega) (by omega) (by omega)]
      have rv : -200000 ≤ (if v < 0 then (0 : Int) else I (5 + v) 4 - I2 43 v) ∧ (if v < 0 then (0 : Int) else I (5 + v) 4 - I2 43 v) ≤ 200000 := by
        by_cases z : v < 0
        · rw [if_pos z]; omega
        · rw [if_neg z]
          have a := hx.1.2.2 v (by omega) (by omega)
          unfold stOK at a
          have b := best_tm hx2.1 k8 (i := v) (by omega) (by rw [f2.c3 3 1 (by omega) (by omega)]; omega)
          omega
      rw [ev]
      have yes : (v < 0 ∨ I (5 + v) 4 - I2 43 v < I (5 + i) 4 - I2 43 i) → Ok RX8 cX8_lost 5 rmX8_lost false none post U (7, [some (.inr (.inr (some 1))), some (.inl i), some (.inl w), some (.inl (i + 1)), some (.inl w)], [], (N, PF, I2, L), 0, 0) := fun z => by
        have := ih i I2 (some (.inl w)) (by omega) (by omega) f2 hx2 (fun _ => k8) (lostV_yes i0 h4' (by omega) z)
        rwa [if_neg (by omega), ← k9] at this
      have no : ¬ v < 0 → I (5 + i) 4 - I2 43 i ≤ I (5 + v) 4 - I2 43 v → Ok RX8 cX8_lost 5 rmX8_lost false none post U (7, [some (.inr (.inr (some 1))), some (.inl v), some (.inl (if v < 0 then 0 else I (5 + v) 4 - I2 43 v)), some (.inl (i + 1)), some (.inl w)], [], (N, PF, I2, L), 0, 0) := fun z z2 => ih v I2 (some (.inl w)) (by omega) (by omega) f2 hx2 (fun _ => k8) (lostV_no h4' (.inr ⟨by omega, z2⟩))
      refine ⟨by omega, fun q3 => yes (.inl q3), fun q3 => ⟨by omega, by omega, fun q4 => ?_, fun q4 => ?_⟩⟩
      · rw [if_neg q3, k9] at q4
        exact no q3 q4
      · rw [if_neg q3, k9] at q4
        exact yes (.inr (by omega))
set_option maxRecDepth 100000 in
set_option maxHeartbeats 800000 in
theorem mX8_lost : MOK yX8_lost cX8_lost 5 (some .int) rmX8_lost ciX8_lost := by
  refine mok_of (ini := false) (by decide +kernel) (by decide) rfl rfl ?_
  intro σ As K hrc hl h
  obtain ⟨N, P, I, L⟩ := σ
  have h9 := pR_iff.mp h
  clear h
  obtain ⟨a, r, e9, h⟩ := h9
  subst e9
  have h9 := pN_iff.mp h
  clear h
  obtain ⟨e9, h⟩ := h9
  subst e9
  dsimp only at h
  obtain ⟨rfl, rfl, hx, h⟩ := h
  have y1 := hx.1.1
  refine ⟨Nat.le_of_ble_eq_true rfl, Ok.seg mdX8_lost [7] 10 ?_⟩
  simp only [wp_nil, wp_cons, ↓stp, ↓lI, ↓lL, ↓lR, ↓lIn_0, ↓lIn_1, ↓lIn_2, ↓lIn_3, ↓lLn_0, ↓lLn_1, ↓lLn_2, ↓lLn_3, ↓lRn_0, ↓lRn_1, ↓lRn_2, ↓lRn_3, ↓pI, ↓pL, ↓pR, ↓pA, ↓pN, ↓pV, ↓fp, ↓tsw, ↓oS, ↓spMax, ↓spMin, ↓spAbs, ↓spObj, RI, RLg, b2i_lo, b2i_hi, getL, setL, ltL, killL, isLong, inl, cnd, br, tgt, rcv, rpl, mputI, mputL, mputP, fv, fr, mcat, mcs, entL, entA, rfit, nf_0, nf_1, nf_2, nf_3, nf2_0, nf2_1, b2i_0, b2i_1, RI_b2i, b2i_fit, List.append, List.length, List.replicate, List.cons_append, List.nil_append, List.length_cons, List.length_nil, List.replicate_succ, List.replicate_zero, List.tail_cons, reduceIte, if_true, if_false, ite_true, ite_false, Bool.false_eq_true, true_and, and_true, and_self, false_and, and_false, or_self, or_true, true_or, or_false, false_or, not_true_eq_false, not_false_eq_true, ne_eq, forall_const, implies_true, imp_self, true_implies, false_implies, Nat.reduceAdd, Nat.reduceSub, Nat.reduceMul, Nat.reduceDiv, Nat.reduceMod, Nat.reduceEqDiff, Nat.reduceLT, Nat.reduceLeDiff, Nat.reduceBEq, Nat.add_zero, Nat.zero_add, Nat.le_refl, Nat.not_lt_zero, Nat.succ_eq_add_one, Int.reduceNatCast, Int.cast_ofNat_Int, Int.reduceSub, Int.reduceMul, Int.reduceNeg, Int.reduceLE, Int.reduceLT, Int.reduceToNat, Int.reduceEq, Int.reduceNe, Int.reduceAdd, Option.some.injEq, kX8_lost, rmX8_lost, ↓ofX8_10, ↓ofX8_161, ↓ofX8_41, ↓ofX8_45, ↓ofX8_65, ↓ocX8_lost_166, ↓spX7_behind, G_1, G_2, G_3, G_4, G_35, G_36, G_37, G_38, G_39, G_40, G_41, G_42, G_43, G_44, G_45, G_46, G_47, G_48, G_49, G_140, G_141, G_142, G_143, G_144, G_145, G_146, G_178, G_179, G_180, G_181, G_182, G_183, G_184, G_189, G_198, G_207, PF_1_0, PF_1_1, PF_1_2, PF_1_3, PF_2_0, PF_2_1, PF_2_3, PF_2_4, PF_2_5, PF_2_6, PF_2_7, PF_2_8, PF_2_9, PF_2_10, PF_2_11, PF_3_0, PF_35_0, PF_35_1, PF_35_2, PF_35_3, PF_40_0, PF_40_1, PF_40_2, PF_44_0, PF_44_1, PF_44_2, PF_145_0, PF_145_1, PF_179_0, PF_179_1, PF_179_2, PF_179_3, PF_179_8, PF_179_9, PF_179_10]
  exact lpX8_o1 hx (fun I' v a b c d => ⟨trivial, h I' v a b c d⟩) (I 3 1).toNat 0 (-2) I none (by omega) (by omega) frQ.rf hx (fun ⟨j, a, b, _⟩ => by omega) (.inl ⟨rfl, fun j a b => by omega⟩)
def spX8_tyre (As : List MV) (σ : MS) (K : Option MV → MS → Prop) : Prop := pR As fun a r => pI r fun t r => pI r fun g r => pI r fun n r => pN r (a = 1 ∧ σ.2.1 = PF ∧ RI t ∧ RI g ∧ RI n ∧ xOK σ.2.2.1 ∧ (¬ (0 ≤ t ∧ t ≤ 3 ∧ -20 ≤ g ∧ g ≤ 20 ∧ 1 ≤ n ∧ n ≤ 20) → K (some (.inl (-1))) σ) ∧ (0 ≤ t ∧ t ≤ 3 ∧ -20 ≤ g ∧ g ≤ 20 ∧ 1 ≤ n ∧ n ≤ 20 →
  ((σ.2.2.1 180 t = g ∧ σ.2.2.1 181 t = n) → K (some (.inl 0)) σ) ∧ (¬ (σ.2.2.1 180 t = g ∧ σ.2.2.1 181 t = n) → ∀ I' : Int → Int → Int, (∀ c k, ¬ (c = 180 ∧ k = t) → ¬ (c = 181 ∧ k = t) → ¬ (c = 179 ∧ k = 6) → I' c k = σ.2.2.1 c k) → xOK I' → I' 180 t = g → I' 181 t = n → K (some (.inl 1)) (σ.1, σ.2.1, I', σ.2.2.2))))
def ciX8_tyre : CI := (4, 8, 0, 0, spX8_tyre)
def kX8_tyre (pc : Nat) : List ME := match pc with
  | 0 => [(.iload_n 1, 1, []), (.iconst 0, 1, []), (.iconst 3, 1, []), (.invokestatic 37, 3, []), (.ifCond .eq 24, 3, [30]), (.iload_n 2, 1, []), (.bipush (-20), 2, []), (.bipush 20, 2, []), (.invokestatic 37, 3, []), (.ifCond .eq 13, 3, [30]), (.iload_n 3, 1, []), (.iconst 1, 1, []), (.bipush 20, 2, []), (.invokestatic 37, 3, []), (.ifCond .ne 5, 3, [32])]
  | 30 => [(.iconst (-1), 1, []), (.ireturn, 1, [])]
  | 32 => [(.aload_n 0, 1, []), (.getfield 26, 3, []), (.getfield 169, 3, []), (.iload_n 1, 1, []), (.iaload, 1, []), (.iload_n 2, 1, []), (.if_icmp .ne 18, 3, [60]), (.aload_n 0, 1, []), (.getfield 26, 3, []), (.getfield 172, 3, []), (.iload_n 1, 1, []), (.iaload, 1, []), (.iload_n 3, 1, []), (.if_icmp .ne 5, 3, [60]), (.iconst 0, 1, []), (.ireturn, 1, [])]
  | 60 => [(.aload_n 0, 1, []), (.getfield 26, 3, []), (.getfield 169, 3, []), (.iload_n 1, 1, []), (.iload_n 2, 1, []), (.iastore, 1, []), (.aload_n 0, 1, []), (.getfield 26, 3, []), (.getfield 172, 3, []), (.iload_n 1, 1, []), (.iload_n 3, 1, []), (.iastore, 1, []), (.aload_n 0, 1, []), (.getfield 26, 3, []), (.iconst 0, 1, []), (.putfield 90, 3, []), (.iconst 1, 1, []), (.ireturn, 1, [])]
  | _ => []
theorem qX8_tyre : ∀ pc, chk cX8_tyre pc (kX8_tyre pc) = true := by
  intro pc
  unfold kX8_tyre
  split <;> first | decide +kernel | exact chk_nil
abbrev rmX8_tyre : Room := { frames := 1, cells := 0, slots := 0, locals := 22 }
def aX8_tyre (x : Nat) : Option CI := match x with
  | 37 => some ciX8_within
  | _ => none
theorem aokX8_tyre : ∀ x ci, aX8_tyre x = some ci → CalOK RX8 rmX8_tyre x ci := by
  intro x ci h
  unfold aX8_tyre at h
  split at h
  · cases h; exact cal_S mX8_within rfl (List.forall_mem_cons.mpr ⟨(ws_mem (List.mem_of_getElem? (i := 363) (by decide +kernel)) (by decide +kernel)), List.forall_mem_cons.mpr ⟨(ws_mem (List.mem_of_getElem? (i := 364) (by decide +kernel)) (by decide +kernel)), List.forall_mem_cons.mpr ⟨(ws_mem (List.mem_of_getElem? (i := 53) (by decide +kernel)) (by decide +kernel)), List.forall_mem_cons.mpr ⟨(ws_mem (List.mem_of_getElem? (i := 365) (by decide +kernel)) (by decide +kernel)), fun _ h => absurd h List.not_mem_nil⟩⟩⟩⟩) rfl (by unfold nice; decide +kernel) (by unfold rfits; decide) ⟨rfl, rfl⟩
  · cases h
theorem ocX8_tyre_37 (f : Nat → Nat → Nat → Nat → (List MV → MS → (Option MV → MS → Prop) → Prop) → Prop) : oC aX8_tyre 37 f = f 3 10 0 0 spX8_within := propext Iff.rfl
theorem mdX8_tyre : MD RX8 cX8_tyre rmX8_tyre kX8_tyre fX8 aX8_tyre zX8 uX8 := ⟨fokX8, zokX8, uokX8, aokX8_tyre, qX8_tyre⟩
/-- with the race's numbers changed and its plan forgotten -/
theorem xOK_R {I J : Int → Int → Int} (h : xOK I) (hf : ∀ c k, c ≠ 180 → c ≠ 181 → ¬ (c = 179 ∧ (k = 5 ∨ k = 6)) → J c k = I c k) (h6 : J 179 6 = 0) (hr : raceR J) : xOK J := by
  obtain ⟨x1, x2, x3, x4, x5, x6, x7⟩ := h
  have lo : c3 I J := fun c k c0 c1 => hf c k (by omega) (by omega) (by omega)
  exact ⟨tOK_c3 lo x1, carOK_c3 lo x2, capOK_c3 lo x1.2.1 (fun k => hf _ _ (by omega) (by omega) (by omega)) x3, bst_c3 lo x1.2.1 (hf _ _ (by omega) (by omega) (by omega)) (fun b k b0 b1 => hf _ _ (by omega) (by omega) (by omega)) x4, ⟨hr, .inl h6, fun t t0 t1 => by rw [hf _ _ (by omega) (by omega) (by omega)]; exact x5.2.2 t t0 t1⟩, fun k k0 k1 => by rw [hf _ _ (by omega) (by omega) (by omega)]; exact x6 k k0 k1, fun b hb => shOK_cg (fun c k c0 _ => hf _ _ (by obtain ⟨d, d0, d1, rfl⟩ := hb; omega) (by obtain ⟨d, d0, d1, rfl⟩ := hb; omega) (by obtain ⟨d, d0, d1, rfl⟩ := hb; omega)) (x7 b hb)⟩
set_option maxRecDepth 100000 in
set_option maxHeartbeats 800000 in
theorem mX8_tyre : MOK yX8_tyre cX8_tyre 4 (some .int) rmX8_tyre ciX8_tyre := by
  refine mok_of (ini := false) (by decide +kernel) (by decide) rfl rfl ?_
  intro σ As K hrc hl h
  obtain ⟨N, P, I, L⟩ := σ
  have h9 := pR_iff.mp h
  clear h
  obtain ⟨a, r, e9, h⟩ := h9
  subst e9
  have h9 := pI_iff.mp h
  clear h
  obtain ⟨t, r, e9, h⟩ := h9
  subst e9
  have h9 := pI_iff.mp h
  clear h
  obtain ⟨g, r, e9, h⟩ := h9
  subst e9
  have h9 := pI_iff.mp h
  clear h
  obtain ⟨n, r, e9, h⟩ := h9
  subst e9
  have h9 := pN_iff.mp h
  clear h
  obtain ⟨e9, h⟩ := h9
  subst e9
  dsimp only at h
  obtain ⟨rfl, rfl, ht, hg, hn, hx, h1, h2⟩ := h
  unfold RI at ht hg hn
  have hx' := hx
  obtain ⟨x1, x2, x3, x4, x5, x6, x7⟩ := hx'
  by_cases q : 0 ≤ t ∧ t ≤ 3
  · have hrt := x5.1.1 t q.1 q.2
    refine ⟨Nat.le_of_ble_eq_true rfl, Ok.seg mdX8_tyre [] 60 ?_⟩
    simp only [wp_nil, wp_cons, ↓stp, ↓lI, ↓lL, ↓lR, ↓lIn_0, ↓lIn_1, ↓lIn_2, ↓lIn_3, ↓lLn_0, ↓lLn_1, ↓lLn_2, ↓lLn_3, ↓lRn_0, ↓lRn_1, ↓lRn_2, ↓lRn_3, ↓pI, ↓pL, ↓pR, ↓pA, ↓pN, ↓pV, ↓fp, ↓tsw, ↓oS, ↓spMax, ↓spMin, ↓spAbs, ↓spObj, RI, RLg, b2i_lo, b2i_hi, getL, setL, ltL, killL, isLong, inl, cnd, br, tgt, rcv, rpl, mputI, mputL, mputP, fv, fr, mcat, mcs, entL, entA, rfit, nf_0, nf_1, nf_2, nf_3, nf2_0, nf2_1, b2i_0, b2i_1, RI_b2i, b2i_fit, List.append, List.length, List.replicate, List.cons_append, List.nil_append, List.length_cons, List.length_nil, List.replicate_succ, List.replicate_zero, List.tail_cons, reduceIte, if_true, if_false, ite_true, ite_false, Bool.false_eq_true, true_and, and_true, and_self, false_and, and_false, or_self, or_true, true_or, or_false, false_or, not_true_eq_false, not_false_eq_true, ne_eq, forall_const, implies_true, imp_self, true_implies, false_implies, Nat.reduceAdd, Nat.reduceSub, Nat.reduceMul, Nat.reduceDiv, Nat.reduceMod, Nat.reduceEqDiff, Nat.reduceLT, Nat.reduceLeDiff, Nat.reduceBEq, Nat.add_zero, Nat.zero_add, Nat.le_refl, Nat.not_lt_zero, Nat.succ_eq_add_one, Int.reduceNatCast, Int.cast_ofNat_Int, Int.reduceSub, Int.reduceMul, Int.reduceNeg, Int.reduceLE, Int.reduceLT, Int.reduceToNat, Int.reduceEq, Int.reduceNe, Int.reduceAdd, Option.some.injEq, kX8_tyre, rmX8_tyre, ↓ofX8_169, ↓ofX8_172, ↓ofX8_26, ↓ofX8_90, ↓ocX8_tyre_37, ↓spX8_within, q, G_1, G_2, G_3, G_4, G_35, G_36, G_37, G_38, G_39, G_40, G_41, G_42, G_43, G_44, G_45, G_46, G_47, G_48, G_49, G_140, G_141, G_142, G_143, G_144, G_145, G_146, G_178, G_179, G_180, G_181, G_182, G_183, G_184, G_189, G_198, G_207, PF_1_0, PF_1_1, PF_1_2, PF_1_3, PF_2_0, PF_2_1, PF_2_3, PF_2_4, PF_2_5, PF_2_6, PF_2_7, PF_2_8, PF_2_9, PF_2_10, PF_2_11, PF_3_0, PF_35_0, PF_35_1, PF_35_2, PF_35_3, PF_40_0, PF_40_1, PF_40_2, PF_44_0, PF_44_1, PF_44_2, PF_145_0, PF_145_1, PF_179_0, PF_179_1, PF_179_2, PF_179_3, PF_179_8, PF_179_9, PF_179_10]
    refine ⟨by omega, by omega, fun q1 => h1 (by omega), fun q1 => ⟨by omega, fun q2 => ?_, fun q2 => h1 (by omega)⟩⟩
    obtain ⟨h3, h4⟩ := h2 (by omega)
    have go : ¬ (I 180 t = g ∧ I 181 t = n) → K (some (.inl 1)) (N, PF, upI (upI (upI I 180 t g) 181 t n) 179 6 0, L) := fun e => by
      have ue : ∀ c k, ¬ (c = 180 ∧ k = t) → ¬ (c = 181 ∧ k = t) → ¬ (c = 179 ∧ k = 6) → upI (upI (upI I 180 t g) 181 t n) 179 6 0 c k = I c k := fun c k c1 c2 c3 => (if_neg c3).trans ((if_neg c2).trans (if_neg c1))
      have e1 : upI (upI (upI I 180 t g) 181 t n) 179 6 0 180 t = g := (if_neg (by omega)).trans ((if_neg (by omega)).trans upI_same)
      have e2 : upI (upI (upI I 180 t g) 181 t n) 179 6 0 181 t = n := (if_neg (by omega)).trans upI_same
      refine h4 e _ ue (xOK_R hx (fun c k c1 c2 c3 => ue c k (by omega) (by omega) (by omega)) upI_same ?_) e1 e2
      unfold raceR
      rw [ue 179 4 (by omega) (by omega) (by omega), ue 179 5 (by omega) (by omega) (by omega)]
      refine ⟨fun t' a b => ?_, x5.1.2⟩
      by_cases z : t' = t
      · subst z; rw [e1, e2]; omega
      · rw [ue 180 t' (by omega) (by omega) (by omega), ue 181 t' (by omega) (by omega) (by omega)]; exact x5.1.1 t' a b
    refine ⟨by omega, by omega, by omega, fun z => ?_, fun z => ?_⟩
    · repeat refine ⟨by omega, ?_⟩
      exact go (fun y => z y.1)
    · refine ⟨by omega, by omega, by omega, fun z2 => ?_, fun z2 => ?_⟩
      · repeat refine ⟨by omega, ?_⟩
        exact go (fun y => z2 y.2)
      · exact h3 ⟨by omega, by omega⟩
  · refine ⟨Nat.le_of_ble_eq_true rfl, Ok.seg mdX8_tyre [] 60 ?_⟩
    simp only [wp_nil, wp_cons, ↓stp, ↓lI, ↓lL, ↓lR, ↓lIn_0, ↓lIn_1, ↓lIn_2, ↓lIn_3, ↓lLn_0, ↓lLn_1, ↓lLn_2, ↓lLn_3, ↓lRn_0, ↓lRn_1, ↓lRn_2, ↓lRn_3, ↓pI, ↓pL, ↓pR, ↓pA, ↓pN, ↓pV, ↓fp, ↓tsw, ↓oS, ↓spMax, ↓spMin, ↓spAbs, ↓spObj, RI, RLg, b2i_lo, b2i_hi, getL, setL, ltL, killL, isLong, inl, cnd, br, tgt, rcv, rpl, mputI, mputL, mputP, fv, fr, mcat, mcs, entL, entA, rfit, nf_0, nf_1, nf_2, nf_3, nf2_0, nf2_1, b2i_0, b2i_1, RI_b2i, b2i_fit, List.append, List.length, List.replicate, List.cons_append, List.nil_append, List.length_cons, List.length_nil, List.replicate_succ, List.replicate_zero, List.tail_cons, reduceIte, if_true, if_false, ite_true, ite_false, Bool.false_eq_true, true_and, and_true, and_self, false_and, and_false, or_self, or_true, true_or, or_false, false_or, not_true_eq_false, not_false_eq_true, ne_eq, forall_const, implies_true, imp_self, true_implies, false_implies, Nat.reduceAdd, Nat.reduceSub, Nat.reduceMul, Nat.reduceDiv, Nat.reduceMod, Nat.reduceEqDiff, Nat.reduceLT, Nat.reduceLeDiff, Nat.reduceBEq, Nat.add_zero, Nat.zero_add, Nat.le_refl, Nat.not_lt_zero, Nat.succ_eq_add_one, Int.reduceNatCast, Int.cast_ofNat_Int, Int.reduceSub, Int.reduceMul, Int.reduceNeg, Int.reduceLE, Int.reduceLT, Int.reduceToNat, Int.reduceEq, Int.reduceNe, Int.reduceAdd, Option.some.injEq, kX8_tyre, rmX8_tyre, ↓ofX8_169, ↓ofX8_172, ↓ofX8_26, ↓ofX8_90, ↓ocX8_tyre_37, ↓spX8_within, q, G_1, G_2, G_3, G_4, G_35, G_36, G_37, G_38, G_39, G_40, G_41, G_42, G_43, G_44, G_45, G_46, G_47, G_48, G_49, G_140, G_141, G_142, G_143, G_144, G_145, G_146, G_178, G_179, G_180, G_181, G_182, G_183, G_184, G_189, G_198, G_207, PF_1_0, PF_1_1, PF_1_2, PF_1_3, PF_2_0, PF_2_1, PF_2_3, PF_2_4, PF_2_5, PF_2_6, PF_2_7, PF_2_8, PF_2_9, PF_2_10, PF_2_11, PF_3_0, PF_35_0, PF_35_1, PF_35_2, PF_35_3, PF_40_0, PF_40_1, PF_40_2, PF_44_0, PF_44_1, PF_44_2, PF_145_0, PF_145_1, PF_179_0, PF_179_1, PF_179_2, PF_179_3, PF_179_8, PF_179_9, PF_179_10]
    exact ⟨by omega, h1 (by omega)⟩
def spX8_two (As : List MV) (σ : MS) (K : Option MV → MS → Prop) : Prop := pR As fun a r => pI r fun w r => pN r (a = 1 ∧ σ.2.1 = PF ∧ (w = 0 ∨ w = 1) ∧ xOK σ.2.2.1 ∧ ∀ I' : Int → Int → Int, (∀ c k, ¬ (c = 179 ∧ k = 5) → ¬ (c = 179 ∧ k = 6) → I' c k = σ.2.2.1 c k) → xOK I' → I' 179 5 = w → K (some (.inl (σ.2.2.1 179 5))) (σ.1, σ.2.1, I', σ.2.2.2))
def ciX8_two : CI := (2, 8, 0, 0, spX8_two)
def kX8_two (pc : Nat) : List ME := match pc with
  | 0 => [(.aload_n 0, 1, []), (.getfield 26, 3, []), (.getfield 175, 3, []), (.istore_n 2, 1, []), (.aload_n 0, 1, []), (.getfield 26, 3, []), (.iload_n 1, 1, []), (.putfield 175, 3, []), (.aload_n 0, 1, []), (.getfield 26, 3, []), (.iconst 0, 1, []), (.putfield 90, 3, []), (.iload_n 2, 1, []), (.ireturn, 1, [])]
  | _ => []
theorem qX8_two : ∀ pc, chk cX8_two pc (kX8_two pc) = true := by
  intro pc
  unfold kX8_two
  split <;> first | decide +kernel | exact chk_nil
abbrev rmX8_two : Room := { frames := 0, cells := 0, slots := 0, locals := 0 }
def aX8_two (_ : Nat) : Option CI := none
theorem aokX8_two : ∀ x ci, aX8_two x = some ci → CalOK RX8 rmX8_two x ci := fun _ _ h => by cases h
theorem mdX8_two : MD RX8 cX8_two rmX8_two kX8_two fX8 aX8_two zX8 uX8 := ⟨fokX8, zokX8, uokX8, aokX8_two, qX8_two⟩
set_option maxRecDepth 100000 in
set_option maxHeartbeats 800000 in
theorem mX8_two : MOK yX8_two cX8_two 3 (some .boolean) rmX8_two ciX8_two := by
  refine mok_of (ini := false) (by decide +kernel) (by decide) rfl rfl ?_
  intro σ As K hrc hl h
  obtain ⟨N, P, I, L⟩ := σ
  have h9 := pR_iff.mp h
  clear h
  obtain ⟨a, r, e9, h⟩ := h9
  subst e9
  have h9 := pI_iff.mp h
  clear h
  obtain ⟨w, r, e9, h⟩ := h9
  subst e9
  have h9 := pN_iff.mp h
  clear h
  obtain ⟨e9, h⟩ := h9
  subst e9
  dsimp only at h
  obtain ⟨rfl, rfl, hw, hx, h1⟩ := h
  have hx' := hx
  obtain ⟨x1, x2, x3, x4, x5, x6, x7⟩ := hx'
  have hb := x5.1.2.2
  refine ⟨Nat.le_of_ble_eq_true rfl, Ok.seg mdX8_two [] 60 ?_⟩
  simp only [wp_nil, wp_cons, ↓stp, ↓lI, ↓lL, ↓lR, ↓lIn_0, ↓lIn_1, ↓lIn_2, ↓lIn_3, ↓lLn_0, ↓lLn_1, ↓lLn_2, ↓lLn_3, ↓lRn_0, ↓lRn_1, ↓lRn_2, ↓lRn_3, ↓pI, ↓pL, ↓pR, ↓pA, ↓pN, ↓pV, ↓fp, ↓tsw, ↓oS, ↓spMax, ↓spMin, ↓spAbs, ↓spObj, RI, RLg, b2i_lo, b2i_hi, getL, setL, ltL, killL, isLong, inl, cnd, br, tgt, rcv, rpl, mputI, mputL, mputP, fv, fr, mcat, mcs, entL, entA, rfit, nf_0, nf_1, nf_2, nf_3, nf2_0, nf2_1, b2i_0, b2i_1, RI_b2i, b2i_fit, List.append, List.length, List.replicate, List.cons_append, List.nil_append, List.length_cons, List.length_nil, List.replicate_succ, List.replicate_zero, List.tail_cons, reduceIte, if_true, if_false, ite_true, ite_false, Bool.false_eq_true, true_and, and_true, and_self, false_and, and_false, or_self, or_true, true_or, or_false, false_or, not_true_eq_false, not_false_eq_true, ne_eq, forall_const, implies_true, imp_self, true_implies, false_implies, Nat.reduceAdd, Nat.reduceSub, Nat.reduceMul, Nat.reduceDiv, Nat.reduceMod, Nat.reduceEqDiff, Nat.reduceLT, Nat.reduceLeDiff, Nat.reduceBEq, Nat.add_zero, Nat.zero_add, Nat.le_refl, Nat.not_lt_zero, Nat.succ_eq_add_one, Int.reduceNatCast, Int.cast_ofNat_Int, Int.reduceSub, Int.reduceMul, Int.reduceNeg, Int.reduceLE, Int.reduceLT, Int.reduceToNat, Int.reduceEq, Int.reduceNe, Int.reduceAdd, Option.some.injEq, kX8_two, rmX8_two, ↓ofX8_175, ↓ofX8_26, ↓ofX8_90, hw, hb, G_1, G_2, G_3, G_4, G_35, G_36, G_37, G_38, G_39, G_40, G_41, G_42, G_43, G_44, G_45, G_46, G_47, G_48, G_49, G_140, G_141, G_142, G_143, G_144, G_145, G_146, G_178, G_179, G_180, G_181, G_182, G_183, G_184, G_189, G_198, G_207, PF_1_0, PF_1_1, PF_1_2, PF_1_3, PF_2_0, PF_2_1, PF_2_3, PF_2_4, PF_2_5, PF_2_6, PF_2_7, PF_2_8, PF_2_9, PF_2_10, PF_2_11, PF_3_0, PF_35_0, PF_35_1, PF_35_2, PF_35_3, PF_40_0, PF_40_1, PF_40_2, PF_44_0, PF_44_1, PF_44_2, PF_145_0, PF_145_1, PF_179_0, PF_179_1, PF_179_2, PF_179_3, PF_179_8, PF_179_9, PF_179_10]
  have ue : ∀ c k, ¬ (c = 179 ∧ k = 5) → ¬ (c = 179 ∧ k = 6) → upI (upI I 179 5 w) 179 6 0 c k = I c k := fun c k c1 c2 => (if_neg c2).trans (if_neg c1)
  have e5 : upI (upI I 179 5 w) 179 6 0 179 5 = w := (if_neg (by omega)).trans upI_same
  refine h1 _ ue (xOK_R hx (fun c k c1 c2 c3 => ue c k (by omega) (by omega)) upI_same ?_) e5
  unfold raceR
  rw [ue 179 4 (by omega) (by omega), e5]
  exact ⟨fun t' a b => by rw [ue 180 t' (by omega) (by omega), ue 181 t' (by omega) (by omega)]; exact x5.1.1 t' a b, x5.1.2.1, hw⟩
/-- the plan of n laps, with its ranges -/
theorem PlanOK_rng {lp : Int → Int → Int} {sp : Int} {mu : Prop} {n : Int} {K D : Int → Int} {x : Int} (h : PlanOK lp sp mu n K D x) : ∀ j, 0 ≤ j → j < n → (0 ≤ K j ∧ K j ≤ 3) ∧ 0 ≤ D j ∧ D j ≤ j := by
  obtain ⟨W, a, b, c, d⟩ := h
  have : ∀ m : Nat, (m : Int) < n → (0 ≤ K m ∧ K m ≤ 3) ∧ 0 ≤ D m ∧ D m ≤ m := fun m => by
    induction m with
    | zero => intro hm; exact ⟨c.1, by rw [show ((0 : Nat) : Int) = 0 by rfl, a]; omega⟩
    | succ m ih =>
      intro hm
      have ih := ih (by omega)
      have q := d m (by omega) (by omega)
      rw [show ((m + 1 : Nat) : Int) = (m : Int) + 1 by omega]
      rcases q with ⟨_, e1, e2, _⟩ | ⟨_, e1, _, _, e2, _⟩
      · rw [e1, e2]; exact ⟨ih.1, by omega⟩
      · exact ⟨e1, by rw [e2]; omega⟩
  intro j j0 j1
  have := this j.toNat (by omega)
  rwa [Int.toNat_of_nonneg j0] at this
/-- the plan of n laps stands -/
def planI (I : Int → Int → Int) (n : Int) : Prop := PlanOK (lpf I) (I 179 4) (mus I n) n (I 182) (I 183) (I 179 7)
theorem planI_of {I : Int → Int → Int} {n : Int} (h : raceOK I) (h6 : I 179 6 = n) (hn : 1 ≤ n) : planI I n := by
  rcases h.2.1 with q | q
  · omega
  · have := q.2; rw [h6] at this; exact this
def spX8_plan (As : List MV) (σ : MS) (K : Option MV → MS → Prop) : Prop := pR As fun a r => pI r fun n r => pI r fun l r => pI r fun w r => pN r (a = 1 ∧ σ.2.1 = PF ∧ RI n ∧ RI l ∧ RI w ∧ xOK σ.2.2.1 ∧ (¬ (1 ≤ n ∧ n ≤ 40 ∧ 0 ≤ l ∧ l < n ∧ 0 ≤ w ∧ w ≤ 2) → K (some (.inl (-1))) σ) ∧ (1 ≤ n ∧ n ≤ 40 ∧ 0 ≤ l ∧ l < n ∧ 0 ≤ w ∧ w ≤ 2 → ∀ I' : Int → Int → Int, frQ σ.2.2.1 I' → xOK I' → planI I' n → K (some (.inl (if w = 0 then I' 182 l else if w = 1 then (if 0 < l ∧ I' 183 l = 0 then 1 else 0) else I' 183 l))) (σ.1, σ.2.1, I', σ.2.2.2)))
def ciX8_plan : CI := (4, 8, 0, 0, spX8_plan)
def kX8_plan (pc : Nat) : List ME := match pc with
  | 0 => [(.iload_n 1, 1, []), (.iconst 1, 1, []), (.bipush 40, 2, []), (.invokestatic 37, 3, []), (.ifCond .eq 23, 3, [30]), (.iload_n 2, 1, []), (.iconst 0, 1, []), (.iload_n 1, 1, []), (.iconst 1, 1, []), (.isub, 1, []), (.invokestatic 37, 3, []), (.ifCond .eq 12, 3, [30]), (.iload_n 3, 1, []), (.iconst 0, 1, []), (.iconst 2, 1, []), (.invokestatic 37, 3, []), (.ifCond .ne 5, 3, [32])]
  | 30 => [(.iconst (-1), 1, []), (.ireturn, 1, [])]
  | 32 => [(.aload_n 0, 1, []), (.getfield 26, 3, []), (.aload_n 0, 1, []), (.getfield 10, 3, []), (.iload_n 1, 1, []), (.invokevirtual 188, 3, []), (.iload_n 3, 1, []), (.ifCond .ne 13, 3, [58]), (.aload_n 0, 1, []), (.getfield 26, 3, []), (.getfield 193, 3, []), (.iload_n 2, 1, []), (.iaload, 1, []), (.ireturn, 1, [])]
  | 58 => [(.iload_n 3, 1, []), (.iconst 1, 1, []), (.if_icmp .ne 20, 3, [80]), (.aload_n 0, 1, []), (.getfield 26, 3, []), (.iload_n 2, 1, []), (.invokevirtual 196, 3, []), (.ifCond .eq 7, 3, [78]), (.iconst 1, 1, []), (.goto 4, 3, [79])]
  | 78 => [(.iconst 0, 1, [])]
  | 79 => [(.ireturn, 1, [])]
  | 80 => [(.aload_n 0, 1, []), (.getfield 26, 3, []), (.getfield 199, 3, []), (.iload_n 2, 1, []), (.iaload, 1, []), (.ireturn, 1, [])]
  | _ => []
theorem qX8_plan : ∀ pc, chk cX8_plan pc (kX8_plan pc) = true := by
  intro pc
  unfold kX8_plan
  split <;> first | decide +kernel | exact chk_nil
abbrev rmX8_plan : Room := { frames := 6, cells := 0, slots := 0, locals := 145 }
def aX8_plan (x : Nat) : Option CI := match x with
  | 37 => some ciX8_within
  | 188 => some ciX1_prepare
  | 196 => some ciX1_stopsAhead
  | _ => none
theorem aokX8_plan : ∀ x ci, aX8_plan x = some ci → CalOK RX8 rmX8_plan x ci := by
  intro x ci h
  unfold aX8_plan at h
  split at h
  · cases h; exact cal_S mX8_within rfl (List.forall_mem_cons.mpr ⟨(ws_mem (List.mem_of_getElem? (i := 363) (by decide +kernel)) (by decide +kernel)), List.forall_mem_cons.mpr ⟨(ws_mem (List.mem_of_getElem? (i := 364) (by decide +kernel)) (by decide +kernel)), List.forall_mem_cons.mpr ⟨(ws_mem (List.mem_of_getElem? (i := 53) (by decide +kernel)) (by decide +kernel)), List.forall_mem_cons.mpr ⟨(ws_mem (List.mem_of_getElem? (i := 365) (by decide +kernel)) (by decide +kernel)), fun _ h => absurd h List.not_mem_nil⟩⟩⟩⟩) rfl (by unfold nice; decide +kernel) (by unfold rfits; decide) ⟨rfl, rfl⟩
  · cases h; exact cal_V mX1_prepare (by decide) rfl (List.forall_mem_cons.mpr ⟨(ws_mem (List.mem_of_getElem? (i := 572) (by decide +kernel)) (by decide +kernel)), List.forall_mem_cons.mpr ⟨(ws_mem (List.mem_of_getElem? (i := 573) (by decide +kernel)) (by decide +kernel)), List.forall_mem_cons.mpr ⟨(ws_mem (List.mem_of_getElem? (i := 574) (by decide +kernel)) (by decide +kernel)), List.forall_mem_cons.mpr ⟨(ws_mem (List.mem_of_getElem? (i := 62) (by decide +kernel)) (by decide +kernel)), List.forall_mem_cons.mpr ⟨(ws_mem (List.mem_of_getElem? (i := 575) (by decide +kernel)) (by decide +kernel)), fun _ h => absurd h List.not_mem_nil⟩⟩⟩⟩⟩) rfl (by unfold nice; decide +kernel) (by unfold rfits; decide) ⟨rfl, rfl⟩
  · cases h; exact cal_V mX1_stopsAhead (by decide) rfl (List.forall_mem_cons.mpr ⟨(ws_mem (List.mem_of_getElem? (i := 614) (by decide +kernel)) (by decide +kernel)), List.forall_mem_cons.mpr ⟨(ws_mem (List.mem_of_getElem? (i := 615) (by decide +kernel)) (by decide +kernel)), List.forall_mem_cons.mpr ⟨(ws_mem (List.mem_of_getElem? (i := 616) (by decide +kernel)) (by decide +kernel)), List.forall_mem_cons.mpr ⟨(ws_mem (List.mem_of_getElem? (i := 62) (by decide +kernel)) (by decide +kernel)), List.forall_mem_cons.mpr ⟨(ws_mem (List.mem_of_getElem? (i := 617) (by decide +kernel)) (by decide +kernel)), fun _ h => absurd h List.not_mem_nil⟩⟩⟩⟩⟩) rfl (by unfold nice; decide +kernel) (by unfold rfits; decide) ⟨rfl, rfl⟩
  · cases h
theorem ocX8_plan_37 (f : Nat → Nat → Nat → Nat → (List MV → MS → (Option MV → MS → Prop) → Prop) → Prop) : oC aX8_plan 37 f = f 3 10 0 0 spX8_within := propext Iff.rfl
theorem ocX8_plan_188 (f : Nat → Nat → Nat → Nat → (List MV → MS → (Option MV → MS → Prop) → Prop) → Prop) : oC aX8_plan 188 f = f 3 1 0 0 spX1_prepare := propext Iff.rfl
theorem ocX8_plan_196 (f : Nat → Nat → Nat → Nat → (List MV → MS → (Option MV → MS → Prop) → Prop) → Prop) : oC aX8_plan 196 f = f 2 1 0 0 spX1_stopsAhead := propext Iff.rfl
theorem mdX8_plan : MD RX8 cX8_plan rmX8_plan kX8_plan fX8 aX8_plan zX8 uX8 := ⟨fokX8, zokX8, uokX8, aokX8_plan, qX8_plan⟩
set_option maxRecDepth 100000 in
set_option maxHeartbeats 800000 in
theorem mX8_plan : MOK yX8_plan cX8_plan 4 (some .int) rmX8_plan ciX8_plan := by
  refine mok_of (ini := false) (by decide +kernel) (by decide) rfl rfl ?_
  intro σ As K hrc hl h
  obtain ⟨N, P, I, L⟩ := σ
  have h9 := pR_iff.mp h
  clear h
  obtain ⟨a, r, e9, h⟩ := h9
  subst e9
  have h9 := pI_iff.mp h
  clear h
  obtain ⟨n, r, e9, h⟩ := h9
  subst e9
  have h9 := pI_iff.mp h
  clear h
  obtain ⟨l, r, e9, h⟩ := h9
  subst e9
  have h9 := pI_iff.mp h
  clear h
  obtain ⟨w, r, e9, h⟩ := h9
  subst e9
  have h9 := pN_iff.mp h
  clear h
  obtain ⟨e9, h⟩ := h9
  subst e9
  dsimp only at h
  obtain ⟨rfl, rfl, hn, hl2, hw, hx, h1, h2⟩ := h
  unfold RI at hn hl2 hw
  have hx' := hx
  obtain ⟨x1, x2, x3, x4, x5, x6, x7⟩ := hx'
  refine ⟨Nat.le_of_ble_eq_true rfl, Ok.seg mdX8_plan [] 60 ?_⟩
  simp only [wp_nil, wp_cons, ↓stp, ↓lI, ↓lL, ↓lR, ↓lIn_0, ↓lIn_1, ↓lIn_2, ↓lIn_3, ↓lLn_0, ↓lLn_1, ↓lLn_2, ↓lLn_3, ↓lRn_0, ↓lRn_1, ↓lRn_2, ↓lRn_3, ↓pI, ↓pL, ↓pR, ↓pA, ↓pN, ↓pV, ↓fp, ↓tsw, ↓oS, ↓spMax, ↓spMin, ↓spAbs, ↓spObj, RI, RLg, b2i_lo, b2i_hi, getL, setL, ltL, killL, isLong, inl, cnd, br, tgt, rcv, rpl, mputI, mputL, mputP, fv, fr, mcat, mcs, entL, entA, rfit, nf_0, nf_1, nf_2, nf_3, nf2_0, nf2_1, b2i_0, b2i_1, RI_b2i, b2i_fit, List.append, List.length, List.replicate, List.cons_append, List.nil_append, List.length_cons, List.length_nil, List.replicate_succ, List.replicate_zero, List.tail_cons, reduceIte, if_true, if_false, ite_true, ite_false, Bool.false_eq_true, true_and, and_true, and_self, false_and, and_false, or_self, or_true, true_or, or_false, false_or, not_true_eq_false, not_false_eq_true, ne_eq, forall_const, implies_true, imp_self, true_implies, false_implies, Nat.reduceAdd, Nat.reduceSub, Nat.reduceMul, Nat.reduceDiv, Nat.reduceMod, Nat.reduceEqDiff, Nat.reduceLT, Nat.reduceLeDiff, Nat.reduceBEq, Nat.add_zero, Nat.zero_add, Nat.le_refl, Nat.not_lt_zero, Nat.succ_eq_add_one, Int.reduceNatCast, Int.cast_ofNat_Int, Int.reduceSub, Int.reduceMul, Int.reduceNeg, Int.reduceLE, Int.reduceLT, Int.reduceToNat, Int.reduceEq, Int.reduceNe, Int.reduceAdd, Option.some.injEq, kX8_plan, rmX8_plan, ↓ofX8_10, ↓ofX8_193, ↓ofX8_199, ↓ofX8_26, ↓ocX8_plan_37, ↓spX8_within, ↓ocX8_plan_188, ↓spX1_prepare, ↓ocX8_plan_196, ↓spX1_stopsAhead, x1, x2, x3, x5, G_1, G_2, G_3, G_4, G_35, G_36, G_37, G_38, G_39, G_40, G_41, G_42, G_43, G_44, G_45, G_46, G_47, G_48, G_49, G_140, G_141, G_142, G_143, G_144, G_145, G_146, G_178, G_179, G_180, G_181, G_182, G_183, G_184, G_189, G_198, G_207, PF_1_0, PF_1_1, PF_1_2, PF_1_3, PF_2_0, PF_2_1, PF_2_3, PF_2_4, PF_2_5, PF_2_6, PF_2_7, PF_2_8, PF_2_9, PF_2_10, PF_2_11, PF_3_0, PF_35_0, PF_35_1, PF_35_2, PF_35_3, PF_40_0, PF_40_1, PF_40_2, PF_44_0, PF_44_1, PF_44_2, PF_145_0, PF_145_1, PF_179_0, PF_179_1, PF_179_2, PF_179_3, PF_179_8, PF_179_9, PF_179_10]
  refine ⟨by omega, fun q => h1 (by omega), fun q => ⟨by omega, by omega, fun q2 => h1 (by omega), fun q2 => ⟨by omega, fun q3 => ?_, fun q3 => h1 (by omega)⟩⟩⟩
  refine ⟨by omega, by omega, fun I' k1 k2 k3 k4 => ?_⟩
  have hp := planI_of k3 k4 (by omega)
  have := h2 (by omega) I' k1.q (xOK_P hx k1 k2 k3) hp
  have hr := PlanOK_rng hp l (by omega) (by omega)
  refine ⟨by omega, fun z => ⟨by omega, fun z2 => ?_, fun z2 => ?_⟩, fun z => ?_⟩
  · rw [if_neg z, if_neg z2] at this
    exact ⟨by omega, by omega, this⟩
  · rw [if_neg z, if_pos (by omega)] at this
    refine ⟨by omega, by omega, fun _ => by omega, fun z3 => ?_, fun z3 => ?_⟩
    · rw [if_neg z3] at this; exact this
    · rw [if_pos (by omega)] at this; exact this
  · rw [if_pos (by omega)] at this
    exact ⟨by omega, by omega, this⟩
def spX8_stops (As : List MV) (σ : MS) (K : Option MV → MS → Prop) : Prop := pR As fun a r => pI r fun n r => pN r (a = 1 ∧ σ.2.1 = PF ∧ RI n ∧ xOK σ.2.2.1 ∧ (¬ (1 ≤ n ∧ n ≤ 40) → K (some (.inl (-1))) σ) ∧ (1 ≤ n ∧ n ≤ 40 → ∀ I' : Int → Int → Int, frQ σ.2.2.1 I' → xOK I' → planI I' n → K (some (.inl (sumI (fun l => if 0 < l ∧ I' 183 l = 0 then 1 else 0) n.toNat))) (σ.1, σ.2.1, I', σ.2.2.2)))
def ciX8_stops : CI := (2, 8, 0, 0, spX8_stops)
def kX8_stops (pc : Nat) : List ME := match pc with
  | 0 => [(.iload_n 1, 1, []), (.iconst 1, 1, []), (.bipush 40, 2, []), (.invokestatic 37, 3, []), (.ifCond .ne 5, 3, [12]), (.iconst (-1), 1, []), (.ireturn, 1, [])]
  | 12 => [(.aload_n 0, 1, []), (.getfield 26, 3, []), (.aload_n 0, 1, []), (.getfield 10, 3, []), (.iload_n 1, 1, []), (.invokevirtual 188, 3, []), (.iconst 0, 1, []), (.istore_n 2, 1, []), (.iconst 0, 1, []), (.istore_n 3, 1, [])]
  | 28 => [(.iload_n 3, 1, []), (.iload_n 1, 1, []), (.if_icmp .ge 23, 3, [53]), (.aload_n 0, 1, []), (.getfield 26, 3, []), (.iload_n 3, 1, []), (.invokevirtual 196, 3, []), (.ifCond .eq 6, 3, [47]), (.iinc 2 1, 3, [])]
  | 47 => [(.iinc 3 1, 3, []), (.goto (-22), 3, [28])]
  | 53 => [(.iload_n 2, 1, []), (.ireturn, 1, [])]
  | _ => []
theorem qX8_stops : ∀ pc, chk cX8_stops pc (kX8_stops pc) = true := by
  intro pc
  unfold kX8_stops
  split <;> first | decide +kernel | exact chk_nil
abbrev rmX8_stops : Room := { frames := 6, cells := 0, slots := 0, locals := 145 }
def aX8_stops (x : Nat) : Option CI := match x with
  | 37 => some ciX8_within
  | 188 => some ciX1_prepare
  | 196 => some ciX1_stopsAhead
  | _ => none
theorem aokX8_stops : ∀ x ci, aX8_stops x = some ci → CalOK RX8 rmX8_stops x ci := by
  intro x ci h
  unfold aX8_stops at h
  split at h
  · cases h; exact cal_S mX8_within rfl (List.forall_mem_cons.mpr ⟨(ws_mem (List.mem_of_getElem? (i := 363) (by decide +kernel)) (by decide +kernel)), List.forall_mem_cons.mpr ⟨(ws_mem (List.mem_of_getElem? (i := 364) (by decide +kernel)) (by decide +kernel)), List.forall_mem_cons.mpr ⟨(ws_mem (List.mem_of_getElem? (i := 53) (by decide +kernel)) (by decide +kernel)), List.forall_mem_cons.mpr ⟨(ws_mem (List.mem_of_getElem? (i := 365) (by decide +kernel)) (by decide +kernel)), fun _ h => absurd h List.not_mem_nil⟩⟩⟩⟩) rfl (by unfold nice; decide +kernel) (by unfold rfits; decide) ⟨rfl, rfl⟩
  · cases h; exact cal_V mX1_prepare (by decide) rfl (List.forall_mem_cons.mpr ⟨(ws_mem (List.mem_of_getElem? (i := 572) (by decide +kernel)) (by decide +kernel)), List.forall_mem_cons.mpr ⟨(ws_mem (List.mem_of_getElem? (i := 573) (by decide +kernel)) (by decide +kernel)), List.forall_mem_cons.mpr ⟨(ws_mem (List.mem_of_getElem? (i := 574) (by decide +kernel)) (by decide +kernel)), List.forall_mem_cons.mpr ⟨(ws_mem (List.mem_of_getElem? (i := 62) (by decide +kernel)) (by decide +kernel)), List.forall_mem_cons.mpr ⟨(ws_mem (List.mem_of_getElem? (i := 575) (by decide +kernel)) (by decide +kernel)), fun _ h => absurd h List.not_mem_nil⟩⟩⟩⟩⟩) rfl (by unfold nice; decide +kernel) (by unfold rfits; decide) ⟨rfl, rfl⟩
  · cases h; exact cal_V mX1_stopsAhead (by decide) rfl (List.forall_mem_cons.mpr ⟨(ws_mem (List.mem_of_getElem? (i := 614) (by decide +kernel)) (by decide +kernel)), List.forall_mem_cons.mpr ⟨(ws_mem (List.mem_of_getElem? (i := 615) (by decide +kernel)) (by decide +kernel)), List.forall_mem_cons.mpr ⟨(ws_mem (List.mem_of_getElem? (i := 616) (by decide +kernel)) (by decide +kernel)), List.forall_mem_cons.mpr ⟨(ws_mem (List.mem_of_getElem? (i := 62) (by decide +kernel)) (by decide +kernel)), List.forall_mem_cons.mpr ⟨(ws_mem (List.mem_of_getElem? (i := 617) (by decide +kernel)) (by decide +kernel)), fun _ h => absurd h List.not_mem_nil⟩⟩⟩⟩⟩) rfl (by unfold nice; decide +kernel) (by unfold rfits; decide) ⟨rfl, rfl⟩
  · cases h
theorem ocX8_stops_37 (f : Nat → Nat → Nat → Nat → (List MV → MS → (Option MV → MS → Prop) → Prop) → Prop) : oC aX8_stops 37 f = f 3 10 0 0 spX8_within := propext Iff.rfl
theorem ocX8_stops_188 (f : Nat → Nat → Nat → Nat → (List MV → MS → (Option MV → MS → Prop) → Prop) → Prop) : oC aX8_stops 188 f = f 3 1 0 0 spX1_prepare := propext Iff.rfl
theorem ocX8_stops_196 (f : Nat → Nat → Nat → Nat → (List MV → MS → (Option MV → MS → Prop) → Prop) → Prop) : oC aX8_stops 196 f = f 2 1 0 0 spX1_stopsAhead := propext Iff.rfl
theorem mdX8_stops : MD RX8 cX8_stops rmX8_stops kX8_stops fX8 aX8_stops zX8 uX8 := ⟨fokX8, zokX8, uokX8, aokX8_stops, qX8_stops⟩
set_option maxHeartbeats 1600000 in
set_option maxRecDepth 100000 in
theorem lpX8_st {post : Option MV → MS → Prop} {U : Pt → Prop} {N : Nat} {I L : Int → Int → Int} {n : Int} (n1 : n ≤ 40) (hr : ∀ j, 0 ≤ j → j < n → 0 ≤ I 183 j ∧ I 183 j ≤ j)
    (h : post (some (.inl (sumI (fun l => if 0 < l ∧ I 183 l = 0 then 1 else 0) n.toNat))) (N, PF, I, L)) :
    ∀ (m i : Nat), ((i + m : Nat) : Int) = n →
    Ok RX8 cX8_stops 4 rmX8_stops false none post U (28, [some (.inr (.inr (some 1))), some (.inl n), some (.inl (sumI (fun l => if 0 < l ∧ I 183 l = 0 then 1 else 0) i)), some (.inl i)], [], (N, PF, I, L), 0, 0)
  | 0, i, hi => by
    refine Ok.seg mdX8_stops [28] 20 ?_
    simp only [wp_nil, wp_cons, ↓stp, ↓lI, ↓lL, ↓lR, ↓lIn_0, ↓lIn_1, ↓lIn_2, ↓lIn_3, ↓lLn_0, ↓lLn_1, ↓lLn_2, ↓lLn_3, ↓lRn_0, ↓lRn_1, ↓lRn_2, ↓lRn_3, ↓pI, ↓pL, ↓pR, ↓pA, ↓pN, ↓pV, ↓fp, ↓tsw, ↓oS, ↓spMax, ↓spMin, ↓spAbs, ↓spObj, RI, RLg, b2i_lo, b2i_hi, getL, setL, ltL, killL, isLong, inl, cnd, br, tgt, rcv, rpl, mputI, mputL, mputP, fv, fr, mcat, mcs, entL, entA, rfit, nf_0, nf_1, nf_2, nf_3, nf2_0, nf2_1, b2i_0, b2i_1, RI_b2i, b2i_fit, List.append, List.length, List.replicate, List.cons_append, List.nil_append, List.length_cons, List.length_nil, List.replicate_succ, List.replicate_zero, List.tail_cons, reduceIte, if_true, if_false, ite_true, ite_false, Bool.false_eq_true, true_and, and_true, and_self, false_and, and_false, or_self, or_true, true_or, or_false, false_or, not_true_eq_false, not_false_eq_true, ne_eq, forall_const, implies_true, imp_self, true_implies, false_implies, Nat.reduceAdd, Nat.reduceSub, Nat.reduceMul, Nat.reduceDiv, Nat.reduceMod, Nat.reduceEqDiff, Nat.reduceLT, Nat.reduceLeDiff, Nat.reduceBEq, Nat.add_zero, Nat.zero_add, Nat.le_refl, Nat.not_lt_zero, Nat.succ_eq_add_one, Int.reduceNatCast, Int.cast_ofNat_Int, Int.reduceSub, Int.reduceMul, Int.reduceNeg, Int.reduceLE, Int.reduceLT, Int.reduceToNat, Int.reduceEq, Int.reduceNe, Int.reduceAdd, Option.some.injEq, kX8_stops, rmX8_stops, ↓ofX8_10, ↓ofX8_26, ↓ocX8_stops_37, ↓spX8_within, ↓ocX8_stops_188, ↓spX1_prepare, ↓ocX8_stops_196, ↓spX1_stopsAhead, G_1, G_2, G_3, G_4, G_35, G_36, G_37, G_38, G_39, G_40, G_41, G_42, G_43, G_44, G_45, G_46, G_47, G_48, G_49, G_140, G_141, G_142, G_143, G_144, G_145, G_146, G_178, G_179, G_180, G_181, G_182, G_183, G_184, G_189, G_198, G_207, PF_1_0, PF_1_1, PF_1_2, PF_1_3, PF_2_0, PF_2_1, PF_2_3, PF_2_4, PF_2_5, PF_2_6, PF_2_7, PF_2_8, PF_2_9, PF_2_10, PF_2_11, PF_3_0, PF_35_0, PF_35_1, PF_35_2, PF_35_3, PF_40_0, PF_40_1, PF_40_2, PF_44_0, PF_44_1, PF_44_2, PF_145_0, PF_145_1, PF_179_0, PF_179_1, PF_179_2, PF_179_3, PF_179_8, PF_179_9, PF_179_10]
    rw [show n.toNat = i by omega] at h
    exact ⟨by omega, by omega, fun _ => h, fun q => by omega⟩
  | m + 1, i, hi => by
    have ih := lpX8_st (U := U) (post := post) (N := N) (L := L) n1 hr h m (i + 1) (by omega)
    rw [sumI_s, show ((i + 1 : Nat) : Int) = (i : Int) + 1 by omega] at ih
    have hri := hr i (by omega) (by omega)
    refine Ok.seg mdX8_stops [28] 30 ?_
    simp only [wp_nil, wp_cons, ↓stp, ↓lI, ↓lL, ↓lR, ↓lIn_0, ↓lIn_1, ↓lIn_2, ↓lIn_3, ↓lLn_0, ↓lLn_1, ↓lLn_2, ↓lLn_3, ↓lRn_0, ↓lRn_1, ↓lRn_2, ↓lRn_3, ↓pI, ↓pL, ↓pR, ↓pA, ↓pN, ↓pV, ↓fp, ↓tsw, ↓oS, ↓spMax, ↓spMin, ↓spAbs, ↓spObj, RI, RLg, b2i_lo, b2i_hi, getL, setL, ltL, killL, isLong, inl, cnd, br, tgt, rcv, rpl, mputI, mputL, mputP, fv, fr, mcat, mcs, entL, entA, rfit, nf_0, nf_1, nf_2, nf_3, nf2_0, nf2_1, b2i_0, b2i_1, RI_b2i, b2i_fit, List.append, List.length, List.replicate, List.cons_append, List.nil_append, List.length_cons, List.length_nil, List.replicate_succ, List.replicate_zero, List.tail_cons, reduceIte, if_true, if_false, ite_true, ite_false, Bool.false_eq_true, true_and, and_true, and_self, false_and, and_false, or_self, or_true, true_or, or_false, false_or, not_true_eq_false, not_false_eq_true, ne_eq, forall_const, implies_true, imp_self, true_implies, false_implies, Nat.reduceAdd, Nat.reduceSub, Nat.reduceMul, Nat.reduceDiv, Nat.reduceMod, Nat.reduceEqDiff, Nat.reduceLT, Nat.reduceLeDiff, Nat.reduceBEq, Nat.add_zero, Nat.zero_add, Nat.le_refl, Nat.not_lt_zero, Nat.succ_eq_add_one, Int.reduceNatCast, Int.cast_ofNat_Int, Int.reduceSub, Int.reduceMul, Int.reduceNeg, Int.reduceLE, Int.reduceLT, Int.reduceToNat, Int.reduceEq, Int.reduceNe, Int.reduceAdd, Option.some.injEq, kX8_stops, rmX8_stops, ↓ofX8_10, ↓ofX8_26, ↓ocX8_stops_37, ↓spX8_within, ↓ocX8_stops_188, ↓spX1_prepare, ↓ocX8_stops_196, ↓spX1_stopsAhead, G_1, G_2, G_3, G_4, G_35, G_36, G_37, G_38, G_39, G_40, G_41, G_42, G_43, G_44, G_45, G_46, G_47, G_48, G_49, G_140, G_141, G_142, G_143, G_144, G_145, G_146, G_178, G_179, G_180, G_181, G_182, G_183, G_184, G_189, G_198, G_207, PF_1_0, PF_1_1, PF_1_2, PF_1_3, PF_2_0, PF_2_1, PF_2_3, PF_2_4, PF_2_5, PF_2_6, PF_2_7, PF_2_8, PF_2_9, PF_2_10, PF_2_11, PF_3_0, PF_35_0, PF_35_1, PF_35_2, PF_35_3, PF_40_0, PF_40_1, PF_40_2, PF_44_0, PF_44_1, PF_44_2, PF_145_0, PF_145_1, PF_179_0, PF_179_1, PF_179_2, PF_179_3, PF_179_8, PF_179_9, PF_179_10]
    refine ⟨by omega, by omega, fun q => by omega, fun q => ⟨by omega, by omega, fun _ => by omega, fun q2 => ?_, fun q2 => ?_⟩⟩
    · rw [if_neg q2, Int.add_zero] at ih; exact ih
    · rw [if_pos (by omega)] at ih; exact ih
set_option maxRecDepth 100000 in
set_option maxHeartbeats 800000 in
theorem mX8_stops : MOK yX8_stops cX8_stops 4 (some .int) rmX8_stops ciX8_stops := by
  refine mok_of (ini := false) (by decide +kernel) (by decide) rfl rfl ?_
  intro σ As K hrc hl h
  obtain ⟨N, P, I, L⟩ := σ
  have h9 := pR_iff.mp h
  clear h
  obtain ⟨a, r, e9, h⟩ := h9
  subst e9
  have h9 := pI_iff.mp h
  clear h
  obtain ⟨n, r, e9, h⟩ := h9
  subst e9
  have h9 := pN_iff.mp h
  clear h
  obtain ⟨e9, h⟩ := h9
  subst e9
  dsimp only at h
  obtain ⟨rfl, rfl, hn, hx, h1, h2⟩ := h
  unfold RI at hn
  have hx' := hx
  obtain ⟨x1, x2, x3, x4, x5, x6, x7⟩ := hx'
  refine ⟨Nat.le_of_ble_eq_true rfl, Ok.seg mdX8_stops [28] 60 ?_⟩
  simp only [wp_nil, wp_cons, ↓stp, ↓lI, ↓lL, ↓lR, ↓lIn_0, ↓lIn_1, ↓lIn_2, ↓lIn_3, ↓lLn_0, ↓lLn_1, ↓lLn_2, ↓lLn_3, ↓lRn_0, ↓lRn_1, ↓lRn_2, ↓lRn_3, ↓pI, ↓pL, ↓pR, ↓pA, ↓pN, ↓pV, ↓fp, ↓tsw, ↓oS, ↓spMax, ↓spMin, ↓spAbs, ↓spObj, RI, RLg, b2i_lo, b2i_hi, getL, setL, ltL, killL, isLong, inl, cnd, br, tgt, rcv, rpl, mputI, mputL, mputP, fv, fr, mcat, mcs, entL, entA, rfit, nf_0, nf_1, nf_2, nf_3, nf2_0, nf2_1, b2i_0, b2i_1, RI_b2i, b2i_fit, List.append, List.length, List.replicate, List.cons_append, List.nil_append, List.length_cons, List.length_nil, List.replicate_succ, List.replicate_zero, List.tail_cons, reduceIte, if_true, if_false, ite_true, ite_false, Bool.false_eq_true, true_and, and_true, and_self, false_and, and_false, or_self, or_true, true_or, or_false, false_or, not_true_eq_false, not_false_eq_true, ne_eq, forall_const, implies_true, imp_self, true_implies, false_implies, Nat.reduceAdd, Nat.reduceSub, Nat.reduceMul, Nat.reduceDiv, Nat.reduceMod, Nat.reduceEqDiff, Nat.reduceLT, Nat.reduceLeDiff, Nat.reduceBEq, Nat.add_zero, Nat.zero_add, Nat.le_refl, Nat.not_lt_zero, Nat.succ_eq_add_one, Int.reduceNatCast, Int.cast_ofNat_Int, Int.reduceSub, Int.reduceMul, Int.reduceNeg, Int.reduceLE, Int.reduceLT, Int.reduceToNat, Int.reduceEq, Int.reduceNe, Int.reduceAdd, Option.some.injEq, kX8_stops, rmX8_stops, ↓ofX8_10, ↓ofX8_26, ↓ocX8_stops_37, ↓spX8_within, ↓ocX8_stops_188, ↓spX1_prepare, ↓ocX8_stops_196, ↓spX1_stopsAhead, x1, x2, x3, x5, G_1, G_2, G_3, G_4, G_35, G_36, G_37, G_38, G_39, G_40, G_41, G_42, G_43, G_44, G_45, G_46, G_47, G_48, G_49, G_140, G_141, G_142, G_143, G_144, G_145, G_146, G_178, G_179, G_180, G_181, G_182, G_183, G_184, G_189, G_198, G_207, PF_1_0, PF_1_1, PF_1_2, PF_1_3, PF_2_0, PF_2_1, PF_2_3, PF_2_4, PF_2_5, PF_2_6, PF_2_7, PF_2_8, PF_2_9, PF_2_10, PF_2_11, PF_3_0, PF_35_0, PF_35_1, PF_35_2, PF_35_3, PF_40_0, PF_40_1, PF_40_2, PF_44_0, PF_44_1, PF_44_2, PF_145_0, PF_145_1, PF_179_0, PF_179_1, PF_179_2, PF_179_3, PF_179_8, PF_179_9, PF_179_10]
  refine ⟨by omega, fun q => ⟨by omega, by omega, fun I' k1 k2 k3 k4 => ?_⟩, fun q => h1 (by omega)⟩
  have hp := planI_of k3 k4 (by omega)
  have := h2 (by omega) I' k1.q (xOK_P hx k1 k2 k3) hp
  exact lpX8_st (post := fun r σ' => rfit (some .int) r ∧ K r σ') (by omega) (fun j j0 j1 => (PlanOK_rng hp j j0 j1).2) ⟨trivial, this⟩ n.toNat 0 (by omega)
def spX8_count (As : List MV) (σ : MS) (K : Option MV → MS → Prop) : Prop := pR As fun a r => pI r fun w r => pN r (a = 1 ∧ σ.2.1 = PF ∧ RI w ∧ xOK σ.2.2.1 ∧ (¬ (0 ≤ w ∧ w ≤ 3) → K (some (.inl (-1))) σ) ∧ (w = 0 → K (some (.inl (σ.2.2.1 3 1))) σ) ∧ (w = 1 → K (some (.inl (sumI (fun i => σ.2.2.1 (5 + i) 1) (σ.2.2.1 3 1).toNat))) σ) ∧ (w = 2 → K (some (.inl (sumI (fun i => if 0 < σ.2.2.1 (5 + i) 4 then 1 else 0) (σ.2.2.1 3 1).toNat))) σ) ∧
  (w = 3 → ∀ I' : Int → Int → Int, frQ σ.2.2.1 I' → xOK I' → bestOK I' → K (some (.inl (sumI (lch (I' 41)) (σ.2.2.1 3 1).toNat))) (σ.1, σ.2.1, I', σ.2.2.2)))
def ciX8_count : CI := (2, 8, 0, 0, spX8_count)
def kX8_count (pc : Nat) : List ME := match pc with
  | 0 => [(.iload_n 1, 1, []), (.tableswitch 85 0 3 #[31, 42, 53, 64], 31, [86, 32, 43, 54, 65])]
  | 32 => [(.aload_n 0, 1, []), (.getfield 10, 3, []), (.getfield 41, 3, []), (.getfield 45, 3, []), (.ireturn, 1, [])]
  | 43 => [(.aload_n 0, 1, []), (.getfield 10, 3, []), (.getfield 41, 3, []), (.invokevirtual 202, 3, []), (.ireturn, 1, [])]
  | 54 => [(.aload_n 0, 1, []), (.getfield 10, 3, []), (.getfield 41, 3, []), (.invokevirtual 205, 3, []), (.ireturn, 1, [])]
  | 65 => [(.aload_n 0, 1, []), (.getfield 10, 3, []), (.invokevirtual 131, 3, []), (.aload_n 0, 1, []), (.getfield 10, 3, []), (.getfield 41, 3, []), (.getfield 45, 3, []), (.invokevirtual 208, 3, []), (.ireturn, 1, [])]
  | 86 => [(.iconst (-1), 1, []), (.ireturn, 1, [])]
  | _ => []
theorem qX8_count : ∀ pc, chk cX8_count pc (kX8_count pc) = true := by
  intro pc
  unfold kX8_count
  split <;> first | decide +kernel | exact chk_nil
abbrev rmX8_count : Room := { frames := 5, cells := 0, slots := 0, locals := 120 }
def aX8_count (x : Nat) : Option CI := match x with
  | 202 => some ciX5_lengths
  | 205 => some ciX5_timesTold
  | 131 => some ciX7_bestWay
  | 208 => some ciX6_changes
  | _ => none
theorem aokX8_count : ∀ x ci, aX8_count x = some ci → CalOK RX8 rmX8_count x ci := by
  intro x ci h
  unfold aX8_count at h
  split at h
  · cases h; exact cal_V mX5_lengths (by decide) rfl (List.forall_mem_cons.mpr ⟨(ws_mem (List.mem_of_getElem? (i := 626) (by decide +kernel)) (by decide +kernel)), List.forall_mem_cons.mpr ⟨(ws_mem (List.mem_of_getElem? (i := 627) (by decide +kernel)) (by decide +kernel)), List.forall_mem_cons.mpr ⟨(ws_mem (List.mem_of_getElem? (i := 628) (by decide +kernel)) (by decide +kernel)), List.forall_mem_cons.mpr ⟨(ws_mem (List.mem_of_getElem? (i := 55) (by decide +kernel)) (by decide +kernel)), List.forall_mem_cons.mpr ⟨(ws_mem (List.mem_of_getElem? (i := 629) (by decide +kernel)) (by decide +kernel)), fun _ h => absurd h List.not_mem_nil⟩⟩⟩⟩⟩) rfl (by unfold nice; decide +kernel) (by unfold rfits; decide) ⟨rfl, rfl⟩
  · cases h; exact cal_V mX5_timesTold (by decide) rfl (List.forall_mem_cons.mpr ⟨(ws_mem (List.mem_of_getElem? (i := 630) (by decide +kernel)) (by decide +kernel)), List.forall_mem_cons.mpr ⟨(ws_mem (List.mem_of_getElem? (i := 631) (by decide +kernel)) (by decide +kernel)), List.forall_mem_cons.mpr ⟨(ws_mem (List.mem_of_getElem? (i := 632) (by decide +kernel)) (by decide +kernel)), List.forall_mem_cons.mpr ⟨(ws_mem (List.mem_of_getElem? (i := 55) (by decide +kernel)) (by decide +kernel)), List.forall_mem_cons.mpr ⟨(ws_mem (List.mem_of_getElem? (i := 633) (by decide +kernel)) (by decide +kernel)), fun _ h => absurd h List.not_mem_nil⟩⟩⟩⟩⟩) rfl (by unfold nice; decide +kernel) (by unfold rfits; decide) ⟨rfl, rfl⟩
  · cases h; exact cal_V mX7_bestWay (by decide) rfl (List.forall_mem_cons.mpr ⟨(ws_mem (List.mem_of_getElem? (i := 465) (by decide +kernel)) (by decide +kernel)), List.forall_mem_cons.mpr ⟨(ws_mem (List.mem_of_getElem? (i := 466) (by decide +kernel)) (by decide +kernel)), List.forall_mem_cons.mpr ⟨(ws_mem (List.mem_of_getElem? (i := 467) (by decide +kernel)) (by decide +kernel)), List.forall_mem_cons.mpr ⟨(ws_mem (List.mem_of_getElem? (i := 54) (by decide +kernel)) (by decide +kernel)), List.forall_mem_cons.mpr ⟨(ws_mem (List.mem_of_getElem? (i := 468) (by decide +kernel)) (by decide +kernel)), fun _ h => absurd h List.not_mem_nil⟩⟩⟩⟩⟩) rfl (by unfold nice; decide +kernel) (by unfold rfits; decide) ⟨rfl, rfl⟩
  · cases h; exact cal_V mX6_changes (by decide) rfl (List.forall_mem_cons.mpr ⟨(ws_mem (List.mem_of_getElem? (i := 634) (by decide +kernel)) (by decide +kernel)), List.forall_mem_cons.mpr ⟨(ws_mem (List.mem_of_getElem? (i := 635) (by decide +kernel)) (by decide +kernel)), List.forall_mem_cons.mpr ⟨(ws_mem (List.mem_of_getElem? (i := 636) (by decide +kernel)) (by decide +kernel)), List.forall_mem_cons.mpr ⟨(ws_mem (List.mem_of_getElem? (i := 59) (by decide +kernel)) (by decide +kernel)), List.forall_mem_cons.mpr ⟨(ws_mem (List.mem_of_getElem? (i := 637) (by decide +kernel)) (by decide +kernel)), fun _ h => absurd h List.not_mem_nil⟩⟩⟩⟩⟩) rfl (by unfold nice; decide +kernel) (by unfold rfits; decide) ⟨rfl, rfl⟩
  · cases h
theorem ocX8_count_202 (f : Nat → Nat → Nat → Nat → (List MV → MS → (Option MV → MS → Prop) → Prop) → Prop) : oC aX8_count 202 f = f 1 5 0 0 spX5_lengths := propext Iff.rfl
theorem ocX8_count_205 (f : Nat → Nat → Nat → Nat → (List MV → MS → (Option MV → MS → Prop) → Prop) → Prop) : oC aX8_count 205 f = f 1 5 0 0 spX5_timesTold := propext Iff.rfl
theorem ocX8_count_131 (f : Nat → Nat → Nat → Nat → (List MV → MS → (Option MV → MS → Prop) → Prop) → Prop) : oC aX8_count 131 f = f 1 7 0 0 spX7_bestWay := propext Iff.rfl
theorem ocX8_count_208 (f : Nat → Nat → Nat → Nat → (List MV → MS → (Option MV → MS → Prop) → Prop) → Prop) : oC aX8_count 208 f = f 2 6 0 0 spX6_changes := propext Iff.rfl
theorem mdX8_count : MD RX8 cX8_count rmX8_count kX8_count fX8 aX8_count zX8 uX8 := ⟨fokX8, zokX8, uokX8, aokX8_count, qX8_count⟩
set_option maxRecDepth 100000 in
set_option maxHeartbeats 800000 in
theorem mX8_count : MOK yX8_count cX8_count 2 (some .int) rmX8_count ciX8_count := by
  refine mok_of (ini := false) (by decide +kernel) (by decide) rfl rfl ?_
  intro σ As K hrc hl h
  obtain ⟨N, P, I, L⟩ := σ
  have h9 := pR_iff.mp h
  clear h
  obtain ⟨a, r, e9, h⟩ := h9
  subst e9
  have h9 := pI_iff.mp h
  clear h
  obtain ⟨w, r, e9, h⟩ := h9
  subst e9
  have h9 := pN_iff.mp h
  clear h
  obtain ⟨e9, h⟩ := h9
  subst e9
  dsimp only at h
  obtain ⟨rfl, rfl, hw, hx, h1, h2, h3, h4, h5⟩ := h
  unfold RI at hw
  have hx' := hx
  obtain ⟨x1, x2, x3, x4, x5, x6, x7⟩ := hx'
  refine ⟨Nat.le_of_ble_eq_true rfl, Ok.seg mdX8_count [] 60 ?_⟩
  simp only [wp_nil, wp_cons, ↓stp, ↓lI, ↓lL, ↓lR, ↓lIn_0, ↓lIn_1, ↓lIn_2, ↓lIn_3, ↓lLn_0, ↓lLn_1, ↓lLn_2, ↓lLn_3, ↓lRn_0, ↓lRn_1, ↓lRn_2, ↓lRn_3, ↓pI, ↓pL, ↓pR, ↓pA, ↓pN, ↓pV, ↓fp, ↓tsw, ↓oS, ↓spMax, ↓spMin, ↓spAbs, ↓spObj, RI, RLg, b2i_lo, b2i_hi, getL, setL, ltL, killL, isLong, inl, cnd, br, tgt, rcv, rpl, mputI, mputL, mputP, fv, fr, mcat, mcs, entL, entA, rfit, nf_0, nf_1, nf_2, nf_3, nf2_0, nf2_1, b2i_0, b2i_1, RI_b2i, b2i_fit, List.append, List.length, List.replicate, List.cons_append, List.nil_append, List.length_cons, List.length_nil, List.replicate_succ, List.replicate_zero, List.tail_cons, reduceIte, if_true, if_false, ite_true, ite_false, Bool.false_eq_true, true_and, and_true, and_self, false_and, and_false, or_self, or_true, true_or, or_false, false_or, not_true_eq_false, not_false_eq_true, ne_eq, forall_const, implies_true, imp_self, true_implies, false_implies, Nat.reduceAdd, Nat.reduceSub, Nat.reduceMul, Nat.reduceDiv, Nat.reduceMod, Nat.reduceEqDiff, Nat.reduceLT, Nat.reduceLeDiff, Nat.reduceBEq, Nat.add_zero, Nat.zero_add, Nat.le_refl, Nat.not_lt_zero, Nat.succ_eq_add_one, Int.reduceNatCast, Int.cast_ofNat_Int, Int.reduceSub, Int.reduceMul, Int.reduceNeg, Int.reduceLE, Int.reduceLT, Int.reduceToNat, Int.reduceEq, Int.reduceNe, Int.reduceAdd, Option.some.injEq, kX8_count, rmX8_count, ↓ofX8_10, ↓ofX8_41, ↓ofX8_45, ↓ocX8_count_202, ↓spX5_lengths, ↓ocX8_count_205, ↓spX5_timesTold, ↓ocX8_count_131, ↓spX7_bestWay, ↓ocX8_count_208, ↓spX6_changes, x1, x2, x4, G_1, G_2, G_3, G_4, G_35, G_36, G_37, G_38, G_39, G_40, G_41, G_42, G_43, G_44, G_45, G_46, G_47, G_48, G_49, G_140, G_141, G_142, G_143, G_144, G_145, G_146, G_178, G_179, G_180, G_181, G_182, G_183, G_184, G_189, G_198, G_207, PF_1_0, PF_1_1, PF_1_2, PF_1_3, PF_2_0, PF_2_1, PF_2_3, PF_2_4, PF_2_5, PF_2_6, PF_2_7, PF_2_8, PF_2_9, PF_2_10, PF_2_11, PF_3_0, PF_35_0, PF_35_1, PF_35_2, PF_35_3, PF_40_0, PF_40_1, PF_40_2, PF_44_0, PF_44_1, PF_44_2, PF_145_0, PF_145_1, PF_179_0, PF_179_1, PF_179_2, PF_179_3, PF_179_8, PF_179_9, PF_179_10]
  refine ⟨by omega, fun q => h1 (by omega), h2, h3, h4, fun q I' k1 k2 k3 => ?_⟩
  have hxI := xOK_B hx k1 (.inr ⟨k3, k2⟩)
  have e3 : I' 3 1 = I 3 1 := k1.c3 _ _ (by omega) (by omega)
  have := h5 q I' k1.q hxI k2
  obtain ⟨B, b1, b2, b3, b4⟩ := k2
  have hlane : laneOK I' 40 (I' 3 1) := fun i i0 i1 => by
    have := (b2 i.toNat (by omega)).1
    rw [Int.toNat_of_nonneg i0] at this
    exact this
  rw [e3] at hlane ⊢
  exact ⟨hlane, x1.1, x1.2.1, this⟩
