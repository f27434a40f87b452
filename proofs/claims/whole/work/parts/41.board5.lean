/-! LapBoard: keep, make, copy, weight -/
def frH (I J : Int → Int → Int) (b : Int) : Prop := ∀ c k, 3 ≤ c → ¬ (40 ≤ c ∧ c ≤ 178) → ¬ (182 ≤ c ∧ c ≤ 207) → ¬ (c = 179 ∧ k ≠ 4 ∧ k ≠ 5) → ¬ (b ≤ c ∧ c ≤ b + 3) → J c k = I c k
/-- only shelf b changes -/
theorem xOK_H {I J : Int → Int → Int} {b : Int} (hb : shB b) (h : xOK I) (hf : ∀ c k, ¬ (b ≤ c ∧ c ≤ b + 3) → J c k = I c k) (hs : shOK J b) : xOK J := by
  obtain ⟨x1, x2, x3, x4, x5, x6, x7⟩ := h
  obtain ⟨d, d0, d1, rfl⟩ := hb
  have lo : c3 I J := fun c k c0 c1 => hf c k (by omega)
  refine ⟨tOK_c3 lo x1, carOK_c3 lo x2, capOK_c3 lo x1.2.1 (fun k => hf _ _ (by omega)) x3, bst_c3 lo x1.2.1 (hf _ _ (by omega)) (fun b k b0 b1 => hf _ _ (by omega)) x4, raceOK_ts (tsame_c3 lo x1.2.1) (hf _ _ (by omega)) (hf _ _ (by omega)) (fun b k b0 b1 => hf _ _ (by omega)) x5, fun k k0 k1 => by rw [hf _ _ (by omega)]; exact x6 k k0 k1, fun b hb => ?_⟩
  obtain ⟨e, e0, e1, rfl⟩ := hb
  by_cases q : e = d
  · rw [q]; exact hs
  · exact shOK_cg (fun c k c0 c1 => hf _ _ (by omega)) (x7 _ ⟨e, e0, e1, rfl⟩)
theorem shB_d {d : Int} (h0 : 0 ≤ d) (h1 : d ≤ 7) : shB (208 + 4 * d) := ⟨d, h0, by omega, rfl⟩
/-- what holdPaces leaves -/
theorem hold_of {I J : Int → Int → Int} {b w n : Int} {q : Int → Int} (hb : shB b) (h : xOK I) (hw : w = 3 ∨ w = 4) (n0 : 0 ≤ n) (n1 : n ≤ 30) (hq : ∀ i, 0 ≤ i → i < n → 1 ≤ q i ∧ q i ≤ 60) (h1 : frS2 I J b) (h2 : ∀ k, 0 ≤ k → k < n → J (b + 2) k = q k ∧ J (b + 3) k = q k) (h3 : ∀ k, n ≤ k → J (b + 3) k = I (b + 3) k) (h4 : J b 0 = w) (h5 : J b 1 = n) : xOK J ∧ ∀ i, 0 ≤ i → i < n → itm J b i = q i := by
  refine ⟨xOK_H hb h (fun c k c1 => h1 c k (by omega) (by omega) (by omega)) ⟨by have sb := (h.2.2.2.2.2.2 b hb).1; rw [h1 (b + 1) 4 (by omega) (by omega) (by omega)]; omega, by omega, fun z => by omega, fun k k0 k1 => ?_⟩, fun i i0 i1 => ?_⟩
  · by_cases z : k < n
    · rw [(h2 k k0 z).2]; have := hq k k0 z; omega
    · rw [h3 k (by omega)]; exact (h.2.2.2.2.2.2 b hb).2.2.2 k k0 k1
  · unfold itm
    rw [(h2 i i0 i1).1, (h2 i i0 i1).2]
    split <;> rfl
def goodK (I : Int → Int → Int) (d w k : Int) : Prop := (0 ≤ d ∧ d ≤ 7) ∧ (w = 0 ∨ (w = 1 ∧ 0 ≤ k ∧ k < I 3 1) ∨ w = 3 ∨ (w = 4 ∧ 0 ≤ k ∧ k ≤ 2))
def keepP (I J : Int → Int → Int) (b w k : Int) : Prop := J b 0 = w ∧ (w = 1 → ∀ j, 0 ≤ j → j ≤ 3 → J (b + 1) j = I (5 + k) j) ∧ (w = 3 → J b 1 = I 3 1 ∧ bestOK J ∧ ∀ i, 0 ≤ i → i < I 3 1 → itm J b i = J 42 i) ∧ (w = 4 → J b 1 = I 3 1 ∧ ∃ q, stayV I k q ∧ ∀ i, 0 ≤ i → i < I 3 1 → itm J b i = q i)
def spX8_keep (As : List MV) (σ : MS) (K : Option MV → MS → Prop) : Prop := pR As fun a r => pI r fun d r => pI r fun w r => pI r fun k r => pN r (a = 1 ∧ σ.2.1 = PF ∧ RI d ∧ RI w ∧ RI k ∧ xOK σ.2.2.1 ∧ (¬ goodK σ.2.2.1 d w k → K (some (.inl (-1))) σ) ∧ (goodK σ.2.2.1 d w k → ∀ I' : Int → Int → Int, frH σ.2.2.1 I' (208 + 4 * d) → xOK I' → keepP σ.2.2.1 I' (208 + 4 * d) w k → K (some (.inl 0)) (σ.1, σ.2.1, I', σ.2.2.2)))
def ciX8_keep : CI := (4, 8, 0, 0, spX8_keep)
def kX8_keep (pc : Nat) : List ME := match pc with
  | 0 => [(.iload_n 1, 1, []), (.iconst 0, 1, []), (.bipush 7, 2, []), (.invokestatic 37, 3, []), (.ifCond .ne 5, 3, [12]), (.iconst (-1), 1, []), (.ireturn, 1, [])]
  | 12 => [(.aload_n 0, 1, []), (.getfield 32, 3, []), (.iload_n 1, 1, []), (.aaload, 1, []), (.astore 4, 2, []), (.iload_n 2, 1, []), (.tableswitch 147 0 4 #[35, 43, 147, 79, 106], 35, [168, 56, 64, 168, 100, 127])]
  | 56 => [(.aload 4, 2, []), (.iconst 0, 1, []), (.putfield 211, 3, []), (.iconst 0, 1, []), (.ireturn, 1, [])]
  | 64 => [(.aload_n 0, 1, []), (.getfield 10, 3, []), (.getfield 41, 3, []), (.iload_n 3, 1, []), (.invokevirtual 61, 3, []), (.ifCond .eq 23, 3, [98]), (.aload 4, 2, []), (.aload_n 0, 1, []), (.getfield 10, 3, []), (.getfield 41, 3, []), (.getfield 65, 3, []), (.iload_n 3, 1, []), (.aaload, 1, []), (.invokevirtual 214, 3, []), (.goto 4, 3, [99])]
  | 98 => [(.iconst (-1), 1, [])]
  | 99 => [(.ireturn, 1, [])]
  | 100 => [(.aload 4, 2, []), (.iconst 3, 1, []), (.aload_n 0, 1, []), (.getfield 10, 3, []), (.invokevirtual 131, 3, []), (.getfield 116, 3, []), (.aload_n 0, 1, []), (.getfield 10, 3, []), (.getfield 41, 3, []), (.getfield 45, 3, []), (.invokevirtual 218, 3, []), (.ireturn, 1, [])]
  | 127 => [(.iload_n 3, 1, []), (.iconst 0, 1, []), (.iconst 2, 1, []), (.invokestatic 37, 3, []), (.ifCond .eq 33, 3, [166]), (.aload 4, 2, []), (.iconst 4, 1, []), (.aload_n 0, 1, []), (.getfield 10, 3, []), (.iload_n 3, 1, []), (.invokevirtual 112, 3, []), (.getfield 116, 3, []), (.aload_n 0, 1, []), (.getfield 10, 3, []), (.getfield 41, 3, []), (.getfield 45, 3, []), (.invokevirtual 218, 3, []), (.goto 4, 3, [167])]
  | 166 => [(.iconst (-1), 1, [])]
  | 167 => [(.ireturn, 1, [])]
  | 168 => [(.iconst (-1), 1, []), (.ireturn, 1, [])]
  | _ => []
theorem qX8_keep : ∀ pc, chk cX8_keep pc (kX8_keep pc) = true := by
  intro pc
  unfold kX8_keep
  split <;> first | decide +kernel | exact chk_nil
abbrev rmX8_keep : Room := { frames := 5, cells := 0, slots := 0, locals := 120 }
def aX8_keep (x : Nat) : Option CI := match x with
  | 37 => some ciX8_within
  | 61 => some ciX5_has
  | 214 => some ciX2_holdStation
  | 131 => some ciX7_bestWay
  | 218 => some ciX2_holdPaces
  | 112 => some ciX7_stayOn
  | _ => none
theorem aokX8_keep : ∀ x ci, aX8_keep x = some ci → CalOK RX8 rmX8_keep x ci := by
  intro x ci h
  unfold aX8_keep at h
  split at h
  · cases h; exact cal_S mX8_within rfl (List.forall_mem_cons.mpr ⟨(ws_mem (List.mem_of_getElem? (i := 363) (by decide +kernel)) (by decide +kernel)), List.forall_mem_cons.mpr ⟨(ws_mem (List.mem_of_getElem? (i := 364) (by decide +kernel)) (by decide +kernel)), List.forall_mem_cons.mpr ⟨(ws_mem (List.mem_of_getElem? (i := 53) (by decide +kernel)) (by decide +kernel)), List.forall_mem_cons.mpr ⟨(ws_mem (List.mem_of_getElem? (i := 365) (by decide +kernel)) (by decide +kernel)), fun _ h => absurd h List.not_mem_nil⟩⟩⟩⟩) rfl (by unfold nice; decide +kernel) (by unfold rfits; decide) ⟨rfl, rfl⟩
  · cases h; exact cal_V mX5_has (by decide) rfl (List.forall_mem_cons.mpr ⟨(ws_mem (List.mem_of_getElem? (i := 390) (by decide +kernel)) (by decide +kernel)), List.forall_mem_cons.mpr ⟨(ws_mem (List.mem_of_getElem? (i := 391) (by decide +kernel)) (by decide +kernel)), List.forall_mem_cons.mpr ⟨(ws_mem (List.mem_of_getElem? (i := 392) (by decide +kernel)) (by decide +kernel)), List.forall_mem_cons.mpr ⟨(ws_mem (List.mem_of_getElem? (i := 55) (by decide +kernel)) (by decide +kernel)), List.forall_mem_cons.mpr ⟨(ws_mem (List.mem_of_getElem? (i := 393) (by decide +kernel)) (by decide +kernel)), fun _ h => absurd h List.not_mem_nil⟩⟩⟩⟩⟩) rfl (by unfold nice; decide +kernel) (by unfold rfits; decide) ⟨rfl, rfl⟩
  · cases h; exact cal_V mX2_holdStation (by decide) rfl (List.forall_mem_cons.mpr ⟨(ws_mem (List.mem_of_getElem? (i := 642) (by decide +kernel)) (by decide +kernel)), List.forall_mem_cons.mpr ⟨(ws_mem (List.mem_of_getElem? (i := 643) (by decide +kernel)) (by decide +kernel)), List.forall_mem_cons.mpr ⟨(ws_mem (List.mem_of_getElem? (i := 644) (by decide +kernel)) (by decide +kernel)), List.forall_mem_cons.mpr ⟨(ws_mem (List.mem_of_getElem? (i := 63) (by decide +kernel)) (by decide +kernel)), List.forall_mem_cons.mpr ⟨(ws_mem (List.mem_of_getElem? (i := 645) (by decide +kernel)) (by decide +kernel)), fun _ h => absurd h List.not_mem_nil⟩⟩⟩⟩⟩) rfl (by unfold nice; decide +kernel) (by unfold rfits; decide) ⟨rfl, rfl⟩
  · cases h; exact cal_V mX7_bestWay (by decide) rfl (List.forall_mem_cons.mpr ⟨(ws_mem (List.mem_of_getElem? (i := 465) (by decide +kernel)) (by decide +kernel)), List.forall_mem_cons.mpr ⟨(ws_mem (List.mem_of_getElem? (i := 466) (by decide +kernel)) (by decide +kernel)), List.forall_mem_cons.mpr ⟨(ws_mem (List.mem_of_getElem? (i := 467) (by decide +kernel)) (by decide +kernel)), List.forall_mem_cons.mpr ⟨(ws_mem (List.mem_of_getElem? (i := 54) (by decide +kernel)) (by decide +kernel)), List.forall_mem_cons.mpr ⟨(ws_mem (List.mem_of_getElem? (i := 468) (by decide +kernel)) (by decide +kernel)), fun _ h => absurd h List.not_mem_nil⟩⟩⟩⟩⟩) rfl (by unfold nice; decide +kernel) (by unfold rfits; decide) ⟨rfl, rfl⟩
  · cases h; exact cal_V mX2_holdPaces (by decide) rfl (List.forall_mem_cons.mpr ⟨(ws_mem (List.mem_of_getElem? (i := 650) (by decide +kernel)) (by decide +kernel)), List.forall_mem_cons.mpr ⟨(ws_mem (List.mem_of_getElem? (i := 651) (by decide +kernel)) (by decide +kernel)), List.forall_mem_cons.mpr ⟨(ws_mem (List.mem_of_getElem? (i := 652) (by decide +kernel)) (by decide +kernel)), List.forall_mem_cons.mpr ⟨(ws_mem (List.mem_of_getElem? (i := 63) (by decide +kernel)) (by decide +kernel)), List.forall_mem_cons.mpr ⟨(ws_mem (List.mem_of_getElem? (i := 653) (by decide +kernel)) (by decide +kernel)), fun _ h => absurd h List.not_mem_nil⟩⟩⟩⟩⟩) rfl (by unfold nice; decide +kernel) (by unfold rfits; decide) ⟨rfl, rfl⟩
  · cases h; exact cal_V mX7_stayOn (by decide) rfl (List.forall_mem_cons.mpr ⟨(ws_mem (List.mem_of_getElem? (i := 443) (by decide +kernel)) (by decide +kernel)), List.forall_mem_cons.mpr ⟨(ws_mem (List.mem_of_getElem? (i := 444) (by decide +kernel)) (by decide +kernel)), List.forall_mem_cons.mpr ⟨(ws_mem (List.mem_of_getElem? (i := 445) (by decide +kernel)) (by decide +kernel)), List.forall_mem_cons.mpr ⟨(ws_mem (List.mem_of_getElem? (i := 54) (by decide +kernel)) (by decide +kernel)), List.forall_mem_cons.mpr ⟨(ws_mem (List.mem_of_getElem? (i := 446) (by decide +kernel)) (by decide +kernel)), fun _ h => absurd h List.not_mem_nil⟩⟩⟩⟩⟩) rfl (by unfold nice; decide +kernel) (by unfold rfits; decide) ⟨rfl, rfl⟩
  · cases h
theorem ocX8_keep_37 (f : Nat → Nat → Nat → Nat → (List MV → MS → (Option MV → MS → Prop) → Prop) → Prop) : oC aX8_keep 37 f = f 3 10 0 0 spX8_within := propext Iff.rfl
theorem ocX8_keep_61 (f : Nat → Nat → Nat → Nat → (List MV → MS → (Option MV → MS → Prop) → Prop) → Prop) : oC aX8_keep 61 f = f 2 5 0 0 spX5_has := propext Iff.rfl
theorem ocX8_keep_214 (f : Nat → Nat → Nat → Nat → (List MV → MS → (Option MV → MS → Prop) → Prop) → Prop) : oC aX8_keep 214 f = f 2 2 0 0 spX2_holdStation := propext Iff.rfl
theorem ocX8_keep_131 (f : Nat → Nat → Nat → Nat → (List MV → MS → (Option MV → MS → Prop) → Prop) → Prop) : oC aX8_keep 131 f = f 1 7 0 0 spX7_bestWay := propext Iff.rfl
theorem ocX8_keep_218 (f : Nat → Nat → Nat → Nat → (List MV → MS → (Option MV → MS → Prop) → Prop) → Prop) : oC aX8_keep 218 f = f 4 2 0 0 spX2_holdPaces := propext Iff.rfl
theorem ocX8_keep_112 (f : Nat → Nat → Nat → Nat → (List MV → MS → (Option MV → MS → Prop) → Prop) → Prop) : oC aX8_keep 112 f = f 2 7 0 0 spX7_stayOn := propext Iff.rfl
theorem mdX8_keep : MD RX8 cX8_keep rmX8_keep kX8_keep fX8 aX8_keep zX8 uX8 := ⟨fokX8, zokX8, uokX8, aokX8_keep, qX8_keep⟩
set_option maxRecDepth 100000 in
set_option maxHeartbeats 800000 in
theorem mX8_keep : MOK yX8_keep cX8_keep 5 (some .int) rmX8_keep ciX8_keep := by
  refine mok_of (ini := false) (by decide +kernel) (by decide) rfl rfl ?_
  intro σ As K hrc hl h
  obtain ⟨N, P, I, L⟩ := σ
  have h9 := pR_iff.mp h
  clear h
  obtain ⟨a, r, e9, h⟩ := h9
  subst e9
  have h9 := pI_iff.mp h
  clear h
  obtain ⟨d, r, e9, h⟩ := h9
  subst e9
  have h9 := pI_iff.mp h
  clear h
  obtain ⟨w, r, e9, h⟩ := h9
  subst e9
  have h9 := pI_iff.mp h
  clear h
  obtain ⟨k, r, e9, h⟩ := h9
  subst e9
  have h9 := pN_iff.mp h
  clear h
  obtain ⟨e9, h⟩ := h9
  subst e9
  dsimp only at h
  obtain ⟨rfl, rfl, hd, hw, hk, hx, h1, h2⟩ := h
  unfold RI at hd hw hk
  have hx' := hx
  obtain ⟨x1, x2, x3, x4, x5, x6, x7⟩ := hx'
  have y1 := x1.1
  have y2 := x1.2.1
  by_cases q : 0 ≤ d ∧ d ≤ 7
  · have hb := shB_d q.1 q.2
    have hp := PF_shelf (i := d) (by omega) (by omega)
    obtain ⟨g0, _⟩ := shB_rows hb
    have bad : ¬ goodK I d w k → K (some (.inl (-1))) (N, PF, I, L) := h1
    refine ⟨Nat.le_of_ble_eq_true rfl, Ok.seg mdX8_keep [] 60 ?_⟩
    simp only [wp_nil, wp_cons, ↓stp, ↓lI, ↓lL, ↓lR, ↓lIn_0, ↓lIn_1, ↓lIn_2, ↓lIn_3, ↓lLn_0, ↓lLn_1, ↓lLn_2, ↓lLn_3, ↓lRn_0, ↓lRn_1, ↓lRn_2, ↓lRn_3, ↓pI, ↓pL, ↓pR, ↓pA, ↓pN, ↓pV, ↓fp, ↓tsw, ↓oS, ↓spMax, ↓spMin, ↓spAbs, ↓spObj, RI, RLg, b2i_lo, b2i_hi, getL, setL, ltL, killL, isLong, inl, cnd, br, tgt, rcv, rpl, mputI, mputL, mputP, fv, fr, mcat, mcs, entL, entA, rfit, nf_0, nf_1, nf_2, nf_3, nf2_0, nf2_1, b2i_0, b2i_1, RI_b2i, b2i_fit, List.append, List.length, List.replicate, List.cons_append, List.nil_append, List.length_cons, List.length_nil, List.replicate_succ, List.replicate_zero, List.tail_cons, reduceIte, if_true, if_false, ite_true, ite_false, Bool.false_eq_true, true_and, and_true, and_self, false_and, and_false, or_self, or_true, true_or, or_false, false_or, not_true_eq_false, not_false_eq_true, ne_eq, forall_const, implies_true, imp_self, true_implies, false_implies, Nat.reduceAdd, Nat.reduceSub, Nat.reduceMul, Nat.reduceDiv, Nat.reduceMod, Nat.reduceEqDiff, Nat.reduceLT, Nat.reduceLeDiff, Nat.reduceBEq, Nat.add_zero, Nat.zero_add, Nat.le_refl, Nat.not_lt_zero, Nat.succ_eq_add_one, Int.reduceNatCast, Int.cast_ofNat_Int, Int.reduceSub, Int.reduceMul, Int.reduceNeg, Int.reduceLE, Int.reduceLT, Int.reduceToNat, Int.reduceEq, Int.reduceNe, Int.reduceAdd, Option.some.injEq, kX8_keep, rmX8_keep, ↓ofX8_10, ↓ofX8_116, ↓ofX8_211, ↓ofX8_32, ↓ofX8_41, ↓ofX8_45, ↓ofX8_65, ↓ocX8_keep_37, ↓spX8_within, ↓ocX8_keep_61, ↓spX5_has, ↓ocX8_keep_214, ↓spX2_holdStation, ↓ocX8_keep_131, ↓spX7_bestWay, ↓ocX8_keep_218, ↓spX2_holdPaces, ↓ocX8_keep_112, ↓spX7_stayOn, q, hp, g0, hb, x1, x2, x4, y1, y2, G_1, G_2, G_3, G_4, G_35, G_36, G_37, G_38, G_39, G_40, G_41, G_42, G_43, G_44, G_45, G_46, G_47, G_48, G_49, G_140, G_141, G_142, G_143, G_144, G_145, G_146, G_178, G_179, G_180, G_181, G_182, G_183, G_184, G_189, G_198, G_207, PF_1_0, PF_1_1, PF_1_2, PF_1_3, PF_2_0, PF_2_1, PF_2_3, PF_2_4, PF_2_5, PF_2_6, PF_2_7, PF_2_8, PF_2_9, PF_2_10, PF_2_11, PF_3_0, PF_35_0, PF_35_1, PF_35_2, PF_35_3, PF_40_0, PF_40_1, PF_40_2, PF_44_0, PF_44_1, PF_44_2, PF_145_0, PF_145_1, PF_179_0, PF_179_1, PF_179_2, PF_179_3, PF_179_8, PF_179_9, PF_179_10]
    refine ⟨by omega, by omega, by omega, fun z => bad (by unfold goodK; omega), fun z => ?_, fun z => ?_, fun z => bad (by unfold goodK; omega), fun z => ?_, fun z => ?_⟩
    · subst z
      have ue : ∀ c k, ¬ (c = 208 + 4 * d ∧ k = 0) → upI I (208 + 4 * d) 0 0 c k = I c k := fun c k hc => if_neg hc
      have sb := x7 _ hb
      refine h2 (by unfold goodK; omega) _ (fun c k _ _ _ _ c5 => ue c k (by omega)) (xOK_H hb hx (fun c k hc => ue c k (by omega)) ⟨by have sb1 := sb.1; rw [upI_same, ue (208 + 4 * d + 1) 4 (by omega)]; omega, by rw [ue _ _ (by omega)]; exact sb.2.1, fun z => by rw [upI_same] at z; omega, fun k k0 k1 => by rw [ue _ _ (by omega)]; exact sb.2.2.2 k k0 k1⟩) ⟨upI_same, fun z => by omega, fun z => by omega, fun z => by omega⟩
    · subst z
      refine ⟨by omega, fun z => bad (by unfold goodK; omega), fun z => ?_⟩
      have hpk := PF_st (i := k) (by omega) (by omega)
      rw [hpk]
      simp only [wp_nil, wp_cons, ↓stp, ↓lI, ↓lL, ↓lR, ↓lIn_0, ↓lIn_1, ↓lIn_2, ↓lIn_3, ↓lLn_0, ↓lLn_1, ↓lLn_2, ↓lLn_3, ↓lRn_0, ↓lRn_1, ↓lRn_2, ↓lRn_3, ↓pI, ↓pL, ↓pR, ↓pA, ↓pN, ↓pV, ↓fp, ↓tsw, ↓oS, ↓spMax, ↓spMin, ↓spAbs, ↓spObj, RI, RLg, b2i_lo, b2i_hi, getL, setL, ltL, killL, isLong, inl, cnd, br, tgt, rcv, rpl, mputI, mputL, mputP, fv, fr, mcat, mcs, entL, entA, rfit, nf_0, nf_1, nf_2, nf_3, nf2_0, nf2_1, b2i_0, b2i_1, RI_b2i, b2i_fit, List.append, List.length, List.replicate, List.cons_append, List.nil_append, List.length_cons, List.length_nil, List.replicate_succ, List.replicate_zero, List.tail_cons, reduceIte, if_true, if_false, ite_true, ite_false, Bool.false_eq_true, true_and, and_true, and_self, false_and, and_false, or_self, or_true, true_or, or_false, false_or, not_true_eq_false, not_false_eq_true, ne_eq, forall_const, implies_true, imp_self, true_implies, false_implies, Nat.reduceAdd, Nat.reduceSub, Nat.reduceMul, Nat.reduceDiv, Nat.reduceMod, Nat.reduceEqDiff, Nat.reduceLT, Nat.reduceLeDiff, Nat.reduceBEq, Nat.add_zero, Nat.zero_add, Nat.le_refl, Nat.not_lt_zero, Nat.succ_eq_add_one, Int.reduceNatCast, Int.cast_ofNat_Int, Int.reduceSub, Int.reduceMul, Int.reduceNeg, Int.reduceLE, Int.reduceLT, Int.reduceToNat, Int.reduceEq, Int.reduceNe, Int.reduceAdd, Option.some.injEq, kX8_keep, rmX8_keep, ↓ofX8_10, ↓ofX8_116, ↓ofX8_211, ↓ofX8_32, ↓ofX8_41, ↓ofX8_45, ↓ofX8_65, ↓ocX8_keep_37, ↓spX8_within, ↓ocX8_keep_61, ↓spX5_has, ↓ocX8_keep_214, ↓spX2_holdStation, ↓ocX8_keep_131, ↓spX7_bestWay, ↓ocX8_keep_218, ↓spX2_holdPaces, ↓ocX8_keep_112, ↓spX7_stayOn, q, hp, g0, hb, x1, x2, x4, y1, y2, G_1, G_2, G_3, G_4, G_35, G_36, G_37, G_38, G_39, G_40, G_41, G_42, G_43, G_44, G_45, G_46, G_47, G_48, G_49, G_140, G_141, G_142, G_143, G_144, G_145, G_146, G_178, G_179, G_180, G_181, G_182, G_183, G_184, G_189, G_198, G_207, PF_1_0, PF_1_1, PF_1_2, PF_1_3, PF_2_0, PF_2_1, PF_2_3, PF_2_4, PF_2_5, PF_2_6, PF_2_7, PF_2_8, PF_2_9, PF_2_10, PF_2_11, PF_3_0, PF_35_0, PF_35_1, PF_35_2, PF_35_3, PF_40_0, PF_40_1, PF_40_2, PF_44_0, PF_44_1, PF_44_2, PF_145_0, PF_145_1, PF_179_0, PF_179_1, PF_179_2, PF_179_3, PF_179_8, PF_179_9, PF_179_10]
      refine ⟨by omega, by omega, by omega, by omega, by omega, fun J j1 j2 j3 => ?_⟩
      have sb := x7 _ hb
      have hst := x1.2.2 k (by omega) (by omega)
      refine h2 (by unfold goodK; omega) J (fun c k _ _ _ _ c5 => j1 c k (by omega) (by omega)) (xOK_H hb hx (fun c k hc => j1 c k (by omega) (by omega)) ⟨by have sb1 := sb.1; rw [j3, j1 (208 + 4 * d + 1) 4 (by omega) (by omega)]; omega, by rw [j1 _ _ (by omega) (by omega)]; exact sb.2.1, fun _ => ?_, fun k k0 k1 => by rw [j1 _ _ (by omega) (by omega)]; exact sb.2.2.2 k k0 k1⟩) ⟨j3, fun _ => j2, fun z => by omega, fun z => by omega⟩
      unfold stOK at hst ⊢
      have sb1 := sb.1
      rw [j2 0 (by omega) (by omega), j2 1 (by omega) (by omega), j2 2 (by omega) (by omega), j2 3 (by omega) (by omega), j1 (208 + 4 * d + 1) 4 (by omega) (by omega)]
      omega
    · subst z
      intro J k1 k2 k3
      have hxJ := xOK_B hx k1 (.inr ⟨k3, k2⟩)
      have e3 : J 3 1 = I 3 1 := k1.c3 _ _ (by omega) (by omega)
      have hpr : ∀ i, 0 ≤ i → i < J 3 1 → 1 ≤ J 42 i ∧ J 42 i ≤ 60 := fun i i0 i1 => by
        obtain ⟨B, b1, b2, b3, b4⟩ := k2
        have a := b3.1.1.2.1 i i0 i1
        have b := lim_rng (J (5 + i) 0) (J (5 + i) 2) (J (5 + i) 3) (J (40 + 1) i) (J 36 0)
        dsimp only at a
        unfold lmv at a
        rw [show (40 : Int) + 2 = 42 by rfl] at a
        omega
      refine ⟨by omega, by omega, by omega, hpr, fun M m1 m2 m3 m4 m5 => ?_⟩
      obtain ⟨a, b⟩ := hold_of hb hxJ (.inl rfl) (by omega) (by omega) hpr m1 m2 m3 m4 m5
      have fM : ∀ c k, ¬ (208 + 4 * d ≤ c ∧ c ≤ 208 + 4 * d + 3) → M c k = J c k := fun c k hc => m1 c k (by omega) (by omega) (by omega)
      refine h2 (by unfold goodK; omega) M (fun c k c0 c1 c2 c3 c5 => (fM c k c5).trans (k1.q c k c0 c1 c2 c3)) a ⟨m4, fun z => by omega, fun _ => ⟨m5.trans e3, bestOK_c3 (fun c k c0 c1 => fM c k (by omega)) hxJ.1.2.1 (fun c k c0 c1 => fM c k (by omega)) k2, fun i i0 i1 => ?_⟩, fun z => by omega⟩
      rw [b i i0 (by omega), fM 42 i (by omega)]
    · subst z
      refine ⟨by omega, fun z => bad (by unfold goodK; omega), fun z => ⟨by omega, by omega, fun J k1 k2 k3 k4 => ?_⟩⟩
      have hxJ : xOK J := xOK_E hx (fun b k b0 b1 => k1 b k (by omega))
      have e3 : J 3 1 = I 3 1 := k1 _ _ (by omega)
      have st := (stay_of x1 x2 k1 k2 k3).1
      have hpr : ∀ i, 0 ≤ i → i < J 3 1 → 1 ≤ J 46 i ∧ J 46 i ≤ 60 := fun i i0 i1 => by
        have a := st.1.2.1 i i0 (by omega)
        have b := lim_rng (I (5 + i) 0) (I (5 + i) 2) (I (5 + i) 3) k (I 36 0)
        dsimp only at a
        unfold lmv at a
        omega
      refine ⟨by omega, by omega, by omega, hpr, fun M m1 m2 m3 m4 m5 => ?_⟩
      obtain ⟨a, b⟩ := hold_of hb hxJ (.inr rfl) (by omega) (by omega) hpr m1 m2 m3 m4 m5
      have fM : ∀ c k, ¬ (208 + 4 * d ≤ c ∧ c ≤ 208 + 4 * d + 3) → M c k = J c k := fun c k hc => m1 c k (by omega) (by omega) (by omega)
      exact h2 (by unfold goodK; omega) M (fun c k c0 c1 c2 c3 c5 => (fM c k c5).trans (k1 c k (by omega))) a ⟨m4, fun z => by omega, fun z => by omega, fun _ => ⟨m5.trans e3, J 46, st, fun i i0 i1 => b i i0 (by omega)⟩⟩
  · refine ⟨Nat.le_of_ble_eq_true rfl, Ok.seg mdX8_keep [] 60 ?_⟩
    simp only [wp_nil, wp_cons, ↓stp, ↓lI, ↓lL, ↓lR, ↓lIn_0, ↓lIn_1, ↓lIn_2, ↓lIn_3, ↓lLn_0, ↓lLn_1, ↓lLn_2, ↓lLn_3, ↓lRn_0, ↓lRn_1, ↓lRn_2, ↓lRn_3, ↓pI, ↓pL, ↓pR, ↓pA, ↓pN, ↓pV, ↓fp, ↓tsw, ↓oS, ↓spMax, ↓spMin, ↓spAbs, ↓spObj, RI, RLg, b2i_lo, b2i_hi, getL, setL, ltL, killL, isLong, inl, cnd, br, tgt, rcv, rpl, mputI, mputL, mputP, fv, fr, mcat, mcs, entL, entA, rfit, nf_0, nf_1, nf_2, nf_3, nf2_0, nf2_1, b2i_0, b2i_1, RI_b2i, b2i_fit, List.append, List.length, List.replicate, List.cons_append, List.nil_append, List.length_cons, List.length_nil, List.replicate_succ, List.replicate_zero, List.tail_cons, reduceIte, if_true, if_false, ite_true, ite_false, Bool.false_eq_true, true_and, and_true, and_self, false_and, and_false, or_self, or_true, true_or, or_false, false_or, not_true_eq_false, not_false_eq_true, ne_eq, forall_const, implies_true, imp_self, true_implies, false_implies, Nat.reduceAdd, Nat.reduceSub, Nat.reduceMul, Nat.reduceDiv, Nat.reduceMod, Nat.reduceEqDiff, Nat.reduceLT, Nat.reduceLeDiff, Nat.reduceBEq, Nat.add_zero, Nat.zero_add, Nat.le_refl, Nat.not_lt_zero, Nat.succ_eq_add_one, Int.reduceNatCast, Int.cast_ofNat_Int, Int.reduceSub, Int.reduceMul, Int.reduceNeg, Int.reduceLE, Int.reduceLT, Int.reduceToNat, Int.reduceEq, Int.reduceNe, Int.reduceAdd, Option.some.injEq, kX8_keep, rmX8_keep, ↓ofX8_10, ↓ofX8_116, ↓ofX8_211, ↓ofX8_32, ↓ofX8_41, ↓ofX8_45, ↓ofX8_65, ↓ocX8_keep_37, ↓spX8_within, ↓ocX8_keep_61, ↓spX5_has, ↓ocX8_keep_214, ↓spX2_holdStation, ↓ocX8_keep_131, ↓spX7_bestWay, ↓ocX8_keep_218, ↓spX2_holdPaces, ↓ocX8_keep_112, ↓spX7_stayOn, q, G_1, G_2, G_3, G_4, G_35, G_36, G_37, G_38, G_39, G_40, G_41, G_42, G_43, G_44, G_45, G_46, G_47, G_48, G_49, G_140, G_141, G_142, G_143, G_144, G_145, G_146, G_178, G_179, G_180, G_181, G_182, G_183, G_184, G_189, G_198, G_207, PF_1_0, PF_1_1, PF_1_2, PF_1_3, PF_2_0, PF_2_1, PF_2_3, PF_2_4, PF_2_5, PF_2_6, PF_2_7, PF_2_8, PF_2_9, PF_2_10, PF_2_11, PF_3_0, PF_35_0, PF_35_1, PF_35_2, PF_35_3, PF_40_0, PF_40_1, PF_40_2, PF_44_0, PF_44_1, PF_44_2, PF_145_0, PF_145_1, PF_179_0, PF_179_1, PF_179_2, PF_179_3, PF_179_8, PF_179_9, PF_179_10]
    exact ⟨by omega, h1 (by unfold goodK; omega)⟩
def spX8_make (As : List MV) (σ : MS) (K : Option MV → MS → Prop) : Prop := pR As fun a r => pI r fun d r => pI r fun w r => pI r fun n r => pN r (a = 1 ∧ σ.2.1 = PF ∧ RI d ∧ RI w ∧ RI n ∧ xOK σ.2.2.1 ∧ (¬ (0 ≤ d ∧ d ≤ 7 ∧ 3 ≤ w ∧ w ≤ 4 ∧ n ≤ 60) → K (some (.inl (-1))) σ) ∧ (0 ≤ d ∧ d ≤ 7 ∧ 3 ≤ w ∧ w ≤ 4 ∧ n ≤ 60 → (n < 0 → K (some (.inl (-14))) σ) ∧ (0 ≤ n → ∀ I' : Int → Int → Int, frH σ.2.2.1 I' (208 + 4 * d) → xOK I' → I' (208 + 4 * d) 0 = w → I' (208 + 4 * d) 1 = n → (∀ i, 0 ≤ i → i < 60 → itm I' (208 + 4 * d) i = 0) → K (some (.inl 0)) (σ.1, σ.2.1, I', σ.2.2.2))))
def ciX8_make : CI := (4, 8, 0, 0, spX8_make)
def kX8_make (pc : Nat) : List ME := match pc with
  | 0 => [(.iload_n 1, 1, []), (.iconst 0, 1, []), (.bipush 7, 2, []), (.invokestatic 37, 3, []), (.ifCond .eq 18, 3, [25]), (.iload_n 2, 1, []), (.iconst 3, 1, []), (.iconst 4, 1, []), (.invokestatic 37, 3, []), (.ifCond .eq 9, 3, [25]), (.iload_n 3, 1, []), (.bipush 60, 2, []), (.if_icmp .le 5, 3, [27])]
  | 25 => [(.iconst (-1), 1, []), (.ireturn, 1, [])]
  | 27 => [(.iload_n 3, 1, []), (.ifCond .ge 6, 3, [34]), (.bipush (-14), 2, []), (.ireturn, 1, [])]
  | 34 => [(.aload_n 0, 1, []), (.getfield 32, 3, []), (.iload_n 1, 1, []), (.aaload, 1, []), (.iload_n 2, 1, []), (.iload_n 3, 1, []), (.invokevirtual 222, 3, []), (.ireturn, 1, [])]
  | _ => []
theorem qX8_make : ∀ pc, chk cX8_make pc (kX8_make pc) = true := by
  intro pc
  unfold kX8_make
  split <;> first | decide +kernel | exact chk_nil
abbrev rmX8_make : Room := { frames := 2, cells := 0, slots := 0, locals := 45 }
def aX8_make (x : Nat) : Option CI := match x with
  | 37 => some ciX8_within
  | 222 => some ciX2_holdZeros
  | _ => none
theorem aokX8_make : ∀ x ci, aX8_make x = some ci → CalOK RX8 rmX8_make x ci := by
  intro x ci h
  unfold aX8_make at h
  split at h
  · cases h; exact cal_S mX8_within rfl (List.forall_mem_cons.mpr ⟨(ws_mem (List.mem_of_getElem? (i := 363) (by decide +kernel)) (by decide +kernel)), List.forall_mem_cons.mpr ⟨(ws_mem (List.mem_of_getElem? (i := 364) (by decide +kernel)) (by decide +kernel)), List.forall_mem_cons.mpr ⟨(ws_mem (List.mem_of_getElem? (i := 53) (by decide +kernel)) (by decide +kernel)), List.forall_mem_cons.mpr ⟨(ws_mem (List.mem_of_getElem? (i := 365) (by decide +kernel)) (by decide +kernel)), fun _ h => absurd h List.not_mem_nil⟩⟩⟩⟩) rfl (by unfold nice; decide +kernel) (by unfold rfits; decide) ⟨rfl, rfl⟩
  · cases h; exact cal_V mX2_holdZeros (by decide) rfl (List.forall_mem_cons.mpr ⟨(ws_mem (List.mem_of_getElem? (i := 658) (by decide +kernel)) (by decide +kernel)), List.forall_mem_cons.mpr ⟨(ws_mem (List.mem_of_getElem? (i := 659) (by decide +kernel)) (by decide +kernel)), List.forall_mem_cons.mpr ⟨(ws_mem (List.mem_of_getElem? (i := 660) (by decide +kernel)) (by decide +kernel)), List.forall_mem_cons.mpr ⟨(ws_mem (List.mem_of_getElem? (i := 63) (by decide +kernel)) (by decide +kernel)), List.forall_mem_cons.mpr ⟨(ws_mem (List.mem_of_getElem? (i := 661) (by decide +kernel)) (by decide +kernel)), fun _ h => absurd h List.not_mem_nil⟩⟩⟩⟩⟩) rfl (by unfold nice; decide +kernel) (by unfold rfits; decide) ⟨rfl, rfl⟩
  · cases h
theorem ocX8_make_37 (f : Nat → Nat → Nat → Nat → (List MV → MS → (Option MV → MS → Prop) → Prop) → Prop) : oC aX8_make 37 f = f 3 10 0 0 spX8_within := propext Iff.rfl
theorem ocX8_make_222 (f : Nat → Nat → Nat → Nat → (List MV → MS → (Option MV → MS → Prop) → Prop) → Prop) : oC aX8_make 222 f = f 3 2 0 0 spX2_holdZeros := propext Iff.rfl
theorem mdX8_make : MD RX8 cX8_make rmX8_make kX8_make fX8 aX8_make zX8 uX8 := ⟨fokX8, zokX8, uokX8, aokX8_make, qX8_make⟩
set_option maxRecDepth 100000 in
set_option maxHeartbeats 800000 in
theorem mX8_make : MOK yX8_make cX8_make 4 (some .int) rmX8_make ciX8_make := by
  refine mok_of (ini := false) (by decide +kernel) (by decide) rfl rfl ?_
  intro σ As K hrc hl h
  obtain ⟨N, P, I, L⟩ := σ
  have h9 := pR_iff.mp h
  clear h
  obtain ⟨a, r, e9, h⟩ := h9
  subst e9
  have h9 := pI_iff.mp h
  clear h
  obtain ⟨d, r, e9, h⟩ := h9
  subst e9
  have h9 := pI_iff.mp h
  clear h
  obtain ⟨w, r, e9, h⟩ := h9
  subst e9
  have h9 := pI_iff.mp h
  clear h
  obtain ⟨n, r, e9, h⟩ := h9
  subst e9
  have h9 := pN_iff.mp h
  clear h
  obtain ⟨e9, h⟩ := h9
  subst e9
  dsimp only at h
  obtain ⟨rfl, rfl, hd, hw, hn, hx, h1, h2⟩ := h
  unfold RI at hd hw hn
  by_cases q : 0 ≤ d ∧ d ≤ 7
  · have hb := shB_d q.1 q.2
    have hp := PF_shelf (i := d) (by omega) (by omega)
    obtain ⟨g0, _⟩ := shB_rows hb
    refine ⟨Nat.le_of_ble_eq_true rfl, Ok.seg mdX8_make [] 60 ?_⟩
    simp only [wp_nil, wp_cons, ↓stp, ↓lI, ↓lL, ↓lR, ↓lIn_0, ↓lIn_1, ↓lIn_2, ↓lIn_3, ↓lLn_0, ↓lLn_1, ↓lLn_2, ↓lLn_3, ↓lRn_0, ↓lRn_1, ↓lRn_2, ↓lRn_3, ↓pI, ↓pL, ↓pR, ↓pA, ↓pN, ↓pV, ↓fp, ↓tsw, ↓oS, ↓spMax, ↓spMin, ↓spAbs, ↓spObj, RI, RLg, b2i_lo, b2i_hi, getL, setL, ltL, killL, isLong, inl, cnd, br, tgt, rcv, rpl, mputI, mputL, mputP, fv, fr, mcat, mcs, entL, entA, rfit, nf_0, nf_1, nf_2, nf_3, nf2_0, nf2_1, b2i_0, b2i_1, RI_b2i, b2i_fit, List.append, List.length, List.replicate, List.cons_append, List.nil_append, List.length_cons, List.length_nil, List.replicate_succ, List.replicate_zero, List.tail_cons, reduceIte, if_true, if_false, ite_true, ite_false, Bool.false_eq_true, true_and, and_true, and_self, false_and, and_false, or_self, or_true, true_or, or_false, false_or, not_true_eq_false, not_false_eq_true, ne_eq, forall_const, implies_true, imp_self, true_implies, false_implies, Nat.reduceAdd, Nat.reduceSub, Nat.reduceMul, Nat.reduceDiv, Nat.reduceMod, Nat.reduceEqDiff, Nat.reduceLT, Nat.reduceLeDiff, Nat.reduceBEq, Nat.add_zero, Nat.zero_add, Nat.le_refl, Nat.not_lt_zero, Nat.succ_eq_add_one, Int.reduceNatCast, Int.cast_ofNat_Int, Int.reduceSub, Int.reduceMul, Int.reduceNeg, Int.reduceLE, Int.reduceLT, Int.reduceToNat, Int.reduceEq, Int.reduceNe, Int.reduceAdd, Option.some.injEq, kX8_make, rmX8_make, ↓ofX8_32, ↓ocX8_make_37, ↓spX8_within, ↓ocX8_make_222, ↓spX2_holdZeros, q, hp, g0, hb, G_1, G_2, G_3, G_4, G_35, G_36, G_37, G_38, G_39, G_40, G_41, G_42, G_43, G_44, G_45, G_46, G_47, G_48, G_49, G_140, G_141, G_142, G_143, G_144, G_145, G_146, G_178, G_179, G_180, G_181, G_182, G_183, G_184, G_189, G_198, G_207, PF_1_0, PF_1_1, PF_1_2, PF_1_3, PF_2_0, PF_2_1, PF_2_3, PF_2_4, PF_2_5, PF_2_6, PF_2_7, PF_2_8, PF_2_9, PF_2_10, PF_2_11, PF_3_0, PF_35_0, PF_35_1, PF_35_2, PF_35_3, PF_40_0, PF_40_1, PF_40_2, PF_44_0, PF_44_1, PF_44_2, PF_145_0, PF_145_1, PF_179_0, PF_179_1, PF_179_2, PF_179_3, PF_179_8, PF_179_9, PF_179_10]
    refine ⟨by omega, by omega, fun q1 => h1 (by omega), fun q1 => ⟨by omega, fun q2 => ?_, fun q2 => h1 (by omega)⟩⟩
    obtain ⟨h3, h4⟩ := h2 (by omega)
    refine ⟨by omega, fun q3 => ⟨by omega, by omega, fun M m1 m2 m3 m4 => ?_⟩, fun q3 => h3 (by omega)⟩
    have fM : ∀ c k, ¬ (208 + 4 * d ≤ c ∧ c ≤ 208 + 4 * d + 3) → M c k = I c k := fun c k hc => m1 c k (by omega) (by omega) (by omega)
    refine h4 (by omega) M (fun c k c0 c1 c2 c3 c5 => fM c k c5) (xOK_H hb hx (fun c k hc => m1 c k (by omega) (by omega) (by omega)) ⟨by have sb := (hx.2.2.2.2.2.2 _ hb).1; rw [m1 (208 + 4 * d + 1) 4 (by omega) (by omega) (by omega)]; omega, by omega, fun z => by omega, fun k k0 k1 => by rw [(m2 k k0 k1).2]; omega⟩) m3 m4 (fun i i0 i1 => ?_)
    unfold itm
    rw [(m2 i i0 i1).1, (m2 i i0 i1).2]
    split <;> rfl
  · refine ⟨Nat.le_of_ble_eq_true rfl, Ok.seg mdX8_make [] 60 ?_⟩
    simp only [wp_nil, wp_cons, ↓stp, ↓lI, ↓lL, ↓lR, ↓lIn_0, ↓lIn_1, ↓lIn_2, ↓lIn_3, ↓lLn_0, ↓lLn_1, ↓lLn_2, ↓lLn_3, ↓lRn_0, ↓lRn_1, ↓lRn_2, ↓lRn_3, ↓pI, ↓pL, ↓pR, ↓pA, ↓pN, ↓pV, ↓fp, ↓tsw, ↓oS, ↓spMax, ↓spMin, ↓spAbs, ↓spObj, RI, RLg, b2i_lo, b2i_hi, getL, setL, ltL, killL, isLong, inl, cnd, br, tgt, rcv, rpl, mputI, mputL, mputP, fv, fr, mcat, mcs, entL, entA, rfit, nf_0, nf_1, nf_2, nf_3, nf2_0, nf2_1, b2i_0, b2i_1, RI_b2i, b2i_fit, List.append, List.length, List.replicate, List.cons_append, List.nil_append, List.length_cons, List.length_nil, List.replicate_succ, List.replicate_zero, List.tail_cons, reduceIte, if_true, if_false, ite_true, ite_false, Bool.false_eq_true, true_and, and_true, and_self, false_and, and_false, or_self, or_true, true_or, or_false, false_or, not_true_eq_false, not_false_eq_true, ne_eq, forall_const, implies_true, imp_self, true_implies, false_implies, Nat.reduceAdd, Nat.reduceSub, Nat.reduceMul, Nat.reduceDiv, Nat.reduceMod, Nat.reduceEqDiff, Nat.reduceLT, Nat.reduceLeDiff, Nat.reduceBEq, Nat.add_zero, Nat.zero_add, Nat.le_refl, Nat.not_lt_zero, Nat.succ_eq_add_one, Int.reduceNatCast, Int.cast_ofNat_Int, Int.reduceSub, Int.reduceMul, Int.reduceNeg, Int.reduceLE, Int.reduceLT, Int.reduceToNat, Int.reduceEq, Int.reduceNe, Int.reduceAdd, Option.some.injEq, kX8_make, rmX8_make, ↓ofX8_32, ↓ocX8_make_37, ↓spX8_within, ↓ocX8_make_222, ↓spX2_holdZeros, q, G_1, G_2, G_3, G_4, G_35, G_36, G_37, G_38, G_39, G_40, G_41, G_42, G_43, G_44, G_45, G_46, G_47, G_48, G_49, G_140, G_141, G_142, G_143, G_144, G_145, G_146, G_178, G_179, G_180, G_181, G_182, G_183, G_184, G_189, G_198, G_207, PF_1_0, PF_1_1, PF_1_2, PF_1_3, PF_2_0, PF_2_1, PF_2_3, PF_2_4, PF_2_5, PF_2_6, PF_2_7, PF_2_8, PF_2_9, PF_2_10, PF_2_11, PF_3_0, PF_35_0, PF_35_1, PF_35_2, PF_35_3, PF_40_0, PF_40_1, PF_40_2, PF_44_0, PF_44_1, PF_44_2, PF_145_0, PF_145_1, PF_179_0, PF_179_1, PF_179_2, PF_179_3, PF_179_8, PF_179_9, PF_179_10]
    exact ⟨by omega, h1 (by omega)⟩
def spX8_copy (As : List MV) (σ : MS) (K : Option MV → MS → Prop) : Prop := pR As fun a r => pI r fun d r => pI r fun i r => pI r fun e r => pI r fun j r => pI r fun n r => pN r (a = 1 ∧ σ.2.1 = PF ∧ RI d ∧ RI i ∧ RI e ∧ RI j ∧ RI n ∧ xOK σ.2.2.1 ∧ (¬ (0 ≤ d ∧ d ≤ 7 ∧ 0 ≤ e ∧ e ≤ 7) → K (some (.inl (-1))) σ) ∧ (0 ≤ d ∧ d ≤ 7 ∧ 0 ≤ e ∧ e ≤ 7 →
  ((σ.2.2.1 (208 + 4 * d) 0 = 0 ∨ σ.2.2.1 (208 + 4 * e) 0 = 0) → K (some (.inl (-11))) σ) ∧ (¬ (σ.2.2.1 (208 + 4 * d) 0 = 0 ∨ σ.2.2.1 (208 + 4 * e) 0 = 0) →
  ((σ.2.2.1 (208 + 4 * d) 0 < 3 ∨ ¬ σ.2.2.1 (208 + 4 * d) 0 = σ.2.2.1 (208 + 4 * e) 0) → K (some (.inl (-12))) σ) ∧ (¬ (σ.2.2.1 (208 + 4 * d) 0 < 3 ∨ ¬ σ.2.2.1 (208 + 4 * d) 0 = σ.2.2.1 (208 + 4 * e) 0) →
  (¬ (0 ≤ i ∧ 0 ≤ j ∧ 0 ≤ n ∧ i + n ≤ σ.2.2.1 (208 + 4 * d) 1 ∧ j + n ≤ σ.2.2.1 (208 + 4 * e) 1) → K (some (.inl (-13))) σ) ∧ (0 ≤ i ∧ 0 ≤ j ∧ 0 ≤ n ∧ i + n ≤ σ.2.2.1 (208 + 4 * d) 1 ∧ j + n ≤ σ.2.2.1 (208 + 4 * e) 1 →
  ∀ I' : Int → Int → Int, frH σ.2.2.1 I' (208 + 4 * e) → xOK I' → I' (208 + 4 * e) 0 = σ.2.2.1 (208 + 4 * e) 0 → I' (208 + 4 * e) 1 = σ.2.2.1 (208 + 4 * e) 1 → (∀ k, 0 ≤ k → k < 60 → itm I' (208 + 4 * e) k = if j ≤ k ∧ k < j + n then itm σ.2.2.1 (208 + 4 * d) (i + (k - j)) else itm σ.2.2.1 (208 + 4 * e) k) → K (some (.inl n)) (σ.1, σ.2.1, I', σ.2.2.2))))))
def ciX8_copy : CI := (6, 8, 0, 0, spX8_copy)
def kX8_copy (pc : Nat) : List ME := match pc with
  | 0 => [(.iload_n 1, 1, []), (.iconst 0, 1, []), (.bipush 7, 2, []), (.invokestatic 37, 3, []), (.ifCond .eq 13, 3, [20]), (.iload_n 3, 1, []), (.iconst 0, 1, []), (.bipush 7, 2, []), (.invokestatic 37, 3, []), (.ifCond .ne 5, 3, [22])]
  | 20 => [(.iconst (-1), 1, []), (.ireturn, 1, [])]
  | 22 => [(.aload_n 0, 1, []), (.getfield 32, 3, []), (.iload_n 1, 1, []), (.aaload, 1, []), (.astore 6, 2, []), (.aload_n 0, 1, []), (.getfield 32, 3, []), (.iload_n 3, 1, []), (.aaload, 1, []), (.astore 7, 2, []), (.aload 6, 2, []), (.getfield 211, 3, []), (.ifCond .eq 11, 3, [54]), (.aload 7, 2, []), (.getfield 211, 3, []), (.ifCond .ne 6, 3, [57])]
  | 54 => [(.bipush (-11), 2, []), (.ireturn, 1, [])]
  | 57 => [(.aload 6, 2, []), (.invokevirtual 227, 3, []), (.ifCond .eq 16, 3, [78]), (.aload 6, 2, []), (.getfield 211, 3, []), (.aload 7, 2, []), (.getfield 211, 3, []), (.if_icmp .eq 6, 3, [81])]
  | 78 => [(.bipush (-12), 2, []), (.ireturn, 1, [])]
  | 81 => [(.aload 6, 2, []), (.iload_n 2, 1, []), (.iload 5, 2, []), (.invokevirtual 240, 3, []), (.ifCond .eq 15, 3, [104]), (.aload 7, 2, []), (.iload 4, 2, []), (.iload 5, 2, []), (.invokevirtual 240, 3, []), (.ifCond .ne 6, 3, [107])]
  | 104 => [(.bipush (-13), 2, []), (.ireturn, 1, [])]
  | 107 => [(.aload 6, 2, []), (.iload_n 2, 1, []), (.aload 7, 2, []), (.iload 4, 2, []), (.iload 5, 2, []), (.invokevirtual 243, 3, []), (.iload 5, 2, []), (.ireturn, 1, [])]
  | _ => []
theorem qX8_copy : ∀ pc, chk cX8_copy pc (kX8_copy pc) = true := by
  intro pc
  unfold kX8_copy
  split <;> first | decide +kernel | exact chk_nil
abbrev rmX8_copy : Room := { frames := 2, cells := 0, slots := 0, locals := 50 }
def aX8_copy (x : Nat) : Option CI := match x with
  | 37 => some ciX8_within
  | 227 => some ciX2_holdsRow
  | 240 => some ciX2_hasPlaces
  | 243 => some ciX2_copyPlaces
  | _ => none
theorem aokX8_copy : ∀ x ci, aX8_copy x = some ci → CalOK RX8 rmX8_copy x ci := by
  intro x ci h
  unfold aX8_copy at h
  split at h
  · cases h; exact cal_S mX8_within rfl (List.forall_mem_cons.mpr ⟨(ws_mem (List.mem_of_getElem? (i := 363) (by decide +kernel)) (by decide +kernel)), List.forall_mem_cons.mpr ⟨(ws_mem (List.mem_of_getElem? (i := 364) (by decide +kernel)) (by decide +kernel)), List.forall_mem_cons.mpr ⟨(ws_mem (List.mem_of_getElem? (i := 53) (by decide +kernel)) (by decide +kernel)), List.forall_mem_cons.mpr ⟨(ws_mem (List.mem_of_getElem? (i := 365) (by decide +kernel)) (by decide +kernel)), fun _ h => absurd h List.not_mem_nil⟩⟩⟩⟩) rfl (by unfold nice; decide +kernel) (by unfold rfits; decide) ⟨rfl, rfl⟩
  · cases h; exact cal_V mX2_holdsRow (by decide) rfl (List.forall_mem_cons.mpr ⟨(ws_mem (List.mem_of_getElem? (i := 670) (by decide +kernel)) (by decide +kernel)), List.forall_mem_cons.mpr ⟨(ws_mem (List.mem_of_getElem? (i := 671) (by decide +kernel)) (by decide +kernel)), List.forall_mem_cons.mpr ⟨(ws_mem (List.mem_of_getElem? (i := 672) (by decide +kernel)) (by decide +kernel)), List.forall_mem_cons.mpr ⟨(ws_mem (List.mem_of_getElem? (i := 63) (by decide +kernel)) (by decide +kernel)), List.forall_mem_cons.mpr ⟨(ws_mem (List.mem_of_getElem? (i := 673) (by decide +kernel)) (by decide +kernel)), fun _ h => absurd h List.not_mem_nil⟩⟩⟩⟩⟩) rfl (by unfold nice; decide +kernel) (by unfold rfits; decide) ⟨rfl, rfl⟩
  · cases h; exact cal_V mX2_hasPlaces (by decide) rfl (List.forall_mem_cons.mpr ⟨(ws_mem (List.mem_of_getElem? (i := 674) (by decide +kernel)) (by decide +kernel)), List.forall_mem_cons.mpr ⟨(ws_mem (List.mem_of_getElem? (i := 675) (by decide +kernel)) (by decide +kernel)), List.forall_mem_cons.mpr ⟨(ws_mem (List.mem_of_getElem? (i := 676) (by decide +kernel)) (by decide +kernel)), List.forall_mem_cons.mpr ⟨(ws_mem (List.mem_of_getElem? (i := 63) (by decide +kernel)) (by decide +kernel)), List.forall_mem_cons.mpr ⟨(ws_mem (List.mem_of_getElem? (i := 677) (by decide +kernel)) (by decide +kernel)), fun _ h => absurd h List.not_mem_nil⟩⟩⟩⟩⟩) rfl (by unfold nice; decide +kernel) (by unfold rfits; decide) ⟨rfl, rfl⟩
  · cases h; exact cal_V mX2_copyPlaces (by decide) rfl (List.forall_mem_cons.mpr ⟨(ws_mem (List.mem_of_getElem? (i := 678) (by decide +kernel)) (by decide +kernel)), List.forall_mem_cons.mpr ⟨(ws_mem (List.mem_of_getElem? (i := 679) (by decide +kernel)) (by decide +kernel)), List.forall_mem_cons.mpr ⟨(ws_mem (List.mem_of_getElem? (i := 680) (by decide +kernel)) (by decide +kernel)), List.forall_mem_cons.mpr ⟨(ws_mem (List.mem_of_getElem? (i := 63) (by decide +kernel)) (by decide +kernel)), List.forall_mem_cons.mpr ⟨(ws_mem (List.mem_of_getElem? (i := 681) (by decide +kernel)) (by decide +kernel)), fun _ h => absurd h List.not_mem_nil⟩⟩⟩⟩⟩) rfl (by unfold nice; decide +kernel) (by unfold rfits; decide) ⟨rfl, rfl⟩
  · cases h
theorem ocX8_copy_37 (f : Nat → Nat → Nat → Nat → (List MV → MS → (Option MV → MS → Prop) → Prop) → Prop) : oC aX8_copy 37 f = f 3 10 0 0 spX8_within := propext Iff.rfl
theorem ocX8_copy_227 (f : Nat → Nat → Nat → Nat → (List MV → MS → (Option MV → MS → Prop) → Prop) → Prop) : oC aX8_copy 227 f = f 1 2 0 0 spX2_holdsRow := propext Iff.rfl
theorem ocX8_copy_240 (f : Nat → Nat → Nat → Nat → (List MV → MS → (Option MV → MS → Prop) → Prop) → Prop) : oC aX8_copy 240 f = f 3 2 0 0 spX2_hasPlaces := propext Iff.rfl
theorem ocX8_copy_243 (f : Nat → Nat → Nat → Nat → (List MV → MS → (Option MV → MS → Prop) → Prop) → Prop) : oC aX8_copy 243 f = f 5 2 0 0 spX2_copyPlaces := propext Iff.rfl
theorem mdX8_copy : MD RX8 cX8_copy rmX8_copy kX8_copy fX8 aX8_copy zX8 uX8 := ⟨fokX8, zokX8, uokX8, aokX8_copy, qX8_copy⟩
set_option maxRecDepth 100000 in
set_option maxHeartbeats 800000 in
theorem mX8_copy : MOK yX8_copy cX8_copy 8 (some .int) rmX8_copy ciX8_copy := by
  refine mok_of (ini := false) (by decide +kernel) (by decide) rfl rfl ?_
  intro σ As K hrc hl h
  obtain ⟨N, P, I, L⟩ := σ
  have h9 := pR_iff.mp h
  clear h
  obtain ⟨a, r, e9, h⟩ := h9
  subst e9
  have h9 := pI_iff.mp h
  clear h
  obtain ⟨d, r, e9, h⟩ := h9
  subst e9
  have h9 := pI_iff.mp h
  clear h
  obtain ⟨i, r, e9, h⟩ := h9
  subst e9
  have h9 := pI_iff.mp h
  clear h
  obtain ⟨e, r, e9, h⟩ := h9
  subst e9
  have h9 := pI_iff.mp h
  clear h
  obtain ⟨j, r, e9, h⟩ := h9
  subst e9
  have h9 := pI_iff.mp h
  clear h
  obtain ⟨n, r, e9, h⟩ := h9
  subst e9
  have h9 := pN_iff.mp h
  clear h
  obtain ⟨e9, h⟩ := h9
  subst e9
  dsimp only at h
  obtain ⟨rfl, rfl, hd, hi, he, hj, hn, hx, h1, h2⟩ := h
  unfold RI at hd hi he hj hn
  by_cases q : 0 ≤ d ∧ d ≤ 7
  · by_cases q' : 0 ≤ e ∧ e ≤ 7
    · have hb := shB_d q.1 q.2
      have hp := PF_shelf (i := d) (by omega) (by omega)
      obtain ⟨g0, _⟩ := shB_rows hb
      have hb' := shB_d q'.1 q'.2
      have hp' := PF_shelf (i := e) (by omega) (by omega)
      obtain ⟨g0', _⟩ := shB_rows hb'
      have sb := hx.2.2.2.2.2.2 _ hb
      have se := hx.2.2.2.2.2.2 _ hb'
      have r0 := sb.1
      have r1 := sb.2.1
      have r2 := se.1
      have r3 := se.2.1
      obtain ⟨h3, h4⟩ := h2 (by omega)
      refine ⟨Nat.le_of_ble_eq_true rfl, Ok.seg mdX8_copy [] 80 ?_⟩
      simp only [wp_nil, wp_cons, ↓stp, ↓lI, ↓lL, ↓lR, ↓lIn_0, ↓lIn_1, ↓lIn_2, ↓lIn_3, ↓lLn_0, ↓lLn_1, ↓lLn_2, ↓lLn_3, ↓lRn_0, ↓lRn_1, ↓lRn_2, ↓lRn_3, ↓pI, ↓pL, ↓pR, ↓pA, ↓pN, ↓pV, ↓fp, ↓tsw, ↓oS, ↓spMax, ↓spMin, ↓spAbs, ↓spObj, RI, RLg, b2i_lo, b2i_hi, getL, setL, ltL, killL, isLong, inl, cnd, br, tgt, rcv, rpl, mputI, mputL, mputP, fv, fr, mcat, mcs, entL, entA, rfit, nf_0, nf_1, nf_2, nf_3, nf2_0, nf2_1, b2i_0, b2i_1, RI_b2i, b2i_fit, List.append, List.length, List.replicate, List.cons_append, List.nil_append, List.length_cons, List.length_nil, List.replicate_succ, List.replicate_zero, List.tail_cons, reduceIte, if_true, if_false, ite_true, ite_false, Bool.false_eq_true, true_and, and_true, and_self, false_and, and_false, or_self, or_true, true_or, or_false, false_or, not_true_eq_false, not_false_eq_true, ne_eq, forall_const, implies_true, imp_self, true_implies, false_implies, Nat.reduceAdd, Nat.reduceSub, Nat.reduceMul, Nat.reduceDiv, Nat.reduceMod, Nat.reduceEqDiff, Nat.reduceLT, Nat.reduceLeDiff, Nat.reduceBEq, Nat.add_zero, Nat.zero_add, Nat.le_refl, Nat.not_lt_zero, Nat.succ_eq_add_one, Int.reduceNatCast, Int.cast_ofNat_Int, Int.reduceSub, Int.reduceMul, Int.reduceNeg, Int.reduceLE, Int.reduceLT, Int.reduceToNat, Int.reduceEq, Int.reduceNe, Int.reduceAdd, Option.some.injEq, kX8_copy, rmX8_copy, ↓ofX8_211, ↓ofX8_32, ↓ocX8_copy_37, ↓spX8_within, ↓ocX8_copy_227, ↓spX2_holdsRow, ↓ocX8_copy_240, ↓spX2_hasPlaces, ↓ocX8_copy_243, ↓spX2_copyPlaces, q, q', hp, g0, hb, hp', g0', hb', r0.1, r0.2.1, r1.1, r1.2, r2.1, r2.2.1, r3.1, r3.2, G_1, G_2, G_3, G_4, G_35, G_36, G_37, G_38, G_39, G_40, G_41, G_42, G_43, G_44, G_45, G_46, G_47, G_48, G_49, G_140, G_141, G_142, G_143, G_144, G_145, G_146, G_178, G_179, G_180, G_181, G_182, G_183, G_184, G_189, G_198, G_207, PF_1_0, PF_1_1, PF_1_2, PF_1_3, PF_2_0, PF_2_1, PF_2_3, PF_2_4, PF_2_5, PF_2_6, PF_2_7, PF_2_8, PF_2_9, PF_2_10, PF_2_11, PF_3_0, PF_35_0, PF_35_1, PF_35_2, PF_35_3, PF_40_0, PF_40_1, PF_40_2, PF_44_0, PF_44_1, PF_44_2, PF_145_0, PF_145_1, PF_179_0, PF_179_1, PF_179_2, PF_179_3, PF_179_8, PF_179_9, PF_179_10]
      refine ⟨by omega, by omega, by omega, by omega, by omega, fun z => h3 (.inl z), fun z => ⟨by omega, fun z2 => ?_, fun z2 => h3 (.inr (by omega))⟩⟩
      obtain ⟨h5, h6⟩ := h4 (fun y => y.elim z z2)
      refine ⟨by omega, fun z3 => h5 (.inl (by omega)), fun z3 => ⟨by omega, by omega, fun z4 => ?_, fun z4 => h5 (.inr z4)⟩⟩
      obtain ⟨h7, h8⟩ := h6 (by omega)
      refine ⟨by omega, by omega, by omega, fun z5 => h7 (by omega), fun z5 => ⟨by omega, by omega, by omega, fun z6 => ?_, fun z6 => h7 (by omega)⟩⟩
      refine ⟨by omega, by omega, by omega, by omega, by omega, by omega, by omega, sb.2.2.2, ?_⟩
      have hw : I (208 + 4 * d) 0 = 3 ∨ I (208 + 4 * d) 0 = 4 := by omega
      generalize hm : (if I (208 + 4 * d) 0 = 3 then (2 : Int) else 3) = w
      have hw2 : (I (208 + 4 * d) 0 = 3 ∧ w = 2) ∨ (I (208 + 4 * d) 0 = 4 ∧ w = 3) := by
        rcases hw with y | y
        · rw [if_pos y] at hm; exact .inl ⟨y, hm.symm⟩
        · rw [if_neg (by omega)] at hm; exact .inr ⟨y, hm.symm⟩
      have fM : ∀ c k, ¬ (c = 208 + 4 * e + w) → cpyI I (208 + 4 * d + w) i (208 + 4 * e + w) j n c k = I c k := fun c k hc => if_neg (fun y => hc y.1)
      have e0 : cpyI I (208 + 4 * d + w) i (208 + 4 * e + w) j n (208 + 4 * e) 0 = I (208 + 4 * e) 0 := fM _ _ (by omega)
      have e1 : cpyI I (208 + 4 * d + w) i (208 + 4 * e + w) j n (208 + 4 * e) 1 = I (208 + 4 * e) 1 := fM _ _ (by omega)
      refine h8 (by omega) _ (fun c k c0 c1 c2 c3 c5 => fM c k (by omega)) (xOK_H hb' hx (fun c k hc => fM c k (by omega)) ⟨by rw [fM (208 + 4 * e + 1) 4 (by omega)]; omega, by omega, fun y => by omega, fun k k0 k1 => ?_⟩) e0 e1 (fun k k0 k1 => ?_)
      · rcases hw2 with ⟨_, rfl⟩ | ⟨_, rfl⟩
        · rw [fM _ _ (by omega)]; exact se.2.2.2 k k0 k1
        · unfold cpyI
          split
          · exact sb.2.2.2 _ (by omega) (by omega)
          · exact se.2.2.2 k k0 k1
      · unfold itm
        rw [e0]
        rcases hw2 with ⟨y, rfl⟩ | ⟨y, rfl⟩
        · have ye : I (208 + 4 * e) 0 = 3 := by omega
          rw [if_pos ye, if_pos y, if_pos ye]
          unfold cpyI
          by_cases v : j ≤ k ∧ k < j + n
          · rw [if_pos ⟨rfl, v⟩, if_pos v]
          · rw [if_neg (fun u => v u.2), if_neg v]
        · have ye : ¬ I (208 + 4 * e) 0 = 3 := by omega
          have y' : ¬ I (208 + 4 * d) 0 = 3 := by omega
          rw [if_neg ye, if_neg y', if_neg ye]
          unfold cpyI
          by_cases v : j ≤ k ∧ k < j + n
          · rw [if_pos ⟨rfl, v⟩, if_pos v]
          · rw [if_neg (fun u => v u.2), if_neg v]
    · refine ⟨Nat.le_of_ble_eq_true rfl, Ok.seg mdX8_copy [] 60 ?_⟩
      simp only [wp_nil, wp_cons, ↓stp, ↓lI, ↓lL, ↓lR, ↓lIn_0, ↓lIn_1, ↓lIn_2, ↓lIn_3, ↓lLn_0, ↓lLn_1, ↓lLn_2, ↓lLn_3, ↓lRn_0, ↓lRn_1, ↓lRn_2, ↓lRn_3, ↓pI, ↓pL, ↓pR, ↓pA, ↓pN, ↓pV, ↓fp, ↓tsw, ↓oS, ↓spMax, ↓spMin, ↓spAbs, ↓spObj, RI, RLg, b2i_lo, b2i_hi, getL, setL, ltL, killL, isLong, inl, cnd, br, tgt, rcv, rpl, mputI, mputL, mputP, fv, fr, mcat, mcs, entL, entA, rfit, nf_0, nf_1, nf_2, nf_3, nf2_0, nf2_1, b2i_0, b2i_1, RI_b2i, b2i_fit, List.append, List.length, List.replicate, List.cons_append, List.nil_append, List.length_cons, List.length_nil, List.replicate_succ, List.replicate_zero, List.tail_cons, reduceIte, if_true, if_false, ite_true, ite_false, Bool.false_eq_true, true_and, and_true, and_self, false_and, and_false, or_self, or_true, true_or, or_false, false_or, not_true_eq_false, not_false_eq_true, ne_eq, forall_const, implies_true, imp_self, true_implies, false_implies, Nat.reduceAdd, Nat.reduceSub, Nat.reduceMul, Nat.reduceDiv, Nat.reduceMod, Nat.reduceEqDiff, Nat.reduceLT, Nat.reduceLeDiff, Nat.reduceBEq, Nat.add_zero, Nat.zero_add, Nat.le_refl, Nat.not_lt_zero, Nat.succ_eq_add_one, Int.reduceNatCast, Int.cast_ofNat_Int, Int.reduceSub, Int.reduceMul, Int.reduceNeg, Int.reduceLE, Int.reduceLT, Int.reduceToNat, Int.reduceEq, Int.reduceNe, Int.reduceAdd, Option.some.injEq, kX8_copy, rmX8_copy, ↓ofX8_211, ↓ofX8_32, ↓ocX8_copy_37, ↓spX8_within, ↓ocX8_copy_227, ↓spX2_holdsRow, ↓ocX8_copy_240, ↓spX2_hasPlaces, ↓ocX8_copy_243, ↓spX2_copyPlaces, q, q', G_1, G_2, G_3, G_4, G_35, G_36, G_37, G_38, G_39, G_40, G_41, G_42, G_43, G_44, G_45, G_46, G_47, G_48, G_49, G_140, G_141, G_142, G_143, G_144, G_145, G_146, G_178, G_179, G_180, G_181, G_182, G_183, G_184, G_189, G_198, G_207, PF_1_0, PF_1_1, PF_1_2, PF_1_3, PF_2_0, PF_2_1, PF_2_3, PF_2_4, PF_2_5, PF_2_6, PF_2_7, PF_2_8, PF_2_9, PF_2_10, PF_2_11, PF_3_0, PF_35_0, PF_35_1, PF_35_2, PF_35_3, PF_40_0, PF_40_1, PF_40_2, PF_44_0, PF_44_1, PF_44_2, PF_145_0, PF_145_1, PF_179_0, PF_179_1, PF_179_2, PF_179_3, PF_179_8, PF_179_9, PF_179_10]
      exact ⟨by omega, by omega, h1 (by omega)⟩
  · refine ⟨Nat.le_of_ble_eq_true rfl, Ok.seg mdX8_copy [] 60 ?_⟩
    simp only [wp_nil, wp_cons, ↓stp, ↓lI, ↓lL, ↓lR, ↓lIn_0, ↓lIn_1, ↓lIn_2, ↓lIn_3, ↓lLn_0, ↓lLn_1, ↓lLn_2, ↓lLn_3, ↓lRn_0, ↓lRn_1, ↓lRn_2, ↓lRn_3, ↓pI, ↓pL, ↓pR, ↓pA, ↓pN, ↓pV, ↓fp, ↓tsw, ↓oS, ↓spMax, ↓spMin, ↓spAbs, ↓spObj, RI, RLg, b2i_lo, b2i_hi, getL, setL, ltL, killL, isLong, inl, cnd, br, tgt, rcv, rpl, mputI, mputL, mputP, fv, fr, mcat, mcs, entL, entA, rfit, nf_0, nf_1, nf_2, nf_3, nf2_0, nf2_1, b2i_0, b2i_1, RI_b2i, b2i_fit, List.append, List.length, List.replicate, List.cons_append, List.nil_append, List.length_cons, List.length_nil, List.replicate_succ, List.replicate_zero, List.tail_cons, reduceIte, if_true, if_false, ite_true, ite_false, Bool.false_eq_true, true_and, and_true, and_self, false_and, and_false, or_self, or_true, true_or, or_false, false_or, not_true_eq_false, not_false_eq_true, ne_eq, forall_const, implies_true, imp_self, true_implies, false_implies, Nat.reduceAdd, Nat.reduceSub, Nat.reduceMul, Nat.reduceDiv, Nat.reduceMod, Nat.reduceEqDiff, Nat.reduceLT, Nat.reduceLeDiff, Nat.reduceBEq, Nat.add_zero, Nat.zero_add, Nat.le_refl, Nat.not_lt_zero, Nat.succ_eq_add_one, Int.reduceNatCast, Int.cast_ofNat_Int, Int.reduceSub, Int.reduceMul, Int.reduceNeg, Int.reduceLE, Int.reduceLT, Int.reduceToNat, Int.reduceEq, Int.reduceNe, Int.reduceAdd, Option.some.injEq, kX8_copy, rmX8_copy, ↓ofX8_211, ↓ofX8_32, ↓ocX8_copy_37, ↓spX8_within, ↓ocX8_copy_227, ↓spX2_holdsRow, ↓ocX8_copy_240, ↓spX2_hasPlaces, ↓ocX8_copy_243, ↓spX2_copyPlaces, q, G_1, G_2, G_3, G_4, G_35, G_36, G_37, G_38, G_39, G_40, G_41, G_42, G_43, G_44, G_45, G_46, G_47, G_48, G_49, G_140, G_141, G_142, G_143, G_144, G_145, G_146, G_178, G_179, G_180, G_181, G_182, G_183, G_184, G_189, G_198, G_207, PF_1_0, PF_1_1, PF_1_2, PF_1_3, PF_2_0, PF_2_1, PF_2_3, PF_2_4, PF_2_5, PF_2_6, PF_2_7, PF_2_8, PF_2_9, PF_2_10, PF_2_11, PF_3_0, PF_35_0, PF_35_1, PF_35_2, PF_35_3, PF_40_0, PF_40_1, PF_40_2, PF_44_0, PF_44_1, PF_44_2, PF_145_0, PF_145_1, PF_179_0, PF_179_1, PF_179_2, PF_179_3, PF_179_8, PF_179_9, PF_179_10]
    exact ⟨by omega, h1 (by omega)⟩
def spX8_weight (As : List MV) (σ : MS) (K : Option MV → MS → Prop) : Prop := pR As fun a r => pI r fun d r => pN r (a = 1 ∧ σ.2.1 = PF ∧ RI d ∧ xOK σ.2.2.1 ∧ (¬ (0 ≤ d ∧ d ≤ 7) → K (some (.inl (-1))) σ) ∧ (0 ≤ d ∧ d ≤ 7 → (σ.2.2.1 (208 + 4 * d) 0 = 0 → K (some (.inl (-11))) σ) ∧ (σ.2.2.1 (208 + 4 * d) 0 = 1 → K (some (.inl (heft (σ.2.2.1 (208 + 4 * d + 1) 0) (σ.2.2.1 (208 + 4 * d + 1) 1) (σ.2.2.1 (208 + 4 * d + 1) 2) (σ.2.2.1 (208 + 4 * d + 1) 3)))) σ) ∧ (¬ σ.2.2.1 (208 + 4 * d) 0 = 0 → ¬ σ.2.2.1 (208 + 4 * d) 0 = 1 → K (some (.inl (-12))) σ)))
def ciX8_weight : CI := (2, 8, 0, 0, spX8_weight)
def kX8_weight (pc : Nat) : List ME := match pc with
  | 0 => [(.aload_n 0, 1, []), (.iload_n 1, 1, []), (.invokevirtual 247, 3, []), (.istore_n 2, 1, []), (.iload_n 2, 1, []), (.ifCond .ge 7, 3, [14]), (.iload_n 2, 1, []), (.goto 15, 3, [26])]
  | 14 => [(.aload_n 0, 1, []), (.getfield 32, 3, []), (.iload_n 1, 1, []), (.aaload, 1, []), (.getfield 250, 3, []), (.invokevirtual 254, 3, [])]
  | 26 => [(.ireturn, 1, [])]
  | _ => []
theorem qX8_weight : ∀ pc, chk cX8_weight pc (kX8_weight pc) = true := by
  intro pc
  unfold kX8_weight
  split <;> first | decide +kernel | exact chk_nil
abbrev rmX8_weight : Room := { frames := 2, cells := 0, slots := 0, locals := 43 }
def aX8_weight (x : Nat) : Option CI := match x with
  | 247 => some ciX8_stationRefusal
  | 254 => some ciX3_heft
  | _ => none
theorem aokX8_weight : ∀ x ci, aX8_weight x = some ci → CalOK RX8 rmX8_weight x ci := by
  intro x ci h
  unfold aX8_weight at h
  split at h
  · cases h; exact cal_V mX8_stationRefusal (by decide) rfl (List.forall_mem_cons.mpr ⟨(ws_mem (List.mem_of_getElem? (i := 687) (by decide +kernel)) (by decide +kernel)), List.forall_mem_cons.mpr ⟨(ws_mem (List.mem_of_getElem? (i := 689) (by decide +kernel)) (by decide +kernel)), List.forall_mem_cons.mpr ⟨(ws_mem (List.mem_of_getElem? (i := 18) (by decide +kernel)) (by decide +kernel)), List.forall_mem_cons.mpr ⟨(ws_mem (List.mem_of_getElem? (i := 53) (by decide +kernel)) (by decide +kernel)), List.forall_mem_cons.mpr ⟨(ws_mem (List.mem_of_getElem? (i := 690) (by decide +kernel)) (by decide +kernel)), fun _ h => absurd h List.not_mem_nil⟩⟩⟩⟩⟩) rfl (by unfold nice; decide +kernel) (by unfold rfits; decide) ⟨rfl, rfl⟩
  · cases h; exact cal_V mX3_heft (by decide) rfl (List.forall_mem_cons.mpr ⟨(ws_mem (List.mem_of_getElem? (i := 691) (by decide +kernel)) (by decide +kernel)), List.forall_mem_cons.mpr ⟨(ws_mem (List.mem_of_getElem? (i := 692) (by decide +kernel)) (by decide +kernel)), List.forall_mem_cons.mpr ⟨(ws_mem (List.mem_of_getElem? (i := 693) (by decide +kernel)) (by decide +kernel)), List.forall_mem_cons.mpr ⟨(ws_mem (List.mem_of_getElem? (i := 56) (by decide +kernel)) (by decide +kernel)), List.forall_mem_cons.mpr ⟨(ws_mem (List.mem_of_getElem? (i := 694) (by decide +kernel)) (by decide +kernel)), fun _ h => absurd h List.not_mem_nil⟩⟩⟩⟩⟩) rfl (by unfold nice; decide +kernel) (by unfold rfits; decide) ⟨rfl, rfl⟩
  · cases h
theorem ocX8_weight_247 (f : Nat → Nat → Nat → Nat → (List MV → MS → (Option MV → MS → Prop) → Prop) → Prop) : oC aX8_weight 247 f = f 2 8 0 0 spX8_stationRefusal := propext Iff.rfl
theorem ocX8_weight_254 (f : Nat → Nat → Nat → Nat → (List MV → MS → (Option MV → MS → Prop) → Prop) → Prop) : oC aX8_weight 254 f = f 1 3 0 0 spX3_heft := propext Iff.rfl
theorem mdX8_weight : MD RX8 cX8_weight rmX8_weight kX8_weight fX8 aX8_weight zX8 uX8 := ⟨fokX8, zokX8, uokX8, aokX8_weight, qX8_weight⟩
set_option maxRecDepth 100000 in
set_option maxHeartbeats 800000 in
theorem mX8_weight : MOK yX8_weight cX8_weight 3 (some .int) rmX8_weight ciX8_weight := by
  refine mok_of (ini := false) (by decide +kernel) (by decide) rfl rfl ?_
  intro σ As K hrc hl h
  obtain ⟨N, P, I, L⟩ := σ
  have h9 := pR_iff.mp h
  clear h
  obtain ⟨a, r, e9, h⟩ := h9
  subst e9
  have h9 := pI_iff.mp h
  clear h
  obtain ⟨d, r, e9, h⟩ := h9
  subst e9
  have h9 := pN_iff.mp h
  clear h
  obtain ⟨e9, h⟩ := h9
  subst e9
  dsimp only at h
  obtain ⟨rfl, rfl, hd, hx, h1, h2⟩ := h
  unfold RI at hd
  by_cases q : 0 ≤ d ∧ d ≤ 7
  · have hb := shB_d q.1 q.2
    have hp := PF_shelf (i := d) (by omega) (by omega)
    obtain ⟨g0, g1, g2, g3, p2, p3, p4, b0⟩ := shB_rows hb
    have sb := hx.2.2.2.2.2.2 _ hb
    obtain ⟨h3, h4, h5⟩ := h2 q
    refine ⟨Nat.le_of_ble_eq_true rfl, Ok.seg mdX8_weight [] 60 ?_⟩
    simp only [wp_nil, wp_cons, ↓stp, ↓lI, ↓lL, ↓lR, ↓lIn_0, ↓lIn_1, ↓lIn_2, ↓lIn_3, ↓lLn_0, ↓lLn_1, ↓lLn_2, ↓lLn_3, ↓lRn_0, ↓lRn_1, ↓lRn_2, ↓lRn_3, ↓pI, ↓pL, ↓pR, ↓pA, ↓pN, ↓pV, ↓fp, ↓tsw, ↓oS, ↓spMax, ↓spMin, ↓spAbs, ↓spObj, RI, RLg, b2i_lo, b2i_hi, getL, setL, ltL, killL, isLong, inl, cnd, br, tgt, rcv, rpl, mputI, mputL, mputP, fv, fr, mcat, mcs, entL, entA, rfit, nf_0, nf_1, nf_2, nf_3, nf2_0, nf2_1, b2i_0, b2i_1, RI_b2i, b2i_fit, List.append, List.length, List.replicate, List.cons_append, List.nil_append, List.length_cons, List.length_nil, List.replicate_succ, List.replicate_zero, List.tail_cons, reduceIte, if_true, if_false, ite_true, ite_false, Bool.false_eq_true, true_and, and_true, and_self, false_and, and_false, or_self, or_true, true_or, or_false, false_or, not_true_eq_false, not_false_eq_true, ne_eq, forall_const, implies_true, imp_self, true_implies, false_implies, Nat.reduceAdd, Nat.reduceSub, Nat.reduceMul, Nat.reduceDiv, Nat.reduceMod, Nat.reduceEqDiff, Nat.reduceLT, Nat.reduceLeDiff, Nat.reduceBEq, Nat.add_zero, Nat.zero_add, Nat.le_refl, Nat.not_lt_zero, Nat.succ_eq_add_one, Int.reduceNatCast, Int.cast_ofNat_Int, Int.reduceSub, Int.reduceMul, Int.reduceNeg, Int.reduceLE, Int.reduceLT, Int.reduceToNat, Int.reduceEq, Int.reduceNe, Int.reduceAdd, Option.some.injEq, kX8_weight, rmX8_weight, ↓ofX8_250, ↓ofX8_32, ↓ocX8_weight_247, ↓spX8_stationRefusal, ↓ocX8_weight_254, ↓spX3_heft, q, hp, g0, g1, p2, hx, G_1, G_2, G_3, G_4, G_35, G_36, G_37, G_38, G_39, G_40, G_41, G_42, G_43, G_44, G_45, G_46, G_47, G_48, G_49, G_140, G_141, G_142, G_143, G_144, G_145, G_146, G_178, G_179, G_180, G_181, G_182, G_183, G_184, G_189, G_198, G_207, PF_1_0, PF_1_1, PF_1_2, PF_1_3, PF_2_0, PF_2_1, PF_2_3, PF_2_4, PF_2_5, PF_2_6, PF_2_7, PF_2_8, PF_2_9, PF_2_10, PF_2_11, PF_3_0, PF_35_0, PF_35_1, PF_35_2, PF_35_3, PF_40_0, PF_40_1, PF_40_2, PF_44_0, PF_44_1, PF_44_2, PF_145_0, PF_145_1, PF_179_0, PF_179_1, PF_179_2, PF_179_3, PF_179_8, PF_179_9, PF_179_10]
    refine ⟨by omega, h3, fun z => ⟨by omega, by omega, sb.2.2.1 z, h4 z⟩, h5⟩
  · refine ⟨Nat.le_of_ble_eq_true rfl, Ok.seg mdX8_weight [] 60 ?_⟩
    simp only [wp_nil, wp_cons, ↓stp, ↓lI, ↓lL, ↓lR, ↓lIn_0, ↓lIn_1, ↓lIn_2, ↓lIn_3, ↓lLn_0, ↓lLn_1, ↓lLn_2, ↓lLn_3, ↓lRn_0, ↓lRn_1, ↓lRn_2, ↓lRn_3, ↓pI, ↓pL, ↓pR, ↓pA, ↓pN, ↓pV, ↓fp, ↓tsw, ↓oS, ↓spMax, ↓spMin, ↓spAbs, ↓spObj, RI, RLg, b2i_lo, b2i_hi, getL, setL, ltL, killL, isLong, inl, cnd, br, tgt, rcv, rpl, mputI, mputL, mputP, fv, fr, mcat, mcs, entL, entA, rfit, nf_0, nf_1, nf_2, nf_3, nf2_0, nf2_1, b2i_0, b2i_1, RI_b2i, b2i_fit, List.append, List.length, List.replicate, List.cons_append, List.nil_append, List.length_cons, List.length_nil, List.replicate_succ, List.replicate_zero, List.tail_cons, reduceIte, if_true, if_false, ite_true, ite_false, Bool.false_eq_true, true_and, and_true, and_self, false_and, and_false, or_self, or_true, true_or, or_false, false_or, not_true_eq_false, not_false_eq_true, ne_eq, forall_const, implies_true, imp_self, true_implies, false_implies, Nat.reduceAdd, Nat.reduceSub, Nat.reduceMul, Nat.reduceDiv, Nat.reduceMod, Nat.reduceEqDiff, Nat.reduceLT, Nat.reduceLeDiff, Nat.reduceBEq, Nat.add_zero, Nat.zero_add, Nat.le_refl, Nat.not_lt_zero, Nat.succ_eq_add_one, Int.reduceNatCast, Int.cast_ofNat_Int, Int.reduceSub, Int.reduceMul, Int.reduceNeg, Int.reduceLE, Int.reduceLT, Int.reduceToNat, Int.reduceEq, Int.reduceNe, Int.reduceAdd, Option.some.injEq, kX8_weight, rmX8_weight, ↓ofX8_250, ↓ofX8_32, ↓ocX8_weight_247, ↓spX8_stationRefusal, ↓ocX8_weight_254, ↓spX3_heft, q, hx, G_1, G_2, G_3, G_4, G_35, G_36, G_37, G_38, G_39, G_40, G_41, G_42, G_43, G_44, G_45, G_46, G_47, G_48, G_49, G_140, G_141, G_142, G_143, G_144, G_145, G_146, G_178, G_179, G_180, G_181, G_182, G_183, G_184, G_189, G_198, G_207, PF_1_0, PF_1_1, PF_1_2, PF_1_3, PF_2_0, PF_2_1, PF_2_3, PF_2_4, PF_2_5, PF_2_6, PF_2_7, PF_2_8, PF_2_9, PF_2_10, PF_2_11, PF_3_0, PF_35_0, PF_35_1, PF_35_2, PF_35_3, PF_40_0, PF_40_1, PF_40_2, PF_44_0, PF_44_1, PF_44_2, PF_145_0, PF_145_1, PF_179_0, PF_179_1, PF_179_2, PF_179_3, PF_179_8, PF_179_9, PF_179_10]
    exact ⟨by omega, h1 q⟩
