/-! LapBoard$Ways: bestWay, behind -/
theorem pul_m2 {T Q p p' : Int} (h : p ≤ p') : pul T Q p ≤ pul T Q p' := by
  unfold pul
  repeat' split
  all_goals omega
theorem rcm_m2 {T Q : Int → Int} {p p' : Int} (h : p ≤ p') : ∀ g, rcm T Q p g ≤ rcm T Q p' g
  | 0 => h
  | g + 1 => by
    have a := rcm_m2 (T := T) (Q := Q) h g
    have b := pul_m2 (T := T (g + 1)) (Q := Q (g + 1)) h
    unfold rcm
    repeat' split
    all_goals omega
theorem rch_m2 {T Q : Int → Int} (p p' : Int) (h : p ≤ p') : rch T Q p ≤ rch T Q p' := rcm_m2 h 6
/-- the quickest paces, with their times, stand on way w -/
def wayOK (I : Int → Int → Int) (w : Int) : Prop := Mx (fun j => lmv I (I 36 0) j (I (w + 1) j)) (rch (I 38) (I 39)) (I 36 1) (I 36 2) (I 3 1) (I (w + 2)) ∧ ∀ i, 0 ≤ i → i < I 3 1 → I (w + 3) i = tmv (I (5 + i) 1) (lch (I (w + 1)) i) (I (w + 2) i)
def bestOK (I : Int → Int → Int) : Prop := ∃ B, lapT I (I 36 0) (I 36 1) (I 36 2) B ∧ LexB I (I 36 0) (I 36 1) (I 36 2) B (I 41) ∧ wayOK I 40 ∧ I 40 3 = B
/-- track and car are alike -/
def c3 (I J : Int → Int → Int) : Prop := ∀ b k, 3 ≤ b → b < 40 → J b k = I b k
theorem tOK_c3 {I J : Int → Int → Int} (h0 : c3 I J) (h : tOK I) : tOK J := by
  unfold tOK at h ⊢
  rw [h0 3 1 (by omega) (by omega)]
  exact ⟨h.1, h.2.1, fun i i0 i1 => stOK_cg (fun j => h0 _ j (by omega) (by omega)) (h.2.2 i i0 i1)⟩
theorem carOK_c3 {I J : Int → Int → Int} (h0 : c3 I J) (h : carOK I) : carOK J := by
  unfold carOK nOK at h ⊢
  rw [show J 36 = I 36 from funext fun j => h0 _ j (by omega) (by omega), show J 37 = I 37 from funext fun j => h0 _ j (by omega) (by omega), show J 38 = I 38 from funext fun j => h0 _ j (by omega) (by omega), show J 39 = I 39 from funext fun j => h0 _ j (by omega) (by omega)]
  exact h
theorem tsame_c3 {I J : Int → Int → Int} (h : c3 I J) (h3 : I 3 1 ≤ 30) : tsame I J := ⟨h _ _ (by omega) (by omega), fun i k _ _ _ _ => h _ _ (by omega) (by omega), fun k => h _ _ (by omega) (by omega), fun k => h _ _ (by omega) (by omega)⟩
theorem capOK_c3 {I J : Int → Int → Int} (lo : c3 I J) (h3 : I 3 1 ≤ 30) (h144 : ∀ k, J 144 k = I 144 k) (h : capOK I) : capOK J := fun g g0 g1 => by
  rw [h144, lo 36 1 (by omega) (by omega), lo 36 2 (by omega) (by omega)]
  exact (h g g0 g1).imp id (fun q => lapT_cg (tsame_c3 lo h3) q)
theorem lmv_c3 {I J : Int → Int → Int} (h : c3 I J) {g i l : Int} (i0 : 0 ≤ i) (i1 : i < 30) : lmv J g i l = lmv I g i l := lmv_cg (fun k => h _ k (by omega) (by omega))
theorem wayOK_c3 {I J : Int → Int → Int} {w : Int} (h : c3 I J) (h3 : I 3 1 ≤ 30) (hw : ∀ b k, w < b → b < w + 4 → J b k = I b k) (H : wayOK I w) : wayOK J w := by
  have e36 : J 36 = I 36 := funext fun j => h _ j (by omega) (by omega)
  have e38 : J 38 = I 38 := funext fun j => h _ j (by omega) (by omega)
  have e39 : J 39 = I 39 := funext fun j => h _ j (by omega) (by omega)
  have e1 : J (w + 1) = I (w + 1) := funext fun j => hw _ j (by omega) (by omega)
  have e2 : J (w + 2) = I (w + 2) := funext fun j => hw _ j (by omega) (by omega)
  unfold wayOK
  rw [e36, e38, e39, e1, e2, h 3 1 (by omega) (by omega)]
  refine ⟨H.1.cg (fun i i0 i1 => ?_) (fun _ _ _ => rfl), fun i i0 i1 => ?_⟩
  · exact (lmv_c3 h i0 (by omega)).symm
  · rw [hw _ i (by omega) (by omega), h _ 1 (by omega) (by omega)]; exact H.2 i i0 i1
theorem bestOK_c3 {I J : Int → Int → Int} (h : c3 I J) (h3 : I 3 1 ≤ 30) (hw : ∀ b k, 40 ≤ b → b ≤ 43 → J b k = I b k) (H : bestOK I) : bestOK J := by
  obtain ⟨B, a, b, c, d⟩ := H
  have e36 : J 36 = I 36 := funext fun j => h _ j (by omega) (by omega)
  have e41 : J 41 = I 41 := funext fun j => hw _ j (by omega) (by omega)
  have ts := tsame_c3 h h3
  refine ⟨B, ?_, ?_, wayOK_c3 h h3 (fun b k b0 b1 => hw b k (by omega) (by omega)) c, by rw [hw _ _ (by omega) (by omega)]; exact d⟩
  · rw [e36]; exact lapT_cg ts a
  · rw [e36, e41]; exact LexB_ts ts b
/-- what quicken leaves -/
theorem wayOK_of {I J : Int → Int → Int} {w : Int} (hw : w = 40 ∨ w = 44) (ht : tOK I) (hc : carOK I) (h1 : ∀ b j, b ≠ w + 2 → b ≠ w + 3 → ¬ (b = w ∧ j = 3) → J b j = I b j) (h2 : ∀ i, 0 ≤ i → i < I 3 1 → J (w + 2) i = wqp I w i) (h3 : ∀ i, 0 ≤ i → i < I 3 1 → J (w + 3) i = wtm I w i) : wayOK J w := by
  have lo : c3 I J := fun b k b0 b1 => h1 b k (by omega) (by omega) (by omega)
  have hn := hc.2
  unfold nOK at hn
  have e36 : J 36 = I 36 := funext fun j => lo _ j (by omega) (by omega)
  have e38 : J 38 = I 38 := funext fun j => lo _ j (by omega) (by omega)
  have e39 : J 39 = I 39 := funext fun j => lo _ j (by omega) (by omega)
  have e1 : J (w + 1) = I (w + 1) := funext fun j => h1 _ j (by omega) (by omega) (by omega)
  have ht2 := ht.2.1
  have mx : Mx (wlim I w (I 36 0)) (rch (I 38) (I 39)) (I 36 1) (I 36 2) (I 3 1) (wqp I w) := qp_Mx (wlim_rng I w _) (fun p _ p1 => rch_rng hc.1.1 p1) rch_m2 (by omega) (by omega)
  unfold wayOK
  rw [e36, e38, e39, e1, lo 3 1 (by omega) (by omega)]
  refine ⟨mx.cg (fun i i0 i1 => ?_) (fun i i0 i1 => (h2 i i0 i1).symm), fun i i0 i1 => ?_⟩
  · exact (lmv_c3 lo i0 (by omega)).symm
  · rw [h3 i i0 i1, h2 i i0 i1, lo _ 1 (by omega) (by omega)]; rfl
theorem wayOK_sum {I J : Int → Int → Int} {w B : Int} (hw : w = 40 ∨ w = 44) (ht : tOK I) (hc : carOK I) (hn : 0 < I 3 1) (hB : ∀ x, LapE I (I 36 0) (I 36 1) (I 36 2) x → B ≤ x) (hL : LexB I (I 36 0) (I 36 1) (I 36 2) B (I (w + 1))) : sumI (wtm I w) (I 3 1).toNat = B := by
  have hn2 := hc.2
  unfold nOK at hn2
  have mx : Mx (wlim I w (I 36 0)) (rch (I 38) (I 39)) (I 36 1) (I 36 2) (I 3 1) (wqp I w) := qp_Mx (wlim_rng I w _) (fun p _ p1 => rch_rng hc.1.1 p1) rch_m2 (by omega) (by omega)
  exact best_sum ht hn hB hL mx
/-- the best way stands, or is to be found anew -/
def bst (I : Int → Int → Int) : Prop := I 2 2 = 0 ∨ I 2 2 = 1 ∧ bestOK I
def frB (I J : Int → Int → Int) : Prop := ∀ b k, ¬ (40 ≤ b ∧ b ≤ 43) → ¬ (48 ≤ b ∧ b ≤ 143) → ¬ (b = 2 ∧ k = 2) → J b k = I b k
theorem frB.rf {I : Int → Int → Int} : frB I I := fun _ _ _ _ _ => rfl
theorem frB.tr {I J M : Int → Int → Int} (h : frB I J) (h' : frB J M) : frB I M := fun b k b1 b2 b3 => (h' b k b1 b2 b3).trans (h b k b1 b2 b3)
theorem frB.c3 {I J : Int → Int → Int} (h : frB I J) : c3 I J := fun b k b0 b1 => h b k (by omega) (by omega) (by omega)
def spX7_bestWay (As : List MV) (σ : MS) (K : Option MV → MS → Prop) : Prop := pR As fun s r => pN r (s = 2 ∧ σ.2.1 = PF ∧ tOK σ.2.2.1 ∧ carOK σ.2.2.1 ∧ bst σ.2.2.1 ∧
  ∀ I' : Int → Int → Int, frB σ.2.2.1 I' → bestOK I' → I' 2 2 = 1 → K (some (.inr (.inr (some 40)))) (σ.1, σ.2.1, I', σ.2.2.2))
def ciX7_bestWay : CI := (1, 7, 0, 0, spX7_bestWay)
def kX7_bestWay (pc : Nat) : List ME := match pc with
  | 0 => [(.aload_n 0, 1, []), (.getfield 65, 3, []), (.ifCond .ne 60, 3, [64]), (.aload_n 0, 1, []), (.aload_n 0, 1, []), (.getfield 21, 3, []), (.getfield 76, 3, []), (.iconst 0, 1, []), (.iaload, 1, []), (.aload_n 0, 1, []), (.getfield 21, 3, []), (.getfield 76, 3, []), (.iconst 1, 1, []), (.iaload, 1, []), (.aload_n 0, 1, []), (.getfield 21, 3, []), (.getfield 76, 3, []), (.iconst 2, 1, []), (.iaload, 1, []), (.invokevirtual 79, 3, []), (.istore_n 1, 1, []), (.aload_n 0, 1, []), (.iload_n 1, 1, []), (.invokevirtual 83, 3, []), (.aload_n 0, 1, []), (.getfield 28, 3, []), (.aload_n 0, 1, []), (.getfield 12, 3, []), (.aload_n 0, 1, []), (.getfield 21, 3, []), (.invokevirtual 72, 3, []), (.aload_n 0, 1, []), (.iconst 1, 1, []), (.putfield 65, 3, [])]
  | 64 => [(.aload_n 0, 1, []), (.getfield 28, 3, []), (.areturn, 1, [])]
  | _ => []
theorem qX7_bestWay : ∀ pc, chk cX7_bestWay pc (kX7_bestWay pc) = true := by
  intro pc
  unfold kX7_bestWay
  split <;> first | decide +kernel | exact chk_nil
abbrev rmX7_bestWay : Room := { frames := 4, cells := 0, slots := 0, locals := 99 }
def aX7_bestWay (x : Nat) : Option CI := match x with
  | 79 => some ciX7_solve
  | 83 => some ciX7_trace
  | 72 => some ciX6_quicken
  | _ => none
theorem aokX7_bestWay : ∀ x ci, aX7_bestWay x = some ci → CalOK RX7 rmX7_bestWay x ci := by
  intro x ci h
  unfold aX7_bestWay at h
  split at h
  · cases h; exact cal_V mX7_solve (by decide) rfl (List.forall_mem_cons.mpr ⟨(ws_mem (List.mem_of_getElem? (i := 469) (by decide +kernel)) (by decide +kernel)), List.forall_mem_cons.mpr ⟨(ws_mem (List.mem_of_getElem? (i := 471) (by decide +kernel)) (by decide +kernel)), List.forall_mem_cons.mpr ⟨(ws_mem (List.mem_of_getElem? (i := 3) (by decide +kernel)) (by decide +kernel)), List.forall_mem_cons.mpr ⟨(ws_mem (List.mem_of_getElem? (i := 54) (by decide +kernel)) (by decide +kernel)), List.forall_mem_cons.mpr ⟨(ws_mem (List.mem_of_getElem? (i := 472) (by decide +kernel)) (by decide +kernel)), fun _ h => absurd h List.not_mem_nil⟩⟩⟩⟩⟩) rfl (by unfold nice; decide +kernel) (by unfold rfits; decide) ⟨rfl, rfl⟩
  · cases h; exact cal_V mX7_trace (by decide) rfl (List.forall_mem_cons.mpr ⟨(ws_mem (List.mem_of_getElem? (i := 498) (by decide +kernel)) (by decide +kernel)), List.forall_mem_cons.mpr ⟨(ws_mem (List.mem_of_getElem? (i := 500) (by decide +kernel)) (by decide +kernel)), List.forall_mem_cons.mpr ⟨(ws_mem (List.mem_of_getElem? (i := 9) (by decide +kernel)) (by decide +kernel)), List.forall_mem_cons.mpr ⟨(ws_mem (List.mem_of_getElem? (i := 54) (by decide +kernel)) (by decide +kernel)), List.forall_mem_cons.mpr ⟨(ws_mem (List.mem_of_getElem? (i := 501) (by decide +kernel)) (by decide +kernel)), fun _ h => absurd h List.not_mem_nil⟩⟩⟩⟩⟩) rfl (by unfold nice; decide +kernel) (by unfold rfits; decide) ⟨rfl, rfl⟩
  · cases h; exact cal_V mX6_quicken (by decide) rfl (List.forall_mem_cons.mpr ⟨(ws_mem (List.mem_of_getElem? (i := 447) (by decide +kernel)) (by decide +kernel)), List.forall_mem_cons.mpr ⟨(ws_mem (List.mem_of_getElem? (i := 448) (by decide +kernel)) (by decide +kernel)), List.forall_mem_cons.mpr ⟨(ws_mem (List.mem_of_getElem? (i := 449) (by decide +kernel)) (by decide +kernel)), List.forall_mem_cons.mpr ⟨(ws_mem (List.mem_of_getElem? (i := 59) (by decide +kernel)) (by decide +kernel)), List.forall_mem_cons.mpr ⟨(ws_mem (List.mem_of_getElem? (i := 450) (by decide +kernel)) (by decide +kernel)), fun _ h => absurd h List.not_mem_nil⟩⟩⟩⟩⟩) rfl (by unfold nice; decide +kernel) (by unfold rfits; decide) ⟨rfl, rfl⟩
  · cases h
theorem ocX7_bestWay_79 (f : Nat → Nat → Nat → Nat → (List MV → MS → (Option MV → MS → Prop) → Prop) → Prop) : oC aX7_bestWay 79 f = f 4 7 0 0 spX7_solve := propext Iff.rfl
theorem ocX7_bestWay_83 (f : Nat → Nat → Nat → Nat → (List MV → MS → (Option MV → MS → Prop) → Prop) → Prop) : oC aX7_bestWay 83 f = f 2 7 0 0 spX7_trace := propext Iff.rfl
theorem ocX7_bestWay_72 (f : Nat → Nat → Nat → Nat → (List MV → MS → (Option MV → MS → Prop) → Prop) → Prop) : oC aX7_bestWay 72 f = f 3 6 0 0 spX6_quicken := propext Iff.rfl
theorem mdX7_bestWay : MD RX7 cX7_bestWay rmX7_bestWay kX7_bestWay fX7 aX7_bestWay zX7 uX7 := ⟨fokX7, zokX7, uokX7, aokX7_bestWay, qX7_bestWay⟩
set_option maxRecDepth 100000 in
set_option maxHeartbeats 800000 in
theorem mX7_bestWay : MOK yX7_bestWay cX7_bestWay 2 (some (.object "LapBoard$Way")) rmX7_bestWay ciX7_bestWay := by
  refine mok_of (ini := false) (by decide +kernel) (by decide) rfl rfl ?_
  intro σ As K hrc hl h
  obtain ⟨N, P, I, L⟩ := σ
  have h9 := pR_iff.mp h
  clear h
  obtain ⟨s, r, e9, h⟩ := h9
  subst e9
  have h9 := pN_iff.mp h
  clear h
  obtain ⟨e9, h⟩ := h9
  subst e9
  dsimp only at h
  obtain ⟨rfl, rfl, ht, hc, hb, h⟩ := h
  have hn := hc.2
  unfold nOK at hn
  have ht2 := ht.2.1
  refine ⟨Nat.le_of_ble_eq_true rfl, Ok.seg mdX7_bestWay [] 60 ?_⟩
  simp only [wp_nil, wp_cons, ↓stp, ↓lI, ↓lL, ↓lR, ↓lIn_0, ↓lIn_1, ↓lIn_2, ↓lIn_3, ↓lLn_0, ↓lLn_1, ↓lLn_2, ↓lLn_3, ↓lRn_0, ↓lRn_1, ↓lRn_2, ↓lRn_3, ↓pI, ↓pL, ↓pR, ↓pA, ↓pN, ↓pV, ↓fp, ↓tsw, ↓oS, ↓spMax, ↓spMin, ↓spAbs, ↓spObj, RI, RLg, b2i_lo, b2i_hi, getL, setL, ltL, killL, isLong, inl, cnd, br, tgt, rcv, rpl, mputI, mputL, mputP, fv, fr, mcat, mcs, entL, entA, rfit, nf_0, nf_1, nf_2, nf_3, nf2_0, nf2_1, b2i_0, b2i_1, RI_b2i, b2i_fit, List.append, List.length, List.replicate, List.cons_append, List.nil_append, List.length_cons, List.length_nil, List.replicate_succ, List.replicate_zero, List.tail_cons, reduceIte, if_true, if_false, ite_true, ite_false, Bool.false_eq_true, true_and, and_true, and_self, false_and, and_false, or_self, or_true, true_or, or_false, false_or, not_true_eq_false, not_false_eq_true, ne_eq, forall_const, implies_true, imp_self, true_implies, false_implies, Nat.reduceAdd, Nat.reduceSub, Nat.reduceMul, Nat.reduceDiv, Nat.reduceMod, Nat.reduceEqDiff, Nat.reduceLT, Nat.reduceLeDiff, Nat.reduceBEq, Nat.add_zero, Nat.zero_add, Nat.le_refl, Nat.not_lt_zero, Nat.succ_eq_add_one, Int.reduceNatCast, Int.cast_ofNat_Int, Int.reduceSub, Int.reduceMul, Int.reduceNeg, Int.reduceLE, Int.reduceLT, Int.reduceToNat, Int.reduceEq, Int.reduceNe, Int.reduceAdd, Option.some.injEq, kX7_bestWay, rmX7_bestWay, ↓ofX7_12, ↓ofX7_21, ↓ofX7_28, ↓ofX7_65, ↓ofX7_76, ↓ocX7_bestWay_79, ↓spX7_solve, ↓ocX7_bestWay_83, ↓spX7_trace, ↓ocX7_bestWay_72, ↓spX6_quicken, G_1, G_2, G_3, G_4, G_35, G_36, G_37, G_38, G_39, G_40, G_41, G_42, G_43, G_44, G_45, G_46, G_47, G_48, G_49, G_140, G_141, G_142, G_143, G_144, G_145, G_146, G_178, G_179, G_180, G_181, G_182, G_183, G_184, G_189, G_198, G_207, PF_1_0, PF_1_1, PF_1_2, PF_1_3, PF_2_0, PF_2_1, PF_2_3, PF_2_4, PF_2_5, PF_2_6, PF_2_7, PF_2_8, PF_2_9, PF_2_10, PF_2_11, PF_3_0, PF_35_0, PF_35_1, PF_35_2, PF_35_3, PF_40_0, PF_40_1, PF_40_2, PF_44_0, PF_44_1, PF_44_2, PF_145_0, PF_145_1, PF_179_0, PF_179_1, PF_179_2, PF_179_3, PF_179_8, PF_179_9, PF_179_10]
  have hb01 : I 2 2 = 0 ∨ I 2 2 = 1 := hb.imp id (fun q => q.1)
  refine ⟨by omega, fun q => ?_, fun q => ⟨by omega, by omega, by omega, by omega, by omega, by omega, ht, hc, fun I1 v h1 h2 h3 => ?_⟩⟩
  · rcases hb with hb | hb
    · omega
    · exact h I frB.rf hb.2 hb.1
  · have lo1 := slv_frame h1
    have ht1 := tOK_cg lo1 ht
    have hc1 := carOK_cg lo1 hc
    have e36 : I1 36 = I 36 := funext fun j => lo1 _ j (by omega)
    rw [← e36] at h2 h3
    rw [← e36] at hn
    have hT := lapT_of ht1 hc1 h2.1 (by omega) (by omega) h3
    refine ⟨ht1, hc1, h2, hT, fun I2 k1 k2 => ?_⟩
    have lo2 : ∀ b k, b < 40 → I2 b k = I1 b k := fun b k hb => k1 b k (by omega) (by omega) (by omega)
    have ht2 := tOK_cg lo2 ht1
    have hc2 := carOK_cg lo2 hc1
    have e36' : I2 36 = I1 36 := funext fun j => lo2 _ j (by omega)
    refine ⟨ht2, hc2, fun i i0 i1 => ?_, fun I3 j1 j2 j3 j4 => ?_⟩
    · have := (k2 i.toNat (by omega)).1
      rw [Int.toNat_of_nonneg i0] at this
      exact this
    · have hw : wayOK I3 40 := wayOK_of (.inl rfl) ht2 hc2 (fun b j b1 b2 b3 => j1 b j (by omega) (by omega) b3) j2 j3
      have lo3 : c3 I2 I3 := fun b k b0 b1 => j1 b k (by omega) (by omega) (by omega)
      have e36'' : I3 36 = I2 36 := funext fun j => lo3 _ j (by omega) (by omega)
      have hT2 : lapT I2 (I2 36 0) (I2 36 1) (I2 36 2) v := by rw [e36']; exact lapT_cg (tsame_of lo2 ht1.2.1) hT
      have hB : bestOK I3 := by
        have ts := tsame_c3 lo3 ht2.2.1
        refine ⟨v, by rw [e36'']; exact lapT_cg ts hT2, ?_, hw, ?_⟩
        · rw [e36'', show I3 41 = I2 41 from funext fun k => j1 _ k (by omega) (by omega) (by omega)]; exact LexB_ts ts k2
        · rw [j4]
          rcases hT2 with ⟨a, b⟩ | ⟨a, b, c⟩
          · rw [a, b]; rfl
          · exact wayOK_sum (J := I2) (.inl rfl) ht2 hc2 a c k2
      have u : ∀ b k, ¬ (b = 2 ∧ k = 2) → upI I3 2 2 1 b k = I3 b k := fun b k hb => if_neg hb
      have ht3 := ht2.2.1
      refine h _ (fun b k b1 b2 b3 => ?_) (bestOK_c3 (fun b k b0 b1 => u b k (by omega)) (by rw [lo3 3 1 (by omega) (by omega)]; exact ht3) (fun b k b0 b1 => u b k (by omega)) hB) upI_same
      rw [u b k b3, j1 b k (by omega) (by omega) (by omega), k1 b k (by omega) (by omega) (by omega), h1 b k (by omega) (by omega) (by omega) (by omega)]
/-- the time at a station on the best way -/
theorem best_tm {I : Int → Int → Int} (ht : tOK I) (h : bestOK I) {i : Int} (i0 : 0 ≤ i) (i1 : i < I 3 1) : 0 ≤ I 43 i ∧ I 43 i ≤ 101000 := by
  obtain ⟨B, a, b, c, d⟩ := h
  rw [show (43 : Int) = 40 + 3 by rfl, c.2 i i0 i1]
  exact tm_rng ht i _ _ i0 i1 (c.1.1.2.1 i i0 i1).1
def spX7_behind (As : List MV) (σ : MS) (K : Option MV → MS → Prop) : Prop := pR As fun s r => pI r fun i r => pN r (s = 2 ∧ σ.2.1 = PF ∧ 0 ≤ i ∧ i < σ.2.2.1 3 1 ∧ tOK σ.2.2.1 ∧ carOK σ.2.2.1 ∧ bst σ.2.2.1 ∧
  ∀ (I' : Int → Int → Int) (v : Int), frB σ.2.2.1 I' → bst I' → (0 < σ.2.2.1 (5 + i) 4 → I' 2 2 = 1 ∧ bestOK I' ∧ v = σ.2.2.1 (5 + i) 4 - I' 43 i) → (¬ 0 < σ.2.2.1 (5 + i) 4 → v = 0) → -200000 ≤ v → v ≤ 200000 → K (some (.inl v)) (σ.1, σ.2.1, I', σ.2.2.2))
def ciX7_behind : CI := (2, 7, 0, 0, spX7_behind)
def kX7_behind (pc : Nat) : List ME := match pc with
  | 0 => [(.aload_n 0, 1, []), (.getfield 12, 3, []), (.getfield 87, 3, []), (.iload_n 1, 1, []), (.aaload, 1, []), (.getfield 91, 3, []), (.istore_n 2, 1, []), (.iload_n 2, 1, []), (.ifCond .le 17, 3, [31]), (.iload_n 2, 1, []), (.aload_n 0, 1, []), (.invokevirtual 97, 3, []), (.getfield 101, 3, []), (.iload_n 1, 1, []), (.iaload, 1, []), (.isub, 1, []), (.goto 4, 3, [32])]
  | 31 => [(.iconst 0, 1, [])]
  | 32 => [(.ireturn, 1, [])]
  | _ => []
theorem qX7_behind : ∀ pc, chk cX7_behind pc (kX7_behind pc) = true := by
  intro pc
  unfold kX7_behind
  split <;> first | decide +kernel | exact chk_nil
abbrev rmX7_behind : Room := { frames := 5, cells := 0, slots := 0, locals := 120 }
def aX7_behind (x : Nat) : Option CI := match x with
  | 97 => some ciX7_bestWay
  | _ => none
theorem aokX7_behind : ∀ x ci, aX7_behind x = some ci → CalOK RX7 rmX7_behind x ci := by
  intro x ci h
  unfold aX7_behind at h
  split at h
  · cases h; exact cal_V mX7_bestWay (by decide) rfl (List.forall_mem_cons.mpr ⟨(ws_mem (List.mem_of_getElem? (i := 559) (by decide +kernel)) (by decide +kernel)), List.forall_mem_cons.mpr ⟨(ws_mem (List.mem_of_getElem? (i := 466) (by decide +kernel)) (by decide +kernel)), List.forall_mem_cons.mpr ⟨(ws_mem (List.mem_of_getElem? (i := 467) (by decide +kernel)) (by decide +kernel)), List.forall_mem_cons.mpr ⟨(ws_mem (List.mem_of_getElem? (i := 54) (by decide +kernel)) (by decide +kernel)), List.forall_mem_cons.mpr ⟨(ws_mem (List.mem_of_getElem? (i := 468) (by decide +kernel)) (by decide +kernel)), fun _ h => absurd h List.not_mem_nil⟩⟩⟩⟩⟩) rfl (by unfold nice; decide +kernel) (by unfold rfits; decide) ⟨rfl, rfl⟩
  · cases h
theorem ocX7_behind_97 (f : Nat → Nat → Nat → Nat → (List MV → MS → (Option MV → MS → Prop) → Prop) → Prop) : oC aX7_behind 97 f = f 1 7 0 0 spX7_bestWay := propext Iff.rfl
theorem mdX7_behind : MD RX7 cX7_behind rmX7_behind kX7_behind fX7 aX7_behind zX7 uX7 := ⟨fokX7, zokX7, uokX7, aokX7_behind, qX7_behind⟩
set_option maxRecDepth 100000 in
set_option maxHeartbeats 800000 in
theorem mX7_behind : MOK yX7_behind cX7_behind 3 (some .int) rmX7_behind ciX7_behind := by
  refine mok_of (ini := false) (by decide +kernel) (by decide) rfl rfl ?_
  intro σ As K hrc hl h
  obtain ⟨N, P, I, L⟩ := σ
  have h9 := pR_iff.mp h
  clear h
  obtain ⟨s, r, e9, h⟩ := h9
  subst e9
  have h9 := pI_iff.mp h
  clear h
  obtain ⟨i, r, e9, h⟩ := h9
  subst e9
  have h9 := pN_iff.mp h
  clear h
  obtain ⟨e9, h⟩ := h9
  subst e9
  dsimp only at h
  obtain ⟨rfl, rfl, i0, i1, ht, hc, hb, h⟩ := h
  have ht2 := ht.2.1
  have hp := PF_st (i := i) (by omega) (by omega)
  have hg := G_st (a := 5 + i) (by omega) (by omega)
  have hst := ht.2.2 i i0 i1
  unfold stOK at hst
  refine ⟨Nat.le_of_ble_eq_true rfl, Ok.seg mdX7_behind [] 60 ?_⟩
  simp only [wp_nil, wp_cons, ↓stp, ↓lI, ↓lL, ↓lR, ↓lIn_0, ↓lIn_1, ↓lIn_2, ↓lIn_3, ↓lLn_0, ↓lLn_1, ↓lLn_2, ↓lLn_3, ↓lRn_0, ↓lRn_1, ↓lRn_2, ↓lRn_3, ↓pI, ↓pL, ↓pR, ↓pA, ↓pN, ↓pV, ↓fp, ↓tsw, ↓oS, ↓spMax, ↓spMin, ↓spAbs, ↓spObj, RI, RLg, b2i_lo, b2i_hi, getL, setL, ltL, killL, isLong, inl, cnd, br, tgt, rcv, rpl, mputI, mputL, mputP, fv, fr, mcat, mcs, entL, entA, rfit, nf_0, nf_1, nf_2, nf_3, nf2_0, nf2_1, b2i_0, b2i_1, RI_b2i, b2i_fit, List.append, List.length, List.replicate, List.cons_append, List.nil_append, List.length_cons, List.length_nil, List.replicate_succ, List.replicate_zero, List.tail_cons, reduceIte, if_true, if_false, ite_true, ite_false, Bool.false_eq_true, true_and, and_true, and_self, false_and, and_false, or_self, or_true, true_or, or_false, false_or, not_true_eq_false, not_false_eq_true, ne_eq, forall_const, implies_true, imp_self, true_implies, false_implies, Nat.reduceAdd, Nat.reduceSub, Nat.reduceMul, Nat.reduceDiv, Nat.reduceMod, Nat.reduceEqDiff, Nat.reduceLT, Nat.reduceLeDiff, Nat.reduceBEq, Nat.add_zero, Nat.zero_add, Nat.le_refl, Nat.not_lt_zero, Nat.succ_eq_add_one, Int.reduceNatCast, Int.cast_ofNat_Int, Int.reduceSub, Int.reduceMul, Int.reduceNeg, Int.reduceLE, Int.reduceLT, Int.reduceToNat, Int.reduceEq, Int.reduceNe, Int.reduceAdd, Option.some.injEq, kX7_behind, rmX7_behind, ↓ofX7_101, ↓ofX7_12, ↓ofX7_87, ↓ofX7_91, ↓ocX7_behind_97, ↓spX7_bestWay, hp, hg, ht, hc, hb, G_1, G_2, G_3, G_4, G_35, G_36, G_37, G_38, G_39, G_40, G_41, G_42, G_43, G_44, G_45, G_46, G_47, G_48, G_49, G_140, G_141, G_142, G_143, G_144, G_145, G_146, G_178, G_179, G_180, G_181, G_182, G_183, G_184, G_189, G_198, G_207, PF_1_0, PF_1_1, PF_1_2, PF_1_3, PF_2_0, PF_2_1, PF_2_3, PF_2_4, PF_2_5, PF_2_6, PF_2_7, PF_2_8, PF_2_9, PF_2_10, PF_2_11, PF_3_0, PF_35_0, PF_35_1, PF_35_2, PF_35_3, PF_40_0, PF_40_1, PF_40_2, PF_44_0, PF_44_1, PF_44_2, PF_145_0, PF_145_1, PF_179_0, PF_179_1, PF_179_2, PF_179_3, PF_179_8, PF_179_9, PF_179_10]
  refine ⟨by omega, by omega, by omega, fun q => ?_, fun q I' h1 h2 h3 => ?_⟩
  · exact h I 0 frB.rf hb (fun z => by omega) (fun _ => rfl) (by omega) (by omega)
  · have ht' := tOK_c3 h1.c3 ht
    have e31 := h1 3 1 (by omega) (by omega) (by omega)
    have := best_tm ht' h2 i0 (by omega)
    exact ⟨i0, by omega, h I' _ h1 (.inr ⟨h3, h2⟩) (fun _ => ⟨h3, h2, rfl⟩) (fun z => by omega) (by omega) (by omega)⟩
