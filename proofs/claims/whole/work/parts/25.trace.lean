/-! LapBoard$Ways: begins, leads -/
def begP (I : Int → Int → Int) (l B p : Int) : Prop := p ≤ I 36 2 ∧ p ≤ I 48 l ∧ tmv (I 5 1) 0 p + I (50 + l) p = B
/-- marks and what has been found -/
def mrk (M : Int → Int) (r : Int) : Prop := (r = 0 ∨ r = 1) ∧ (r = 1 ↔ ∃ z, 1 ≤ z ∧ z ≤ 60 ∧ 0 < M z)
theorem mrk_up {I : Int → Int → Int} {r q : Int} (h : mrk (I 143) r) (q0 : 1 ≤ q) (q1 : q ≤ 60) : mrk (upI I 143 q 1 143) 1 :=
  ⟨.inr rfl, ⟨fun _ => ⟨q, q0, q1, by rw [upI_same]; omega⟩, fun _ => rfl⟩⟩
def spX7_begins (As : List MV) (σ : MS) (K : Option MV → MS → Prop) : Prop := pR As fun s r => pI r fun l r => pI r fun B r => pN r (s = 2 ∧ σ.2.1 = PF ∧ 0 ≤ l ∧ l ≤ 2 ∧ RI B ∧ tOK σ.2.2.1 ∧ carOK σ.2.2.1 ∧ 0 < σ.2.2.1 3 1 ∧ limR σ.2.2.1 ∧ rowR σ.2.2.1 0 l ∧
  ∀ (I' : Int → Int → Int) (r : Int), (∀ b k, b ≠ 143 → I' b k = σ.2.2.1 b k) → (∀ p, 1 ≤ p → p ≤ 60 → (0 < I' 143 p ↔ begP σ.2.2.1 l B p)) → (∀ p, 1 ≤ p → p ≤ 60 → I' 143 p = 0 ∨ I' 143 p = 1) → mrk (I' 143) r → K (some (.inl r)) (σ.1, σ.2.1, I', σ.2.2.2))
def ciX7_begins : CI := (3, 7, 0, 0, spX7_begins)
def kX7_begins (pc : Nat) : List ME := match pc with
  | 0 => [(.aload_n 0, 1, []), (.getfield 53, 3, []), (.iconst 0, 1, []), (.invokestatic 59, 3, []), (.iconst 0, 1, []), (.istore_n 3, 1, []), (.iconst 1, 1, []), (.istore 4, 2, [])]
  | 13 => [(.iload 4, 2, []), (.aload_n 0, 1, []), (.getfield 21, 3, []), (.getfield 76, 3, []), (.iconst 2, 1, []), (.iaload, 1, []), (.aload_n 0, 1, []), (.getfield 35, 3, []), (.iload_n 1, 1, []), (.iaload, 1, []), (.invokestatic 114, 3, []), (.if_icmp .gt 48, 3, [81]), (.aload_n 0, 1, []), (.getfield 12, 3, []), (.getfield 87, 3, []), (.iconst 0, 1, []), (.aaload, 1, []), (.iload 4, 2, []), (.iconst 0, 1, []), (.invokevirtual 143, 3, []), (.aload_n 0, 1, []), (.getfield 41, 3, []), (.iload_n 1, 1, []), (.aaload, 1, []), (.iload 4, 2, []), (.iaload, 1, []), (.iadd, 1, []), (.iload_n 2, 1, []), (.if_icmp .ne 13, 3, [75]), (.aload_n 0, 1, []), (.getfield 53, 3, []), (.iload 4, 2, []), (.iconst 1, 1, []), (.iastore, 1, []), (.iconst 1, 1, []), (.istore_n 3, 1, [])]
  | 75 => [(.iinc 4 1, 3, []), (.goto (-65), 3, [13])]
  | 81 => [(.iload_n 3, 1, []), (.ireturn, 1, [])]
  | _ => []
theorem qX7_begins : ∀ pc, chk cX7_begins pc (kX7_begins pc) = true := by
  intro pc
  unfold kX7_begins
  split <;> first | decide +kernel | exact chk_nil
abbrev rmX7_begins : Room := { frames := 1, cells := 0, slots := 0, locals := 23 }
def aX7_begins (x : Nat) : Option CI := match x with
  | 59 => some ciJ7_fill_53178
  | 114 => some ciMin
  | 143 => some ciX3_timeAt
  | _ => none
theorem aokX7_begins : ∀ x ci, aX7_begins x = some ci → CalOK RX7 rmX7_begins x ci := by
  intro x ci h
  unfold aX7_begins at h
  split at h
  · cases h; exact cal_S mJ7_fill_53178 rfl (List.forall_mem_cons.mpr ⟨(ws_mem (List.mem_of_getElem? (i := 207) (by decide +kernel)) (by decide +kernel)), List.forall_mem_cons.mpr ⟨(ws_mem (List.mem_of_getElem? (i := 208) (by decide +kernel)) (by decide +kernel)), List.forall_mem_cons.mpr ⟨(ws_mem (List.mem_of_getElem? (i := 60) (by decide +kernel)) (by decide +kernel)), List.forall_mem_cons.mpr ⟨(ws_mem (List.mem_of_getElem? (i := 209) (by decide +kernel)) (by decide +kernel)), fun _ h => absurd h List.not_mem_nil⟩⟩⟩⟩) rfl (by unfold nice; decide +kernel) (by unfold rfits; decide) ⟨rfl, rfl⟩
  · cases h; exact cal_min (List.forall_mem_cons.mpr ⟨(ws_mem (List.mem_of_getElem? (i := 489) (by decide +kernel)) (by decide +kernel)), List.forall_mem_cons.mpr ⟨(ws_mem (List.mem_of_getElem? (i := 154) (by decide +kernel)) (by decide +kernel)), List.forall_mem_cons.mpr ⟨(ws_mem (List.mem_of_getElem? (i := 58) (by decide +kernel)) (by decide +kernel)), List.forall_mem_cons.mpr ⟨(ws_mem (List.mem_of_getElem? (i := 155) (by decide +kernel)) (by decide +kernel)), fun _ h => absurd h List.not_mem_nil⟩⟩⟩⟩) (by decide)
  · cases h; exact cal_V mX3_timeAt (by decide) rfl (List.forall_mem_cons.mpr ⟨(ws_mem (List.mem_of_getElem? (i := 488) (by decide +kernel)) (by decide +kernel)), List.forall_mem_cons.mpr ⟨(ws_mem (List.mem_of_getElem? (i := 458) (by decide +kernel)) (by decide +kernel)), List.forall_mem_cons.mpr ⟨(ws_mem (List.mem_of_getElem? (i := 459) (by decide +kernel)) (by decide +kernel)), List.forall_mem_cons.mpr ⟨(ws_mem (List.mem_of_getElem? (i := 56) (by decide +kernel)) (by decide +kernel)), List.forall_mem_cons.mpr ⟨(ws_mem (List.mem_of_getElem? (i := 460) (by decide +kernel)) (by decide +kernel)), fun _ h => absurd h List.not_mem_nil⟩⟩⟩⟩⟩) rfl (by unfold nice; decide +kernel) (by unfold rfits; decide) ⟨rfl, rfl⟩
  · cases h
theorem ocX7_begins_59 (f : Nat → Nat → Nat → Nat → (List MV → MS → (Option MV → MS → Prop) → Prop) → Prop) : oC aX7_begins 59 f = f 2 10 0 0 spJ7_fill_53178 := propext Iff.rfl
theorem ocX7_begins_114 (f : Nat → Nat → Nat → Nat → (List MV → MS → (Option MV → MS → Prop) → Prop) → Prop) : oC aX7_begins 114 f = f 2 10 0 0 spMin := propext Iff.rfl
theorem ocX7_begins_143 (f : Nat → Nat → Nat → Nat → (List MV → MS → (Option MV → MS → Prop) → Prop) → Prop) : oC aX7_begins 143 f = f 3 3 0 0 spX3_timeAt := propext Iff.rfl
theorem mdX7_begins : MD RX7 cX7_begins rmX7_begins kX7_begins fX7 aX7_begins zX7 uX7 := ⟨fokX7, zokX7, uokX7, aokX7_begins, qX7_begins⟩
set_option maxHeartbeats 1600000 in
set_option maxRecDepth 100000 in
theorem lpX7_b1 {K : Option MV → MS → Prop} {U : Pt → Prop} {N : Nat} {I L : Int → Int → Int} {l B : Int} (l0 : 0 ≤ l) (l1 : l ≤ 2) (hB : RI B) (ht : tOK I) (hc : carOK I) (hn : 0 < I 3 1) (hl : limR I) (hR : rowR I 0 l)
    (h : ∀ (I' : Int → Int → Int) (r : Int), (∀ b k, b ≠ 143 → I' b k = I b k) → (∀ p, 1 ≤ p → p ≤ 60 → (0 < I' 143 p ↔ begP I l B p)) → (∀ p, I' 143 p = 0 ∨ I' 143 p = 1 ∨ I' 143 p = I 143 p) → mrk (I' 143) r → K (some (.inl r)) (N, PF, I', L)) :
    ∀ (m : Nat) (p : Int) (I1 : Int → Int → Int) (r : Int), p + m = 61 → 1 ≤ p → (∀ b k, b ≠ 143 → I1 b k = I b k) → (∀ z, 1 ≤ z → z < p → (0 < I1 143 z ↔ begP I l B z)) → (∀ z, p ≤ z → z ≤ 60 → I1 143 z = 0) → (∀ p, I1 143 p = 0 ∨ I1 143 p = 1 ∨ I1 143 p = I 143 p) → mrk (I1 143) r →
    Ok RX7 cX7_begins 5 rmX7_begins false none (fun r σ' => rfit (some .boolean) r ∧ K r σ') U (13, [some (.inr (.inr (some 2))), some (.inl l), some (.inl B), some (.inl r), some (.inl p)], [], (N, PF, I1, L), 0, 0)
  | m, p, I1, r, hm, p0, h1, h2, h3, h4, h5 => by
    have e36 : I1 36 = I 36 := funext fun k => h1 _ k (by omega)
    have e48 : I1 48 = I 48 := funext fun k => h1 _ k (by omega)
    have e5 : I1 5 = I 5 := funext fun k => h1 _ k (by omega)
    have er : I1 (50 + l) = I (50 + l) := funext fun k => h1 _ k (by omega)
    have hlx := hl 0 l (by omega) (by omega) l0 l1
    rw [show 3 * 0 + l = l by omega] at hlx
    have hnn := hc.2
    unfold nOK at hnn
    have hg5 := G_st (a := 5) (by omega) (by omega)
    have hp5 : PF 4 0 = some 5 := PF_st (i := 0) (by omega) (by omega)
    have hpr : PF 49 l = some (50 + l) := PF_rest (i := l) (by omega) (by omega)
    have hgr := G_row (a := 50 + l) (by omega) (by omega)
    have hst0 : stOK I 5 := ht.2.2 0 (by omega) hn
    have hst : stOK I1 5 := stOK_cg (fun k => h1 _ k (by omega)) hst0
    have hb := h5.1
    have fin : I 36 2 < p ∨ I 48 l < p → K (some (.inl r)) (N, PF, I1, L) := fun q => by
      refine h I1 r h1 (fun z z0 z1 => ?_) h4 h5
      by_cases e : z < p
      · exact h2 z z0 e
      · rw [h3 z (by omega) z1]
        unfold begP
        constructor
        · intro q2; omega
        · rintro ⟨a, b, c⟩; omega
    unfold RI at hB
    rcases m with _ | m
    · refine Ok.seg mdX7_begins [13] 60 ?_
      simp only [wp_nil, wp_cons, ↓stp, ↓lI, ↓lL, ↓lR, ↓lIn_0, ↓lIn_1, ↓lIn_2, ↓lIn_3, ↓lLn_0, ↓lLn_1, ↓lLn_2, ↓lLn_3, ↓lRn_0, ↓lRn_1, ↓lRn_2, ↓lRn_3, ↓pI, ↓pL, ↓pR, ↓pA, ↓pN, ↓pV, ↓fp, ↓tsw, ↓oS, ↓spMax, ↓spMin, ↓spAbs, ↓spObj, RI, RLg, b2i_lo, b2i_hi, getL, setL, ltL, killL, isLong, inl, cnd, br, tgt, rcv, rpl, mputI, mputL, mputP, fv, fr, mcat, mcs, entL, entA, rfit, nf_0, nf_1, nf_2, nf_3, nf2_0, nf2_1, b2i_0, b2i_1, RI_b2i, b2i_fit, List.append, List.length, List.replicate, List.cons_append, List.nil_append, List.length_cons, List.length_nil, List.replicate_succ, List.replicate_zero, List.tail_cons, reduceIte, if_true, if_false, ite_true, ite_false, Bool.false_eq_true, true_and, and_true, and_self, false_and, and_false, or_self, or_true, true_or, or_false, false_or, not_true_eq_false, not_false_eq_true, ne_eq, forall_const, implies_true, imp_self, true_implies, false_implies, Nat.reduceAdd, Nat.reduceSub, Nat.reduceMul, Nat.reduceDiv, Nat.reduceMod, Nat.reduceEqDiff, Nat.reduceLT, Nat.reduceLeDiff, Nat.reduceBEq, Nat.add_zero, Nat.zero_add, Nat.le_refl, Nat.not_lt_zero, Nat.succ_eq_add_one, Int.reduceNatCast, Int.cast_ofNat_Int, Int.reduceSub, Int.reduceMul, Int.reduceNeg, Int.reduceLE, Int.reduceLT, Int.reduceToNat, Int.reduceEq, Int.reduceNe, Int.reduceAdd, Option.some.injEq, kX7_begins, rmX7_begins, ↓ofX7_12, ↓ofX7_21, ↓ofX7_35, ↓ofX7_41, ↓ofX7_53, ↓ofX7_76, ↓ofX7_87, ↓ocX7_begins_59, ↓spJ7_fill_53178, ↓ocX7_begins_114, ↓ocX7_begins_143, ↓spX3_timeAt, e36, e48, e5, er, hg5, hp5, hpr, hgr, hst, G_1, G_2, G_3, G_4, G_35, G_36, G_37, G_38, G_39, G_40, G_41, G_42, G_43, G_44, G_45, G_46, G_47, G_48, G_49, G_140, G_141, G_142, G_143, G_144, G_145, G_146, G_178, G_179, G_180, G_181, G_182, G_183, G_184, G_189, G_198, G_207, PF_1_0, PF_1_1, PF_1_2, PF_1_3, PF_2_0, PF_2_1, PF_2_3, PF_2_4, PF_2_5, PF_2_6, PF_2_7, PF_2_8, PF_2_9, PF_2_10, PF_2_11, PF_3_0, PF_35_0, PF_35_1, PF_35_2, PF_35_3, PF_40_0, PF_40_1, PF_40_2, PF_44_0, PF_44_1, PF_44_2, PF_145_0, PF_145_1, PF_179_0, PF_179_1, PF_179_2, PF_179_3, PF_179_8, PF_179_9, PF_179_10]
      refine ⟨by omega, by omega, by omega, by omega, fun x x1 x2 x3 => ⟨by omega, by omega, fun q => ⟨hb, fin (by omega)⟩, fun q => by omega⟩⟩
    · have ih := lpX7_b1 (U := U) l0 l1 hB ht hc hn hl hR h m (p + 1)
      have hrp := hR p p0 (by omega)
      rw [show 50 + (3 * 0 + l) = 50 + l by omega] at hrp
      have htm := tm_rng ht 0 0 p (by omega) hn p0
      rw [show (5 : Int) + 0 = 5 by rfl] at htm
      have yes : p ≤ I 36 2 → p ≤ I 48 l → tmv (I 5 1) 0 p + I (50 + l) p = B → Ok RX7 cX7_begins 5 rmX7_begins false none (fun r σ' => rfit (some .boolean) r ∧ K r σ') U (13, [some (.inr (.inr (some 2))), some (.inl l), some (.inl B), some (.inl 1), some (.inl (p + 1))], [], (N, PF, upI I1 143 p 1, L), 0, 0) := fun q1 q2 q3 => by
        refine ih _ _ (by omega) (by omega) (fun b k hb => by rw [upI_ne hb]; exact h1 b k hb) (fun z z0 z1 => ?_) (fun z z0 z1 => by rw [upI_nj (by omega)]; exact h3 z (by omega) z1) (fun z => ?_) (mrk_up h5 p0 (by omega))
        · by_cases e : z = p
          · subst e; rw [upI_same]; exact ⟨fun _ => ⟨q1, q2, q3⟩, fun _ => by omega⟩
          · rw [upI_nj e]; exact h2 z z0 (by omega)
        · by_cases e : z = p
          · subst e; rw [upI_same]; exact .inr (.inl rfl)
          · rw [upI_nj e]; exact h4 z
      have no : ¬ tmv (I 5 1) 0 p + I (50 + l) p = B → Ok RX7 cX7_begins 5 rmX7_begins false none (fun r σ' => rfit (some .boolean) r ∧ K r σ') U (13, [some (.inr (.inr (some 2))), some (.inl l), some (.inl B), some (.inl r), some (.inl (p + 1))], [], (N, PF, I1, L), 0, 0) := fun q => by
        refine ih _ _ (by omega) (by omega) h1 (fun z z0 z1 => ?_) (fun z z0 z1 => h3 z (by omega) z1) h4 h5
        by_cases e : z = p
        · subst e; rw [h3 z (by omega) (by omega)]
          exact ⟨fun q2 => by omega, fun q2 => (q q2.2.2).elim⟩
        · exact h2 z z0 (by omega)
      refine Ok.seg mdX7_begins [13] 60 ?_
      simp only [wp_nil, wp_cons, ↓stp, ↓lI, ↓lL, ↓lR, ↓lIn_0, ↓lIn_1, ↓lIn_2, ↓lIn_3, ↓lLn_0, ↓lLn_1, ↓lLn_2, ↓lLn_3, ↓lRn_0, ↓lRn_1, ↓lRn_2, ↓lRn_3, ↓pI, ↓pL, ↓pR, ↓pA, ↓pN, ↓pV, ↓fp, ↓tsw, ↓oS, ↓spMax, ↓spMin, ↓spAbs, ↓spObj, RI, RLg, b2i_lo, b2i_hi, getL, setL, ltL, killL, isLong, inl, cnd, br, tgt, rcv, rpl, mputI, mputL, mputP, fv, fr, mcat, mcs, entL, entA, rfit, nf_0, nf_1, nf_2, nf_3, nf2_0, nf2_1, b2i_0, b2i_1, RI_b2i, b2i_fit, List.append, List.length, List.replicate, List.cons_append, List.nil_append, List.length_cons, List.length_nil, List.replicate_succ, List.replicate_zero, List.tail_cons, reduceIte, if_true, if_false, ite_true, ite_false, Bool.false_eq_true, true_and, and_true, and_self, false_and, and_false, or_self, or_true, true_or, or_false, false_or, not_true_eq_false, not_false_eq_true, ne_eq, forall_const, implies_true, imp_self, true_implies, false_implies, Nat.reduceAdd, Nat.reduceSub, Nat.reduceMul, Nat.reduceDiv, Nat.reduceMod, Nat.reduceEqDiff, Nat.reduceLT, Nat.reduceLeDiff, Nat.reduceBEq, Nat.add_zero, Nat.zero_add, Nat.le_refl, Nat.not_lt_zero, Nat.succ_eq_add_one, Int.reduceNatCast, Int.cast_ofNat_Int, Int.reduceSub, Int.reduceMul, Int.reduceNeg, Int.reduceLE, Int.reduceLT, Int.reduceToNat, Int.reduceEq, Int.reduceNe, Int.reduceAdd, Option.some.injEq, kX7_begins, rmX7_begins, ↓ofX7_12, ↓ofX7_21, ↓ofX7_35, ↓ofX7_41, ↓ofX7_53, ↓ofX7_76, ↓ofX7_87, ↓ocX7_begins_59, ↓spJ7_fill_53178, ↓ocX7_begins_114, ↓ocX7_begins_143, ↓spX3_timeAt, e36, e48, e5, er, hg5, hp5, hpr, hgr, hst, G_1, G_2, G_3, G_4, G_35, G_36, G_37, G_38, G_39, G_40, G_41, G_42, G_43, G_44, G_45, G_46, G_47, G_48, G_49, G_140, G_141, G_142, G_143, G_144, G_145, G_146, G_178, G_179, G_180, G_181, G_182, G_183, G_184, G_189, G_198, G_207, PF_1_0, PF_1_1, PF_1_2, PF_1_3, PF_2_0, PF_2_1, PF_2_3, PF_2_4, PF_2_5, PF_2_6, PF_2_7, PF_2_8, PF_2_9, PF_2_10, PF_2_11, PF_3_0, PF_35_0, PF_35_1, PF_35_2, PF_35_3, PF_40_0, PF_40_1, PF_40_2, PF_44_0, PF_44_1, PF_44_2, PF_145_0, PF_145_1, PF_179_0, PF_179_1, PF_179_2, PF_179_3, PF_179_8, PF_179_9, PF_179_10]
      refine ⟨by omega, by omega, by omega, by omega, fun x x1 x2 x3 => ⟨by omega, by omega, fun q => ⟨hb, fin (by omega)⟩, fun q => ⟨by omega, by omega, by omega, by omega, by omega, by omega, by omega, by omega, no, fun q2 => ?_⟩⟩⟩
      exact ⟨by omega, by omega, yes (by omega) (by omega) (by omega)⟩
set_option maxRecDepth 100000 in
set_option maxHeartbeats 800000 in
theorem mX7_begins : MOK yX7_begins cX7_begins 5 (some .boolean) rmX7_begins ciX7_begins := by
  refine mok_of (ini := false) (by decide +kernel) (by decide) rfl rfl ?_
  intro σ As K hrc hl h
  obtain ⟨N, P, I, L⟩ := σ
  have h9 := pR_iff.mp h
  clear h
  obtain ⟨s, r, e9, h⟩ := h9
  subst e9
  have h9 := pI_iff.mp h
  clear h
  obtain ⟨l, r, e9, h⟩ := h9
  subst e9
  have h9 := pI_iff.mp h
  clear h
  obtain ⟨B, r, e9, h⟩ := h9
  subst e9
  have h9 := pN_iff.mp h
  clear h
  obtain ⟨e9, h⟩ := h9
  subst e9
  dsimp only at h
  obtain ⟨rfl, rfl, l0, l1, hB, ht, hc, hn, hl, hR, h⟩ := h
  have hne : ∀ b k, b ≠ 143 → filI I 143 0 61 b k = I b k := fun b k hb => if_neg (fun z => hb z.1)
  have hz : ∀ z, 1 ≤ z → z ≤ 60 → filI I 143 0 61 143 z = 0 := fun z z0 z1 => if_pos ⟨rfl, by omega, by omega⟩
  have hs : rsame I (filI I 143 0 61) := ⟨fun b k hb => hne b k (by omega), fun k => hne _ k (by omega)⟩
  refine ⟨Nat.le_of_ble_eq_true rfl, Ok.seg mdX7_begins [13] 20 ?_⟩
  simp only [wp_nil, wp_cons, ↓stp, ↓lI, ↓lL, ↓lR, ↓lIn_0, ↓lIn_1, ↓lIn_2, ↓lIn_3, ↓lLn_0, ↓lLn_1, ↓lLn_2, ↓lLn_3, ↓lRn_0, ↓lRn_1, ↓lRn_2, ↓lRn_3, ↓pI, ↓pL, ↓pR, ↓pA, ↓pN, ↓pV, ↓fp, ↓tsw, ↓oS, ↓spMax, ↓spMin, ↓spAbs, ↓spObj, RI, RLg, b2i_lo, b2i_hi, getL, setL, ltL, killL, isLong, inl, cnd, br, tgt, rcv, rpl, mputI, mputL, mputP, fv, fr, mcat, mcs, entL, entA, rfit, nf_0, nf_1, nf_2, nf_3, nf2_0, nf2_1, b2i_0, b2i_1, RI_b2i, b2i_fit, List.append, List.length, List.replicate, List.cons_append, List.nil_append, List.length_cons, List.length_nil, List.replicate_succ, List.replicate_zero, List.tail_cons, reduceIte, if_true, if_false, ite_true, ite_false, Bool.false_eq_true, true_and, and_true, and_self, false_and, and_false, or_self, or_true, true_or, or_false, false_or, not_true_eq_false, not_false_eq_true, ne_eq, forall_const, implies_true, imp_self, true_implies, false_implies, Nat.reduceAdd, Nat.reduceSub, Nat.reduceMul, Nat.reduceDiv, Nat.reduceMod, Nat.reduceEqDiff, Nat.reduceLT, Nat.reduceLeDiff, Nat.reduceBEq, Nat.add_zero, Nat.zero_add, Nat.le_refl, Nat.not_lt_zero, Nat.succ_eq_add_one, Int.reduceNatCast, Int.cast_ofNat_Int, Int.reduceSub, Int.reduceMul, Int.reduceNeg, Int.reduceLE, Int.reduceLT, Int.reduceToNat, Int.reduceEq, Int.reduceNe, Int.reduceAdd, Option.some.injEq, kX7_begins, rmX7_begins, ↓ofX7_12, ↓ofX7_21, ↓ofX7_35, ↓ofX7_41, ↓ofX7_53, ↓ofX7_76, ↓ofX7_87, ↓ocX7_begins_59, ↓spJ7_fill_53178, ↓ocX7_begins_114, ↓ocX7_begins_143, ↓spX3_timeAt, G_1, G_2, G_3, G_4, G_35, G_36, G_37, G_38, G_39, G_40, G_41, G_42, G_43, G_44, G_45, G_46, G_47, G_48, G_49, G_140, G_141, G_142, G_143, G_144, G_145, G_146, G_178, G_179, G_180, G_181, G_182, G_183, G_184, G_189, G_198, G_207, PF_1_0, PF_1_1, PF_1_2, PF_1_3, PF_2_0, PF_2_1, PF_2_3, PF_2_4, PF_2_5, PF_2_6, PF_2_7, PF_2_8, PF_2_9, PF_2_10, PF_2_11, PF_3_0, PF_35_0, PF_35_1, PF_35_2, PF_35_3, PF_40_0, PF_40_1, PF_40_2, PF_44_0, PF_44_1, PF_44_2, PF_145_0, PF_145_1, PF_179_0, PF_179_1, PF_179_2, PF_179_3, PF_179_8, PF_179_9, PF_179_10]
  have e31 : filI I 143 0 61 3 1 = I 3 1 := hne _ _ (by omega)
  refine lpX7_b1 l0 l1 hB (tOK_cg hs.1 ht) (carOK_cg hs.1 hc) (by rw [e31]; exact hn) (fun i l a b c d => by rw [e31] at b; rw [hs.2]; exact hl i l a b c d) (fun p a b => by rw [hne _ _ (by omega)]; exact hR p a b) (fun I' r h1 h2 h4 h5 => h I' r (fun b k hb => (h1 b k hb).trans (hne b k hb)) (fun p p0 p1 => ?_) (fun p p0 p1 => ?_) h5) 60 1 _ 0 (by omega) (by omega) (fun _ _ _ => rfl) (fun z z0 z1 => by omega) (fun z z0 z1 => hz z (by omega) z1) (fun p => .inr (.inr rfl)) ⟨.inl rfl, ⟨fun q => by omega, fun ⟨z, z0, z1, z2⟩ => by rw [hz z z0 z1] at z2; omega⟩⟩
  · rw [h2 p p0 p1]; unfold begP
    rw [hne 36 _ (by omega), hne 48 _ (by omega), hne 5 _ (by omega), hne (50 + l) _ (by omega)]
  · rcases h4 p with q | q | q
    · exact .inl q
    · exact .inr q
    · rw [q]; exact .inl (hz p p0 p1)

def leaP (I : Int → Int → Int) (i f l p z : Int) : Prop := 0 < I 142 p ∧ p - I 36 1 ≤ z ∧ z ≤ I 37 p ∧ z ≤ I 48 (3 * i + l) ∧ tmv (I (5 + i) 1) (dif f l) z + I (50 + (3 * i + l)) z = I (50 + (3 * (i - 1) + f)) p
def spX7_leads (As : List MV) (σ : MS) (K : Option MV → MS → Prop) : Prop := pR As fun s r => pI r fun i r => pI r fun f r => pI r fun l r => pN r (s = 2 ∧ σ.2.1 = PF ∧ 1 ≤ i ∧ i < σ.2.2.1 3 1 ∧ 0 ≤ f ∧ f ≤ 2 ∧ 0 ≤ l ∧ l ≤ 2 ∧ tOK σ.2.2.1 ∧ carOK σ.2.2.1 ∧ limR σ.2.2.1 ∧ rowR σ.2.2.1 i l ∧ rowR σ.2.2.1 (i - 1) f ∧ (∀ p, 1 ≤ p → p ≤ 60 → RI (σ.2.2.1 142 p)) ∧
  ∀ (I' : Int → Int → Int) (r : Int), (∀ b k, b ≠ 143 → I' b k = σ.2.2.1 b k) → (∀ z, 1 ≤ z → z ≤ 60 → (0 < I' 143 z ↔ ∃ p, 1 ≤ p ∧ p ≤ 60 ∧ leaP σ.2.2.1 i f l p z)) → (∀ p, 1 ≤ p → p ≤ 60 → I' 143 p = 0 ∨ I' 143 p = 1) → mrk (I' 143) r → K (some (.inl r)) (σ.1, σ.2.1, I', σ.2.2.2))
def ciX7_leads : CI := (4, 7, 0, 0, spX7_leads)
def kX7_leads (pc : Nat) : List ME := match pc with
  | 0 => [(.aload_n 0, 1, []), (.getfield 53, 3, []), (.iconst 0, 1, []), (.invokestatic 59, 3, []), (.aload_n 0, 1, []), (.getfield 41, 3, []), (.iconst 3, 1, []), (.iload_n 1, 1, []), (.imul, 1, []), (.iload_n 3, 1, []), (.iadd, 1, []), (.aaload, 1, []), (.astore 4, 2, []), (.aload_n 0, 1, []), (.getfield 41, 3, []), (.iconst 3, 1, []), (.iload_n 1, 1, []), (.iconst 1, 1, []), (.isub, 1, []), (.imul, 1, []), (.iload_n 2, 1, []), (.iadd, 1, []), (.aaload, 1, []), (.astore 5, 2, []), (.iconst 0, 1, []), (.istore 6, 2, []), (.iconst 1, 1, []), (.istore 7, 2, [])]
  | 40 => [(.iload 7, 2, []), (.bipush 60, 2, []), (.if_icmp .gt 128, 3, [172]), (.aload_n 0, 1, []), (.getfield 50, 3, []), (.iload 7, 2, []), (.iaload, 1, []), (.ifCond .le 29, 3, [83]), (.aload_n 0, 1, []), (.getfield 21, 3, []), (.getfield 147, 3, []), (.iload 7, 2, []), (.iaload, 1, []), (.aload_n 0, 1, []), (.getfield 35, 3, []), (.iconst 3, 1, []), (.iload_n 1, 1, []), (.imul, 1, []), (.iload_n 3, 1, []), (.iadd, 1, []), (.iaload, 1, []), (.invokestatic 114, 3, []), (.goto 4, 3, [84])]
  | 83 => [(.iconst 0, 1, [])]
  | 84 => [(.istore 8, 2, []), (.iconst 1, 1, []), (.iload 7, 2, []), (.aload_n 0, 1, []), (.getfield 21, 3, []), (.getfield 76, 3, []), (.iconst 1, 1, []), (.iaload, 1, []), (.isub, 1, []), (.invokestatic 140, 3, []), (.istore 9, 2, [])]
  | 104 => [(.iload 9, 2, []), (.iload 8, 2, []), (.if_icmp .gt 58, 3, [166]), (.aload_n 0, 1, []), (.getfield 12, 3, []), (.getfield 87, 3, []), (.iload_n 1, 1, []), (.aaload, 1, []), (.iload 9, 2, []), (.iload_n 3, 1, []), (.iload_n 2, 1, []), (.if_icmp .eq 7, 3, [131]), (.iconst 1, 1, []), (.goto 4, 3, [132])]
  | 131 => [(.iconst 0, 1, [])]
  | 132 => [(.invokevirtual 143, 3, []), (.aload 4, 2, []), (.iload 9, 2, []), (.iaload, 1, []), (.iadd, 1, []), (.aload 5, 2, []), (.iload 7, 2, []), (.iaload, 1, []), (.if_icmp .ne 14, 3, [160]), (.aload_n 0, 1, []), (.getfield 53, 3, []), (.iload 9, 2, []), (.iconst 1, 1, []), (.iastore, 1, []), (.iconst 1, 1, []), (.istore 6, 2, [])]
  | 160 => [(.iinc 9 1, 3, []), (.goto (-59), 3, [104])]
  | 166 => [(.iinc 7 1, 3, []), (.goto (-129), 3, [40])]
  | 172 => [(.iload 6, 2, []), (.ireturn, 1, [])]
  | _ => []
theorem qX7_leads : ∀ pc, chk cX7_leads pc (kX7_leads pc) = true := by
  intro pc
  unfold kX7_leads
  split <;> first | decide +kernel | exact chk_nil
abbrev rmX7_leads : Room := { frames := 1, cells := 0, slots := 0, locals := 23 }
def aX7_leads (x : Nat) : Option CI := match x with
  | 59 => some ciJ7_fill_53178
  | 114 => some ciMin
  | 140 => some ciMax
  | 143 => some ciX3_timeAt
  | _ => none
theorem aokX7_leads : ∀ x ci, aX7_leads x = some ci → CalOK RX7 rmX7_leads x ci := by
  intro x ci h
  unfold aX7_leads at h
  split at h
  · cases h; exact cal_S mJ7_fill_53178 rfl (List.forall_mem_cons.mpr ⟨(ws_mem (List.mem_of_getElem? (i := 207) (by decide +kernel)) (by decide +kernel)), List.forall_mem_cons.mpr ⟨(ws_mem (List.mem_of_getElem? (i := 208) (by decide +kernel)) (by decide +kernel)), List.forall_mem_cons.mpr ⟨(ws_mem (List.mem_of_getElem? (i := 60) (by decide +kernel)) (by decide +kernel)), List.forall_mem_cons.mpr ⟨(ws_mem (List.mem_of_getElem? (i := 209) (by decide +kernel)) (by decide +kernel)), fun _ h => absurd h List.not_mem_nil⟩⟩⟩⟩) rfl (by unfold nice; decide +kernel) (by unfold rfits; decide) ⟨rfl, rfl⟩
  · cases h; exact cal_min (List.forall_mem_cons.mpr ⟨(ws_mem (List.mem_of_getElem? (i := 489) (by decide +kernel)) (by decide +kernel)), List.forall_mem_cons.mpr ⟨(ws_mem (List.mem_of_getElem? (i := 154) (by decide +kernel)) (by decide +kernel)), List.forall_mem_cons.mpr ⟨(ws_mem (List.mem_of_getElem? (i := 58) (by decide +kernel)) (by decide +kernel)), List.forall_mem_cons.mpr ⟨(ws_mem (List.mem_of_getElem? (i := 155) (by decide +kernel)) (by decide +kernel)), fun _ h => absurd h List.not_mem_nil⟩⟩⟩⟩) (by decide)
  · cases h; exact cal_max (List.forall_mem_cons.mpr ⟨(ws_mem (List.mem_of_getElem? (i := 487) (by decide +kernel)) (by decide +kernel)), List.forall_mem_cons.mpr ⟨(ws_mem (List.mem_of_getElem? (i := 157) (by decide +kernel)) (by decide +kernel)), List.forall_mem_cons.mpr ⟨(ws_mem (List.mem_of_getElem? (i := 58) (by decide +kernel)) (by decide +kernel)), List.forall_mem_cons.mpr ⟨(ws_mem (List.mem_of_getElem? (i := 158) (by decide +kernel)) (by decide +kernel)), fun _ h => absurd h List.not_mem_nil⟩⟩⟩⟩) (by decide)
  · cases h; exact cal_V mX3_timeAt (by decide) rfl (List.forall_mem_cons.mpr ⟨(ws_mem (List.mem_of_getElem? (i := 488) (by decide +kernel)) (by decide +kernel)), List.forall_mem_cons.mpr ⟨(ws_mem (List.mem_of_getElem? (i := 458) (by decide +kernel)) (by decide +kernel)), List.forall_mem_cons.mpr ⟨(ws_mem (List.mem_of_getElem? (i := 459) (by decide +kernel)) (by decide +kernel)), List.forall_mem_cons.mpr ⟨(ws_mem (List.mem_of_getElem? (i := 56) (by decide +kernel)) (by decide +kernel)), List.forall_mem_cons.mpr ⟨(ws_mem (List.mem_of_getElem? (i := 460) (by decide +kernel)) (by decide +kernel)), fun _ h => absurd h List.not_mem_nil⟩⟩⟩⟩⟩) rfl (by unfold nice; decide +kernel) (by unfold rfits; decide) ⟨rfl, rfl⟩
  · cases h
theorem ocX7_leads_59 (f : Nat → Nat → Nat → Nat → (List MV → MS → (Option MV → MS → Prop) → Prop) → Prop) : oC aX7_leads 59 f = f 2 10 0 0 spJ7_fill_53178 := propext Iff.rfl
theorem ocX7_leads_114 (f : Nat → Nat → Nat → Nat → (List MV → MS → (Option MV → MS → Prop) → Prop) → Prop) : oC aX7_leads 114 f = f 2 10 0 0 spMin := propext Iff.rfl
theorem ocX7_leads_140 (f : Nat → Nat → Nat → Nat → (List MV → MS → (Option MV → MS → Prop) → Prop) → Prop) : oC aX7_leads 140 f = f 2 10 0 0 spMax := propext Iff.rfl
theorem ocX7_leads_143 (f : Nat → Nat → Nat → Nat → (List MV → MS → (Option MV → MS → Prop) → Prop) → Prop) : oC aX7_leads 143 f = f 3 3 0 0 spX3_timeAt := propext Iff.rfl
theorem mdX7_leads : MD RX7 cX7_leads rmX7_leads kX7_leads fX7 aX7_leads zX7 uX7 := ⟨fokX7, zokX7, uokX7, aokX7_leads, qX7_leads⟩
set_option maxHeartbeats 1600000 in
set_option maxRecDepth 100000 in
theorem lpX7_d1 {post : Option MV → MS → Prop} {U : Pt → Prop} {N : Nat} {I L : Int → Int → Int} {i f l p most : Int} (i0 : 1 ≤ i) (i1 : i < I 3 1) (f0 : 0 ≤ f) (f1 : f ≤ 2) (l0 : 0 ≤ l) (l1 : l ≤ 2) (ht : tOK I) (hl : limR I) (hR : rowR I i l) (hR2 : rowR I (i - 1) f) (p0 : 1 ≤ p) (p1 : p ≤ 60) (hm0 : 0 ≤ most ∧ most ≤ 60)
    (hmost : ∀ z, 1 ≤ z → (z ≤ most ↔ 0 < I 142 p ∧ z ≤ I 37 p ∧ z ≤ I 48 (3 * i + l)))
    (h : ∀ (I1 : Int → Int → Int) (r : Int) (t : Option MV), (∀ b k, b ≠ 143 → I1 b k = I b k) → (∀ z, 1 ≤ z → z ≤ 60 → (0 < I1 143 z ↔ 0 < I 143 z ∨ leaP I i f l p z)) → (∀ p, I1 143 p = 0 ∨ I1 143 p = 1 ∨ I1 143 p = I 143 p) → mrk (I1 143) r → Ok RX7 cX7_leads 10 rmX7_leads false none post U (40, [some (.inr (.inr (some 2))), some (.inl i), some (.inl f), some (.inl l), some (.inr (.inr (some (50 + (3 * i + l))))), some (.inr (.inr (some (50 + (3 * (i - 1) + f))))), some (.inl r), some (.inl (p + 1)), some (.inl most), t], [], (N, PF, I1, L), 0, 0)) :
    ∀ (m : Nat) (q : Int) (I1 : Int → Int → Int) (r : Int), q + m = 61 → 1 ≤ q → p - I 36 1 ≤ q → (∀ b k, b ≠ 143 → I1 b k = I b k) → (∀ z, 1 ≤ z → z < q → (0 < I1 143 z ↔ 0 < I 143 z ∨ leaP I i f l p z)) → (∀ z, q ≤ z → z ≤ 60 → I1 143 z = I 143 z) → (∀ p, I1 143 p = 0 ∨ I1 143 p = 1 ∨ I1 143 p = I 143 p) → mrk (I1 143) r →
    Ok RX7 cX7_leads 10 rmX7_leads false none post U (104, [some (.inr (.inr (some 2))), some (.inl i), some (.inl f), some (.inl l), some (.inr (.inr (some (50 + (3 * i + l))))), some (.inr (.inr (some (50 + (3 * (i - 1) + f))))), some (.inl r), some (.inl p), some (.inl most), some (.inl q)], [], (N, PF, I1, L), 0, 0)
  | m, q, I1, r, hm, q0, q1, h1, h2, h3, h4, h5 => by
    have ht2 := ht.2.1
    have e5 : I1 (5 + i) = I (5 + i) := funext fun k => h1 _ k (by omega)
    have er : I1 (50 + (3 * i + l)) = I (50 + (3 * i + l)) := funext fun k => h1 _ k (by omega)
    have er2 : I1 (50 + (3 * (i - 1) + f)) = I (50 + (3 * (i - 1) + f)) := funext fun k => h1 _ k (by omega)
    have hp := PF_st (i := i) (by omega) (by omega)
    have hg := G_st (a := 5 + i) (by omega) (by omega)
    have hgr := G_row (a := 50 + (3 * i + l)) (by omega) (by omega)
    have hgr2 := G_row (a := 50 + (3 * (i - 1) + f)) (by omega) (by omega)
    have hst : stOK I1 (5 + i) := stOK_cg (fun k => h1 _ k (by omega)) (ht.2.2 i (by omega) (by omega))
    have fin : most < q → Ok RX7 cX7_leads 10 rmX7_leads false none post U (40, [some (.inr (.inr (some 2))), some (.inl i), some (.inl f), some (.inl l), some (.inr (.inr (some (50 + (3 * i + l))))), some (.inr (.inr (some (50 + (3 * (i - 1) + f))))), some (.inl r), some (.inl (p + 1)), some (.inl most), some (.inl q)], [], (N, PF, I1, L), 0, 0) := fun w => by
      refine h I1 r _ h1 (fun z z0 z1 => ?_) h4 h5
      by_cases e : z < q
      · exact h2 z z0 e
      · rw [h3 z (by omega) z1]
        refine ⟨.inl, fun y => y.elim id (fun y => ?_)⟩
        have := (hmost z z0).mpr ⟨y.1, y.2.2.1, y.2.2.2.1⟩
        omega
    rcases m with _ | m
    · refine Ok.seg mdX7_leads [40, 104] 60 ?_
      simp only [wp_nil, wp_cons, ↓stp, ↓lI, ↓lL, ↓lR, ↓lIn_0, ↓lIn_1, ↓lIn_2, ↓lIn_3, ↓lLn_0, ↓lLn_1, ↓lLn_2, ↓lLn_3, ↓lRn_0, ↓lRn_1, ↓lRn_2, ↓lRn_3, ↓pI, ↓pL, ↓pR, ↓pA, ↓pN, ↓pV, ↓fp, ↓tsw, ↓oS, ↓spMax, ↓spMin, ↓spAbs, ↓spObj, RI, RLg, b2i_lo, b2i_hi, getL, setL, ltL, killL, isLong, inl, cnd, br, tgt, rcv, rpl, mputI, mputL, mputP, fv, fr, mcat, mcs, entL, entA, rfit, nf_0, nf_1, nf_2, nf_3, nf2_0, nf2_1, b2i_0, b2i_1, RI_b2i, b2i_fit, List.append, List.length, List.replicate, List.cons_append, List.nil_append, List.length_cons, List.length_nil, List.replicate_succ, List.replicate_zero, List.tail_cons, reduceIte, if_true, if_false, ite_true, ite_false, Bool.false_eq_true, true_and, and_true, and_self, false_and, and_false, or_self, or_true, true_or, or_false, false_or, not_true_eq_false, not_false_eq_true, ne_eq, forall_const, implies_true, imp_self, true_implies, false_implies, Nat.reduceAdd, Nat.reduceSub, Nat.reduceMul, Nat.reduceDiv, Nat.reduceMod, Nat.reduceEqDiff, Nat.reduceLT, Nat.reduceLeDiff, Nat.reduceBEq, Nat.add_zero, Nat.zero_add, Nat.le_refl, Nat.not_lt_zero, Nat.succ_eq_add_one, Int.reduceNatCast, Int.cast_ofNat_Int, Int.reduceSub, Int.reduceMul, Int.reduceNeg, Int.reduceLE, Int.reduceLT, Int.reduceToNat, Int.reduceEq, Int.reduceNe, Int.reduceAdd, Option.some.injEq, kX7_leads, rmX7_leads, ↓ofX7_12, ↓ofX7_147, ↓ofX7_21, ↓ofX7_35, ↓ofX7_41, ↓ofX7_50, ↓ofX7_53, ↓ofX7_76, ↓ofX7_87, ↓ocX7_leads_59, ↓spJ7_fill_53178, ↓ocX7_leads_114, ↓ocX7_leads_140, ↓ocX7_leads_143, ↓spX3_timeAt, e5, er, er2, hp, hg, hgr, hgr2, hst, G_1, G_2, G_3, G_4, G_35, G_36, G_37, G_38, G_39, G_40, G_41, G_42, G_43, G_44, G_45, G_46, G_47, G_48, G_49, G_140, G_141, G_142, G_143, G_144, G_145, G_146, G_178, G_179, G_180, G_181, G_182, G_183, G_184, G_189, G_198, G_207, PF_1_0, PF_1_1, PF_1_2, PF_1_3, PF_2_0, PF_2_1, PF_2_3, PF_2_4, PF_2_5, PF_2_6, PF_2_7, PF_2_8, PF_2_9, PF_2_10, PF_2_11, PF_3_0, PF_35_0, PF_35_1, PF_35_2, PF_35_3, PF_40_0, PF_40_1, PF_40_2, PF_44_0, PF_44_1, PF_44_2, PF_145_0, PF_145_1, PF_179_0, PF_179_1, PF_179_2, PF_179_3, PF_179_8, PF_179_9, PF_179_10]
      exact ⟨by omega, by omega, fin, fun w => by omega⟩
    · have ih := lpX7_d1 (U := U) i0 i1 f0 f1 l0 l1 ht hl hR hR2 p0 p1 hm0 hmost h m (q + 1)
      have hrq := hR q q0 (by omega)
      have hrp := hR2 p p0 p1
      have htm := fun c => tm_rng ht i c q (by omega) i1 q0
      have ht0 := htm 0
      have ht1 := htm 1
      have yes : ∀ c, dif f l = c → q ≤ most → ¬ ¬ tmv (I (5 + i) 1) c q + I (50 + (3 * i + l)) q = I (50 + (3 * (i - 1) + f)) p → Ok RX7 cX7_leads 10 rmX7_leads false none post U (104, [some (.inr (.inr (some 2))), some (.inl i), some (.inl f), some (.inl l), some (.inr (.inr (some (50 + (3 * i + l))))), some (.inr (.inr (some (50 + (3 * (i - 1) + f))))), some (.inl 1), some (.inl p), some (.inl most), some (.inl (q + 1))], [], (N, PF, upI I1 143 q 1, L), 0, 0) := fun c e w y => by
        subst e
        have hm2 := (hmost q q0).mp w
        refine ih _ _ (by omega) (by omega) (by omega) (fun b k hb => by rw [upI_ne hb]; exact h1 b k hb) (fun z z0 z1 => ?_) (fun z z0 z1 => by rw [upI_nj (by omega)]; exact h3 z (by omega) z1) (fun z => ?_) (mrk_up h5 q0 (by omega))
        · by_cases e : z = q
          · subst e; rw [upI_same]; exact ⟨fun _ => .inr ⟨hm2.1, q1, hm2.2.1, hm2.2.2, by omega⟩, fun _ => by omega⟩
          · rw [upI_nj e]; exact h2 z z0 (by omega)
        · by_cases e : z = q
          · subst e; rw [upI_same]; exact .inr (.inl rfl)
          · rw [upI_nj e]; exact h4 z
      have no : ∀ c, dif f l = c → q ≤ most → ¬ tmv (I (5 + i) 1) c q + I (50 + (3 * i + l)) q = I (50 + (3 * (i - 1) + f)) p → Ok RX7 cX7_leads 10 rmX7_leads false none post U (104, [some (.inr (.inr (some 2))), some (.inl i), some (.inl f), some (.inl l), some (.inr (.inr (some (50 + (3 * i + l))))), some (.inr (.inr (some (50 + (3 * (i - 1) + f))))), some (.inl r), some (.inl p), some (.inl most), some (.inl (q + 1))], [], (N, PF, I1, L), 0, 0) := fun c e w y => by
        subst e
        refine ih _ _ (by omega) (by omega) (by omega) h1 (fun z z0 z1 => ?_) (fun z z0 z1 => h3 z (by omega) z1) h4 h5
        by_cases e : z = q
        · subst e; rw [h3 z (by omega) (by omega)]
          exact ⟨.inl, fun y2 => y2.elim id (fun y2 => (y y2.2.2.2.2).elim)⟩
        · exact h2 z z0 (by omega)
      refine Ok.seg mdX7_leads [40, 104] 60 ?_
      simp only [wp_nil, wp_cons, ↓stp, ↓lI, ↓lL, ↓lR, ↓lIn_0, ↓lIn_1, ↓lIn_2, ↓lIn_3, ↓lLn_0, ↓lLn_1, ↓lLn_2, ↓lLn_3, ↓lRn_0, ↓lRn_1, ↓lRn_2, ↓lRn_3, ↓pI, ↓pL, ↓pR, ↓pA, ↓pN, ↓pV, ↓fp, ↓tsw, ↓oS, ↓spMax, ↓spMin, ↓spAbs, ↓spObj, RI, RLg, b2i_lo, b2i_hi, getL, setL, ltL, killL, isLong, inl, cnd, br, tgt, rcv, rpl, mputI, mputL, mputP, fv, fr, mcat, mcs, entL, entA, rfit, nf_0, nf_1, nf_2, nf_3, nf2_0, nf2_1, b2i_0, b2i_1, RI_b2i, b2i_fit, List.append, List.length, List.replicate, List.cons_append, List.nil_append, List.length_cons, List.length_nil, List.replicate_succ, List.replicate_zero, List.tail_cons, reduceIte, if_true, if_false, ite_true, ite_false, Bool.false_eq_true, true_and, and_true, and_self, false_and, and_false, or_self, or_true, true_or, or_false, false_or, not_true_eq_false, not_false_eq_true, ne_eq, forall_const, implies_true, imp_self, true_implies, false_implies, Nat.reduceAdd, Nat.reduceSub, Nat.reduceMul, Nat.reduceDiv, Nat.reduceMod, Nat.reduceEqDiff, Nat.reduceLT, Nat.reduceLeDiff, Nat.reduceBEq, Nat.add_zero, Nat.zero_add, Nat.le_refl, Nat.not_lt_zero, Nat.succ_eq_add_one, Int.reduceNatCast, Int.cast_ofNat_Int, Int.reduceSub, Int.reduceMul, Int.reduceNeg, Int.reduceLE, Int.reduceLT, Int.reduceToNat, Int.reduceEq, Int.reduceNe, Int.reduceAdd, Option.some.injEq, kX7_leads, rmX7_leads, ↓ofX7_12, ↓ofX7_147, ↓ofX7_21, ↓ofX7_35, ↓ofX7_41, ↓ofX7_50, ↓ofX7_53, ↓ofX7_76, ↓ofX7_87, ↓ocX7_leads_59, ↓spJ7_fill_53178, ↓ocX7_leads_114, ↓ocX7_leads_140, ↓ocX7_leads_143, ↓spX3_timeAt, e5, er, er2, hp, hg, hgr, hgr2, hst, G_1, G_2, G_3, G_4, G_35, G_36, G_37, G_38, G_39, G_40, G_41, G_42, G_43, G_44, G_45, G_46, G_47, G_48, G_49, G_140, G_141, G_142, G_143, G_144, G_145, G_146, G_178, G_179, G_180, G_181, G_182, G_183, G_184, G_189, G_198, G_207, PF_1_0, PF_1_1, PF_1_2, PF_1_3, PF_2_0, PF_2_1, PF_2_3, PF_2_4, PF_2_5, PF_2_6, PF_2_7, PF_2_8, PF_2_9, PF_2_10, PF_2_11, PF_3_0, PF_35_0, PF_35_1, PF_35_2, PF_35_3, PF_40_0, PF_40_1, PF_40_2, PF_44_0, PF_44_1, PF_44_2, PF_145_0, PF_145_1, PF_179_0, PF_179_1, PF_179_2, PF_179_3, PF_179_8, PF_179_9, PF_179_10]
      refine ⟨by omega, by omega, fin, fun w => ⟨by omega, by omega, by omega, by omega, ?_⟩⟩
      repeat' (first | apply And.intro | intro _)
      all_goals first | omega | exact no 0 (if_pos (by assumption)) (by omega) (by assumption) | exact yes 0 (if_pos (by assumption)) (by omega) (by assumption) | exact no 1 (if_neg (by assumption)) (by omega) (by assumption) | exact yes 1 (if_neg (by assumption)) (by omega) (by assumption)
set_option maxHeartbeats 1600000 in
set_option maxRecDepth 100000 in
theorem lpX7_d2 {post : Option MV → MS → Prop} {U : Pt → Prop} {N : Nat} {I L : Int → Int → Int} {i f l : Int} (i0 : 1 ≤ i) (i1 : i < I 3 1) (f0 : 0 ≤ f) (f1 : f ≤ 2) (l0 : 0 ≤ l) (l1 : l ≤ 2) (ht : tOK I) (hc : carOK I) (hl : limR I) (hR : rowR I i l) (hR2 : rowR I (i - 1) f) (hhere : ∀ p, 1 ≤ p → p ≤ 60 → RI (I 142 p))
    (h : ∀ (I' : Int → Int → Int) (r : Int), (∀ b k, b ≠ 143 → I' b k = I b k) → (∀ z, 1 ≤ z → z ≤ 60 → (0 < I' 143 z ↔ ∃ p, 1 ≤ p ∧ p ≤ 60 ∧ leaP I i f l p z)) → (∀ p, I' 143 p = 0 ∨ I' 143 p = 1 ∨ I' 143 p = I 143 p) → mrk (I' 143) r → post (some (.inl r)) (N, PF, I', L)) :
    ∀ (m : Nat) (p : Int) (I1 : Int → Int → Int) (r : Int) (t1 t2 : Option MV), p + m = 61 → 1 ≤ p → (∀ b k, b ≠ 143 → I1 b k = I b k) → (∀ z, 1 ≤ z → z ≤ 60 → (0 < I1 143 z ↔ ∃ p', 1 ≤ p' ∧ p' < p ∧ leaP I i f l p' z)) → (∀ p, I1 143 p = 0 ∨ I1 143 p = 1 ∨ I1 143 p = I 143 p) → mrk (I1 143) r →
    Ok RX7 cX7_leads 10 rmX7_leads false none post U (40, [some (.inr (.inr (some 2))), some (.inl i), some (.inl f), some (.inl l), some (.inr (.inr (some (50 + (3 * i + l))))), some (.inr (.inr (some (50 + (3 * (i - 1) + f))))), some (.inl r), some (.inl p), t1, t2], [], (N, PF, I1, L), 0, 0)
  | 0, p, I1, r, t1, t2, hm, p0, h1, h2, h4, h5 => by
    refine Ok.seg mdX7_leads [40, 104] 60 ?_
    simp only [wp_nil, wp_cons, ↓stp, ↓lI, ↓lL, ↓lR, ↓lIn_0, ↓lIn_1, ↓lIn_2, ↓lIn_3, ↓lLn_0, ↓lLn_1, ↓lLn_2, ↓lLn_3, ↓lRn_0, ↓lRn_1, ↓lRn_2, ↓lRn_3, ↓pI, ↓pL, ↓pR, ↓pA, ↓pN, ↓pV, ↓fp, ↓tsw, ↓oS, ↓spMax, ↓spMin, ↓spAbs, ↓spObj, RI, RLg, b2i_lo, b2i_hi, getL, setL, ltL, killL, isLong, inl, cnd, br, tgt, rcv, rpl, mputI, mputL, mputP, fv, fr, mcat, mcs, entL, entA, rfit, nf_0, nf_1, nf_2, nf_3, nf2_0, nf2_1, b2i_0, b2i_1, RI_b2i, b2i_fit, List.append, List.length, List.replicate, List.cons_append, List.nil_append, List.length_cons, List.length_nil, List.replicate_succ, List.replicate_zero, List.tail_cons, reduceIte, if_true, if_false, ite_true, ite_false, Bool.false_eq_true, true_and, and_true, and_self, false_and, and_false, or_self, or_true, true_or, or_false, false_or, not_true_eq_false, not_false_eq_true, ne_eq, forall_const, implies_true, imp_self, true_implies, false_implies, Nat.reduceAdd, Nat.reduceSub, Nat.reduceMul, Nat.reduceDiv, Nat.reduceMod, Nat.reduceEqDiff, Nat.reduceLT, Nat.reduceLeDiff, Nat.reduceBEq, Nat.add_zero, Nat.zero_add, Nat.le_refl, Nat.not_lt_zero, Nat.succ_eq_add_one, Int.reduceNatCast, Int.cast_ofNat_Int, Int.reduceSub, Int.reduceMul, Int.reduceNeg, Int.reduceLE, Int.reduceLT, Int.reduceToNat, Int.reduceEq, Int.reduceNe, Int.reduceAdd, Option.some.injEq, kX7_leads, rmX7_leads, ↓ofX7_12, ↓ofX7_147, ↓ofX7_21, ↓ofX7_35, ↓ofX7_41, ↓ofX7_50, ↓ofX7_53, ↓ofX7_76, ↓ofX7_87, ↓ocX7_leads_59, ↓spJ7_fill_53178, ↓ocX7_leads_114, ↓ocX7_leads_140, ↓ocX7_leads_143, ↓spX3_timeAt, G_1, G_2, G_3, G_4, G_35, G_36, G_37, G_38, G_39, G_40, G_41, G_42, G_43, G_44, G_45, G_46, G_47, G_48, G_49, G_140, G_141, G_142, G_143, G_144, G_145, G_146, G_178, G_179, G_180, G_181, G_182, G_183, G_184, G_189, G_198, G_207, PF_1_0, PF_1_1, PF_1_2, PF_1_3, PF_2_0, PF_2_1, PF_2_3, PF_2_4, PF_2_5, PF_2_6, PF_2_7, PF_2_8, PF_2_9, PF_2_10, PF_2_11, PF_3_0, PF_35_0, PF_35_1, PF_35_2, PF_35_3, PF_40_0, PF_40_1, PF_40_2, PF_44_0, PF_44_1, PF_44_2, PF_145_0, PF_145_1, PF_179_0, PF_179_1, PF_179_2, PF_179_3, PF_179_8, PF_179_9, PF_179_10]
    refine ⟨by omega, fun _ => h I1 r h1 (fun z z0 z1 => (h2 z z0 z1).trans ?_) h4 h5, fun q => by omega⟩
    exact ⟨fun ⟨p', a, b, c⟩ => ⟨p', a, by omega, c⟩, fun ⟨p', a, b, c⟩ => ⟨p', a, by omega, c⟩⟩
  | m + 1, p, I1, r, t1, t2, hm, p0, h1, h2, h4, h5 => by
    have ih := lpX7_d2 (U := U) i0 i1 f0 f1 l0 l1 ht hc hl hR hR2 hhere h m (p + 1)
    have e36 : I1 36 = I 36 := funext fun k => h1 _ k (by omega)
    have e37 : I1 37 = I 37 := funext fun k => h1 _ k (by omega)
    have e48 : I1 48 = I 48 := funext fun k => h1 _ k (by omega)
    have e142 : I1 142 = I 142 := funext fun k => h1 _ k (by omega)
    have hlx := hl i l (by omega) (by omega) l0 l1
    have hnn := hc.2
    unfold nOK at hnn
    have ht2 := ht.2.1
    have hh := hhere p p0 (by omega)
    unfold RI at hh
    have hr := rch_rng hc.1.1 (show p ≤ 60 by omega)
    rw [← hc.1.2 p p0 (by omega)] at hr
    have hs : ∀ b k, b < 40 → I1 b k = I b k := fun b k hb => h1 b k (by omega)
    have ek : ∀ p z, leaP I1 i f l p z ↔ leaP I i f l p z := fun p z => by
      unfold leaP
      rw [e142, e36, e37, e48, h1 (5 + i) 1 (by omega), h1 (50 + (3 * i + l)) z (by omega), h1 (50 + (3 * (i - 1) + f)) p (by omega)]
    have go : ∀ most q, 0 ≤ most ∧ most ≤ 60 → 1 ≤ q → p - I 36 1 ≤ q → (q = 1 ∨ q = p - I 36 1) → (∀ z, 1 ≤ z → (z ≤ most ↔ 0 < I 142 p ∧ z ≤ I 37 p ∧ z ≤ I 48 (3 * i + l))) → Ok RX7 cX7_leads 10 rmX7_leads false none post U (104, [some (.inr (.inr (some 2))), some (.inl i), some (.inl f), some (.inl l), some (.inr (.inr (some (50 + (3 * i + l))))), some (.inr (.inr (some (50 + (3 * (i - 1) + f))))), some (.inl r), some (.inl p), some (.inl most), some (.inl q)], [], (N, PF, I1, L), 0, 0) := fun most q a b c d e => by
      refine lpX7_d1 (I := I1) i0 (by rw [hs 3 1 (by omega)]; exact i1) f0 f1 l0 l1 (tOK_cg hs ht) (fun i l a b c d => by rw [hs 3 1 (by omega)] at b; rw [e48]; exact hl i l a b c d) (fun z a b => by rw [h1 _ _ (by omega)]; exact hR z a b) (fun z a b => by rw [h1 _ _ (by omega)]; exact hR2 z a b) p0 (by omega) a (by rw [e142, e37, e48]; exact e) (fun I2 r2 t k1 k2 k3 k4 => ?_) (61 - q).toNat q I1 r (by omega) b (by rw [e36]; exact c) (fun _ _ _ => rfl) (fun z z0 z1 => ?_) (fun _ _ _ => rfl) (fun _ => .inr (.inr rfl)) h5
      · refine ih I2 r2 _ t (by omega) (by omega) (fun b k hb => (k1 b k hb).trans (h1 b k hb)) (fun z z0 z1 => ?_) (fun z => ?_) k4
        · rw [k2 z z0 z1, h2 z z0 z1, ek]
          constructor
          · rintro (⟨p', a, b, c⟩ | c)
            · exact ⟨p', a, by omega, c⟩
            · exact ⟨p, p0, by omega, c⟩
          · rintro ⟨p', a, b, c⟩
            by_cases e : p' = p
            · exact .inr (e ▸ c)
            · exact .inl ⟨p', a, by omega, c⟩
        · rcases k3 z with y | y | y
          · exact .inl y
          · exact .inr (.inl y)
          · rw [y]; exact h4 z
      · refine ⟨.inl, fun y => y.elim id (fun y => ?_)⟩
        have := y.2.1
        rw [e36] at this
        omega
    refine Ok.seg mdX7_leads [40, 104] 60 ?_
    simp only [wp_nil, wp_cons, ↓stp, ↓lI, ↓lL, ↓lR, ↓lIn_0, ↓lIn_1, ↓lIn_2, ↓lIn_3, ↓lLn_0, ↓lLn_1, ↓lLn_2, ↓lLn_3, ↓lRn_0, ↓lRn_1, ↓lRn_2, ↓lRn_3, ↓pI, ↓pL, ↓pR, ↓pA, ↓pN, ↓pV, ↓fp, ↓tsw, ↓oS, ↓spMax, ↓spMin, ↓spAbs, ↓spObj, RI, RLg, b2i_lo, b2i_hi, getL, setL, ltL, killL, isLong, inl, cnd, br, tgt, rcv, rpl, mputI, mputL, mputP, fv, fr, mcat, mcs, entL, entA, rfit, nf_0, nf_1, nf_2, nf_3, nf2_0, nf2_1, b2i_0, b2i_1, RI_b2i, b2i_fit, List.append, List.length, List.replicate, List.cons_append, List.nil_append, List.length_cons, List.length_nil, List.replicate_succ, List.replicate_zero, List.tail_cons, reduceIte, if_true, if_false, ite_true, ite_false, Bool.false_eq_true, true_and, and_true, and_self, false_and, and_false, or_self, or_true, true_or, or_false, false_or, not_true_eq_false, not_false_eq_true, ne_eq, forall_const, implies_true, imp_self, true_implies, false_implies, Nat.reduceAdd, Nat.reduceSub, Nat.reduceMul, Nat.reduceDiv, Nat.reduceMod, Nat.reduceEqDiff, Nat.reduceLT, Nat.reduceLeDiff, Nat.reduceBEq, Nat.add_zero, Nat.zero_add, Nat.le_refl, Nat.not_lt_zero, Nat.succ_eq_add_one, Int.reduceNatCast, Int.cast_ofNat_Int, Int.reduceSub, Int.reduceMul, Int.reduceNeg, Int.reduceLE, Int.reduceLT, Int.reduceToNat, Int.reduceEq, Int.reduceNe, Int.reduceAdd, Option.some.injEq, kX7_leads, rmX7_leads, ↓ofX7_12, ↓ofX7_147, ↓ofX7_21, ↓ofX7_35, ↓ofX7_41, ↓ofX7_50, ↓ofX7_53, ↓ofX7_76, ↓ofX7_87, ↓ocX7_leads_59, ↓spJ7_fill_53178, ↓ocX7_leads_114, ↓ocX7_leads_140, ↓ocX7_leads_143, ↓spX3_timeAt, e36, e37, e48, e142, G_1, G_2, G_3, G_4, G_35, G_36, G_37, G_38, G_39, G_40, G_41, G_42, G_43, G_44, G_45, G_46, G_47, G_48, G_49, G_140, G_141, G_142, G_143, G_144, G_145, G_146, G_178, G_179, G_180, G_181, G_182, G_183, G_184, G_189, G_198, G_207, PF_1_0, PF_1_1, PF_1_2, PF_1_3, PF_2_0, PF_2_1, PF_2_3, PF_2_4, PF_2_5, PF_2_6, PF_2_7, PF_2_8, PF_2_9, PF_2_10, PF_2_11, PF_3_0, PF_35_0, PF_35_1, PF_35_2, PF_35_3, PF_40_0, PF_40_1, PF_40_2, PF_44_0, PF_44_1, PF_44_2, PF_145_0, PF_145_1, PF_179_0, PF_179_1, PF_179_2, PF_179_3, PF_179_8, PF_179_9, PF_179_10]
    refine ⟨by omega, fun q => by omega, fun q => ⟨by omega, by omega, by omega, fun q2 => ⟨by omega, fun z z0 z1 z2 => go 0 z (by omega) z0 z1 z2 (fun y y0 => by omega)⟩, fun q2 => ⟨by omega, by omega, by omega, by omega, by omega, by omega, fun z z0 z1 z2 => ⟨by omega, fun y y0 y1 y2 => go z y (by omega) y0 y1 y2 (fun x x0 => by omega)⟩⟩⟩⟩
set_option maxRecDepth 100000 in
set_option maxHeartbeats 800000 in
theorem mX7_leads : MOK yX7_leads cX7_leads 10 (some .boolean) rmX7_leads ciX7_leads := by
  refine mok_of (ini := false) (by decide +kernel) (by decide) rfl rfl ?_
  intro σ As K hrc hl h
  obtain ⟨N, P, I, L⟩ := σ
  have h9 := pR_iff.mp h
  clear h
  obtain ⟨s, r, e9, h⟩ := h9
  subst e9
  have h9 := pI_iff.mp h
  clear h
  obtain ⟨i, r, e9, h⟩ := h9
  subst e9
  have h9 := pI_iff.mp h
  clear h
  obtain ⟨f, r, e9, h⟩ := h9
  subst e9
  have h9 := pI_iff.mp h
  clear h
  obtain ⟨l, r, e9, h⟩ := h9
  subst e9
  have h9 := pN_iff.mp h
  clear h
  obtain ⟨e9, h⟩ := h9
  subst e9
  dsimp only at h
  obtain ⟨rfl, rfl, i0, i1, f0, f1, l0, l1, ht, hc, hl, hR, hR2, hh, h⟩ := h
  have ht2 := ht.2.1
  have hne : ∀ b k, b ≠ 143 → filI I 143 0 61 b k = I b k := fun b k hb => if_neg (fun z => hb z.1)
  have hz : ∀ z, 1 ≤ z → z ≤ 60 → filI I 143 0 61 143 z = 0 := fun z z0 z1 => if_pos ⟨rfl, by omega, by omega⟩
  have hs : rsame I (filI I 143 0 61) := ⟨fun b k hb => hne b k (by omega), fun k => hne _ k (by omega)⟩
  have hp := PF_rest (i := 3 * i + l) (by omega) (by omega)
  have hp2 := PF_rest (i := 3 * (i - 1) + f) (by omega) (by omega)
  have e31 : filI I 143 0 61 3 1 = I 3 1 := hne _ _ (by omega)
  refine ⟨Nat.le_of_ble_eq_true rfl, Ok.seg mdX7_leads [40] 40 ?_⟩
  simp only [wp_nil, wp_cons, ↓stp, ↓lI, ↓lL, ↓lR, ↓lIn_0, ↓lIn_1, ↓lIn_2, ↓lIn_3, ↓lLn_0, ↓lLn_1, ↓lLn_2, ↓lLn_3, ↓lRn_0, ↓lRn_1, ↓lRn_2, ↓lRn_3, ↓pI, ↓pL, ↓pR, ↓pA, ↓pN, ↓pV, ↓fp, ↓tsw, ↓oS, ↓spMax, ↓spMin, ↓spAbs, ↓spObj, RI, RLg, b2i_lo, b2i_hi, getL, setL, ltL, killL, isLong, inl, cnd, br, tgt, rcv, rpl, mputI, mputL, mputP, fv, fr, mcat, mcs, entL, entA, rfit, nf_0, nf_1, nf_2, nf_3, nf2_0, nf2_1, b2i_0, b2i_1, RI_b2i, b2i_fit, List.append, List.length, List.replicate, List.cons_append, List.nil_append, List.length_cons, List.length_nil, List.replicate_succ, List.replicate_zero, List.tail_cons, reduceIte, if_true, if_false, ite_true, ite_false, Bool.false_eq_true, true_and, and_true, and_self, false_and, and_false, or_self, or_true, true_or, or_false, false_or, not_true_eq_false, not_false_eq_true, ne_eq, forall_const, implies_true, imp_self, true_implies, false_implies, Nat.reduceAdd, Nat.reduceSub, Nat.reduceMul, Nat.reduceDiv, Nat.reduceMod, Nat.reduceEqDiff, Nat.reduceLT, Nat.reduceLeDiff, Nat.reduceBEq, Nat.add_zero, Nat.zero_add, Nat.le_refl, Nat.not_lt_zero, Nat.succ_eq_add_one, Int.reduceNatCast, Int.cast_ofNat_Int, Int.reduceSub, Int.reduceMul, Int.reduceNeg, Int.reduceLE, Int.reduceLT, Int.reduceToNat, Int.reduceEq, Int.reduceNe, Int.reduceAdd, Option.some.injEq, kX7_leads, rmX7_leads, ↓ofX7_12, ↓ofX7_147, ↓ofX7_21, ↓ofX7_35, ↓ofX7_41, ↓ofX7_50, ↓ofX7_53, ↓ofX7_76, ↓ofX7_87, ↓ocX7_leads_59, ↓spJ7_fill_53178, ↓ocX7_leads_114, ↓ocX7_leads_140, ↓ocX7_leads_143, ↓spX3_timeAt, hp, hp2, G_1, G_2, G_3, G_4, G_35, G_36, G_37, G_38, G_39, G_40, G_41, G_42, G_43, G_44, G_45, G_46, G_47, G_48, G_49, G_140, G_141, G_142, G_143, G_144, G_145, G_146, G_178, G_179, G_180, G_181, G_182, G_183, G_184, G_189, G_198, G_207, PF_1_0, PF_1_1, PF_1_2, PF_1_3, PF_2_0, PF_2_1, PF_2_3, PF_2_4, PF_2_5, PF_2_6, PF_2_7, PF_2_8, PF_2_9, PF_2_10, PF_2_11, PF_3_0, PF_35_0, PF_35_1, PF_35_2, PF_35_3, PF_40_0, PF_40_1, PF_40_2, PF_44_0, PF_44_1, PF_44_2, PF_145_0, PF_145_1, PF_179_0, PF_179_1, PF_179_2, PF_179_3, PF_179_8, PF_179_9, PF_179_10]
  refine ⟨by omega, by omega, by omega, by omega, ?_⟩
  have e : ∀ b k, b ≠ 143 → filI I 143 0 61 b k = I b k := hne
  have h2e : ∀ z, (∃ p, 1 ≤ p ∧ p ≤ 60 ∧ leaP (filI I 143 0 61) i f l p z) ↔ ∃ p, 1 ≤ p ∧ p ≤ 60 ∧ leaP I i f l p z := fun z => by
    unfold leaP
    constructor
    · rintro ⟨p', a, b, c⟩
      rw [e 142 _ (by omega), e 36 _ (by omega), e 37 _ (by omega), e 48 _ (by omega), e (5 + i) _ (by omega), e (50 + (3 * i + l)) _ (by omega), e (50 + (3 * (i - 1) + f)) _ (by omega)] at c
      exact ⟨p', a, b, c⟩
    · rintro ⟨p', a, b, c⟩
      refine ⟨p', a, b, ?_⟩
      rw [e 142 _ (by omega), e 36 _ (by omega), e 37 _ (by omega), e 48 _ (by omega), e (5 + i) _ (by omega), e (50 + (3 * i + l)) _ (by omega), e (50 + (3 * (i - 1) + f)) _ (by omega)]
      exact c
  have h4e : ∀ (M : Int → Int) (p : Int), 1 ≤ p → p ≤ 60 → (M p = 0 ∨ M p = 1 ∨ M p = filI I 143 0 61 143 p) → M p = 0 ∨ M p = 1 := fun M p p0 p1 q => by
    rcases q with q | q | q
    · exact .inl q
    · exact .inr q
    · rw [q]; exact .inl (hz p p0 p1)
  refine lpX7_d2 i0 (by rw [e31]; exact i1) f0 f1 l0 l1 (tOK_cg hs.1 ht) (carOK_cg hs.1 hc) (fun i l a b c d => by rw [e31] at b; rw [hs.2]; exact hl i l a b c d) (fun p a b => by rw [hne _ _ (by omega)]; exact hR p a b) (fun p a b => by rw [hne _ _ (by omega)]; exact hR2 p a b) (fun p a b => by rw [hne _ _ (by omega)]; exact hh p a b) (fun I' r h1 h2 h4 h5 => ⟨h5.1, h I' r (fun b k hb => (h1 b k hb).trans (hne b k hb)) (fun p p0 p1 => (h2 p p0 p1).trans (h2e p)) (fun p p0 p1 => h4e _ p p0 p1 (h4 p)) h5⟩) 60 1 _ 0 _ _ (by omega) (by omega) (fun _ _ _ => rfl) (fun z z0 z1 => ?_) (fun p => .inr (.inr rfl)) ⟨.inl rfl, ⟨fun q => by omega, fun ⟨z, z0, z1, z2⟩ => by rw [hz z z0 z1] at z2; omega⟩⟩
  rw [hz z z0 z1]
  exact ⟨fun q => by omega, fun ⟨p', a, b, c⟩ => by omega⟩
