/-! LapBoard$Ways.fillRest: the queue -/
theorem pul_mono {T Q p : Int} (hQ : 1 ≤ Q) : pul T Q p ≤ pul T Q (p + 1) := by
  unfold pul
  repeat' split
  all_goals omega
theorem rcm_mono {T Q : Int → Int} {p : Int} (h : gOK T Q) : ∀ g : Nat, g ≤ 6 → rcm T Q p g ≤ rcm T Q (p + 1) g
  | 0, _ => by unfold rcm; omega
  | g + 1, hg => by
    have ih := rcm_mono (p := p) h g (by omega)
    have := pul_mono (T := T (g + 1)) (p := p) (h (g + 1) (by omega) (by omega)).2.2.1
    unfold rcm
    split <;> split <;> omega
theorem rch_mono {T Q : Int → Int} {p : Int} (h : gOK T Q) : rch T Q p ≤ rch T Q (p + 1) := rcm_mono h 6 (by omega)
def qI (Q o : Int → Int) (hd tl nx : Int) : Prop := 0 ≤ hd ∧ hd ≤ tl ∧ tl ≤ nx - 1 ∧ (∀ k, hd ≤ k → k < tl → 1 ≤ Q k ∧ Q k < nx) ∧ (∀ k k', hd ≤ k → k < k' → k' < tl → Q k < Q k' ∧ o (Q k) < o (Q k'))
def qC (Q o : Int → Int) (lo hd tl nx : Int) : Prop := ∀ j, 1 ≤ j → lo ≤ j → j < nx → ∃ k, hd ≤ k ∧ k < tl ∧ j ≤ Q k ∧ o (Q k) ≤ o j
def oR (o : Int → Int) : Prop := ∀ q, 1 ≤ q → q ≤ 60 → 0 ≤ o q ∧ o q ≤ 536870912
def spX7_fillRest (As : List MV) (σ : MS) (K : Option MV → MS → Prop) : Prop := pR As fun s r => pR r fun a r => pI r fun bk r => pN r (s = 2 ∧ σ.2.1 = PF ∧ 50 ≤ a ∧ a ≤ 139 ∧ 1 ≤ bk ∧ bk ≤ 30 ∧ carOK σ.2.2.1 ∧ oR (σ.2.2.1 140) ∧
  ∀ I' : Int → Int → Int, (∀ b k, b ≠ 141 → ¬ (b = a ∧ 1 ≤ k ∧ k ≤ 60) → I' b k = σ.2.2.1 b k) → (∀ p, 1 ≤ p → p ≤ 60 → (∀ q, 1 ≤ q → p - bk ≤ q → q ≤ σ.2.2.1 37 p → I' a p ≤ σ.2.2.1 140 q) ∧ ∃ q, 1 ≤ q ∧ p - bk ≤ q ∧ q ≤ σ.2.2.1 37 p ∧ I' a p = σ.2.2.1 140 q) → K none (σ.1, σ.2.1, I', σ.2.2.2))
def ciX7_fillRest : CI := (3, 7, 0, 0, spX7_fillRest)
def kX7_fillRest (pc : Nat) : List ME := match pc with
  | 0 => [(.iconst 0, 1, []), (.istore_n 3, 1, []), (.iconst 0, 1, []), (.istore 4, 2, []), (.iconst 1, 1, []), (.istore 5, 2, []), (.iconst 1, 1, []), (.istore 6, 2, [])]
  | 11 => [(.iload 6, 2, []), (.bipush 60, 2, []), (.if_icmp .gt 136, 3, [151])]
  | 18 => [(.iload 5, 2, []), (.aload_n 0, 1, []), (.getfield 21, 3, []), (.getfield 147, 3, []), (.iload 6, 2, []), (.iaload, 1, []), (.if_icmp .gt 64, 3, [94]), (.iload 5, 2, []), (.bipush 60, 2, []), (.if_icmp .gt 57, 3, [94])]
  | 40 => [(.iload 4, 2, []), (.iload_n 3, 1, []), (.if_icmp .le 33, 3, [76]), (.aload_n 0, 1, []), (.getfield 44, 3, []), (.aload_n 0, 1, []), (.getfield 47, 3, []), (.iload 4, 2, []), (.iconst 1, 1, []), (.isub, 1, []), (.iaload, 1, []), (.iaload, 1, []), (.aload_n 0, 1, []), (.getfield 44, 3, []), (.iload 5, 2, []), (.iaload, 1, []), (.if_icmp .lt 9, 3, [76]), (.iinc 4 (-1), 3, []), (.goto (-33), 3, [40])]
  | 76 => [(.aload_n 0, 1, []), (.getfield 47, 3, []), (.iload 4, 2, []), (.iload 5, 2, []), (.iastore, 1, []), (.iinc 4 1, 3, []), (.iinc 5 1, 3, []), (.goto (-73), 3, [18])]
  | 94 => [(.iload_n 3, 1, []), (.iload 4, 2, []), (.if_icmp .ge 22, 3, [119]), (.aload_n 0, 1, []), (.getfield 47, 3, []), (.iload_n 3, 1, []), (.iaload, 1, []), (.iload 6, 2, []), (.iload_n 2, 1, []), (.isub, 1, []), (.if_icmp .ge 9, 3, [119]), (.iinc 3 1, 3, []), (.goto (-22), 3, [94])]
  | 119 => [(.aload_n 1, 1, []), (.iload 6, 2, []), (.iload_n 3, 1, []), (.iload 4, 2, []), (.if_icmp .ge 17, 3, [142]), (.aload_n 0, 1, []), (.getfield 44, 3, []), (.aload_n 0, 1, []), (.getfield 47, 3, []), (.iload_n 3, 1, []), (.iaload, 1, []), (.iaload, 1, []), (.goto 5, 3, [144])]
  | 142 => [(.ldc 139, 2, [])]
  | 144 => [(.iastore, 1, []), (.iinc 6 1, 3, []), (.goto (-137), 3, [11])]
  | 151 => [(.return_, 1, [])]
  | _ => []
theorem qX7_fillRest : ∀ pc, chk cX7_fillRest pc (kX7_fillRest pc) = true := by
  intro pc
  unfold kX7_fillRest
  split <;> first | decide +kernel | exact chk_nil
abbrev rmX7_fillRest : Room := { frames := 0, cells := 0, slots := 0, locals := 0 }
def aX7_fillRest (_ : Nat) : Option CI := none
theorem aokX7_fillRest : ∀ x ci, aX7_fillRest x = some ci → CalOK RX7 rmX7_fillRest x ci := fun _ _ h => by cases h
theorem mdX7_fillRest : MD RX7 cX7_fillRest rmX7_fillRest kX7_fillRest fX7 aX7_fillRest zX7 uX7 := ⟨fokX7, zokX7, uokX7, aokX7_fillRest, qX7_fillRest⟩
set_option maxHeartbeats 1600000 in
set_option maxRecDepth 100000 in
theorem lpX7_q1 {post : Option MV → MS → Prop} {U : Pt → Prop} {N : Nat} {I L : Int → Int → Int} {a bk hd nx p lo : Int} (hn : 1 ≤ nx) (hn2 : nx ≤ 60) (ho : oR (I 140))
    (h : ∀ (tl : Int), qI (upI I 141 tl nx 141) (I 140) hd (tl + 1) (nx + 1) → qC (upI I 141 tl nx 141) (I 140) lo hd (tl + 1) (nx + 1) → Ok RX7 cX7_fillRest 7 rmX7_fillRest false none post U (18, [some (.inr (.inr (some 2))), some (.inr (.inr (some a))), some (.inl bk), some (.inl hd), some (.inl (tl + 1)), some (.inl (nx + 1)), some (.inl p)], [], (N, PF, upI I 141 tl nx, L), 0, 0)) :
    ∀ (m : Nat) (tl : Int), hd + m = tl → qI (I 141) (I 140) hd tl nx → (∀ j, 1 ≤ j → lo ≤ j → j < nx → I 140 nx ≤ I 140 j ∨ ∃ k, hd ≤ k ∧ k < tl ∧ j ≤ I 141 k ∧ I 140 (I 141 k) ≤ I 140 j) →
    Ok RX7 cX7_fillRest 7 rmX7_fillRest false none post U (40, [some (.inr (.inr (some 2))), some (.inr (.inr (some a))), some (.inl bk), some (.inl hd), some (.inl tl), some (.inl nx), some (.inl p)], [], (N, PF, I, L), 0, 0)
  | m, tl, hm, h1, h2 => by
    have push : (hd < tl → I 140 (I 141 (tl - 1)) < I 140 nx) → Ok RX7 cX7_fillRest 7 rmX7_fillRest false none post U (18, [some (.inr (.inr (some 2))), some (.inr (.inr (some a))), some (.inl bk), some (.inl hd), some (.inl (tl + 1)), some (.inl (nx + 1)), some (.inl p)], [], (N, PF, upI I 141 tl nx, L), 0, 0) := fun hq => by
      obtain ⟨a1, a2, a3, a4, a5⟩ := h1
      have e : ∀ k, k ≠ tl → upI I 141 tl nx 141 k = I 141 k := fun k hk => upI_nj hk
      have e1 : upI I 141 tl nx 141 tl = nx := upI_same
      have last : ∀ k, hd ≤ k → k < tl → I 140 (I 141 k) < I 140 nx := fun k k0 k1 => by
        by_cases q : k = tl - 1
        · rw [q]; exact hq (by omega)
        · have := (a5 k (tl - 1) k0 (by omega) (by omega)).2
          have := hq (by omega)
          omega
      refine h tl ⟨a1, by omega, by omega, fun k k0 k1 => ?_, fun k k' k0 k1 k2 => ?_⟩ (fun j j0 j1 j2 => ?_)
      · by_cases q : k = tl
        · rw [q, e1]; omega
        · rw [e k q]; have := a4 k k0 (by omega); omega
      · by_cases q : k' = tl
        · rw [q, e1, e k (by omega)]
          exact ⟨by have := a4 k k0 (by omega); omega, last k k0 (by omega)⟩
        · rw [e k (by omega), e k' q]; exact a5 k k' k0 k1 (by omega)
      · by_cases q : j = nx
        · exact ⟨tl, by omega, by omega, by rw [e1]; omega, by rw [e1, q]; omega⟩
        · rcases h2 j j0 j1 (by omega) with c | ⟨k, k0, k1, k2, k3⟩
          · exact ⟨tl, by omega, by omega, by rw [e1]; omega, by rw [e1]; exact c⟩
          · exact ⟨k, k0, by omega, by rw [e k (by omega)]; exact k2, by rw [e k (by omega)]; exact k3⟩
    have ho1 := ho nx hn hn2
    rcases m with _ | m
    · refine Ok.seg mdX7_fillRest [11, 18, 40, 94] 30 ?_
      have h1' := h1
      obtain ⟨a1, a2, a3, a4, a5⟩ := h1'
      simp only [wp_nil, wp_cons, ↓stp, ↓lI, ↓lL, ↓lR, ↓lIn_0, ↓lIn_1, ↓lIn_2, ↓lIn_3, ↓lLn_0, ↓lLn_1, ↓lLn_2, ↓lLn_3, ↓lRn_0, ↓lRn_1, ↓lRn_2, ↓lRn_3, ↓pI, ↓pL, ↓pR, ↓pA, ↓pN, ↓pV, ↓fp, ↓tsw, ↓oS, ↓spMax, ↓spMin, ↓spAbs, ↓spObj, RI, RLg, b2i_lo, b2i_hi, getL, setL, ltL, killL, isLong, inl, cnd, br, tgt, rcv, rpl, mputI, mputL, mputP, fv, fr, mcat, mcs, entL, entA, rfit, nf_0, nf_1, nf_2, nf_3, nf2_0, nf2_1, b2i_0, b2i_1, RI_b2i, b2i_fit, List.append, List.length, List.replicate, List.cons_append, List.nil_append, List.length_cons, List.length_nil, List.replicate_succ, List.replicate_zero, List.tail_cons, reduceIte, if_true, if_false, ite_true, ite_false, Bool.false_eq_true, true_and, and_true, and_self, false_and, and_false, or_self, or_true, true_or, or_false, false_or, not_true_eq_false, not_false_eq_true, ne_eq, forall_const, implies_true, imp_self, true_implies, false_implies, Nat.reduceAdd, Nat.reduceSub, Nat.reduceMul, Nat.reduceDiv, Nat.reduceMod, Nat.reduceEqDiff, Nat.reduceLT, Nat.reduceLeDiff, Nat.reduceBEq, Nat.add_zero, Nat.zero_add, Nat.le_refl, Nat.not_lt_zero, Nat.succ_eq_add_one, Int.reduceNatCast, Int.cast_ofNat_Int, Int.reduceSub, Int.reduceMul, Int.reduceNeg, Int.reduceLE, Int.reduceLT, Int.reduceToNat, Int.reduceEq, Int.reduceNe, Int.reduceAdd, Option.some.injEq, kX7_fillRest, rmX7_fillRest, ↓ofX7_147, ↓ofX7_21, ↓ofX7_44, ↓ofX7_47, ↓ozX7_139, G_1, G_2, G_3, G_4, G_35, G_36, G_37, G_38, G_39, G_40, G_41, G_42, G_43, G_44, G_45, G_46, G_47, G_48, G_49, G_140, G_141, G_142, G_143, G_144, G_145, G_146, G_178, G_179, G_180, G_181, G_182, G_183, G_184, G_189, G_198, G_207, PF_1_0, PF_1_1, PF_1_2, PF_1_3, PF_2_0, PF_2_1, PF_2_3, PF_2_4, PF_2_5, PF_2_6, PF_2_7, PF_2_8, PF_2_9, PF_2_10, PF_2_11, PF_3_0, PF_35_0, PF_35_1, PF_35_2, PF_35_3, PF_40_0, PF_40_1, PF_40_2, PF_44_0, PF_44_1, PF_44_2, PF_145_0, PF_145_1, PF_179_0, PF_179_1, PF_179_2, PF_179_3, PF_179_8, PF_179_9, PF_179_10]
      refine ⟨by omega, by omega, fun q => ⟨by omega, by omega, push (by omega)⟩, fun q => by omega⟩
    · have ih := lpX7_q1 (U := U) hn hn2 ho h m (tl - 1) (by omega)
      have h1' := h1
      obtain ⟨a1, a2, a3, a4, a5⟩ := h1'
      have b4 := a4 (tl - 1) (by omega) (by omega)
      have ho2 := ho (I 141 (tl - 1)) b4.1 (by omega)
      refine Ok.seg mdX7_fillRest [11, 18, 40, 94] 30 ?_
      simp only [wp_nil, wp_cons, ↓stp, ↓lI, ↓lL, ↓lR, ↓lIn_0, ↓lIn_1, ↓lIn_2, ↓lIn_3, ↓lLn_0, ↓lLn_1, ↓lLn_2, ↓lLn_3, ↓lRn_0, ↓lRn_1, ↓lRn_2, ↓lRn_3, ↓pI, ↓pL, ↓pR, ↓pA, ↓pN, ↓pV, ↓fp, ↓tsw, ↓oS, ↓spMax, ↓spMin, ↓spAbs, ↓spObj, RI, RLg, b2i_lo, b2i_hi, getL, setL, ltL, killL, isLong, inl, cnd, br, tgt, rcv, rpl, mputI, mputL, mputP, fv, fr, mcat, mcs, entL, entA, rfit, nf_0, nf_1, nf_2, nf_3, nf2_0, nf2_1, b2i_0, b2i_1, RI_b2i, b2i_fit, List.append, List.length, List.replicate, List.cons_append, List.nil_append, List.length_cons, List.length_nil, List.replicate_succ, List.replicate_zero, List.tail_cons, reduceIte, if_true, if_false, ite_true, ite_false, Bool.false_eq_true, true_and, and_true, and_self, false_and, and_false, or_self, or_true, true_or, or_false, false_or, not_true_eq_false, not_false_eq_true, ne_eq, forall_const, implies_true, imp_self, true_implies, false_implies, Nat.reduceAdd, Nat.reduceSub, Nat.reduceMul, Nat.reduceDiv, Nat.reduceMod, Nat.reduceEqDiff, Nat.reduceLT, Nat.reduceLeDiff, Nat.reduceBEq, Nat.add_zero, Nat.zero_add, Nat.le_refl, Nat.not_lt_zero, Nat.succ_eq_add_one, Int.reduceNatCast, Int.cast_ofNat_Int, Int.reduceSub, Int.reduceMul, Int.reduceNeg, Int.reduceLE, Int.reduceLT, Int.reduceToNat, Int.reduceEq, Int.reduceNe, Int.reduceAdd, Option.some.injEq, kX7_fillRest, rmX7_fillRest, ↓ofX7_147, ↓ofX7_21, ↓ofX7_44, ↓ofX7_47, ↓ozX7_139, G_1, G_2, G_3, G_4, G_35, G_36, G_37, G_38, G_39, G_40, G_41, G_42, G_43, G_44, G_45, G_46, G_47, G_48, G_49, G_140, G_141, G_142, G_143, G_144, G_145, G_146, G_178, G_179, G_180, G_181, G_182, G_183, G_184, G_189, G_198, G_207, PF_1_0, PF_1_1, PF_1_2, PF_1_3, PF_2_0, PF_2_1, PF_2_3, PF_2_4, PF_2_5, PF_2_6, PF_2_7, PF_2_8, PF_2_9, PF_2_10, PF_2_11, PF_3_0, PF_35_0, PF_35_1, PF_35_2, PF_35_3, PF_40_0, PF_40_1, PF_40_2, PF_44_0, PF_44_1, PF_44_2, PF_145_0, PF_145_1, PF_179_0, PF_179_1, PF_179_2, PF_179_3, PF_179_8, PF_179_9, PF_179_10]
      refine ⟨by omega, by omega, fun q => by omega, fun q => ⟨by omega, by omega, by omega, by omega, by omega, by omega, by omega, by omega, fun q2 => ⟨by omega, by omega, push (fun _ => q2)⟩, fun q2 => ?_⟩⟩
      rw [show tl + -1 = tl - 1 by omega]
      refine ih ⟨a1, by omega, by omega, fun k k0 k1 => a4 k k0 (by omega), fun k k' k0 k1 k2 => a5 k k' k0 k1 (by omega)⟩ (fun j j0 j1 j2 => ?_)
      rcases h2 j j0 j1 j2 with c | ⟨k, k0, k1, k2, k3⟩
      · exact .inl c
      · by_cases e : k = tl - 1
        · subst e; exact .inl (by omega)
        · exact .inr ⟨k, k0, by omega, k2, k3⟩
set_option maxHeartbeats 1600000 in
set_option maxRecDepth 100000 in
theorem lpX7_q2 {post : Option MV → MS → Prop} {U : Pt → Prop} {N : Nat} {I L : Int → Int → Int} {a bk hd p lo : Int} (hc : carOK I) (p1 : 1 ≤ p) (p2 : p ≤ 60) (ho : oR (I 140))
    (h : ∀ (I1 : Int → Int → Int) (tl : Int), (∀ b k, b ≠ 141 → I1 b k = I b k) → qI (I1 141) (I 140) hd tl (I 37 p + 1) → qC (I1 141) (I 140) lo hd tl (I 37 p + 1) → Ok RX7 cX7_fillRest 7 rmX7_fillRest false none post U (94, [some (.inr (.inr (some 2))), some (.inr (.inr (some a))), some (.inl bk), some (.inl hd), some (.inl tl), some (.inl (I 37 p + 1)), some (.inl p)], [], (N, PF, I1, L), 0, 0)) :
    ∀ (m : Nat) (nx tl : Int) (I1 : Int → Int → Int), nx + m = I 37 p + 1 → 1 ≤ nx → (∀ b k, b ≠ 141 → I1 b k = I b k) → qI (I1 141) (I 140) hd tl nx → qC (I1 141) (I 140) lo hd tl nx →
    Ok RX7 cX7_fillRest 7 rmX7_fillRest false none post U (18, [some (.inr (.inr (some 2))), some (.inr (.inr (some a))), some (.inl bk), some (.inl hd), some (.inl tl), some (.inl nx), some (.inl p)], [], (N, PF, I1, L), 0, 0)
  | 0, nx, tl, I1, hm, hn, h1, h2, h3 => by
    have e37 : I1 37 = I 37 := funext fun k => h1 _ k (by omega)
    have hr := rch_rng hc.1.1 p2
    rw [← hc.1.2 p p1 p2] at hr
    refine Ok.seg mdX7_fillRest [11, 18, 40, 94] 20 ?_
    simp only [wp_nil, wp_cons, ↓stp, ↓lI, ↓lL, ↓lR, ↓lIn_0, ↓lIn_1, ↓lIn_2, ↓lIn_3, ↓lLn_0, ↓lLn_1, ↓lLn_2, ↓lLn_3, ↓lRn_0, ↓lRn_1, ↓lRn_2, ↓lRn_3, ↓pI, ↓pL, ↓pR, ↓pA, ↓pN, ↓pV, ↓fp, ↓tsw, ↓oS, ↓spMax, ↓spMin, ↓spAbs, ↓spObj, RI, RLg, b2i_lo, b2i_hi, getL, setL, ltL, killL, isLong, inl, cnd, br, tgt, rcv, rpl, mputI, mputL, mputP, fv, fr, mcat, mcs, entL, entA, rfit, nf_0, nf_1, nf_2, nf_3, nf2_0, nf2_1, b2i_0, b2i_1, RI_b2i, b2i_fit, List.append, List.length, List.replicate, List.cons_append, List.nil_append, List.length_cons, List.length_nil, List.replicate_succ, List.replicate_zero, List.tail_cons, reduceIte, if_true, if_false, ite_true, ite_false, Bool.false_eq_true, true_and, and_true, and_self, false_and, and_false, or_self, or_true, true_or, or_false, false_or, not_true_eq_false, not_false_eq_true, ne_eq, forall_const, implies_true, imp_self, true_implies, false_implies, Nat.reduceAdd, Nat.reduceSub, Nat.reduceMul, Nat.reduceDiv, Nat.reduceMod, Nat.reduceEqDiff, Nat.reduceLT, Nat.reduceLeDiff, Nat.reduceBEq, Nat.add_zero, Nat.zero_add, Nat.le_refl, Nat.not_lt_zero, Nat.succ_eq_add_one, Int.reduceNatCast, Int.cast_ofNat_Int, Int.reduceSub, Int.reduceMul, Int.reduceNeg, Int.reduceLE, Int.reduceLT, Int.reduceToNat, Int.reduceEq, Int.reduceNe, Int.reduceAdd, Option.some.injEq, kX7_fillRest, rmX7_fillRest, ↓ofX7_147, ↓ofX7_21, ↓ofX7_44, ↓ofX7_47, ↓ozX7_139, e37, G_1, G_2, G_3, G_4, G_35, G_36, G_37, G_38, G_39, G_40, G_41, G_42, G_43, G_44, G_45, G_46, G_47, G_48, G_49, G_140, G_141, G_142, G_143, G_144, G_145, G_146, G_178, G_179, G_180, G_181, G_182, G_183, G_184, G_189, G_198, G_207, PF_1_0, PF_1_1, PF_1_2, PF_1_3, PF_2_0, PF_2_1, PF_2_3, PF_2_4, PF_2_5, PF_2_6, PF_2_7, PF_2_8, PF_2_9, PF_2_10, PF_2_11, PF_3_0, PF_35_0, PF_35_1, PF_35_2, PF_35_3, PF_40_0, PF_40_1, PF_40_2, PF_44_0, PF_44_1, PF_44_2, PF_145_0, PF_145_1, PF_179_0, PF_179_1, PF_179_2, PF_179_3, PF_179_8, PF_179_9, PF_179_10]
    refine ⟨by omega, by omega, by omega, by omega, fun q => ?_, fun q => by omega⟩
    have e : nx = I 37 p + 1 := by omega
    subst e
    exact h I1 tl h1 h2 h3
  | m + 1, nx, tl, I1, hm, hn, h1, h2, h3 => by
    have ih := lpX7_q2 (U := U) hc p1 p2 ho h m (nx + 1)
    have e37 : I1 37 = I 37 := funext fun k => h1 _ k (by omega)
    have e140 : I1 140 = I 140 := funext fun k => h1 _ k (by omega)
    have hr := rch_rng hc.1.1 p2
    rw [← hc.1.2 p p1 p2] at hr
    refine Ok.seg mdX7_fillRest [11, 18, 40, 94] 20 ?_
    simp only [wp_nil, wp_cons, ↓stp, ↓lI, ↓lL, ↓lR, ↓lIn_0, ↓lIn_1, ↓lIn_2, ↓lIn_3, ↓lLn_0, ↓lLn_1, ↓lLn_2, ↓lLn_3, ↓lRn_0, ↓lRn_1, ↓lRn_2, ↓lRn_3, ↓pI, ↓pL, ↓pR, ↓pA, ↓pN, ↓pV, ↓fp, ↓tsw, ↓oS, ↓spMax, ↓spMin, ↓spAbs, ↓spObj, RI, RLg, b2i_lo, b2i_hi, getL, setL, ltL, killL, isLong, inl, cnd, br, tgt, rcv, rpl, mputI, mputL, mputP, fv, fr, mcat, mcs, entL, entA, rfit, nf_0, nf_1, nf_2, nf_3, nf2_0, nf2_1, b2i_0, b2i_1, RI_b2i, b2i_fit, List.append, List.length, List.replicate, List.cons_append, List.nil_append, List.length_cons, List.length_nil, List.replicate_succ, List.replicate_zero, List.tail_cons, reduceIte, if_true, if_false, ite_true, ite_false, Bool.false_eq_true, true_and, and_true, and_self, false_and, and_false, or_self, or_true, true_or, or_false, false_or, not_true_eq_false, not_false_eq_true, ne_eq, forall_const, implies_true, imp_self, true_implies, false_implies, Nat.reduceAdd, Nat.reduceSub, Nat.reduceMul, Nat.reduceDiv, Nat.reduceMod, Nat.reduceEqDiff, Nat.reduceLT, Nat.reduceLeDiff, Nat.reduceBEq, Nat.add_zero, Nat.zero_add, Nat.le_refl, Nat.not_lt_zero, Nat.succ_eq_add_one, Int.reduceNatCast, Int.cast_ofNat_Int, Int.reduceSub, Int.reduceMul, Int.reduceNeg, Int.reduceLE, Int.reduceLT, Int.reduceToNat, Int.reduceEq, Int.reduceNe, Int.reduceAdd, Option.some.injEq, kX7_fillRest, rmX7_fillRest, ↓ofX7_147, ↓ofX7_21, ↓ofX7_44, ↓ofX7_47, ↓ozX7_139, e37, G_1, G_2, G_3, G_4, G_35, G_36, G_37, G_38, G_39, G_40, G_41, G_42, G_43, G_44, G_45, G_46, G_47, G_48, G_49, G_140, G_141, G_142, G_143, G_144, G_145, G_146, G_178, G_179, G_180, G_181, G_182, G_183, G_184, G_189, G_198, G_207, PF_1_0, PF_1_1, PF_1_2, PF_1_3, PF_2_0, PF_2_1, PF_2_3, PF_2_4, PF_2_5, PF_2_6, PF_2_7, PF_2_8, PF_2_9, PF_2_10, PF_2_11, PF_3_0, PF_35_0, PF_35_1, PF_35_2, PF_35_3, PF_40_0, PF_40_1, PF_40_2, PF_44_0, PF_44_1, PF_44_2, PF_145_0, PF_145_1, PF_179_0, PF_179_1, PF_179_2, PF_179_3, PF_179_8, PF_179_9, PF_179_10]
    refine ⟨by omega, by omega, by omega, by omega, fun q => by omega, fun q => ⟨by omega, fun q2 => by omega, fun q2 => ?_⟩⟩
    have hh := h2
    obtain ⟨a1, a2, a3, a4, a5⟩ := hh
    refine lpX7_q1 (lo := lo) hn (by omega) (by rw [e140]; exact ho) (fun tl' b1 b2 => ?_) (tl - hd).toNat tl (by omega) (by rw [e140]; exact h2) (fun j j0 j1 j2 => .inr (by rw [e140]; exact h3 j j0 j1 j2))
    rw [e140] at b1 b2
    exact ih _ _ (by omega) (by omega) (fun b k hb => by rw [upI_ne hb]; exact h1 b k hb) b1 b2
set_option maxHeartbeats 1600000 in
set_option maxRecDepth 100000 in
theorem lpX7_q3 {post : Option MV → MS → Prop} {U : Pt → Prop} {N : Nat} {I L : Int → Int → Int} {a bk tl p nx : Int} (ha : 50 ≤ a ∧ a ≤ 139) (hb : 1 ≤ bk ∧ bk ≤ 30) (p1 : 1 ≤ p) (p2 : p ≤ 60) (hn : p < nx) (hn2 : nx ≤ 61) (ho : oR (I 140))
    (h : ∀ (hd q : Int), qI (I 141) (I 140) hd tl nx → qC (I 141) (I 140) (p - bk) hd tl nx → 1 ≤ q → p - bk ≤ q → q < nx → (∀ j, 1 ≤ j → p - bk ≤ j → j < nx → I 140 q ≤ I 140 j) → Ok RX7 cX7_fillRest 7 rmX7_fillRest false none post U (11, [some (.inr (.inr (some 2))), some (.inr (.inr (some a))), some (.inl bk), some (.inl hd), some (.inl tl), some (.inl nx), some (.inl (p + 1))], [], (N, PF, upI I a p (I 140 q), L), 0, 0)) :
    ∀ (m : Nat) (hd : Int), hd + m = tl → qI (I 141) (I 140) hd tl nx → qC (I 141) (I 140) (p - bk) hd tl nx →
    Ok RX7 cX7_fillRest 7 rmX7_fillRest false none post U (94, [some (.inr (.inr (some 2))), some (.inr (.inr (some a))), some (.inl bk), some (.inl hd), some (.inl tl), some (.inl nx), some (.inl p)], [], (N, PF, I, L), 0, 0)
  | 0, hd, hm, h1, h2 => by
    obtain ⟨k, k0, k1, k2, k3⟩ := h2 p p1 (by omega) hn
    omega
  | m + 1, hd, hm, h1, h2 => by
    have ih := lpX7_q3 (U := U) ha hb p1 p2 hn hn2 ho h m (hd + 1) (by omega)
    have hh := h1
    obtain ⟨a1, a2, a3, a4, a5⟩ := hh
    have b4 := a4 hd (by omega) (by omega)
    have ho2 := ho (I 141 hd) b4.1 (by omega)
    have hg := G_row (a := a) (by omega) (by omega)
    refine Ok.seg mdX7_fillRest [11, 18, 40, 94] 30 ?_
    simp only [wp_nil, wp_cons, ↓stp, ↓lI, ↓lL, ↓lR, ↓lIn_0, ↓lIn_1, ↓lIn_2, ↓lIn_3, ↓lLn_0, ↓lLn_1, ↓lLn_2, ↓lLn_3, ↓lRn_0, ↓lRn_1, ↓lRn_2, ↓lRn_3, ↓pI, ↓pL, ↓pR, ↓pA, ↓pN, ↓pV, ↓fp, ↓tsw, ↓oS, ↓spMax, ↓spMin, ↓spAbs, ↓spObj, RI, RLg, b2i_lo, b2i_hi, getL, setL, ltL, killL, isLong, inl, cnd, br, tgt, rcv, rpl, mputI, mputL, mputP, fv, fr, mcat, mcs, entL, entA, rfit, nf_0, nf_1, nf_2, nf_3, nf2_0, nf2_1, b2i_0, b2i_1, RI_b2i, b2i_fit, List.append, List.length, List.replicate, List.cons_append, List.nil_append, List.length_cons, List.length_nil, List.replicate_succ, List.replicate_zero, List.tail_cons, reduceIte, if_true, if_false, ite_true, ite_false, Bool.false_eq_true, true_and, and_true, and_self, false_and, and_false, or_self, or_true, true_or, or_false, false_or, not_true_eq_false, not_false_eq_true, ne_eq, forall_const, implies_true, imp_self, true_implies, false_implies, Nat.reduceAdd, Nat.reduceSub, Nat.reduceMul, Nat.reduceDiv, Nat.reduceMod, Nat.reduceEqDiff, Nat.reduceLT, Nat.reduceLeDiff, Nat.reduceBEq, Nat.add_zero, Nat.zero_add, Nat.le_refl, Nat.not_lt_zero, Nat.succ_eq_add_one, Int.reduceNatCast, Int.cast_ofNat_Int, Int.reduceSub, Int.reduceMul, Int.reduceNeg, Int.reduceLE, Int.reduceLT, Int.reduceToNat, Int.reduceEq, Int.reduceNe, Int.reduceAdd, Option.some.injEq, kX7_fillRest, rmX7_fillRest, ↓ofX7_147, ↓ofX7_21, ↓ofX7_44, ↓ofX7_47, ↓ozX7_139, hg, G_1, G_2, G_3, G_4, G_35, G_36, G_37, G_38, G_39, G_40, G_41, G_42, G_43, G_44, G_45, G_46, G_47, G_48, G_49, G_140, G_141, G_142, G_143, G_144, G_145, G_146, G_178, G_179, G_180, G_181, G_182, G_183, G_184, G_189, G_198, G_207, PF_1_0, PF_1_1, PF_1_2, PF_1_3, PF_2_0, PF_2_1, PF_2_3, PF_2_4, PF_2_5, PF_2_6, PF_2_7, PF_2_8, PF_2_9, PF_2_10, PF_2_11, PF_3_0, PF_35_0, PF_35_1, PF_35_2, PF_35_3, PF_40_0, PF_40_1, PF_40_2, PF_44_0, PF_44_1, PF_44_2, PF_145_0, PF_145_1, PF_179_0, PF_179_1, PF_179_2, PF_179_3, PF_179_8, PF_179_9, PF_179_10]
    refine ⟨by omega, by omega, fun q => by omega, fun q => ⟨by omega, by omega, by omega, by omega, fun q2 => ⟨by omega, by omega, fun q => by omega, fun q => ⟨by omega, by omega, by omega, by omega, by omega, by omega, ?_⟩⟩, fun q2 => ?_⟩⟩
    · refine h hd (I 141 hd) h1 h2 b4.1 q2 b4.2 (fun j j0 j1 j2 => ?_)
      obtain ⟨k, k0, k1, k2, k3⟩ := h2 j j0 j1 j2
      by_cases e : k = hd
      · subst e; exact k3
      · have := (a5 hd k (by omega) (by omega) k1).2; omega
    · refine ih ⟨by omega, by omega, a3, fun k k0 k1 => a4 k (by omega) k1, fun k k' k0 k1 k2 => a5 k k' (by omega) k1 k2⟩ (fun j j0 j1 j2 => ?_)
      obtain ⟨k, k0, k1, k2, k3⟩ := h2 j j0 j1 j2
      by_cases e : k = hd
      · subst e; omega
      · exact ⟨k, by omega, k1, k2, k3⟩
def rstV (I : Int → Int → Int) (bk p v : Int) : Prop := (∀ q, 1 ≤ q → p - bk ≤ q → q ≤ I 37 p → v ≤ I 140 q) ∧ ∃ q, 1 ≤ q ∧ p - bk ≤ q ∧ q ≤ I 37 p ∧ v = I 140 q
set_option maxHeartbeats 1600000 in
set_option maxRecDepth 100000 in
theorem lpX7_q4 {post : Option MV → MS → Prop} {U : Pt → Prop} {N : Nat} {I L : Int → Int → Int} {a bk : Int} (ha : 50 ≤ a ∧ a ≤ 139) (hb : 1 ≤ bk ∧ bk ≤ 30) (hc : carOK I) (ho : oR (I 140))
    (h : ∀ I' : Int → Int → Int, (∀ b k, b ≠ 141 → ¬ (b = a ∧ 1 ≤ k ∧ k ≤ 60) → I' b k = I b k) → (∀ p, 1 ≤ p → p ≤ 60 → rstV I bk p (I' a p)) → post none (N, PF, I', L)) :
    ∀ (m : Nat) (p hd tl nx : Int) (I1 : Int → Int → Int), p + m = 61 → 1 ≤ p → (nx = if p = 1 then 1 else I 37 (p - 1) + 1) → (∀ b k, b ≠ 141 → ¬ (b = a ∧ 1 ≤ k ∧ k ≤ 60) → I1 b k = I b k) → (∀ j, 1 ≤ j → j < p → rstV I bk j (I1 a j)) → qI (I1 141) (I 140) hd tl nx → qC (I1 141) (I 140) (p - 1 - bk) hd tl nx →
    Ok RX7 cX7_fillRest 7 rmX7_fillRest false none post U (11, [some (.inr (.inr (some 2))), some (.inr (.inr (some a))), some (.inl bk), some (.inl hd), some (.inl tl), some (.inl nx), some (.inl p)], [], (N, PF, I1, L), 0, 0)
  | 0, p, hd, tl, nx, I1, hm, p1, hn, h1, h2, h3, h4 => by
    refine Ok.seg mdX7_fillRest [11, 18, 40, 94] 20 ?_
    simp only [wp_nil, wp_cons, ↓stp, ↓lI, ↓lL, ↓lR, ↓lIn_0, ↓lIn_1, ↓lIn_2, ↓lIn_3, ↓lLn_0, ↓lLn_1, ↓lLn_2, ↓lLn_3, ↓lRn_0, ↓lRn_1, ↓lRn_2, ↓lRn_3, ↓pI, ↓pL, ↓pR, ↓pA, ↓pN, ↓pV, ↓fp, ↓tsw, ↓oS, ↓spMax, ↓spMin, ↓spAbs, ↓spObj, RI, RLg, b2i_lo, b2i_hi, getL, setL, ltL, killL, isLong, inl, cnd, br, tgt, rcv, rpl, mputI, mputL, mputP, fv, fr, mcat, mcs, entL, entA, rfit, nf_0, nf_1, nf_2, nf_3, nf2_0, nf2_1, b2i_0, b2i_1, RI_b2i, b2i_fit, List.append, List.length, List.replicate, List.cons_append, List.nil_append, List.length_cons, List.length_nil, List.replicate_succ, List.replicate_zero, List.tail_cons, reduceIte, if_true, if_false, ite_true, ite_false, Bool.false_eq_true, true_and, and_true, and_self, false_and, and_false, or_self, or_true, true_or, or_false, false_or, not_true_eq_false, not_false_eq_true, ne_eq, forall_const, implies_true, imp_self, true_implies, false_implies, Nat.reduceAdd, Nat.reduceSub, Nat.reduceMul, Nat.reduceDiv, Nat.reduceMod, Nat.reduceEqDiff, Nat.reduceLT, Nat.reduceLeDiff, Nat.reduceBEq, Nat.add_zero, Nat.zero_add, Nat.le_refl, Nat.not_lt_zero, Nat.succ_eq_add_one, Int.reduceNatCast, Int.cast_ofNat_Int, Int.reduceSub, Int.reduceMul, Int.reduceNeg, Int.reduceLE, Int.reduceLT, Int.reduceToNat, Int.reduceEq, Int.reduceNe, Int.reduceAdd, Option.some.injEq, kX7_fillRest, rmX7_fillRest, ↓ofX7_147, ↓ofX7_21, ↓ofX7_44, ↓ofX7_47, ↓ozX7_139, G_1, G_2, G_3, G_4, G_35, G_36, G_37, G_38, G_39, G_40, G_41, G_42, G_43, G_44, G_45, G_46, G_47, G_48, G_49, G_140, G_141, G_142, G_143, G_144, G_145, G_146, G_178, G_179, G_180, G_181, G_182, G_183, G_184, G_189, G_198, G_207, PF_1_0, PF_1_1, PF_1_2, PF_1_3, PF_2_0, PF_2_1, PF_2_3, PF_2_4, PF_2_5, PF_2_6, PF_2_7, PF_2_8, PF_2_9, PF_2_10, PF_2_11, PF_3_0, PF_35_0, PF_35_1, PF_35_2, PF_35_3, PF_40_0, PF_40_1, PF_40_2, PF_44_0, PF_44_1, PF_44_2, PF_145_0, PF_145_1, PF_179_0, PF_179_1, PF_179_2, PF_179_3, PF_179_8, PF_179_9, PF_179_10]
    exact ⟨by omega, fun _ => h I1 h1 (fun j j0 j1 => h2 j j0 (by omega)), fun q => by omega⟩
  | m + 1, p, hd, tl, nx, I1, hm, p1, hn, h1, h2, h3, h4 => by
    have ih := lpX7_q4 (U := U) ha hb hc ho h m (p + 1)
    have e37 : I1 37 = I 37 := funext fun k => h1 _ k (by omega) (by omega)
    have e140 : I1 140 = I 140 := funext fun k => h1 _ k (by omega) (by omega)
    have hc2 : carOK I1 := carOK_cg (fun b j hb => h1 b j (by omega) (by omega)) hc
    have hr := rch_rng hc.1.1 (show p ≤ 60 by omega)
    rw [← hc.1.2 p p1 (by omega)] at hr
    have hnx : nx ≤ I 37 p + 1 ∧ 1 ≤ nx := by
      rw [hn]
      by_cases e : p = 1
      · rw [if_pos e]; omega
      · rw [if_neg e]
        have := rch_mono (p := p - 1) hc.1.1
        rw [show p - 1 + 1 = p by omega, ← hc.1.2 p p1 (by omega), ← hc.1.2 (p - 1) (by omega) (by omega)] at this
        have h2 := rch_rng hc.1.1 (show p - 1 ≤ 60 by omega)
        rw [← hc.1.2 (p - 1) (by omega) (by omega)] at h2
        omega
    refine Ok.seg mdX7_fillRest [11, 18, 40, 94] 20 ?_
    simp only [wp_nil, wp_cons, ↓stp, ↓lI, ↓lL, ↓lR, ↓lIn_0, ↓lIn_1, ↓lIn_2, ↓lIn_3, ↓lLn_0, ↓lLn_1, ↓lLn_2, ↓lLn_3, ↓lRn_0, ↓lRn_1, ↓lRn_2, ↓lRn_3, ↓pI, ↓pL, ↓pR, ↓pA, ↓pN, ↓pV, ↓fp, ↓tsw, ↓oS, ↓spMax, ↓spMin, ↓spAbs, ↓spObj, RI, RLg, b2i_lo, b2i_hi, getL, setL, ltL, killL, isLong, inl, cnd, br, tgt, rcv, rpl, mputI, mputL, mputP, fv, fr, mcat, mcs, entL, entA, rfit, nf_0, nf_1, nf_2, nf_3, nf2_0, nf2_1, b2i_0, b2i_1, RI_b2i, b2i_fit, List.append, List.length, List.replicate, List.cons_append, List.nil_append, List.length_cons, List.length_nil, List.replicate_succ, List.replicate_zero, List.tail_cons, reduceIte, if_true, if_false, ite_true, ite_false, Bool.false_eq_true, true_and, and_true, and_self, false_and, and_false, or_self, or_true, true_or, or_false, false_or, not_true_eq_false, not_false_eq_true, ne_eq, forall_const, implies_true, imp_self, true_implies, false_implies, Nat.reduceAdd, Nat.reduceSub, Nat.reduceMul, Nat.reduceDiv, Nat.reduceMod, Nat.reduceEqDiff, Nat.reduceLT, Nat.reduceLeDiff, Nat.reduceBEq, Nat.add_zero, Nat.zero_add, Nat.le_refl, Nat.not_lt_zero, Nat.succ_eq_add_one, Int.reduceNatCast, Int.cast_ofNat_Int, Int.reduceSub, Int.reduceMul, Int.reduceNeg, Int.reduceLE, Int.reduceLT, Int.reduceToNat, Int.reduceEq, Int.reduceNe, Int.reduceAdd, Option.some.injEq, kX7_fillRest, rmX7_fillRest, ↓ofX7_147, ↓ofX7_21, ↓ofX7_44, ↓ofX7_47, ↓ozX7_139, G_1, G_2, G_3, G_4, G_35, G_36, G_37, G_38, G_39, G_40, G_41, G_42, G_43, G_44, G_45, G_46, G_47, G_48, G_49, G_140, G_141, G_142, G_143, G_144, G_145, G_146, G_178, G_179, G_180, G_181, G_182, G_183, G_184, G_189, G_198, G_207, PF_1_0, PF_1_1, PF_1_2, PF_1_3, PF_2_0, PF_2_1, PF_2_3, PF_2_4, PF_2_5, PF_2_6, PF_2_7, PF_2_8, PF_2_9, PF_2_10, PF_2_11, PF_3_0, PF_35_0, PF_35_1, PF_35_2, PF_35_3, PF_40_0, PF_40_1, PF_40_2, PF_44_0, PF_44_1, PF_44_2, PF_145_0, PF_145_1, PF_179_0, PF_179_1, PF_179_2, PF_179_3, PF_179_8, PF_179_9, PF_179_10]
    refine ⟨by omega, fun q => by omega, fun q => ?_⟩
    rw [← e140] at h3 h4
    refine lpX7_q2 (I := I1) (lo := p - 1 - bk) hc2 p1 (by omega) (by rw [e140]; exact ho) (fun I2 tl2 c1 c2 c3 => ?_) (I 37 p + 1 - nx).toNat nx tl I1 (by rw [e37]; omega) hnx.2 (fun _ _ _ => rfl) h3 h4
    have hh := c2
    obtain ⟨a1, a2, a3, a4, a5⟩ := hh
    have e142 : I2 140 = I1 140 := funext fun k => c1 _ k (by omega)
    rw [e37] at c2 c3 ⊢
    rw [← e142] at c2 c3
    refine lpX7_q3 (I := I2) ha hb p1 (by omega) (by omega) (by omega) (by rw [e142, e140]; exact ho) (fun hd3 v d1 d2 d3 d4 d5 d6 => ?_) (tl2 - hd).toNat hd (by omega) c2 (fun j j0 j1 j2 => c3 j j0 (by omega) j2)
    rw [e142, e140] at d6 d1 d2 ⊢
    refine ih _ _ _ _ (by omega) (by omega) (by rw [if_neg (by omega), show p + 1 - 1 = p by omega]) (fun b k b1 b2 => ?_) (fun j j0 j1 => ?_) ?_ ?_
    · unfold upI
      rw [if_neg (by omega), c1 b k b1]; exact h1 b k b1 b2
    · by_cases e : j = p
      · subst e; rw [upI_same]
        exact ⟨fun q q0 q1 q2 => d6 q q0 q1 (by omega), v, d3, d4, by omega, rfl⟩
      · rw [upI_nj e, c1 a j (by omega)]; exact h2 j j0 (by omega)
    · rw [show upI I2 a p (I 140 v) 141 = I2 141 from funext fun k => upI_ne (by omega)]; exact d1
    · rw [show upI I2 a p (I 140 v) 141 = I2 141 from funext fun k => upI_ne (by omega), show p + 1 - 1 = p by omega]; exact d2
set_option maxRecDepth 100000 in
set_option maxHeartbeats 800000 in
theorem mX7_fillRest : MOK yX7_fillRest cX7_fillRest 7 none rmX7_fillRest ciX7_fillRest := by
  refine mok_of (ini := false) (by decide +kernel) (by decide) rfl rfl ?_
  intro σ As K hrc hl h
  obtain ⟨N, P, I, L⟩ := σ
  have h9 := pR_iff.mp h
  clear h
  obtain ⟨s, r, e9, h⟩ := h9
  subst e9
  have h9 := pR_iff.mp h
  clear h
  obtain ⟨a, r, e9, h⟩ := h9
  subst e9
  have h9 := pI_iff.mp h
  clear h
  obtain ⟨bk, r, e9, h⟩ := h9
  subst e9
  have h9 := pN_iff.mp h
  clear h
  obtain ⟨e9, h⟩ := h9
  subst e9
  dsimp only at h
  obtain ⟨rfl, rfl, a0, a1, b0, b1, hc, ho, h⟩ := h
  refine ⟨Nat.le_of_ble_eq_true rfl, Ok.seg mdX7_fillRest [11] 12 ?_⟩
  simp only [wp_nil, wp_cons, ↓stp, ↓lI, ↓lL, ↓lR, ↓lIn_0, ↓lIn_1, ↓lIn_2, ↓lIn_3, ↓lLn_0, ↓lLn_1, ↓lLn_2, ↓lLn_3, ↓lRn_0, ↓lRn_1, ↓lRn_2, ↓lRn_3, ↓pI, ↓pL, ↓pR, ↓pA, ↓pN, ↓pV, ↓fp, ↓tsw, ↓oS, ↓spMax, ↓spMin, ↓spAbs, ↓spObj, RI, RLg, b2i_lo, b2i_hi, getL, setL, ltL, killL, isLong, inl, cnd, br, tgt, rcv, rpl, mputI, mputL, mputP, fv, fr, mcat, mcs, entL, entA, rfit, nf_0, nf_1, nf_2, nf_3, nf2_0, nf2_1, b2i_0, b2i_1, RI_b2i, b2i_fit, List.append, List.length, List.replicate, List.cons_append, List.nil_append, List.length_cons, List.length_nil, List.replicate_succ, List.replicate_zero, List.tail_cons, reduceIte, if_true, if_false, ite_true, ite_false, Bool.false_eq_true, true_and, and_true, and_self, false_and, and_false, or_self, or_true, true_or, or_false, false_or, not_true_eq_false, not_false_eq_true, ne_eq, forall_const, implies_true, imp_self, true_implies, false_implies, Nat.reduceAdd, Nat.reduceSub, Nat.reduceMul, Nat.reduceDiv, Nat.reduceMod, Nat.reduceEqDiff, Nat.reduceLT, Nat.reduceLeDiff, Nat.reduceBEq, Nat.add_zero, Nat.zero_add, Nat.le_refl, Nat.not_lt_zero, Nat.succ_eq_add_one, Int.reduceNatCast, Int.cast_ofNat_Int, Int.reduceSub, Int.reduceMul, Int.reduceNeg, Int.reduceLE, Int.reduceLT, Int.reduceToNat, Int.reduceEq, Int.reduceNe, Int.reduceAdd, Option.some.injEq, kX7_fillRest, rmX7_fillRest, ↓ofX7_147, ↓ofX7_21, ↓ofX7_44, ↓ofX7_47, ↓ozX7_139, G_1, G_2, G_3, G_4, G_35, G_36, G_37, G_38, G_39, G_40, G_41, G_42, G_43, G_44, G_45, G_46, G_47, G_48, G_49, G_140, G_141, G_142, G_143, G_144, G_145, G_146, G_178, G_179, G_180, G_181, G_182, G_183, G_184, G_189, G_198, G_207, PF_1_0, PF_1_1, PF_1_2, PF_1_3, PF_2_0, PF_2_1, PF_2_3, PF_2_4, PF_2_5, PF_2_6, PF_2_7, PF_2_8, PF_2_9, PF_2_10, PF_2_11, PF_3_0, PF_35_0, PF_35_1, PF_35_2, PF_35_3, PF_40_0, PF_40_1, PF_40_2, PF_44_0, PF_44_1, PF_44_2, PF_145_0, PF_145_1, PF_179_0, PF_179_1, PF_179_2, PF_179_3, PF_179_8, PF_179_9, PF_179_10]
  exact lpX7_q4 ⟨a0, a1⟩ ⟨b0, b1⟩ hc ho (fun I' h1 h2 => ⟨trivial, h I' h1 h2⟩) 60 1 0 0 1 I (by omega) (by omega) rfl (fun _ _ _ _ => rfl) (fun j j0 j1 => by omega) ⟨by omega, by omega, by omega, fun k k0 k1 => by omega, fun k k' k0 k1 k2 => by omega⟩ (fun j j0 j1 j2 => by omega)
