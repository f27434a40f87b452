/-! LapBoard$Store: fill, gainsOf, leastSet -/
def mxv (x y : Int) : Int := if x ≤ y then y else x
theorem mxv_of {x y r : Int} (h1 : x ≤ r) (h2 : y ≤ r) (h3 : r = x ∨ r = y) : r = mxv x y := by unfold mxv; split <;> omega
/-- the most gains of the first i stations by u units -/
def gv (c g : Int → Int) : Nat → Int → Int
  | 0, _ => 0
  | i + 1, u => if c i ≤ u then mxv (gv c g i u) (gv c g i (u - c i) + g i) else gv c g i u
theorem gv_rng {c g : Int → Int} {n : Nat} {M : Int} (hg : ∀ i, 0 ≤ i → i < n → 0 ≤ g i ∧ g i ≤ M) : ∀ (i : Nat) (u : Int), i ≤ n → 0 ≤ gv c g i u ∧ gv c g i u ≤ i * M
  | 0, u, _ => by simp [gv]
  | i + 1, u, h => by
    have a := gv_rng (c := c) hg i u (by omega)
    have b := gv_rng (c := c) hg i (u - c i) (by omega)
    have d := hg i (by omega) (by omega)
    have e : ((i + 1 : Nat) : Int) * M = i * M + M := by rw [Int.natCast_add, Int.add_mul]; simp
    unfold gv mxv
    repeat' split
    all_goals omega
theorem gv_cg {c c' g g' : Int → Int} : ∀ (i : Nat) (u : Int), (∀ j, 0 ≤ j → j < i → c j = c' j) → (∀ j, 0 ≤ j → j < i → g j = g' j) → gv c g i u = gv c' g' i u
  | 0, u, _, _ => rfl
  | i + 1, u, h, h' => by
    unfold gv
    rw [h i (by omega) (by omega), h' i (by omega) (by omega), gv_cg i u (fun j a b => h j a (by omega)) (fun j a b => h' j a (by omega)), gv_cg i (u - c' i) (fun j a b => h j a (by omega)) (fun j a b => h' j a (by omega))]
def or1 (x i : Int) : Int := (Int32.ofInt x ||| Int32.ofInt (Int32.ofInt 1 <<< (Int32.ofInt i &&& 31)).toInt).toInt
/-- the least set, from station i - 1 back -/
def wst (c g : Int → Int) : Nat → Int → Int → Int
  | 0, x, _ => x
  | i + 1, x, u => if gv c g (i + 1) u = gv c g i u then wst c g i x u else wst c g i (or1 x i) (u - c i)
theorem wst_cg {c c' g g' : Int → Int} : ∀ (i : Nat) (x u : Int), (∀ j, 0 ≤ j → j < i → c j = c' j) → (∀ j, 0 ≤ j → j < i → g j = g' j) → wst c g i x u = wst c' g' i x u
  | 0, x, u, _, _ => rfl
  | i + 1, x, u, h, h' => by
    unfold wst
    rw [gv_cg (i + 1) u h h', gv_cg i u (fun j a b => h j a (by omega)) (fun j a b => h' j a (by omega)), h i (by omega) (by omega), wst_cg i x u (fun j a b => h j a (by omega)) (fun j a b => h' j a (by omega)), wst_cg i (or1 x i) (u - c' i) (fun j a b => h j a (by omega)) (fun j a b => h' j a (by omega))]
theorem or1_rng (x i : Int) : RI (or1 x i) := ⟨Int32.le_toInt _, Int32.toInt_lt _⟩
theorem wst_rng {c g : Int → Int} : ∀ (i : Nat) (x u : Int), RI x → RI (wst c g i x u)
  | 0, x, u, h => h
  | i + 1, x, u, h => by
    unfold wst
    split
    · exact wst_rng i x u h
    · exact wst_rng i _ _ (or1_rng _ _)
def stC (I : Int → Int → Int) (i : Int) : Int := (I (5 + i) 1).tdiv 10 + 1
def stG (I : Int → Int → Int) (i : Int) : Int := (I 43 i).tdiv 10
theorem td10 {x : Int} (h : 0 ≤ x) : 10 * x.tdiv 10 ≤ x ∧ x < 10 * x.tdiv 10 + 10 ∧ 0 ≤ x.tdiv 10 := by
  rw [Int.tdiv_eq_ediv_of_nonneg h]; omega
theorem stC_rng {I : Int → Int → Int} (ht : tOK I) {i : Int} (i0 : 0 ≤ i) (i1 : i < I 3 1) : 1 ≤ stC I i ∧ stC I i ≤ 10 := by
  have hs := ht.2.2 i i0 i1
  unfold stOK at hs
  have := td10 (x := I (5 + i) 1) (by omega)
  unfold stC
  omega
def tmR (I : Int → Int → Int) : Prop := ∀ i, 0 ≤ i → i < I 3 1 → 0 ≤ I 43 i ∧ I 43 i ≤ 101000
theorem stG_rng {I : Int → Int → Int} (h : tmR I) {i : Int} (i0 : 0 ≤ i) (i1 : i < I 3 1) : 0 ≤ stG I i ∧ stG I i ≤ 10100 := by
  have := h i i0 i1
  have := td10 (x := I 43 i) (by omega)
  unfold stG
  omega
/-- only the store changes -/
def frE (I J : Int → Int → Int) : Prop := ∀ b k, ¬ (148 ≤ b ∧ b ≤ 178) → J b k = I b k
def stoOK (I J : Int → Int → Int) (u : Int) : Prop := (∀ (i : Nat) w, (i : Int) ≤ I 3 1 → 0 ≤ w → w ≤ u → J (147 + i) w = gv (stC I) (stG I) i w) ∧ ∀ i, 0 ≤ i → i < I 3 1 → J 178 i = stC I i
def spX4_fill (As : List MV) (σ : MS) (K : Option MV → MS → Prop) : Prop := pR As fun s r => pR r fun t r => pR r fun w r => pI r fun u r => pN r (s = 145 ∧ t = 3 ∧ w = 40 ∧ σ.2.1 = PF ∧ 0 ≤ u ∧ u ≤ 60 ∧ tOK σ.2.2.1 ∧ tmR σ.2.2.1 ∧ (∀ k, 0 ≤ k → k ≤ 60 → σ.2.2.1 147 k = 0) ∧
  ∀ I' : Int → Int → Int, frE σ.2.2.1 I' → stoOK σ.2.2.1 I' u → K none (σ.1, σ.2.1, I', σ.2.2.2))
def ciX4_fill : CI := (4, 4, 0, 0, spX4_fill)
def kX4_fill (pc : Nat) : List ME := match pc with
  | 0 => [(.iconst 0, 1, []), (.istore 4, 2, [])]
  | 3 => [(.iload 4, 2, []), (.aload_n 1, 1, []), (.getfield 20, 3, []), (.if_icmp .ge 125, 3, [134]), (.aload_n 1, 1, []), (.getfield 26, 3, []), (.iload 4, 2, []), (.aaload, 1, []), (.getfield 30, 3, []), (.bipush 10, 2, []), (.idiv, 1, []), (.iconst 1, 1, []), (.iadd, 1, []), (.istore 5, 2, []), (.aload_n 2, 1, []), (.getfield 35, 3, []), (.iload 4, 2, []), (.iaload, 1, []), (.bipush 10, 2, []), (.idiv, 1, []), (.istore 6, 2, []), (.aload_n 0, 1, []), (.getfield 16, 3, []), (.iload 4, 2, []), (.iload 5, 2, []), (.iastore, 1, []), (.iconst 0, 1, []), (.istore 7, 2, [])]
  | 53 => [(.iload 7, 2, []), (.iload_n 3, 1, []), (.if_icmp .gt 72, 3, [128]), (.iload 7, 2, []), (.bipush 60, 2, []), (.if_icmp .gt 65, 3, [128]), (.iload 7, 2, []), (.iload 5, 2, []), (.if_icmp .lt 22, 3, [92]), (.aload_n 0, 1, []), (.getfield 11, 3, []), (.iload 4, 2, []), (.aaload, 1, []), (.iload 7, 2, []), (.iload 5, 2, []), (.isub, 1, []), (.iaload, 1, []), (.iload 6, 2, []), (.iadd, 1, []), (.goto 4, 3, [93])]
  | 92 => [(.iconst 0, 1, [])]
  | 93 => [(.istore 8, 2, []), (.aload_n 0, 1, []), (.getfield 11, 3, []), (.iload 4, 2, []), (.iconst 1, 1, []), (.iadd, 1, []), (.aaload, 1, []), (.iload 7, 2, []), (.aload_n 0, 1, []), (.getfield 11, 3, []), (.iload 4, 2, []), (.aaload, 1, []), (.iload 7, 2, []), (.iaload, 1, []), (.iload 8, 2, []), (.invokestatic 40, 3, []), (.iastore, 1, []), (.iinc 7 1, 3, []), (.goto (-72), 3, [53])]
  | 128 => [(.iinc 4 1, 3, []), (.goto (-128), 3, [3])]
  | 134 => [(.return_, 1, [])]
  | _ => []
theorem qX4_fill : ∀ pc, chk cX4_fill pc (kX4_fill pc) = true := by
  intro pc
  unfold kX4_fill
  split <;> first | decide +kernel | exact chk_nil
abbrev rmX4_fill : Room := { frames := 1, cells := 0, slots := 0, locals := 21 }
def aX4_fill (x : Nat) : Option CI := match x with
  | 40 => some ciMax
  | _ => none
theorem aokX4_fill : ∀ x ci, aX4_fill x = some ci → CalOK RX4 rmX4_fill x ci := by
  intro x ci h
  unfold aX4_fill at h
  split at h
  · cases h; exact cal_max (List.forall_mem_cons.mpr ⟨(ws_mem (List.mem_of_getElem? (i := 533) (by decide +kernel)) (by decide +kernel)), List.forall_mem_cons.mpr ⟨(ws_mem (List.mem_of_getElem? (i := 157) (by decide +kernel)) (by decide +kernel)), List.forall_mem_cons.mpr ⟨(ws_mem (List.mem_of_getElem? (i := 58) (by decide +kernel)) (by decide +kernel)), List.forall_mem_cons.mpr ⟨(ws_mem (List.mem_of_getElem? (i := 158) (by decide +kernel)) (by decide +kernel)), fun _ h => absurd h List.not_mem_nil⟩⟩⟩⟩) (by decide)
  · cases h
theorem ocX4_fill_40 (f : Nat → Nat → Nat → Nat → (List MV → MS → (Option MV → MS → Prop) → Prop) → Prop) : oC aX4_fill 40 f = f 2 10 0 0 spMax := propext Iff.rfl
theorem mdX4_fill : MD RX4 cX4_fill rmX4_fill kX4_fill fX4 aX4_fill zX4 uX4 := ⟨fokX4, zokX4, uokX4, aokX4_fill, qX4_fill⟩
set_option maxHeartbeats 1600000 in
set_option maxRecDepth 100000 in
theorem lpX4_f1 {post : Option MV → MS → Prop} {U : Pt → Prop} {N : Nat} {I L : Int → Int → Int} {u : Int} {i : Nat} (u0 : 0 ≤ u) (u1 : u ≤ 60) (ht : tOK I) (hm : tmR I) (hi : (i : Int) < I 3 1)
    (h : ∀ (I1 : Int → Int → Int) (t7 t8 : Option MV), frE I I1 → (∀ (j : Nat) w, j ≤ i + 1 → 0 ≤ w → w ≤ u → I1 (147 + j) w = gv (stC I) (stG I) j w) → (∀ j : Int, 0 ≤ j → j ≤ i → I1 178 j = stC I j) → Ok RX4 cX4_fill 9 rmX4_fill false none post U (128, [some (.inr (.inr (some 145))), some (.inr (.inr (some 3))), some (.inr (.inr (some 40))), some (.inl u), some (.inl i), some (.inl (stC I i)), some (.inl (stG I i)), t7, t8], [], (N, PF, I1, L), 0, 0)) :
    ∀ (m : Nat) (w : Int) (I1 : Int → Int → Int) (t8 : Option MV), w + m = u + 1 → 0 ≤ w → frE I I1 → (∀ (j : Nat) w, j ≤ i → 0 ≤ w → w ≤ u → I1 (147 + j) w = gv (stC I) (stG I) j w) → (∀ w', 0 ≤ w' → w' < w → I1 (147 + ((i : Int) + 1)) w' = gv (stC I) (stG I) (i + 1) w') → (∀ j : Int, 0 ≤ j → j ≤ i → I1 178 j = stC I j) →
    Ok RX4 cX4_fill 9 rmX4_fill false none post U (53, [some (.inr (.inr (some 145))), some (.inr (.inr (some 3))), some (.inr (.inr (some 40))), some (.inl u), some (.inl i), some (.inl (stC I i)), some (.inl (stG I i)), some (.inl w), t8], [], (N, PF, I1, L), 0, 0)
  | 0, w, I1, t8, hw, w0, h1, h2, h3, h4 => by
    have ht2 := ht.2.1
    have hc := stC_rng ht (i := i) (by omega) hi
    refine Ok.seg mdX4_fill [53, 128] 10 ?_
    simp only [wp_nil, wp_cons, ↓stp, ↓lI, ↓lL, ↓lR, ↓lIn_0, ↓lIn_1, ↓lIn_2, ↓lIn_3, ↓lLn_0, ↓lLn_1, ↓lLn_2, ↓lLn_3, ↓lRn_0, ↓lRn_1, ↓lRn_2, ↓lRn_3, ↓pI, ↓pL, ↓pR, ↓pA, ↓pN, ↓pV, ↓fp, ↓tsw, ↓oS, ↓spMax, ↓spMin, ↓spAbs, ↓spObj, RI, RLg, b2i_lo, b2i_hi, getL, setL, ltL, killL, isLong, inl, cnd, br, tgt, rcv, rpl, mputI, mputL, mputP, fv, fr, mcat, mcs, entL, entA, rfit, nf_0, nf_1, nf_2, nf_3, nf2_0, nf2_1, b2i_0, b2i_1, RI_b2i, b2i_fit, List.append, List.length, List.replicate, List.cons_append, List.nil_append, List.length_cons, List.length_nil, List.replicate_succ, List.replicate_zero, List.tail_cons, reduceIte, if_true, if_false, ite_true, ite_false, Bool.false_eq_true, true_and, and_true, and_self, false_and, and_false, or_self, or_true, true_or, or_false, false_or, not_true_eq_false, not_false_eq_true, ne_eq, forall_const, implies_true, imp_self, true_implies, false_implies, Nat.reduceAdd, Nat.reduceSub, Nat.reduceMul, Nat.reduceDiv, Nat.reduceMod, Nat.reduceEqDiff, Nat.reduceLT, Nat.reduceLeDiff, Nat.reduceBEq, Nat.add_zero, Nat.zero_add, Nat.le_refl, Nat.not_lt_zero, Nat.succ_eq_add_one, Int.reduceNatCast, Int.cast_ofNat_Int, Int.reduceSub, Int.reduceMul, Int.reduceNeg, Int.reduceLE, Int.reduceLT, Int.reduceToNat, Int.reduceEq, Int.reduceNe, Int.reduceAdd, Option.some.injEq, kX4_fill, rmX4_fill, ↓ofX4_11, ↓ofX4_16, ↓ofX4_20, ↓ofX4_26, ↓ofX4_30, ↓ofX4_35, ↓ocX4_fill_40, G_1, G_2, G_3, G_4, G_35, G_36, G_37, G_38, G_39, G_40, G_41, G_42, G_43, G_44, G_45, G_46, G_47, G_48, G_49, G_140, G_141, G_142, G_143, G_144, G_145, G_146, G_178, G_179, G_180, G_181, G_182, G_183, G_184, G_189, G_198, G_207, PF_1_0, PF_1_1, PF_1_2, PF_1_3, PF_2_0, PF_2_1, PF_2_3, PF_2_4, PF_2_5, PF_2_6, PF_2_7, PF_2_8, PF_2_9, PF_2_10, PF_2_11, PF_3_0, PF_35_0, PF_35_1, PF_35_2, PF_35_3, PF_40_0, PF_40_1, PF_40_2, PF_44_0, PF_44_1, PF_44_2, PF_145_0, PF_145_1, PF_179_0, PF_179_1, PF_179_2, PF_179_3, PF_179_8, PF_179_9, PF_179_10]
    refine ⟨by omega, by omega, fun q => h I1 _ _ h1 (fun j w' j1 a b => ?_) h4, fun q => by omega⟩
    by_cases e : j = i + 1
    · rw [e, show ((i + 1 : Nat) : Int) = (i : Int) + 1 by omega]; exact h3 w' a (by omega)
    · exact h2 j w' (by omega) a b
  | m + 1, w, I1, t8, hw, w0, h1, h2, h3, h4 => by
    have ht2 := ht.2.1
    have hc := stC_rng ht (i := i) (by omega) hi
    have hg := stG_rng hm (i := i) (by omega) hi
    have hm1 := PF_most (i := i) (by omega) (by omega)
    have hm2 := PF_most (i := (i : Int) + 1) (by omega) (by omega)
    have hg1 := G_most (a := 147 + (i : Int)) (by omega) (by omega)
    have hg2 := G_most (a := 147 + ((i : Int) + 1)) (by omega) (by omega)
    have gr := fun w => gv_rng (c := stC I) (g := stG I) (n := i) (M := 10100) (fun j a b => stG_rng hm (by omega) (by omega)) i w (Nat.le_refl _)
    have ih := fun v => lpX4_f1 (U := U) (post := post) u0 u1 ht hm hi h m (w + 1) (upI I1 (147 + ((i : Int) + 1)) w v)
    have fin : ∀ v t8, v = gv (stC I) (stG I) (i + 1) w → Ok RX4 cX4_fill 9 rmX4_fill false none post U (53, [some (.inr (.inr (some 145))), some (.inr (.inr (some 3))), some (.inr (.inr (some 40))), some (.inl u), some (.inl i), some (.inl (stC I i)), some (.inl (stG I i)), some (.inl (w + 1)), t8], [], (N, PF, upI I1 (147 + ((i : Int) + 1)) w v, L), 0, 0) := fun v t8 hv => by
      refine ih v t8 (by omega) (by omega) (fun b k hb => by rw [upI_ne (by omega)]; exact h1 b k hb) (fun j w' j1 a b => by rw [upI_ne (by omega)]; exact h2 j w' j1 a b) (fun w' a b => ?_) (fun j a b => by rw [upI_ne (by omega)]; exact h4 j a b)
      by_cases e : w' = w
      · rw [e, upI_same]; exact hv
      · rw [upI_nj e]; exact h3 w' a (by omega)
    have grw := gr w
    have gru := gr (w - stC I i)
    have ew : I1 (147 + (i : Int)) w = gv (stC I) (stG I) i w := h2 i w (Nat.le_refl _) w0 (by omega)
    refine Ok.seg mdX4_fill [53, 128] 60 ?_
    simp only [wp_nil, wp_cons, ↓stp, ↓lI, ↓lL, ↓lR, ↓lIn_0, ↓lIn_1, ↓lIn_2, ↓lIn_3, ↓lLn_0, ↓lLn_1, ↓lLn_2, ↓lLn_3, ↓lRn_0, ↓lRn_1, ↓lRn_2, ↓lRn_3, ↓pI, ↓pL, ↓pR, ↓pA, ↓pN, ↓pV, ↓fp, ↓tsw, ↓oS, ↓spMax, ↓spMin, ↓spAbs, ↓spObj, RI, RLg, b2i_lo, b2i_hi, getL, setL, ltL, killL, isLong, inl, cnd, br, tgt, rcv, rpl, mputI, mputL, mputP, fv, fr, mcat, mcs, entL, entA, rfit, nf_0, nf_1, nf_2, nf_3, nf2_0, nf2_1, b2i_0, b2i_1, RI_b2i, b2i_fit, List.append, List.length, List.replicate, List.cons_append, List.nil_append, List.length_cons, List.length_nil, List.replicate_succ, List.replicate_zero, List.tail_cons, reduceIte, if_true, if_false, ite_true, ite_false, Bool.false_eq_true, true_and, and_true, and_self, false_and, and_false, or_self, or_true, true_or, or_false, false_or, not_true_eq_false, not_false_eq_true, ne_eq, forall_const, implies_true, imp_self, true_implies, false_implies, Nat.reduceAdd, Nat.reduceSub, Nat.reduceMul, Nat.reduceDiv, Nat.reduceMod, Nat.reduceEqDiff, Nat.reduceLT, Nat.reduceLeDiff, Nat.reduceBEq, Nat.add_zero, Nat.zero_add, Nat.le_refl, Nat.not_lt_zero, Nat.succ_eq_add_one, Int.reduceNatCast, Int.cast_ofNat_Int, Int.reduceSub, Int.reduceMul, Int.reduceNeg, Int.reduceLE, Int.reduceLT, Int.reduceToNat, Int.reduceEq, Int.reduceNe, Int.reduceAdd, Option.some.injEq, kX4_fill, rmX4_fill, ↓ofX4_11, ↓ofX4_16, ↓ofX4_20, ↓ofX4_26, ↓ofX4_30, ↓ofX4_35, ↓ocX4_fill_40, hm1, hm2, hg1, hg2, ew, G_1, G_2, G_3, G_4, G_35, G_36, G_37, G_38, G_39, G_40, G_41, G_42, G_43, G_44, G_45, G_46, G_47, G_48, G_49, G_140, G_141, G_142, G_143, G_144, G_145, G_146, G_178, G_179, G_180, G_181, G_182, G_183, G_184, G_189, G_198, G_207, PF_1_0, PF_1_1, PF_1_2, PF_1_3, PF_2_0, PF_2_1, PF_2_3, PF_2_4, PF_2_5, PF_2_6, PF_2_7, PF_2_8, PF_2_9, PF_2_10, PF_2_11, PF_3_0, PF_35_0, PF_35_1, PF_35_2, PF_35_3, PF_40_0, PF_40_1, PF_40_2, PF_44_0, PF_44_1, PF_44_2, PF_145_0, PF_145_1, PF_179_0, PF_179_1, PF_179_2, PF_179_3, PF_179_8, PF_179_9, PF_179_10]
    refine ⟨by omega, by omega, fun q => by omega, fun q => ⟨by omega, fun q => by omega, fun q => ⟨by omega, by omega, fun q2 => ?_, fun q2 => ?_⟩⟩⟩
    · repeat refine ⟨by omega, ?_⟩
      refine fun r r0 r1 r2 => ⟨by omega, by omega, fin r _ ?_⟩
      unfold gv
      rw [if_neg (by omega)]
      omega
    · have ew2 : I1 (147 + (i : Int)) (w - stC I i) = gv (stC I) (stG I) i (w - stC I i) := h2 i _ (Nat.le_refl _) (by omega) (by omega)
      rw [ew2]
      refine ⟨by omega, by omega, by omega, by omega, by omega, by omega, by omega, by omega, by omega, by omega, by omega, by omega, fun r r0 r1 r2 => ?_⟩
      refine ⟨by omega, by omega, fin r _ ?_⟩
      unfold gv
      rw [if_pos (by omega)]
      exact mxv_of r0 r1 r2
set_option maxHeartbeats 1600000 in
set_option maxRecDepth 100000 in
theorem lpX4_f2 {post : Option MV → MS → Prop} {U : Pt → Prop} {N : Nat} {I L : Int → Int → Int} {u : Int} (u0 : 0 ≤ u) (u1 : u ≤ 60) (ht : tOK I) (hm : tmR I)
    (h : ∀ (I1 : Int → Int → Int), frE I I1 → stoOK I I1 u → post none (N, PF, I1, L)) :
    ∀ (m i : Nat) (I1 : Int → Int → Int) (t5 t6 t7 t8 : Option MV), ((i + m : Nat) : Int) = I 3 1 → frE I I1 → (∀ (j : Nat) w, j ≤ i → 0 ≤ w → w ≤ u → I1 (147 + j) w = gv (stC I) (stG I) j w) → (∀ j : Int, 0 ≤ j → j < i → I1 178 j = stC I j) →
    Ok RX4 cX4_fill 9 rmX4_fill false none post U (3, [some (.inr (.inr (some 145))), some (.inr (.inr (some 3))), some (.inr (.inr (some 40))), some (.inl u), some (.inl i), t5, t6, t7, t8], [], (N, PF, I1, L), 0, 0)
  | 0, i, I1, t5, t6, t7, t8, hi, h1, h2, h3 => by
    have ht2 := ht.2.1
    have e31 : I1 3 1 = I 3 1 := h1 3 1 (by omega)
    refine Ok.seg mdX4_fill [3, 53, 128] 10 ?_
    simp only [wp_nil, wp_cons, ↓stp, ↓lI, ↓lL, ↓lR, ↓lIn_0, ↓lIn_1, ↓lIn_2, ↓lIn_3, ↓lLn_0, ↓lLn_1, ↓lLn_2, ↓lLn_3, ↓lRn_0, ↓lRn_1, ↓lRn_2, ↓lRn_3, ↓pI, ↓pL, ↓pR, ↓pA, ↓pN, ↓pV, ↓fp, ↓tsw, ↓oS, ↓spMax, ↓spMin, ↓spAbs, ↓spObj, RI, RLg, b2i_lo, b2i_hi, getL, setL, ltL, killL, isLong, inl, cnd, br, tgt, rcv, rpl, mputI, mputL, mputP, fv, fr, mcat, mcs, entL, entA, rfit, nf_0, nf_1, nf_2, nf_3, nf2_0, nf2_1, b2i_0, b2i_1, RI_b2i, b2i_fit, List.append, List.length, List.replicate, List.cons_append, List.nil_append, List.length_cons, List.length_nil, List.replicate_succ, List.replicate_zero, List.tail_cons, reduceIte, if_true, if_false, ite_true, ite_false, Bool.false_eq_true, true_and, and_true, and_self, false_and, and_false, or_self, or_true, true_or, or_false, false_or, not_true_eq_false, not_false_eq_true, ne_eq, forall_const, implies_true, imp_self, true_implies, false_implies, Nat.reduceAdd, Nat.reduceSub, Nat.reduceMul, Nat.reduceDiv, Nat.reduceMod, Nat.reduceEqDiff, Nat.reduceLT, Nat.reduceLeDiff, Nat.reduceBEq, Nat.add_zero, Nat.zero_add, Nat.le_refl, Nat.not_lt_zero, Nat.succ_eq_add_one, Int.reduceNatCast, Int.cast_ofNat_Int, Int.reduceSub, Int.reduceMul, Int.reduceNeg, Int.reduceLE, Int.reduceLT, Int.reduceToNat, Int.reduceEq, Int.reduceNe, Int.reduceAdd, Option.some.injEq, kX4_fill, rmX4_fill, ↓ofX4_11, ↓ofX4_16, ↓ofX4_20, ↓ofX4_26, ↓ofX4_30, ↓ofX4_35, ↓ocX4_fill_40, e31, G_1, G_2, G_3, G_4, G_35, G_36, G_37, G_38, G_39, G_40, G_41, G_42, G_43, G_44, G_45, G_46, G_47, G_48, G_49, G_140, G_141, G_142, G_143, G_144, G_145, G_146, G_178, G_179, G_180, G_181, G_182, G_183, G_184, G_189, G_198, G_207, PF_1_0, PF_1_1, PF_1_2, PF_1_3, PF_2_0, PF_2_1, PF_2_3, PF_2_4, PF_2_5, PF_2_6, PF_2_7, PF_2_8, PF_2_9, PF_2_10, PF_2_11, PF_3_0, PF_35_0, PF_35_1, PF_35_2, PF_35_3, PF_40_0, PF_40_1, PF_40_2, PF_44_0, PF_44_1, PF_44_2, PF_145_0, PF_145_1, PF_179_0, PF_179_1, PF_179_2, PF_179_3, PF_179_8, PF_179_9, PF_179_10]
    exact ⟨by omega, by omega, fun q => h I1 h1 ⟨fun j w a b c => h2 j w (by omega) b c, fun j a b => h3 j a (by omega)⟩, fun q => by omega⟩
  | m + 1, i, I1, t5, t6, t7, t8, hi, h1, h2, h3 => by
    have ht2 := ht.2.1
    have e31 : I1 3 1 = I 3 1 := h1 3 1 (by omega)
    have hi2 : (i : Int) < I 3 1 := by omega
    have ih := lpX4_f2 (U := U) (post := post) u0 u1 ht hm h m (i + 1)
    have hc := stC_rng ht (i := i) (by omega) hi2
    have hg := stG_rng hm (i := i) (by omega) hi2
    have hp := PF_st (i := i) (by omega) (by omega)
    have hgs := G_st (a := 5 + (i : Int)) (by omega) (by omega)
    have eb : I1 (5 + (i : Int)) 1 = I (5 + (i : Int)) 1 := h1 _ _ (by omega)
    have e43 : I1 43 i = I 43 i := h1 _ _ (by omega)
    have hst := ht.2.2 i (by omega) hi2
    unfold stOK at hst
    have htm := hm i (by omega) hi2
    have ec : (I (5 + (i : Int)) 1).tdiv 10 + 1 = stC I i := rfl
    have eg : (I 43 i).tdiv 10 = stG I i := rfl
    refine Ok.seg mdX4_fill [3, 53, 128] 60 ?_
    simp only [wp_nil, wp_cons, ↓stp, ↓lI, ↓lL, ↓lR, ↓lIn_0, ↓lIn_1, ↓lIn_2, ↓lIn_3, ↓lLn_0, ↓lLn_1, ↓lLn_2, ↓lLn_3, ↓lRn_0, ↓lRn_1, ↓lRn_2, ↓lRn_3, ↓pI, ↓pL, ↓pR, ↓pA, ↓pN, ↓pV, ↓fp, ↓tsw, ↓oS, ↓spMax, ↓spMin, ↓spAbs, ↓spObj, RI, RLg, b2i_lo, b2i_hi, getL, setL, ltL, killL, isLong, inl, cnd, br, tgt, rcv, rpl, mputI, mputL, mputP, fv, fr, mcat, mcs, entL, entA, rfit, nf_0, nf_1, nf_2, nf_3, nf2_0, nf2_1, b2i_0, b2i_1, RI_b2i, b2i_fit, List.append, List.length, List.replicate, List.cons_append, List.nil_append, List.length_cons, List.length_nil, List.replicate_succ, List.replicate_zero, List.tail_cons, reduceIte, if_true, if_false, ite_true, ite_false, Bool.false_eq_true, true_and, and_true, and_self, false_and, and_false, or_self, or_true, true_or, or_false, false_or, not_true_eq_false, not_false_eq_true, ne_eq, forall_const, implies_true, imp_self, true_implies, false_implies, Nat.reduceAdd, Nat.reduceSub, Nat.reduceMul, Nat.reduceDiv, Nat.reduceMod, Nat.reduceEqDiff, Nat.reduceLT, Nat.reduceLeDiff, Nat.reduceBEq, Nat.add_zero, Nat.zero_add, Nat.le_refl, Nat.not_lt_zero, Nat.succ_eq_add_one, Int.reduceNatCast, Int.cast_ofNat_Int, Int.reduceSub, Int.reduceMul, Int.reduceNeg, Int.reduceLE, Int.reduceLT, Int.reduceToNat, Int.reduceEq, Int.reduceNe, Int.reduceAdd, Option.some.injEq, kX4_fill, rmX4_fill, ↓ofX4_11, ↓ofX4_16, ↓ofX4_20, ↓ofX4_26, ↓ofX4_30, ↓ofX4_35, ↓ocX4_fill_40, e31, hp, hgs, eb, e43, ec, eg, G_1, G_2, G_3, G_4, G_35, G_36, G_37, G_38, G_39, G_40, G_41, G_42, G_43, G_44, G_45, G_46, G_47, G_48, G_49, G_140, G_141, G_142, G_143, G_144, G_145, G_146, G_178, G_179, G_180, G_181, G_182, G_183, G_184, G_189, G_198, G_207, PF_1_0, PF_1_1, PF_1_2, PF_1_3, PF_2_0, PF_2_1, PF_2_3, PF_2_4, PF_2_5, PF_2_6, PF_2_7, PF_2_8, PF_2_9, PF_2_10, PF_2_11, PF_3_0, PF_35_0, PF_35_1, PF_35_2, PF_35_3, PF_40_0, PF_40_1, PF_40_2, PF_44_0, PF_44_1, PF_44_2, PF_145_0, PF_145_1, PF_179_0, PF_179_1, PF_179_2, PF_179_3, PF_179_8, PF_179_9, PF_179_10]
    have go := lpX4_f1 (U := U) (post := post) (N := N) (L := L) u0 u1 ht hm hi2 (fun I2 t7 t8 k1 k2 k3 => by
      have := ih I2 (some (.inl (stC I i))) (some (.inl (stG I i))) t7 t8 (by omega) k1 k2 (fun j a b => k3 j a (by omega))
      refine Ok.seg mdX4_fill [3, 53, 128] 10 ?_
      simp only [wp_nil, wp_cons, ↓stp, ↓lI, ↓lL, ↓lR, ↓lIn_0, ↓lIn_1, ↓lIn_2, ↓lIn_3, ↓lLn_0, ↓lLn_1, ↓lLn_2, ↓lLn_3, ↓lRn_0, ↓lRn_1, ↓lRn_2, ↓lRn_3, ↓pI, ↓pL, ↓pR, ↓pA, ↓pN, ↓pV, ↓fp, ↓tsw, ↓oS, ↓spMax, ↓spMin, ↓spAbs, ↓spObj, RI, RLg, b2i_lo, b2i_hi, getL, setL, ltL, killL, isLong, inl, cnd, br, tgt, rcv, rpl, mputI, mputL, mputP, fv, fr, mcat, mcs, entL, entA, rfit, nf_0, nf_1, nf_2, nf_3, nf2_0, nf2_1, b2i_0, b2i_1, RI_b2i, b2i_fit, List.append, List.length, List.replicate, List.cons_append, List.nil_append, List.length_cons, List.length_nil, List.replicate_succ, List.replicate_zero, List.tail_cons, reduceIte, if_true, if_false, ite_true, ite_false, Bool.false_eq_true, true_and, and_true, and_self, false_and, and_false, or_self, or_true, true_or, or_false, false_or, not_true_eq_false, not_false_eq_true, ne_eq, forall_const, implies_true, imp_self, true_implies, false_implies, Nat.reduceAdd, Nat.reduceSub, Nat.reduceMul, Nat.reduceDiv, Nat.reduceMod, Nat.reduceEqDiff, Nat.reduceLT, Nat.reduceLeDiff, Nat.reduceBEq, Nat.add_zero, Nat.zero_add, Nat.le_refl, Nat.not_lt_zero, Nat.succ_eq_add_one, Int.reduceNatCast, Int.cast_ofNat_Int, Int.reduceSub, Int.reduceMul, Int.reduceNeg, Int.reduceLE, Int.reduceLT, Int.reduceToNat, Int.reduceEq, Int.reduceNe, Int.reduceAdd, Option.some.injEq, kX4_fill, rmX4_fill, ↓ofX4_11, ↓ofX4_16, ↓ofX4_20, ↓ofX4_26, ↓ofX4_30, ↓ofX4_35, ↓ocX4_fill_40, G_1, G_2, G_3, G_4, G_35, G_36, G_37, G_38, G_39, G_40, G_41, G_42, G_43, G_44, G_45, G_46, G_47, G_48, G_49, G_140, G_141, G_142, G_143, G_144, G_145, G_146, G_178, G_179, G_180, G_181, G_182, G_183, G_184, G_189, G_198, G_207, PF_1_0, PF_1_1, PF_1_2, PF_1_3, PF_2_0, PF_2_1, PF_2_3, PF_2_4, PF_2_5, PF_2_6, PF_2_7, PF_2_8, PF_2_9, PF_2_10, PF_2_11, PF_3_0, PF_35_0, PF_35_1, PF_35_2, PF_35_3, PF_40_0, PF_40_1, PF_40_2, PF_44_0, PF_44_1, PF_44_2, PF_145_0, PF_145_1, PF_179_0, PF_179_1, PF_179_2, PF_179_3, PF_179_8, PF_179_9, PF_179_10]
      rwa [show ((i + 1 : Nat) : Int) = (i : Int) + 1 by omega] at this) (u + 1).toNat 0 (upI I1 178 i (stC I i)) t8 (by omega) (by omega) (fun b k hb => by rw [upI_ne (by omega)]; exact h1 b k hb) (fun j w a b c => by rw [upI_ne (by omega)]; exact h2 j w a b c) (fun w' a b => by omega) (fun j a b => by
        by_cases e : j = i
        · rw [e]; exact upI_same
        · rw [upI_nj e]; exact h3 j a (by omega))
    refine ⟨by omega, by omega, fun q => by omega, fun q => ?_⟩
    repeat refine ⟨by omega, ?_⟩
    exact go
set_option maxRecDepth 100000 in
set_option maxHeartbeats 800000 in
theorem mX4_fill : MOK yX4_fill cX4_fill 9 none rmX4_fill ciX4_fill := by
  refine mok_of (ini := false) (by decide +kernel) (by decide) rfl rfl ?_
  intro σ As K hrc hl h
  obtain ⟨N, P, I, L⟩ := σ
  have h9 := pR_iff.mp h
  clear h
  obtain ⟨s, r, e9, h⟩ := h9
  subst e9
  have h9 := pR_iff.mp h
  clear h
  obtain ⟨t, r, e9, h⟩ := h9
  subst e9
  have h9 := pR_iff.mp h
  clear h
  obtain ⟨w, r, e9, h⟩ := h9
  subst e9
  have h9 := pI_iff.mp h
  clear h
  obtain ⟨u, r, e9, h⟩ := h9
  subst e9
  have h9 := pN_iff.mp h
  clear h
  obtain ⟨e9, h⟩ := h9
  subst e9
  dsimp only at h
  obtain ⟨rfl, rfl, rfl, rfl, u0, u1, ht, hm, hz, h⟩ := h
  refine ⟨Nat.le_of_ble_eq_true rfl, Ok.seg mdX4_fill [3] 6 ?_⟩
  simp only [wp_nil, wp_cons, ↓stp, ↓lI, ↓lL, ↓lR, ↓lIn_0, ↓lIn_1, ↓lIn_2, ↓lIn_3, ↓lLn_0, ↓lLn_1, ↓lLn_2, ↓lLn_3, ↓lRn_0, ↓lRn_1, ↓lRn_2, ↓lRn_3, ↓pI, ↓pL, ↓pR, ↓pA, ↓pN, ↓pV, ↓fp, ↓tsw, ↓oS, ↓spMax, ↓spMin, ↓spAbs, ↓spObj, RI, RLg, b2i_lo, b2i_hi, getL, setL, ltL, killL, isLong, inl, cnd, br, tgt, rcv, rpl, mputI, mputL, mputP, fv, fr, mcat, mcs, entL, entA, rfit, nf_0, nf_1, nf_2, nf_3, nf2_0, nf2_1, b2i_0, b2i_1, RI_b2i, b2i_fit, List.append, List.length, List.replicate, List.cons_append, List.nil_append, List.length_cons, List.length_nil, List.replicate_succ, List.replicate_zero, List.tail_cons, reduceIte, if_true, if_false, ite_true, ite_false, Bool.false_eq_true, true_and, and_true, and_self, false_and, and_false, or_self, or_true, true_or, or_false, false_or, not_true_eq_false, not_false_eq_true, ne_eq, forall_const, implies_true, imp_self, true_implies, false_implies, Nat.reduceAdd, Nat.reduceSub, Nat.reduceMul, Nat.reduceDiv, Nat.reduceMod, Nat.reduceEqDiff, Nat.reduceLT, Nat.reduceLeDiff, Nat.reduceBEq, Nat.add_zero, Nat.zero_add, Nat.le_refl, Nat.not_lt_zero, Nat.succ_eq_add_one, Int.reduceNatCast, Int.cast_ofNat_Int, Int.reduceSub, Int.reduceMul, Int.reduceNeg, Int.reduceLE, Int.reduceLT, Int.reduceToNat, Int.reduceEq, Int.reduceNe, Int.reduceAdd, Option.some.injEq, kX4_fill, rmX4_fill, ↓ofX4_11, ↓ofX4_16, ↓ofX4_20, ↓ofX4_26, ↓ofX4_30, ↓ofX4_35, ↓ocX4_fill_40, G_1, G_2, G_3, G_4, G_35, G_36, G_37, G_38, G_39, G_40, G_41, G_42, G_43, G_44, G_45, G_46, G_47, G_48, G_49, G_140, G_141, G_142, G_143, G_144, G_145, G_146, G_178, G_179, G_180, G_181, G_182, G_183, G_184, G_189, G_198, G_207, PF_1_0, PF_1_1, PF_1_2, PF_1_3, PF_2_0, PF_2_1, PF_2_3, PF_2_4, PF_2_5, PF_2_6, PF_2_7, PF_2_8, PF_2_9, PF_2_10, PF_2_11, PF_3_0, PF_35_0, PF_35_1, PF_35_2, PF_35_3, PF_40_0, PF_40_1, PF_40_2, PF_44_0, PF_44_1, PF_44_2, PF_145_0, PF_145_1, PF_179_0, PF_179_1, PF_179_2, PF_179_3, PF_179_8, PF_179_9, PF_179_10]
  refine lpX4_f2 u0 u1 ht hm (fun I1 a b => ⟨trivial, h I1 a b⟩) (I 3 1).toNat 0 I none none none none (by have := ht.1; omega) (fun _ _ _ => rfl) (fun j w a b c => ?_) (fun j a b => by omega)
  rw [show j = 0 by omega]; exact hz w b (by omega)
def spX4_gainsOf (As : List MV) (σ : MS) (K : Option MV → MS → Prop) : Prop := pR As fun s r => pI r fun n r => pI r fun u r => pN r (s = 145 ∧ σ.2.1 = PF ∧ 0 ≤ n ∧ n ≤ 30 ∧ 0 ≤ u ∧ u ≤ 60 ∧ K (some (.inl (σ.2.2.1 (147 + n) u))) σ)
def ciX4_gainsOf : CI := (3, 4, 0, 0, spX4_gainsOf)
def kX4_gainsOf (pc : Nat) : List ME := match pc with
  | 0 => [(.aload_n 0, 1, []), (.getfield 11, 3, []), (.iload_n 1, 1, []), (.aaload, 1, []), (.iload_n 2, 1, []), (.iaload, 1, []), (.ireturn, 1, [])]
  | _ => []
theorem qX4_gainsOf : ∀ pc, chk cX4_gainsOf pc (kX4_gainsOf pc) = true := by
  intro pc
  unfold kX4_gainsOf
  split <;> first | decide +kernel | exact chk_nil
abbrev rmX4_gainsOf : Room := { frames := 0, cells := 0, slots := 0, locals := 0 }
def aX4_gainsOf (_ : Nat) : Option CI := none
theorem aokX4_gainsOf : ∀ x ci, aX4_gainsOf x = some ci → CalOK RX4 rmX4_gainsOf x ci := fun _ _ h => by cases h
theorem mdX4_gainsOf : MD RX4 cX4_gainsOf rmX4_gainsOf kX4_gainsOf fX4 aX4_gainsOf zX4 uX4 := ⟨fokX4, zokX4, uokX4, aokX4_gainsOf, qX4_gainsOf⟩
set_option maxRecDepth 100000 in
set_option maxHeartbeats 800000 in
theorem mX4_gainsOf : MOK yX4_gainsOf cX4_gainsOf 3 (some .int) rmX4_gainsOf ciX4_gainsOf := by
  refine mok_of (ini := false) (by decide +kernel) (by decide) rfl rfl ?_
  intro σ As K hrc hl h
  obtain ⟨N, P, I, L⟩ := σ
  have h9 := pR_iff.mp h
  clear h
  obtain ⟨s, r, e9, h⟩ := h9
  subst e9
  have h9 := pI_iff.mp h
  clear h
  obtain ⟨n, r, e9, h⟩ := h9
  subst e9
  have h9 := pI_iff.mp h
  clear h
  obtain ⟨u, r, e9, h⟩ := h9
  subst e9
  have h9 := pN_iff.mp h
  clear h
  obtain ⟨e9, h⟩ := h9
  subst e9
  dsimp only at h
  obtain ⟨rfl, rfl, n0, n1, u0, u1, h⟩ := h
  have hm1 := PF_most (i := n) (by omega) (by omega)
  have hg1 := G_most (a := 147 + n) (by omega) (by omega)
  refine ⟨Nat.le_of_ble_eq_true rfl, Ok.seg mdX4_gainsOf [] 12 ?_⟩
  simp only [wp_nil, wp_cons, ↓stp, ↓lI, ↓lL, ↓lR, ↓lIn_0, ↓lIn_1, ↓lIn_2, ↓lIn_3, ↓lLn_0, ↓lLn_1, ↓lLn_2, ↓lLn_3, ↓lRn_0, ↓lRn_1, ↓lRn_2, ↓lRn_3, ↓pI, ↓pL, ↓pR, ↓pA, ↓pN, ↓pV, ↓fp, ↓tsw, ↓oS, ↓spMax, ↓spMin, ↓spAbs, ↓spObj, RI, RLg, b2i_lo, b2i_hi, getL, setL, ltL, killL, isLong, inl, cnd, br, tgt, rcv, rpl, mputI, mputL, mputP, fv, fr, mcat, mcs, entL, entA, rfit, nf_0, nf_1, nf_2, nf_3, nf2_0, nf2_1, b2i_0, b2i_1, RI_b2i, b2i_fit, List.append, List.length, List.replicate, List.cons_append, List.nil_append, List.length_cons, List.length_nil, List.replicate_succ, List.replicate_zero, List.tail_cons, reduceIte, if_true, if_false, ite_true, ite_false, Bool.false_eq_true, true_and, and_true, and_self, false_and, and_false, or_self, or_true, true_or, or_false, false_or, not_true_eq_false, not_false_eq_true, ne_eq, forall_const, implies_true, imp_self, true_implies, false_implies, Nat.reduceAdd, Nat.reduceSub, Nat.reduceMul, Nat.reduceDiv, Nat.reduceMod, Nat.reduceEqDiff, Nat.reduceLT, Nat.reduceLeDiff, Nat.reduceBEq, Nat.add_zero, Nat.zero_add, Nat.le_refl, Nat.not_lt_zero, Nat.succ_eq_add_one, Int.reduceNatCast, Int.cast_ofNat_Int, Int.reduceSub, Int.reduceMul, Int.reduceNeg, Int.reduceLE, Int.reduceLT, Int.reduceToNat, Int.reduceEq, Int.reduceNe, Int.reduceAdd, Option.some.injEq, kX4_gainsOf, rmX4_gainsOf, ↓ofX4_11, hm1, hg1, G_1, G_2, G_3, G_4, G_35, G_36, G_37, G_38, G_39, G_40, G_41, G_42, G_43, G_44, G_45, G_46, G_47, G_48, G_49, G_140, G_141, G_142, G_143, G_144, G_145, G_146, G_178, G_179, G_180, G_181, G_182, G_183, G_184, G_189, G_198, G_207, PF_1_0, PF_1_1, PF_1_2, PF_1_3, PF_2_0, PF_2_1, PF_2_3, PF_2_4, PF_2_5, PF_2_6, PF_2_7, PF_2_8, PF_2_9, PF_2_10, PF_2_11, PF_3_0, PF_35_0, PF_35_1, PF_35_2, PF_35_3, PF_40_0, PF_40_1, PF_40_2, PF_44_0, PF_44_1, PF_44_2, PF_145_0, PF_145_1, PF_179_0, PF_179_1, PF_179_2, PF_179_3, PF_179_8, PF_179_9, PF_179_10]
  exact ⟨by omega, by omega, by omega, by omega, h⟩
def spX4_leastSet (As : List MV) (σ : MS) (K : Option MV → MS → Prop) : Prop := pR As fun s r => pI r fun n r => pI r fun u r => pN r (s = 145 ∧ σ.2.1 = PF ∧ 0 ≤ n ∧ n ≤ 30 ∧ 0 ≤ u ∧ u ≤ 60 ∧ ∃ c g : Int → Int, (∀ i, 0 ≤ i → i < n → 1 ≤ c i ∧ c i ≤ 10 ∧ σ.2.2.1 178 i = c i) ∧ (∀ i, 0 ≤ i → i < n → 0 ≤ g i ∧ g i ≤ 10100) ∧ (∀ (i : Nat) w, (i : Int) ≤ n → 0 ≤ w → w ≤ u → σ.2.2.1 (147 + i) w = gv c g i w) ∧ K (some (.inl (wst c g n.toNat 0 u))) σ)
def ciX4_leastSet : CI := (3, 4, 0, 0, spX4_leastSet)
def kX4_leastSet (pc : Nat) : List ME := match pc with
  | 0 => [(.iconst 0, 1, []), (.istore_n 3, 1, []), (.iload_n 2, 1, []), (.istore 4, 2, []), (.iload_n 1, 1, []), (.iconst 1, 1, []), (.isub, 1, []), (.istore 5, 2, [])]
  | 10 => [(.iload 5, 2, []), (.ifCond .lt 65, 3, [77]), (.iload 4, 2, []), (.aload_n 0, 1, []), (.getfield 16, 3, []), (.iload 5, 2, []), (.iaload, 1, []), (.if_icmp .lt 47, 3, [71]), (.aload_n 0, 1, []), (.getfield 11, 3, []), (.iload 5, 2, []), (.iconst 1, 1, []), (.iadd, 1, []), (.aaload, 1, []), (.iload 4, 2, []), (.iaload, 1, []), (.aload_n 0, 1, []), (.getfield 11, 3, []), (.iload 5, 2, []), (.aaload, 1, []), (.iload 4, 2, []), (.iaload, 1, []), (.if_icmp .eq 22, 3, [71]), (.iload_n 3, 1, []), (.iconst 1, 1, []), (.iload 5, 2, []), (.ishl, 1, []), (.ior, 1, []), (.istore_n 3, 1, []), (.iload 4, 2, []), (.aload_n 0, 1, []), (.getfield 16, 3, []), (.iload 5, 2, []), (.iaload, 1, []), (.isub, 1, []), (.istore 4, 2, [])]
  | 71 => [(.iinc 5 (-1), 3, []), (.goto (-64), 3, [10])]
  | 77 => [(.iload_n 3, 1, []), (.ireturn, 1, [])]
  | _ => []
theorem qX4_leastSet : ∀ pc, chk cX4_leastSet pc (kX4_leastSet pc) = true := by
  intro pc
  unfold kX4_leastSet
  split <;> first | decide +kernel | exact chk_nil
abbrev rmX4_leastSet : Room := { frames := 0, cells := 0, slots := 0, locals := 0 }
def aX4_leastSet (_ : Nat) : Option CI := none
theorem aokX4_leastSet : ∀ x ci, aX4_leastSet x = some ci → CalOK RX4 rmX4_leastSet x ci := fun _ _ h => by cases h
theorem mdX4_leastSet : MD RX4 cX4_leastSet rmX4_leastSet kX4_leastSet fX4 aX4_leastSet zX4 uX4 := ⟨fokX4, zokX4, uokX4, aokX4_leastSet, qX4_leastSet⟩
set_option maxHeartbeats 1600000 in
set_option maxRecDepth 100000 in
theorem lpX4_l1 {post : Option MV → MS → Prop} {U : Pt → Prop} {N : Nat} {I L : Int → Int → Int} {u n : Int} {c g : Int → Int} (u1 : u ≤ 60) (n1 : n ≤ 30) (hc : ∀ i, 0 ≤ i → i < n → 1 ≤ c i ∧ c i ≤ 10 ∧ I 178 i = c i) (hg : ∀ i, 0 ≤ i → i < n → 0 ≤ g i ∧ g i ≤ 10100) (hG : ∀ (i : Nat) w, (i : Int) ≤ n → 0 ≤ w → w ≤ u → I (147 + i) w = gv c g i w)
    (h : post (some (.inl (wst c g n.toNat 0 u))) (N, PF, I, L)) :
    ∀ (i : Nat) (x w : Int), (i : Int) ≤ n → 0 ≤ w → w ≤ u → wst c g i x w = wst c g n.toNat 0 u →
    Ok RX4 cX4_leastSet 6 rmX4_leastSet false none post U (10, [some (.inr (.inr (some 145))), some (.inl n), some (.inl u), some (.inl x), some (.inl w), some (.inl ((i : Int) - 1))], [], (N, PF, I, L), 0, 0)
  | 0, x, w, hi, w0, w1, e => by
    refine Ok.seg mdX4_leastSet [10] 10 ?_
    simp only [wp_nil, wp_cons, ↓stp, ↓lI, ↓lL, ↓lR, ↓lIn_0, ↓lIn_1, ↓lIn_2, ↓lIn_3, ↓lLn_0, ↓lLn_1, ↓lLn_2, ↓lLn_3, ↓lRn_0, ↓lRn_1, ↓lRn_2, ↓lRn_3, ↓pI, ↓pL, ↓pR, ↓pA, ↓pN, ↓pV, ↓fp, ↓tsw, ↓oS, ↓spMax, ↓spMin, ↓spAbs, ↓spObj, RI, RLg, b2i_lo, b2i_hi, getL, setL, ltL, killL, isLong, inl, cnd, br, tgt, rcv, rpl, mputI, mputL, mputP, fv, fr, mcat, mcs, entL, entA, rfit, nf_0, nf_1, nf_2, nf_3, nf2_0, nf2_1, b2i_0, b2i_1, RI_b2i, b2i_fit, List.append, List.length, List.replicate, List.cons_append, List.nil_append, List.length_cons, List.length_nil, List.replicate_succ, List.replicate_zero, List.tail_cons, reduceIte, if_true, if_false, ite_true, ite_false, Bool.false_eq_true, true_and, and_true, and_self, false_and, and_false, or_self, or_true, true_or, or_false, false_or, not_true_eq_false, not_false_eq_true, ne_eq, forall_const, implies_true, imp_self, true_implies, false_implies, Nat.reduceAdd, Nat.reduceSub, Nat.reduceMul, Nat.reduceDiv, Nat.reduceMod, Nat.reduceEqDiff, Nat.reduceLT, Nat.reduceLeDiff, Nat.reduceBEq, Nat.add_zero, Nat.zero_add, Nat.le_refl, Nat.not_lt_zero, Nat.succ_eq_add_one, Int.reduceNatCast, Int.cast_ofNat_Int, Int.reduceSub, Int.reduceMul, Int.reduceNeg, Int.reduceLE, Int.reduceLT, Int.reduceToNat, Int.reduceEq, Int.reduceNe, Int.reduceAdd, Option.some.injEq, kX4_leastSet, rmX4_leastSet, ↓ofX4_11, ↓ofX4_16, G_1, G_2, G_3, G_4, G_35, G_36, G_37, G_38, G_39, G_40, G_41, G_42, G_43, G_44, G_45, G_46, G_47, G_48, G_49, G_140, G_141, G_142, G_143, G_144, G_145, G_146, G_178, G_179, G_180, G_181, G_182, G_183, G_184, G_189, G_198, G_207, PF_1_0, PF_1_1, PF_1_2, PF_1_3, PF_2_0, PF_2_1, PF_2_3, PF_2_4, PF_2_5, PF_2_6, PF_2_7, PF_2_8, PF_2_9, PF_2_10, PF_2_11, PF_3_0, PF_35_0, PF_35_1, PF_35_2, PF_35_3, PF_40_0, PF_40_1, PF_40_2, PF_44_0, PF_44_1, PF_44_2, PF_145_0, PF_145_1, PF_179_0, PF_179_1, PF_179_2, PF_179_3, PF_179_8, PF_179_9, PF_179_10]
    rw [show x = wst c g n.toNat 0 u from e]
    exact h
  | i + 1, x, w, hi, w0, w1, e => by
    have ih := lpX4_l1 (U := U) (post := post) u1 n1 hc hg hG h i
    have hci := hc i (by omega) (by omega)
    have hm1 := PF_most (i := i) (by omega) (by omega)
    have hm2 := PF_most (i := (i : Int) + 1) (by omega) (by omega)
    have hg1 := G_most (a := 147 + (i : Int)) (by omega) (by omega)
    have hg2 := G_most (a := 147 + ((i : Int) + 1)) (by omega) (by omega)
    have e1 := hG i w (by omega) w0 w1
    have e2 := hG (i + 1) w (by omega) w0 w1
    rw [show ((i + 1 : Nat) : Int) = (i : Int) + 1 by omega] at e2
    have r1 := gv_rng (c := c) (g := g) (n := i) (M := 10100) (fun j a b => hg j (by omega) (by omega)) i w (Nat.le_refl _)
    have r2 := gv_rng (c := c) (g := g) (n := i + 1) (M := 10100) (fun j a b => hg j (by omega) (by omega)) (i + 1) w (Nat.le_refl _)
    have ei : ((i + 1 : Nat) : Int) - 1 = i := by omega
    rw [ei]
    have e : (if gv c g (i + 1) w = gv c g i w then wst c g i x w else wst c g i (or1 x i) (w - c i)) = wst c g n.toNat 0 u := e
    have no : gv c g (i + 1) w = gv c g i w → Ok RX4 cX4_leastSet 6 rmX4_leastSet false none post U (10, [some (.inr (.inr (some 145))), some (.inl n), some (.inl u), some (.inl x), some (.inl w), some (.inl ((i : Int) + -1))], [], (N, PF, I, L), 0, 0) := fun q => by
      rw [if_pos q] at e
      exact ih x w (by omega) w0 w1 e
    refine Ok.seg mdX4_leastSet [10] 60 ?_
    simp only [wp_nil, wp_cons, ↓stp, ↓lI, ↓lL, ↓lR, ↓lIn_0, ↓lIn_1, ↓lIn_2, ↓lIn_3, ↓lLn_0, ↓lLn_1, ↓lLn_2, ↓lLn_3, ↓lRn_0, ↓lRn_1, ↓lRn_2, ↓lRn_3, ↓pI, ↓pL, ↓pR, ↓pA, ↓pN, ↓pV, ↓fp, ↓tsw, ↓oS, ↓spMax, ↓spMin, ↓spAbs, ↓spObj, RI, RLg, b2i_lo, b2i_hi, getL, setL, ltL, killL, isLong, inl, cnd, br, tgt, rcv, rpl, mputI, mputL, mputP, fv, fr, mcat, mcs, entL, entA, rfit, nf_0, nf_1, nf_2, nf_3, nf2_0, nf2_1, b2i_0, b2i_1, RI_b2i, b2i_fit, List.append, List.length, List.replicate, List.cons_append, List.nil_append, List.length_cons, List.length_nil, List.replicate_succ, List.replicate_zero, List.tail_cons, reduceIte, if_true, if_false, ite_true, ite_false, Bool.false_eq_true, true_and, and_true, and_self, false_and, and_false, or_self, or_true, true_or, or_false, false_or, not_true_eq_false, not_false_eq_true, ne_eq, forall_const, implies_true, imp_self, true_implies, false_implies, Nat.reduceAdd, Nat.reduceSub, Nat.reduceMul, Nat.reduceDiv, Nat.reduceMod, Nat.reduceEqDiff, Nat.reduceLT, Nat.reduceLeDiff, Nat.reduceBEq, Nat.add_zero, Nat.zero_add, Nat.le_refl, Nat.not_lt_zero, Nat.succ_eq_add_one, Int.reduceNatCast, Int.cast_ofNat_Int, Int.reduceSub, Int.reduceMul, Int.reduceNeg, Int.reduceLE, Int.reduceLT, Int.reduceToNat, Int.reduceEq, Int.reduceNe, Int.reduceAdd, Option.some.injEq, kX4_leastSet, rmX4_leastSet, ↓ofX4_11, ↓ofX4_16, hm1, hm2, hg1, hg2, e1, e2, hci.2.2, G_1, G_2, G_3, G_4, G_35, G_36, G_37, G_38, G_39, G_40, G_41, G_42, G_43, G_44, G_45, G_46, G_47, G_48, G_49, G_140, G_141, G_142, G_143, G_144, G_145, G_146, G_178, G_179, G_180, G_181, G_182, G_183, G_184, G_189, G_198, G_207, PF_1_0, PF_1_1, PF_1_2, PF_1_3, PF_2_0, PF_2_1, PF_2_3, PF_2_4, PF_2_5, PF_2_6, PF_2_7, PF_2_8, PF_2_9, PF_2_10, PF_2_11, PF_3_0, PF_35_0, PF_35_1, PF_35_2, PF_35_3, PF_40_0, PF_40_1, PF_40_2, PF_44_0, PF_44_1, PF_44_2, PF_145_0, PF_145_1, PF_179_0, PF_179_1, PF_179_2, PF_179_3, PF_179_8, PF_179_9, PF_179_10]
    refine ⟨by omega, fun q => by omega, fun q => ?_⟩
    repeat refine ⟨by omega, ?_⟩
    refine ⟨fun q => no ?_, fun q => ?_⟩
    · show (if c i ≤ w then mxv (gv c g i w) (gv c g i (w - c i) + g i) else gv c g i w) = gv c g i w
      rw [if_neg (by omega)]
    · refine ⟨by omega, by omega, by omega, by omega, by omega, by omega, by omega, by omega, by omega, by omega, fun q2 => no q2, fun q2 => ?_⟩
      rw [if_neg q2] at e
      repeat refine ⟨by omega, ?_⟩
      exact ih (or1 x i) (w - c i) (by omega) (by omega) (by omega) e
set_option maxRecDepth 100000 in
set_option maxHeartbeats 800000 in
theorem mX4_leastSet : MOK yX4_leastSet cX4_leastSet 6 (some .int) rmX4_leastSet ciX4_leastSet := by
  refine mok_of (ini := false) (by decide +kernel) (by decide) rfl rfl ?_
  intro σ As K hrc hl h
  obtain ⟨N, P, I, L⟩ := σ
  have h9 := pR_iff.mp h
  clear h
  obtain ⟨s, r, e9, h⟩ := h9
  subst e9
  have h9 := pI_iff.mp h
  clear h
  obtain ⟨n, r, e9, h⟩ := h9
  subst e9
  have h9 := pI_iff.mp h
  clear h
  obtain ⟨u, r, e9, h⟩ := h9
  subst e9
  have h9 := pN_iff.mp h
  clear h
  obtain ⟨e9, h⟩ := h9
  subst e9
  dsimp only at h
  obtain ⟨rfl, rfl, n0, n1, u0, u1, c, g, hc, hg, hG, h⟩ := h
  refine ⟨Nat.le_of_ble_eq_true rfl, Ok.seg mdX4_leastSet [10] 12 ?_⟩
  simp only [wp_nil, wp_cons, ↓stp, ↓lI, ↓lL, ↓lR, ↓lIn_0, ↓lIn_1, ↓lIn_2, ↓lIn_3, ↓lLn_0, ↓lLn_1, ↓lLn_2, ↓lLn_3, ↓lRn_0, ↓lRn_1, ↓lRn_2, ↓lRn_3, ↓pI, ↓pL, ↓pR, ↓pA, ↓pN, ↓pV, ↓fp, ↓tsw, ↓oS, ↓spMax, ↓spMin, ↓spAbs, ↓spObj, RI, RLg, b2i_lo, b2i_hi, getL, setL, ltL, killL, isLong, inl, cnd, br, tgt, rcv, rpl, mputI, mputL, mputP, fv, fr, mcat, mcs, entL, entA, rfit, nf_0, nf_1, nf_2, nf_3, nf2_0, nf2_1, b2i_0, b2i_1, RI_b2i, b2i_fit, List.append, List.length, List.replicate, List.cons_append, List.nil_append, List.length_cons, List.length_nil, List.replicate_succ, List.replicate_zero, List.tail_cons, reduceIte, if_true, if_false, ite_true, ite_false, Bool.false_eq_true, true_and, and_true, and_self, false_and, and_false, or_self, or_true, true_or, or_false, false_or, not_true_eq_false, not_false_eq_true, ne_eq, forall_const, implies_true, imp_self, true_implies, false_implies, Nat.reduceAdd, Nat.reduceSub, Nat.reduceMul, Nat.reduceDiv, Nat.reduceMod, Nat.reduceEqDiff, Nat.reduceLT, Nat.reduceLeDiff, Nat.reduceBEq, Nat.add_zero, Nat.zero_add, Nat.le_refl, Nat.not_lt_zero, Nat.succ_eq_add_one, Int.reduceNatCast, Int.cast_ofNat_Int, Int.reduceSub, Int.reduceMul, Int.reduceNeg, Int.reduceLE, Int.reduceLT, Int.reduceToNat, Int.reduceEq, Int.reduceNe, Int.reduceAdd, Option.some.injEq, kX4_leastSet, rmX4_leastSet, ↓ofX4_11, ↓ofX4_16, G_1, G_2, G_3, G_4, G_35, G_36, G_37, G_38, G_39, G_40, G_41, G_42, G_43, G_44, G_45, G_46, G_47, G_48, G_49, G_140, G_141, G_142, G_143, G_144, G_145, G_146, G_178, G_179, G_180, G_181, G_182, G_183, G_184, G_189, G_198, G_207, PF_1_0, PF_1_1, PF_1_2, PF_1_3, PF_2_0, PF_2_1, PF_2_3, PF_2_4, PF_2_5, PF_2_6, PF_2_7, PF_2_8, PF_2_9, PF_2_10, PF_2_11, PF_3_0, PF_35_0, PF_35_1, PF_35_2, PF_35_3, PF_40_0, PF_40_1, PF_40_2, PF_44_0, PF_44_1, PF_44_2, PF_145_0, PF_145_1, PF_179_0, PF_179_1, PF_179_2, PF_179_3, PF_179_8, PF_179_9, PF_179_10]
  have := lpX4_l1 (post := fun r σ' => rfit (some .int) r ∧ K r σ') (U := fun _ => False) (N := N) (L := L) u1 n1 hc hg hG ⟨trivial, h⟩ n.toNat 0 u (by omega) u0 (by omega) rfl
  rwa [show ((n.toNat : Nat) : Int) - 1 = n - 1 by omega] at this
