/-! LapBoard$Track, LapBoard$Way: changes -/
def tOK (I : Int → Int → Int) : Prop := 0 ≤ I 3 1 ∧ I 3 1 ≤ 30 ∧ ∀ i, 0 ≤ i → i < I 3 1 → stOK I (5 + i)
def sumI (f : Int → Int) : Nat → Int
  | 0 => 0
  | n + 1 => sumI f n + f n
theorem sumI_rng {f : Int → Int} {c : Int} : ∀ (n : Nat), (∀ i : Int, 0 ≤ i → i < n → 0 ≤ f i ∧ f i ≤ c) → 0 ≤ sumI f n ∧ sumI f n ≤ n * c
  | 0, _ => by simp [sumI]
  | n + 1, h => by
    have ih := sumI_rng n (fun i h0 h1 => h i h0 (by omega))
    have := h n (by omega) (by omega)
    unfold sumI
    have e : ((n + 1 : Nat) : Int) * c = n * c + c := by rw [Int.natCast_add, Int.add_mul]; simp
    omega
theorem sumI_congr {f g : Int → Int} : ∀ (n : Nat), (∀ i : Int, 0 ≤ i → i < n → f i = g i) → sumI f n = sumI g n
  | 0, _ => rfl
  | n + 1, h => by
    unfold sumI
    rw [sumI_congr n (fun i h0 h1 => h i h0 (by omega)), h n (by omega) (by omega)]
def spX5_has (As : List MV) (σ : MS) (K : Option MV → MS → Prop) : Prop := pR As fun a r => pI r fun s r => pN r (a = 3 ∧ σ.2.1 = PF ∧ RI s ∧ 0 ≤ σ.2.2.1 3 1 ∧ σ.2.2.1 3 1 ≤ 30 ∧ K (some (.inl (b2i (0 ≤ s ∧ s < σ.2.2.1 3 1)))) σ)
def ciX5_has : CI := (2, 5, 0, 0, spX5_has)
def kX5_has (pc : Nat) : List ME := match pc with
  | 0 => [(.iload_n 1, 1, []), (.ifCond .lt 21, 3, [22]), (.iload_n 1, 1, []), (.aload_n 0, 1, []), (.getfield 18, 3, []), (.if_icmp .ge 13, 3, [22]), (.iload_n 1, 1, []), (.bipush 30, 2, []), (.if_icmp .ge 7, 3, [22]), (.iconst 1, 1, []), (.goto 4, 3, [23])]
  | 22 => [(.iconst 0, 1, [])]
  | 23 => [(.ireturn, 1, [])]
  | _ => []
theorem qX5_has : ∀ pc, chk cX5_has pc (kX5_has pc) = true := by
  intro pc
  unfold kX5_has
  split <;> first | decide +kernel | exact chk_nil
abbrev rmX5_has : Room := { frames := 0, cells := 0, slots := 0, locals := 0 }
def aX5_has (_ : Nat) : Option CI := none
theorem aokX5_has : ∀ x ci, aX5_has x = some ci → CalOK RX5 rmX5_has x ci := fun _ _ h => by cases h
theorem mdX5_has : MD RX5 cX5_has rmX5_has kX5_has fX5 aX5_has zX5 uX5 := ⟨fokX5, zokX5, uokX5, aokX5_has, qX5_has⟩
set_option maxRecDepth 100000 in
set_option maxHeartbeats 800000 in
theorem mX5_has : MOK yX5_has cX5_has 2 (some .boolean) rmX5_has ciX5_has := by
  refine mok_of (ini := false) (by decide +kernel) (by decide) rfl rfl ?_
  intro σ As K hrc hl h
  obtain ⟨N, P, I, L⟩ := σ
  have h9 := pR_iff.mp h
  clear h
  obtain ⟨a, r, e9, h⟩ := h9
  subst e9
  have h9 := pI_iff.mp h
  clear h
  obtain ⟨s, r, e9, h⟩ := h9
  subst e9
  have h9 := pN_iff.mp h
  clear h
  obtain ⟨e9, h⟩ := h9
  subst e9
  dsimp only at h
  obtain ⟨rfl, rfl, hr, s0, s1, h⟩ := h
  obtain ⟨h0, h1⟩ := b2i_split (F := fun z => K (some (.inl z)) (N, PF, I, L)) h
  unfold RI at hr
  refine ⟨Nat.le_of_ble_eq_true rfl, Ok.seg mdX5_has [] 40 ?_⟩
  simp only [wp_nil, wp_cons, ↓stp, ↓lI, ↓lL, ↓lR, ↓lIn_0, ↓lIn_1, ↓lIn_2, ↓lIn_3, ↓lLn_0, ↓lLn_1, ↓lLn_2, ↓lLn_3, ↓lRn_0, ↓lRn_1, ↓lRn_2, ↓lRn_3, ↓pI, ↓pL, ↓pR, ↓pA, ↓pN, ↓pV, ↓fp, ↓tsw, ↓oS, ↓spMax, ↓spMin, ↓spAbs, ↓spObj, RI, RLg, b2i_lo, b2i_hi, getL, setL, ltL, killL, isLong, inl, cnd, br, tgt, rcv, rpl, mputI, mputL, mputP, fv, fr, mcat, mcs, entL, entA, rfit, nf_0, nf_1, nf_2, nf_3, nf2_0, nf2_1, b2i_0, b2i_1, RI_b2i, b2i_fit, List.append, List.length, List.replicate, List.cons_append, List.nil_append, List.length_cons, List.length_nil, List.replicate_succ, List.replicate_zero, List.tail_cons, reduceIte, if_true, if_false, ite_true, ite_false, Bool.false_eq_true, true_and, and_true, and_self, false_and, and_false, or_self, or_true, true_or, or_false, false_or, not_true_eq_false, not_false_eq_true, ne_eq, forall_const, implies_true, imp_self, true_implies, false_implies, Nat.reduceAdd, Nat.reduceSub, Nat.reduceMul, Nat.reduceDiv, Nat.reduceMod, Nat.reduceEqDiff, Nat.reduceLT, Nat.reduceLeDiff, Nat.reduceBEq, Nat.add_zero, Nat.zero_add, Nat.le_refl, Nat.not_lt_zero, Nat.succ_eq_add_one, Int.reduceNatCast, Int.cast_ofNat_Int, Int.reduceSub, Int.reduceMul, Int.reduceNeg, Int.reduceLE, Int.reduceLT, Int.reduceToNat, Int.reduceEq, Int.reduceNe, Int.reduceAdd, Option.some.injEq, kX5_has, rmX5_has, ↓ofX5_18, G_1, G_2, G_3, G_4, G_35, G_36, G_37, G_38, G_39, G_40, G_41, G_42, G_43, G_44, G_45, G_46, G_47, G_48, G_49, G_140, G_141, G_142, G_143, G_144, G_145, G_146, G_178, G_179, G_180, G_181, G_182, G_183, G_184, G_189, G_198, G_207, PF_1_0, PF_1_1, PF_1_2, PF_1_3, PF_2_0, PF_2_1, PF_2_3, PF_2_4, PF_2_5, PF_2_6, PF_2_7, PF_2_8, PF_2_9, PF_2_10, PF_2_11, PF_3_0, PF_35_0, PF_35_1, PF_35_2, PF_35_3, PF_40_0, PF_40_1, PF_40_2, PF_44_0, PF_44_1, PF_44_2, PF_145_0, PF_145_1, PF_179_0, PF_179_1, PF_179_2, PF_179_3, PF_179_8, PF_179_9, PF_179_10]
  repeat' (first | apply And.intro | intro _)
  all_goals first | omega | exact h0 (by omega) | exact h1 (by omega)
def spX5_add (As : List MV) (σ : MS) (K : Option MV → MS → Prop) : Prop := pR As fun a r => pI r fun t r => pI r fun n r => pI r fun b r => pN r (a = 3 ∧ σ.2.1 = PF ∧ 0 ≤ t ∧ t ≤ 1000 ∧ 0 ≤ σ.2.2.1 3 1 ∧ σ.2.2.1 3 1 < 30 ∧
  ∀ I' : Int → Int → Int, (∀ c j, c ≠ 5 + σ.2.2.1 3 1 → ¬ (c = 3 ∧ j = 1) → I' c j = σ.2.2.1 c j) → I' (5 + σ.2.2.1 3 1) 0 = t / 10 → I' (5 + σ.2.2.1 3 1) 1 = n → I' (5 + σ.2.2.1 3 1) 2 = b → I' (5 + σ.2.2.1 3 1) 3 = t % 10 → I' (5 + σ.2.2.1 3 1) 4 = 0 → I' 3 1 = σ.2.2.1 3 1 + 1 → K none (σ.1, σ.2.1, I', σ.2.2.2))
def ciX5_add : CI := (4, 5, 0, 0, spX5_add)
def kX5_add (pc : Nat) : List ME := match pc with
  | 0 => [(.aload_n 0, 1, []), (.getfield 18, 3, []), (.bipush 30, 2, []), (.if_icmp .ge 60, 3, [66]), (.aload_n 0, 1, []), (.getfield 11, 3, []), (.aload_n 0, 1, []), (.getfield 18, 3, []), (.aaload, 1, []), (.astore 4, 2, []), (.aload 4, 2, []), (.iload_n 1, 1, []), (.bipush 10, 2, []), (.idiv, 1, []), (.putfield 22, 3, []), (.aload 4, 2, []), (.iload_n 1, 1, []), (.bipush 10, 2, []), (.irem, 1, []), (.putfield 25, 3, []), (.aload 4, 2, []), (.iload_n 2, 1, []), (.putfield 28, 3, []), (.aload 4, 2, []), (.iload_n 3, 1, []), (.putfield 31, 3, []), (.aload 4, 2, []), (.iconst 0, 1, []), (.putfield 34, 3, []), (.aload_n 0, 1, []), (.dup, 1, []), (.getfield 18, 3, []), (.iconst 1, 1, []), (.iadd, 1, []), (.putfield 18, 3, [])]
  | 66 => [(.return_, 1, [])]
  | _ => []
theorem qX5_add : ∀ pc, chk cX5_add pc (kX5_add pc) = true := by
  intro pc
  unfold kX5_add
  split <;> first | decide +kernel | exact chk_nil
abbrev rmX5_add : Room := { frames := 0, cells := 0, slots := 0, locals := 0 }
def aX5_add (_ : Nat) : Option CI := none
theorem aokX5_add : ∀ x ci, aX5_add x = some ci → CalOK RX5 rmX5_add x ci := fun _ _ h => by cases h
theorem mdX5_add : MD RX5 cX5_add rmX5_add kX5_add fX5 aX5_add zX5 uX5 := ⟨fokX5, zokX5, uokX5, aokX5_add, qX5_add⟩
theorem upI_same {I : Int → Int → Int} {a i v : Int} : upI I a i v a i = v := if_pos ⟨rfl, rfl⟩
theorem upI_nj {I : Int → Int → Int} {a i v b j : Int} (h : j ≠ i) : upI I a i v b j = I b j := if_neg (fun z => h z.2)
set_option maxRecDepth 100000 in
set_option maxHeartbeats 800000 in
theorem mX5_add : MOK yX5_add cX5_add 5 none rmX5_add ciX5_add := by
  refine mok_of (ini := false) (by decide +kernel) (by decide) rfl rfl ?_
  intro σ As K hrc hl h
  obtain ⟨N, P, I, L⟩ := σ
  have h9 := pR_iff.mp h
  clear h
  obtain ⟨a, r, e9, h⟩ := h9
  subst e9
  have h9 := pI_iff.mp h
  clear h
  obtain ⟨t, r, e9, h⟩ := h9
  subst e9
  have h9 := pI_iff.mp h
  clear h
  obtain ⟨n, r, e9, h⟩ := h9
  subst e9
  have h9 := pI_iff.mp h
  clear h
  obtain ⟨b, r, e9, h⟩ := h9
  subst e9
  have h9 := pN_iff.mp h
  clear h
  obtain ⟨e9, h⟩ := h9
  subst e9
  dsimp only at h
  obtain ⟨rfl, rfl, t0, t1, s0, s1, h⟩ := h
  have hp := PF_st s0 s1
  have hg := G_st (a := 5 + I 3 1) (by omega) (by omega)
  have hne : (3 : Int) ≠ 5 + I 3 1 := by omega
  refine ⟨Nat.le_of_ble_eq_true rfl, Ok.seg mdX5_add [] 60 ?_⟩
  simp only [wp_nil, wp_cons, ↓stp, ↓lI, ↓lL, ↓lR, ↓lIn_0, ↓lIn_1, ↓lIn_2, ↓lIn_3, ↓lLn_0, ↓lLn_1, ↓lLn_2, ↓lLn_3, ↓lRn_0, ↓lRn_1, ↓lRn_2, ↓lRn_3, ↓pI, ↓pL, ↓pR, ↓pA, ↓pN, ↓pV, ↓fp, ↓tsw, ↓oS, ↓spMax, ↓spMin, ↓spAbs, ↓spObj, RI, RLg, b2i_lo, b2i_hi, getL, setL, ltL, killL, isLong, inl, cnd, br, tgt, rcv, rpl, mputI, mputL, mputP, fv, fr, mcat, mcs, entL, entA, rfit, nf_0, nf_1, nf_2, nf_3, nf2_0, nf2_1, b2i_0, b2i_1, RI_b2i, b2i_fit, List.append, List.length, List.replicate, List.cons_append, List.nil_append, List.length_cons, List.length_nil, List.replicate_succ, List.replicate_zero, List.tail_cons, reduceIte, if_true, if_false, ite_true, ite_false, Bool.false_eq_true, true_and, and_true, and_self, false_and, and_false, or_self, or_true, true_or, or_false, false_or, not_true_eq_false, not_false_eq_true, ne_eq, forall_const, implies_true, imp_self, true_implies, false_implies, Nat.reduceAdd, Nat.reduceSub, Nat.reduceMul, Nat.reduceDiv, Nat.reduceMod, Nat.reduceEqDiff, Nat.reduceLT, Nat.reduceLeDiff, Nat.reduceBEq, Nat.add_zero, Nat.zero_add, Nat.le_refl, Nat.not_lt_zero, Nat.succ_eq_add_one, Int.reduceNatCast, Int.cast_ofNat_Int, Int.reduceSub, Int.reduceMul, Int.reduceNeg, Int.reduceLE, Int.reduceLT, Int.reduceToNat, Int.reduceEq, Int.reduceNe, Int.reduceAdd, Option.some.injEq, kX5_add, rmX5_add, ↓ofX5_11, ↓ofX5_18, ↓ofX5_22, ↓ofX5_25, ↓ofX5_28, ↓ofX5_31, ↓ofX5_34, hp, hg, upI_ne hne, G_1, G_2, G_3, G_4, G_35, G_36, G_37, G_38, G_39, G_40, G_41, G_42, G_43, G_44, G_45, G_46, G_47, G_48, G_49, G_140, G_141, G_142, G_143, G_144, G_145, G_146, G_178, G_179, G_180, G_181, G_182, G_183, G_184, G_189, G_198, G_207, PF_1_0, PF_1_1, PF_1_2, PF_1_3, PF_2_0, PF_2_1, PF_2_3, PF_2_4, PF_2_5, PF_2_6, PF_2_7, PF_2_8, PF_2_9, PF_2_10, PF_2_11, PF_3_0, PF_35_0, PF_35_1, PF_35_2, PF_35_3, PF_40_0, PF_40_1, PF_40_2, PF_44_0, PF_44_1, PF_44_2, PF_145_0, PF_145_1, PF_179_0, PF_179_1, PF_179_2, PF_179_3, PF_179_8, PF_179_9, PF_179_10]
  repeat' (first | apply And.intro | intro _)
  all_goals first | omega | refine h _ (fun c j c1 c2 => ?_) ?_ ?_ ?_ ?_ ?_ ?_
  all_goals try simp only [upI_same, upI_ne (Ne.symm hne), upI_nj (show (0 : Int) ≠ 1 by decide), upI_nj (show (0 : Int) ≠ 2 by decide), upI_nj (show (0 : Int) ≠ 3 by decide), upI_nj (show (0 : Int) ≠ 4 by decide), upI_nj (show (1 : Int) ≠ 0 by decide), upI_nj (show (1 : Int) ≠ 2 by decide), upI_nj (show (1 : Int) ≠ 3 by decide), upI_nj (show (1 : Int) ≠ 4 by decide), upI_nj (show (2 : Int) ≠ 3 by decide), upI_nj (show (2 : Int) ≠ 4 by decide), upI_nj (show (3 : Int) ≠ 4 by decide), upI_nj (show (3 : Int) ≠ 1 by decide), upI_nj (show (3 : Int) ≠ 2 by decide)]
  · unfold upI
    rw [if_neg c2, if_neg (fun z => c1 z.1), if_neg (fun z => c1 z.1), if_neg (fun z => c1 z.1), if_neg (fun z => c1 z.1), if_neg (fun z => c1 z.1)]
  · exact Int.tdiv_eq_ediv_of_nonneg t0
  · exact Int.tmod_eq_emod_of_nonneg t0
def spX5_dropLast (As : List MV) (σ : MS) (K : Option MV → MS → Prop) : Prop := pR As fun a r => pN r (a = 3 ∧ σ.2.1 = PF ∧ 0 < σ.2.2.1 3 1 ∧ σ.2.2.1 3 1 ≤ 30 ∧ K none (mputI σ 3 1 (σ.2.2.1 3 1 - 1)))
def ciX5_dropLast : CI := (1, 5, 0, 0, spX5_dropLast)
def kX5_dropLast (pc : Nat) : List ME := match pc with
  | 0 => [(.aload_n 0, 1, []), (.getfield 18, 3, []), (.ifCond .le 13, 3, [17]), (.aload_n 0, 1, []), (.dup, 1, []), (.getfield 18, 3, []), (.iconst 1, 1, []), (.isub, 1, []), (.putfield 18, 3, [])]
  | 17 => [(.return_, 1, [])]
  | _ => []
theorem qX5_dropLast : ∀ pc, chk cX5_dropLast pc (kX5_dropLast pc) = true := by
  intro pc
  unfold kX5_dropLast
  split <;> first | decide +kernel | exact chk_nil
abbrev rmX5_dropLast : Room := { frames := 0, cells := 0, slots := 0, locals := 0 }
def aX5_dropLast (_ : Nat) : Option CI := none
theorem aokX5_dropLast : ∀ x ci, aX5_dropLast x = some ci → CalOK RX5 rmX5_dropLast x ci := fun _ _ h => by cases h
theorem mdX5_dropLast : MD RX5 cX5_dropLast rmX5_dropLast kX5_dropLast fX5 aX5_dropLast zX5 uX5 := ⟨fokX5, zokX5, uokX5, aokX5_dropLast, qX5_dropLast⟩
set_option maxRecDepth 100000 in
set_option maxHeartbeats 800000 in
theorem mX5_dropLast : MOK yX5_dropLast cX5_dropLast 1 none rmX5_dropLast ciX5_dropLast := by
  refine mok_of (ini := false) (by decide +kernel) (by decide) rfl rfl ?_
  intro σ As K hrc hl h
  obtain ⟨N, P, I, L⟩ := σ
  have h9 := pR_iff.mp h
  clear h
  obtain ⟨a, r, e9, h⟩ := h9
  subst e9
  have h9 := pN_iff.mp h
  clear h
  obtain ⟨e9, h⟩ := h9
  subst e9
  dsimp only at h
  obtain ⟨rfl, rfl, s0, s1, h⟩ := h
  refine ⟨Nat.le_of_ble_eq_true rfl, Ok.seg mdX5_dropLast [] 40 ?_⟩
  simp only [wp_nil, wp_cons, ↓stp, ↓lI, ↓lL, ↓lR, ↓lIn_0, ↓lIn_1, ↓lIn_2, ↓lIn_3, ↓lLn_0, ↓lLn_1, ↓lLn_2, ↓lLn_3, ↓lRn_0, ↓lRn_1, ↓lRn_2, ↓lRn_3, ↓pI, ↓pL, ↓pR, ↓pA, ↓pN, ↓pV, ↓fp, ↓tsw, ↓oS, ↓spMax, ↓spMin, ↓spAbs, ↓spObj, RI, RLg, b2i_lo, b2i_hi, getL, setL, ltL, killL, isLong, inl, cnd, br, tgt, rcv, rpl, mputI, mputL, mputP, fv, fr, mcat, mcs, entL, entA, rfit, nf_0, nf_1, nf_2, nf_3, nf2_0, nf2_1, b2i_0, b2i_1, RI_b2i, b2i_fit, List.append, List.length, List.replicate, List.cons_append, List.nil_append, List.length_cons, List.length_nil, List.replicate_succ, List.replicate_zero, List.tail_cons, reduceIte, if_true, if_false, ite_true, ite_false, Bool.false_eq_true, true_and, and_true, and_self, false_and, and_false, or_self, or_true, true_or, or_false, false_or, not_true_eq_false, not_false_eq_true, ne_eq, forall_const, implies_true, imp_self, true_implies, false_implies, Nat.reduceAdd, Nat.reduceSub, Nat.reduceMul, Nat.reduceDiv, Nat.reduceMod, Nat.reduceEqDiff, Nat.reduceLT, Nat.reduceLeDiff, Nat.reduceBEq, Nat.add_zero, Nat.zero_add, Nat.le_refl, Nat.not_lt_zero, Nat.succ_eq_add_one, Int.reduceNatCast, Int.cast_ofNat_Int, Int.reduceSub, Int.reduceMul, Int.reduceNeg, Int.reduceLE, Int.reduceLT, Int.reduceToNat, Int.reduceEq, Int.reduceNe, Int.reduceAdd, Option.some.injEq, kX5_dropLast, rmX5_dropLast, ↓ofX5_18, G_1, G_2, G_3, G_4, G_35, G_36, G_37, G_38, G_39, G_40, G_41, G_42, G_43, G_44, G_45, G_46, G_47, G_48, G_49, G_140, G_141, G_142, G_143, G_144, G_145, G_146, G_178, G_179, G_180, G_181, G_182, G_183, G_184, G_189, G_198, G_207, PF_1_0, PF_1_1, PF_1_2, PF_1_3, PF_2_0, PF_2_1, PF_2_3, PF_2_4, PF_2_5, PF_2_6, PF_2_7, PF_2_8, PF_2_9, PF_2_10, PF_2_11, PF_3_0, PF_35_0, PF_35_1, PF_35_2, PF_35_3, PF_40_0, PF_40_1, PF_40_2, PF_44_0, PF_44_1, PF_44_2, PF_145_0, PF_145_1, PF_179_0, PF_179_1, PF_179_2, PF_179_3, PF_179_8, PF_179_9, PF_179_10]
  repeat' (first | apply And.intro | intro _)
  all_goals first | omega | exact h
def spX5_lengths (As : List MV) (σ : MS) (K : Option MV → MS → Prop) : Prop := pR As fun a r => pN r (a = 3 ∧ σ.2.1 = PF ∧ tOK σ.2.2.1 ∧ K (some (.inl (sumI (fun i => σ.2.2.1 (5 + i) 1) (σ.2.2.1 3 1).toNat))) σ)
def ciX5_lengths : CI := (1, 5, 0, 0, spX5_lengths)
def kX5_lengths (pc : Nat) : List ME := match pc with
  | 0 => [(.iconst 0, 1, []), (.istore_n 1, 1, []), (.iconst 0, 1, []), (.istore_n 2, 1, [])]
  | 4 => [(.iload_n 2, 1, []), (.aload_n 0, 1, []), (.getfield 18, 3, []), (.if_icmp .ge 21, 3, [30]), (.iload_n 1, 1, []), (.aload_n 0, 1, []), (.getfield 11, 3, []), (.iload_n 2, 1, []), (.aaload, 1, []), (.getfield 28, 3, []), (.iadd, 1, []), (.istore_n 1, 1, []), (.iinc 2 1, 3, []), (.goto (-23), 3, [4])]
  | 30 => [(.iload_n 1, 1, []), (.ireturn, 1, [])]
  | _ => []
theorem qX5_lengths : ∀ pc, chk cX5_lengths pc (kX5_lengths pc) = true := by
  intro pc
  unfold kX5_lengths
  split <;> first | decide +kernel | exact chk_nil
abbrev rmX5_lengths : Room := { frames := 0, cells := 0, slots := 0, locals := 0 }
def aX5_lengths (_ : Nat) : Option CI := none
theorem aokX5_lengths : ∀ x ci, aX5_lengths x = some ci → CalOK RX5 rmX5_lengths x ci := fun _ _ h => by cases h
theorem mdX5_lengths : MD RX5 cX5_lengths rmX5_lengths kX5_lengths fX5 aX5_lengths zX5 uX5 := ⟨fokX5, zokX5, uokX5, aokX5_lengths, qX5_lengths⟩
set_option maxHeartbeats 800000 in
theorem lpX5_len {K : Option MV → MS → Prop} {U : Pt → Prop} {N : Nat} {I L : Int → Int → Int} (ht : tOK I) (h : K (some (.inl (sumI (fun i => I (5 + i) 1) (I 3 1).toNat))) (N, PF, I, L)) : ∀ (m i : Nat), (i : Int) + m = I 3 1 →
    Ok RX5 cX5_lengths 3 rmX5_lengths false none (fun r σ' => rfit (some .int) r ∧ K r σ') U (4, [some (.inr (.inr (some 3))), some (.inl (sumI (fun i => I (5 + i) 1) i)), some (.inl i)], [], (N, PF, I, L), 0, 0)
  | 0, i, hi => by
    obtain ⟨s0, s1, hs⟩ := ht
    refine Ok.seg mdX5_lengths [4] 20 ?_
    simp only [wp_nil, wp_cons, ↓stp, ↓lI, ↓lL, ↓lR, ↓lIn_0, ↓lIn_1, ↓lIn_2, ↓lIn_3, ↓lLn_0, ↓lLn_1, ↓lLn_2, ↓lLn_3, ↓lRn_0, ↓lRn_1, ↓lRn_2, ↓lRn_3, ↓pI, ↓pL, ↓pR, ↓pA, ↓pN, ↓pV, ↓fp, ↓tsw, ↓oS, ↓spMax, ↓spMin, ↓spAbs, ↓spObj, RI, RLg, b2i_lo, b2i_hi, getL, setL, ltL, killL, isLong, inl, cnd, br, tgt, rcv, rpl, mputI, mputL, mputP, fv, fr, mcat, mcs, entL, entA, rfit, nf_0, nf_1, nf_2, nf_3, nf2_0, nf2_1, b2i_0, b2i_1, RI_b2i, b2i_fit, List.append, List.length, List.replicate, List.cons_append, List.nil_append, List.length_cons, List.length_nil, List.replicate_succ, List.replicate_zero, List.tail_cons, reduceIte, if_true, if_false, ite_true, ite_false, Bool.false_eq_true, true_and, and_true, and_self, false_and, and_false, or_self, or_true, true_or, or_false, false_or, not_true_eq_false, not_false_eq_true, ne_eq, forall_const, implies_true, imp_self, true_implies, false_implies, Nat.reduceAdd, Nat.reduceSub, Nat.reduceMul, Nat.reduceDiv, Nat.reduceMod, Nat.reduceEqDiff, Nat.reduceLT, Nat.reduceLeDiff, Nat.reduceBEq, Nat.add_zero, Nat.zero_add, Nat.le_refl, Nat.not_lt_zero, Nat.succ_eq_add_one, Int.reduceNatCast, Int.cast_ofNat_Int, Int.reduceSub, Int.reduceMul, Int.reduceNeg, Int.reduceLE, Int.reduceLT, Int.reduceToNat, Int.reduceEq, Int.reduceNe, Int.reduceAdd, Option.some.injEq, kX5_lengths, rmX5_lengths, ↓ofX5_11, ↓ofX5_18, ↓ofX5_28, G_1, G_2, G_3, G_4, G_35, G_36, G_37, G_38, G_39, G_40, G_41, G_42, G_43, G_44, G_45, G_46, G_47, G_48, G_49, G_140, G_141, G_142, G_143, G_144, G_145, G_146, G_178, G_179, G_180, G_181, G_182, G_183, G_184, G_189, G_198, G_207, PF_1_0, PF_1_1, PF_1_2, PF_1_3, PF_2_0, PF_2_1, PF_2_3, PF_2_4, PF_2_5, PF_2_6, PF_2_7, PF_2_8, PF_2_9, PF_2_10, PF_2_11, PF_3_0, PF_35_0, PF_35_1, PF_35_2, PF_35_3, PF_40_0, PF_40_1, PF_40_2, PF_44_0, PF_44_1, PF_44_2, PF_145_0, PF_145_1, PF_179_0, PF_179_1, PF_179_2, PF_179_3, PF_179_8, PF_179_9, PF_179_10]
    have e : (I 3 1).toNat = i := by omega
    rw [e] at h
    repeat' (first | apply And.intro | intro _)
    all_goals first | omega | exact h
  | m + 1, i, hi => by
    have ih := lpX5_len (U := U) ht h m (i + 1) (by omega)
    obtain ⟨s0, s1, hs⟩ := ht
    have hp := PF_st (i := (i : Int)) (by omega) (by omega)
    have hg := G_st (a := 5 + (i : Int)) (by omega) (by omega)
    refine Ok.seg mdX5_lengths [4] 30 ?_
    simp only [wp_nil, wp_cons, ↓stp, ↓lI, ↓lL, ↓lR, ↓lIn_0, ↓lIn_1, ↓lIn_2, ↓lIn_3, ↓lLn_0, ↓lLn_1, ↓lLn_2, ↓lLn_3, ↓lRn_0, ↓lRn_1, ↓lRn_2, ↓lRn_3, ↓pI, ↓pL, ↓pR, ↓pA, ↓pN, ↓pV, ↓fp, ↓tsw, ↓oS, ↓spMax, ↓spMin, ↓spAbs, ↓spObj, RI, RLg, b2i_lo, b2i_hi, getL, setL, ltL, killL, isLong, inl, cnd, br, tgt, rcv, rpl, mputI, mputL, mputP, fv, fr, mcat, mcs, entL, entA, rfit, nf_0, nf_1, nf_2, nf_3, nf2_0, nf2_1, b2i_0, b2i_1, RI_b2i, b2i_fit, List.append, List.length, List.replicate, List.cons_append, List.nil_append, List.length_cons, List.length_nil, List.replicate_succ, List.replicate_zero, List.tail_cons, reduceIte, if_true, if_false, ite_true, ite_false, Bool.false_eq_true, true_and, and_true, and_self, false_and, and_false, or_self, or_true, true_or, or_false, false_or, not_true_eq_false, not_false_eq_true, ne_eq, forall_const, implies_true, imp_self, true_implies, false_implies, Nat.reduceAdd, Nat.reduceSub, Nat.reduceMul, Nat.reduceDiv, Nat.reduceMod, Nat.reduceEqDiff, Nat.reduceLT, Nat.reduceLeDiff, Nat.reduceBEq, Nat.add_zero, Nat.zero_add, Nat.le_refl, Nat.not_lt_zero, Nat.succ_eq_add_one, Int.reduceNatCast, Int.cast_ofNat_Int, Int.reduceSub, Int.reduceMul, Int.reduceNeg, Int.reduceLE, Int.reduceLT, Int.reduceToNat, Int.reduceEq, Int.reduceNe, Int.reduceAdd, Option.some.injEq, kX5_lengths, rmX5_lengths, ↓ofX5_11, ↓ofX5_18, ↓ofX5_28, hp, hg, G_1, G_2, G_3, G_4, G_35, G_36, G_37, G_38, G_39, G_40, G_41, G_42, G_43, G_44, G_45, G_46, G_47, G_48, G_49, G_140, G_141, G_142, G_143, G_144, G_145, G_146, G_178, G_179, G_180, G_181, G_182, G_183, G_184, G_189, G_198, G_207, PF_1_0, PF_1_1, PF_1_2, PF_1_3, PF_2_0, PF_2_1, PF_2_3, PF_2_4, PF_2_5, PF_2_6, PF_2_7, PF_2_8, PF_2_9, PF_2_10, PF_2_11, PF_3_0, PF_35_0, PF_35_1, PF_35_2, PF_35_3, PF_40_0, PF_40_1, PF_40_2, PF_44_0, PF_44_1, PF_44_2, PF_145_0, PF_145_1, PF_179_0, PF_179_1, PF_179_2, PF_179_3, PF_179_8, PF_179_9, PF_179_10]
    repeat' (first | apply And.intro | intro _)
    all_goals first | omega | exact ih
set_option maxRecDepth 100000 in
set_option maxHeartbeats 800000 in
theorem mX5_lengths : MOK yX5_lengths cX5_lengths 3 (some .int) rmX5_lengths ciX5_lengths := by
  refine mok_of (ini := false) (by decide +kernel) (by decide) rfl rfl ?_
  intro σ As K hrc hl h
  obtain ⟨N, P, I, L⟩ := σ
  have h9 := pR_iff.mp h
  clear h
  obtain ⟨a, r, e9, h⟩ := h9
  subst e9
  have h9 := pN_iff.mp h
  clear h
  obtain ⟨e9, h⟩ := h9
  subst e9
  dsimp only at h
  obtain ⟨rfl, rfl, ht, h⟩ := h
  refine ⟨Nat.le_of_ble_eq_true rfl, Ok.seg mdX5_lengths [4] 20 ?_⟩
  simp only [wp_nil, wp_cons, ↓stp, ↓lI, ↓lL, ↓lR, ↓lIn_0, ↓lIn_1, ↓lIn_2, ↓lIn_3, ↓lLn_0, ↓lLn_1, ↓lLn_2, ↓lLn_3, ↓lRn_0, ↓lRn_1, ↓lRn_2, ↓lRn_3, ↓pI, ↓pL, ↓pR, ↓pA, ↓pN, ↓pV, ↓fp, ↓tsw, ↓oS, ↓spMax, ↓spMin, ↓spAbs, ↓spObj, RI, RLg, b2i_lo, b2i_hi, getL, setL, ltL, killL, isLong, inl, cnd, br, tgt, rcv, rpl, mputI, mputL, mputP, fv, fr, mcat, mcs, entL, entA, rfit, nf_0, nf_1, nf_2, nf_3, nf2_0, nf2_1, b2i_0, b2i_1, RI_b2i, b2i_fit, List.append, List.length, List.replicate, List.cons_append, List.nil_append, List.length_cons, List.length_nil, List.replicate_succ, List.replicate_zero, List.tail_cons, reduceIte, if_true, if_false, ite_true, ite_false, Bool.false_eq_true, true_and, and_true, and_self, false_and, and_false, or_self, or_true, true_or, or_false, false_or, not_true_eq_false, not_false_eq_true, ne_eq, forall_const, implies_true, imp_self, true_implies, false_implies, Nat.reduceAdd, Nat.reduceSub, Nat.reduceMul, Nat.reduceDiv, Nat.reduceMod, Nat.reduceEqDiff, Nat.reduceLT, Nat.reduceLeDiff, Nat.reduceBEq, Nat.add_zero, Nat.zero_add, Nat.le_refl, Nat.not_lt_zero, Nat.succ_eq_add_one, Int.reduceNatCast, Int.cast_ofNat_Int, Int.reduceSub, Int.reduceMul, Int.reduceNeg, Int.reduceLE, Int.reduceLT, Int.reduceToNat, Int.reduceEq, Int.reduceNe, Int.reduceAdd, Option.some.injEq, kX5_lengths, rmX5_lengths, ↓ofX5_11, ↓ofX5_18, ↓ofX5_28]
  exact lpX5_len ht h (I 3 1).toNat 0 (by have := ht.1; omega)
def spX5_timesTold (As : List MV) (σ : MS) (K : Option MV → MS → Prop) : Prop := pR As fun a r => pN r (a = 3 ∧ σ.2.1 = PF ∧ tOK σ.2.2.1 ∧ K (some (.inl (sumI (fun i => if 0 < σ.2.2.1 (5 + i) 4 then 1 else 0) (σ.2.2.1 3 1).toNat))) σ)
def ciX5_timesTold : CI := (1, 5, 0, 0, spX5_timesTold)
def kX5_timesTold (pc : Nat) : List ME := match pc with
  | 0 => [(.iconst 0, 1, []), (.istore_n 1, 1, []), (.iconst 0, 1, []), (.istore_n 2, 1, [])]
  | 4 => [(.iload_n 2, 1, []), (.aload_n 0, 1, []), (.getfield 18, 3, []), (.if_icmp .ge 24, 3, [33]), (.aload_n 0, 1, []), (.getfield 11, 3, []), (.iload_n 2, 1, []), (.aaload, 1, []), (.getfield 34, 3, []), (.ifCond .le 6, 3, [27]), (.iinc 1 1, 3, [])]
  | 27 => [(.iinc 2 1, 3, []), (.goto (-26), 3, [4])]
  | 33 => [(.iload_n 1, 1, []), (.ireturn, 1, [])]
  | _ => []
theorem qX5_timesTold : ∀ pc, chk cX5_timesTold pc (kX5_timesTold pc) = true := by
  intro pc
  unfold kX5_timesTold
  split <;> first | decide +kernel | exact chk_nil
abbrev rmX5_timesTold : Room := { frames := 0, cells := 0, slots := 0, locals := 0 }
def aX5_timesTold (_ : Nat) : Option CI := none
theorem aokX5_timesTold : ∀ x ci, aX5_timesTold x = some ci → CalOK RX5 rmX5_timesTold x ci := fun _ _ h => by cases h
theorem mdX5_timesTold : MD RX5 cX5_timesTold rmX5_timesTold kX5_timesTold fX5 aX5_timesTold zX5 uX5 := ⟨fokX5, zokX5, uokX5, aokX5_timesTold, qX5_timesTold⟩
set_option maxHeartbeats 800000 in
theorem lpX5_told {K : Option MV → MS → Prop} {U : Pt → Prop} {N : Nat} {I L : Int → Int → Int} (ht : tOK I) (h : K (some (.inl (sumI (fun i => if 0 < I (5 + i) 4 then 1 else 0) (I 3 1).toNat))) (N, PF, I, L)) : ∀ (m i : Nat), (i : Int) + m = I 3 1 →
    Ok RX5 cX5_timesTold 3 rmX5_timesTold false none (fun r σ' => rfit (some .int) r ∧ K r σ') U (4, [some (.inr (.inr (some 3))), some (.inl (sumI (fun i => if 0 < I (5 + i) 4 then 1 else 0) i)), some (.inl i)], [], (N, PF, I, L), 0, 0)
  | 0, i, hi => by
    obtain ⟨s0, s1, hs⟩ := ht
    refine Ok.seg mdX5_timesTold [4] 20 ?_
    simp only [wp_nil, wp_cons, ↓stp, ↓lI, ↓lL, ↓lR, ↓lIn_0, ↓lIn_1, ↓lIn_2, ↓lIn_3, ↓lLn_0, ↓lLn_1, ↓lLn_2, ↓lLn_3, ↓lRn_0, ↓lRn_1, ↓lRn_2, ↓lRn_3, ↓pI, ↓pL, ↓pR, ↓pA, ↓pN, ↓pV, ↓fp, ↓tsw, ↓oS, ↓spMax, ↓spMin, ↓spAbs, ↓spObj, RI, RLg, b2i_lo, b2i_hi, getL, setL, ltL, killL, isLong, inl, cnd, br, tgt, rcv, rpl, mputI, mputL, mputP, fv, fr, mcat, mcs, entL, entA, rfit, nf_0, nf_1, nf_2, nf_3, nf2_0, nf2_1, b2i_0, b2i_1, RI_b2i, b2i_fit, List.append, List.length, List.replicate, List.cons_append, List.nil_append, List.length_cons, List.length_nil, List.replicate_succ, List.replicate_zero, List.tail_cons, reduceIte, if_true, if_false, ite_true, ite_false, Bool.false_eq_true, true_and, and_true, and_self, false_and, and_false, or_self, or_true, true_or, or_false, false_or, not_true_eq_false, not_false_eq_true, ne_eq, forall_const, implies_true, imp_self, true_implies, false_implies, Nat.reduceAdd, Nat.reduceSub, Nat.reduceMul, Nat.reduceDiv, Nat.reduceMod, Nat.reduceEqDiff, Nat.reduceLT, Nat.reduceLeDiff, Nat.reduceBEq, Nat.add_zero, Nat.zero_add, Nat.le_refl, Nat.not_lt_zero, Nat.succ_eq_add_one, Int.reduceNatCast, Int.cast_ofNat_Int, Int.reduceSub, Int.reduceMul, Int.reduceNeg, Int.reduceLE, Int.reduceLT, Int.reduceToNat, Int.reduceEq, Int.reduceNe, Int.reduceAdd, Option.some.injEq, kX5_timesTold, rmX5_timesTold, ↓ofX5_11, ↓ofX5_18, ↓ofX5_34, G_1, G_2, G_3, G_4, G_35, G_36, G_37, G_38, G_39, G_40, G_41, G_42, G_43, G_44, G_45, G_46, G_47, G_48, G_49, G_140, G_141, G_142, G_143, G_144, G_145, G_146, G_178, G_179, G_180, G_181, G_182, G_183, G_184, G_189, G_198, G_207, PF_1_0, PF_1_1, PF_1_2, PF_1_3, PF_2_0, PF_2_1, PF_2_3, PF_2_4, PF_2_5, PF_2_6, PF_2_7, PF_2_8, PF_2_9, PF_2_10, PF_2_11, PF_3_0, PF_35_0, PF_35_1, PF_35_2, PF_35_3, PF_40_0, PF_40_1, PF_40_2, PF_44_0, PF_44_1, PF_44_2, PF_145_0, PF_145_1, PF_179_0, PF_179_1, PF_179_2, PF_179_3, PF_179_8, PF_179_9, PF_179_10]
    have e : (I 3 1).toNat = i := by omega
    rw [e] at h
    repeat' (first | apply And.intro | intro _)
    all_goals first | omega | exact h
  | m + 1, i, hi => by
    have ih := lpX5_told (U := U) ht h m (i + 1) (by omega)
    obtain ⟨s0, s1, hs⟩ := ht
    have hp := PF_st (i := (i : Int)) (by omega) (by omega)
    have hg := G_st (a := 5 + (i : Int)) (by omega) (by omega)
    have hso := hs i (by omega) (by omega)
    unfold stOK at hso
    have e : sumI (fun i => if 0 < I (5 + i) 4 then 1 else 0) (i + 1) = sumI (fun i => if 0 < I (5 + i) 4 then 1 else 0) i + (if 0 < I (5 + i) 4 then 1 else 0) := rfl
    rw [e] at ih
    refine Ok.seg mdX5_timesTold [4] 30 ?_
    simp only [wp_nil, wp_cons, ↓stp, ↓lI, ↓lL, ↓lR, ↓lIn_0, ↓lIn_1, ↓lIn_2, ↓lIn_3, ↓lLn_0, ↓lLn_1, ↓lLn_2, ↓lLn_3, ↓lRn_0, ↓lRn_1, ↓lRn_2, ↓lRn_3, ↓pI, ↓pL, ↓pR, ↓pA, ↓pN, ↓pV, ↓fp, ↓tsw, ↓oS, ↓spMax, ↓spMin, ↓spAbs, ↓spObj, RI, RLg, b2i_lo, b2i_hi, getL, setL, ltL, killL, isLong, inl, cnd, br, tgt, rcv, rpl, mputI, mputL, mputP, fv, fr, mcat, mcs, entL, entA, rfit, nf_0, nf_1, nf_2, nf_3, nf2_0, nf2_1, b2i_0, b2i_1, RI_b2i, b2i_fit, List.append, List.length, List.replicate, List.cons_append, List.nil_append, List.length_cons, List.length_nil, List.replicate_succ, List.replicate_zero, List.tail_cons, reduceIte, if_true, if_false, ite_true, ite_false, Bool.false_eq_true, true_and, and_true, and_self, false_and, and_false, or_self, or_true, true_or, or_false, false_or, not_true_eq_false, not_false_eq_true, ne_eq, forall_const, implies_true, imp_self, true_implies, false_implies, Nat.reduceAdd, Nat.reduceSub, Nat.reduceMul, Nat.reduceDiv, Nat.reduceMod, Nat.reduceEqDiff, Nat.reduceLT, Nat.reduceLeDiff, Nat.reduceBEq, Nat.add_zero, Nat.zero_add, Nat.le_refl, Nat.not_lt_zero, Nat.succ_eq_add_one, Int.reduceNatCast, Int.cast_ofNat_Int, Int.reduceSub, Int.reduceMul, Int.reduceNeg, Int.reduceLE, Int.reduceLT, Int.reduceToNat, Int.reduceEq, Int.reduceNe, Int.reduceAdd, Option.some.injEq, kX5_timesTold, rmX5_timesTold, ↓ofX5_11, ↓ofX5_18, ↓ofX5_34, hp, hg, G_1, G_2, G_3, G_4, G_35, G_36, G_37, G_38, G_39, G_40, G_41, G_42, G_43, G_44, G_45, G_46, G_47, G_48, G_49, G_140, G_141, G_142, G_143, G_144, G_145, G_146, G_178, G_179, G_180, G_181, G_182, G_183, G_184, G_189, G_198, G_207, PF_1_0, PF_1_1, PF_1_2, PF_1_3, PF_2_0, PF_2_1, PF_2_3, PF_2_4, PF_2_5, PF_2_6, PF_2_7, PF_2_8, PF_2_9, PF_2_10, PF_2_11, PF_3_0, PF_35_0, PF_35_1, PF_35_2, PF_35_3, PF_40_0, PF_40_1, PF_40_2, PF_44_0, PF_44_1, PF_44_2, PF_145_0, PF_145_1, PF_179_0, PF_179_1, PF_179_2, PF_179_3, PF_179_8, PF_179_9, PF_179_10]
    refine ⟨by omega, by omega, fun _ => by omega, fun _ => ⟨by omega, by omega, by omega, fun q => ?_, fun q => ?_⟩⟩
    · rw [if_neg (by omega), Int.add_zero] at ih; exact ih
    · rw [if_pos (by omega)] at ih; exact ih
set_option maxRecDepth 100000 in
set_option maxHeartbeats 800000 in
theorem mX5_timesTold : MOK yX5_timesTold cX5_timesTold 3 (some .int) rmX5_timesTold ciX5_timesTold := by
  refine mok_of (ini := false) (by decide +kernel) (by decide) rfl rfl ?_
  intro σ As K hrc hl h
  obtain ⟨N, P, I, L⟩ := σ
  have h9 := pR_iff.mp h
  clear h
  obtain ⟨a, r, e9, h⟩ := h9
  subst e9
  have h9 := pN_iff.mp h
  clear h
  obtain ⟨e9, h⟩ := h9
  subst e9
  dsimp only at h
  obtain ⟨rfl, rfl, ht, h⟩ := h
  refine ⟨Nat.le_of_ble_eq_true rfl, Ok.seg mdX5_timesTold [4] 20 ?_⟩
  simp only [wp_nil, wp_cons, ↓stp, ↓lI, ↓lL, ↓lR, ↓lIn_0, ↓lIn_1, ↓lIn_2, ↓lIn_3, ↓lLn_0, ↓lLn_1, ↓lLn_2, ↓lLn_3, ↓lRn_0, ↓lRn_1, ↓lRn_2, ↓lRn_3, ↓pI, ↓pL, ↓pR, ↓pA, ↓pN, ↓pV, ↓fp, ↓tsw, ↓oS, ↓spMax, ↓spMin, ↓spAbs, ↓spObj, RI, RLg, b2i_lo, b2i_hi, getL, setL, ltL, killL, isLong, inl, cnd, br, tgt, rcv, rpl, mputI, mputL, mputP, fv, fr, mcat, mcs, entL, entA, rfit, nf_0, nf_1, nf_2, nf_3, nf2_0, nf2_1, b2i_0, b2i_1, RI_b2i, b2i_fit, List.append, List.length, List.replicate, List.cons_append, List.nil_append, List.length_cons, List.length_nil, List.replicate_succ, List.replicate_zero, List.tail_cons, reduceIte, if_true, if_false, ite_true, ite_false, Bool.false_eq_true, true_and, and_true, and_self, false_and, and_false, or_self, or_true, true_or, or_false, false_or, not_true_eq_false, not_false_eq_true, ne_eq, forall_const, implies_true, imp_self, true_implies, false_implies, Nat.reduceAdd, Nat.reduceSub, Nat.reduceMul, Nat.reduceDiv, Nat.reduceMod, Nat.reduceEqDiff, Nat.reduceLT, Nat.reduceLeDiff, Nat.reduceBEq, Nat.add_zero, Nat.zero_add, Nat.le_refl, Nat.not_lt_zero, Nat.succ_eq_add_one, Int.reduceNatCast, Int.cast_ofNat_Int, Int.reduceSub, Int.reduceMul, Int.reduceNeg, Int.reduceLE, Int.reduceLT, Int.reduceToNat, Int.reduceEq, Int.reduceNe, Int.reduceAdd, Option.some.injEq, kX5_timesTold, rmX5_timesTold, ↓ofX5_11, ↓ofX5_18, ↓ofX5_34]
  exact lpX5_told ht h (I 3 1).toNat 0 (by have := ht.1; omega)
