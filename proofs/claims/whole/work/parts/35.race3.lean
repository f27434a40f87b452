/-! LapBoard$Race: trace, prepare -/
/-- the laps that are told, and the stint that is on -/
def PJ (lp : Int → Int → Int) (sp : Int) (mu : Prop) (n j b l : Nat) (first t w f : Int) (W K D : Int → Int) : Prop :=
  (0 ≤ t ∧ t ≤ 3) ∧ (w = 0 ∨ w = 1) ∧ b ≤ j ∧ b < n ∧ 1 ≤ l ∧ l ≤ n - b ∧ j - b ≤ l ∧ Lt (Fr lp sp mu (n - b - 1) t w) f ∧ stS lp sp mu t w l (n - b) f ∧ (∀ l', l < l' → l' ≤ n - b → ¬ stS lp sp mu t w l' (n - b) f) ∧ (j = 0 → t = first ∧ w = 0 ∧ b = 0) ∧ (0 < j → b < j ∧ K 0 = first ∧ D 0 = 0 ∧ W 0 = 0 ∧ K ((j : Int) - 1) = t ∧ D ((j : Int) - 1) = (j : Int) - 1 - b ∧ W ((j : Int) - 1) = w) ∧
  ∀ i : Int, 0 ≤ i → i + 1 < j → Nx lp sp mu ((n : Int) - 2 - i).toNat (K i) (D i) (W i) (K (i + 1)) (D (i + 1)) (W (i + 1))
theorem PJ_go {lp : Int → Int → Int} {sp : Int} {mu : Prop} {n j b l : Nat} {first t w f : Int} {W K D K' D' : Int → Int} (h : PJ lp sp mu n j b l first t w f W K D) (hn : j < n) (hj : j - b < l) (hK : K' j = t) (hD : D' j = (j : Int) - b) (hK' : ∀ i : Int, i ≠ j → K' i = K i) (hD' : ∀ i : Int, i ≠ j → D' i = D i) : PJ lp sp mu n (j + 1) b l first t w f (updL W j w) K' D' := by
  obtain ⟨a1, a2, a3, a4, a5, a6, a7, a8, a9, a10, a11, a12, a13⟩ := h
  have ej : ((j + 1 : Nat) : Int) - 1 = j := by omega
  refine ⟨a1, a2, by omega, a4, a5, a6, by omega, a8, a9, a10, fun q => by omega, fun _ => ?_, fun i i0 i1 => ?_⟩
  · rw [ej]
    refine ⟨by omega, ?_, ?_, ?_, hK, by rw [hD], updL_me _ _ _⟩
    · by_cases q : j = 0
      · subst q; rw [show (0 : Int) = ((0 : Nat) : Int) by rfl, hK]; exact (a11 rfl).1
      · rw [hK' 0 (by omega)]; exact (a12 (by omega)).2.1
    · by_cases q : j = 0
      · subst q; rw [show (0 : Int) = ((0 : Nat) : Int) by rfl, hD]; have := (a11 rfl).2.2; omega
      · rw [hD' 0 (by omega)]; exact (a12 (by omega)).2.2.1
    · by_cases q : j = 0
      · subst q; rw [show (0 : Int) = ((0 : Nat) : Int) by rfl, updL_me]; exact (a11 rfl).2.1
      · rw [updL_ne (by omega)]; exact (a12 (by omega)).2.2.2.1
  · by_cases q : i + 1 = j
    · obtain ⟨b1, b2, b3, b4, b5, b6, b7⟩ := a12 (by omega)
      rw [← q, show i + 1 - 1 = i by omega] at b5 b6 b7
      rw [hK' i (by omega), hD' i (by omega), updL_ne (show i ≠ (j : Int) by omega), b5, b6, b7, q, hK, hD, updL_me]
      have := stS_go (d := j - 1 - b) (n := n - b) a6 (by omega) a8 a9
      rw [show n - b - 2 - (j - 1 - b) = ((n : Int) - 2 - i).toNat by omega, show ((j - 1 - b : Nat) : Int) = (j : Int) - 1 - b by omega] at this
      rw [show i - (b : Int) = (j : Int) - 1 - b by omega]
      exact .inl ⟨this, rfl, by omega, rfl⟩
    · rw [hK' i (by omega), hK' (i + 1) q, hD' i (by omega), hD' (i + 1) q, updL_ne (show i ≠ (j : Int) by omega), updL_ne q]
      exact a13 i i0 (by omega)
theorem PJ_stop {lp : Int → Int → Int} {sp : Int} {mu : Prop} {n j b l l2 : Nat} {first t w f a k : Int} {W K D K' D' : Int → Int} (h : PJ lp sp mu n j b l first t w f W K D) (hn : j < n) (hj : l ≤ j - b) (hA : Lt (Af lp sp mu (n - j - 1) t w) a) (k0 : 0 ≤ k) (k1 : k ≤ 3) (hk : Fr lp sp mu (n - j - 1) k (tw w t k) a) (hk' : ∀ k', 0 ≤ k' → k' < k → ¬ Fr lp sp mu (n - j - 1) k' (tw w t k') a)
    (l20 : 1 ≤ l2) (l21 : l2 ≤ n - j) (hs : stS lp sp mu k (tw w t k) l2 (n - j) a) (hs' : ∀ l', l2 < l' → l' ≤ n - j → ¬ stS lp sp mu k (tw w t k) l' (n - j) a)
    (hK : K' j = k) (hD : D' j = 0) (hK' : ∀ i : Int, i ≠ j → K' i = K i) (hD' : ∀ i : Int, i ≠ j → D' i = D i) : PJ lp sp mu n (j + 1) j l2 first k (tw w t k) a (updL W j (tw w t k)) K' D' := by
  obtain ⟨a1, a2, a3, a4, a5, a6, a7, a8, a9, a10, a11, a12, a13⟩ := h
  have ej : ((j + 1 : Nat) : Int) - 1 = j := by omega
  obtain ⟨b1, b2, b3, b4, b5, b6, b7⟩ := a12 (by omega)
  refine ⟨⟨k0, k1⟩, tw_01 _ _ _, by omega, hn, l20, l21, by omega, ⟨hk, fun x hx => hA.2 x ⟨k, k0, k1, hx⟩⟩, hs, hs', fun q => by omega, fun _ => ?_, fun i i0 i1 => ?_⟩
  · rw [ej, hK' 0 (by omega), hD' 0 (by omega), updL_ne (show (0 : Int) ≠ (j : Int) by omega), updL_me]
    exact ⟨by omega, b2, b3, b4, hK, by rw [hD]; omega, rfl⟩
  · by_cases q : i + 1 = j
    · rw [← q, show i + 1 - 1 = i by omega] at b5 b6 b7
      rw [hK' i (by omega), hD' i (by omega), updL_ne (show i ≠ (j : Int) by omega), b5, b6, b7, q, hK, hD, updL_me]
      have e1 : n - b - l - 1 = n - j - 1 := by omega
      have ng := stS_stop (n := n - b) (l := l) (by omega) a5 a8 a9 a10
      have nx := fun k' c0 c1 => stS_nx (n := n - b) (l := l) (a := a) (k := k') (by omega) a5 a8 a9 (by rw [e1]; exact hA) c0 c1
      rw [e1] at nx
      rw [show n - b - 1 - l = ((n : Int) - 2 - i).toNat by omega] at ng nx
      rw [show i - (b : Int) = (l : Int) - 1 by omega]
      exact .inr ⟨ng, ⟨k0, k1⟩, (nx k k0 k1).mpr hk, fun k' c0 c1 z => hk' k' c0 c1 ((nx k' c0 (by omega)).mp z), rfl, rfl⟩
    · rw [hK' i (by omega), hK' (i + 1) q, hD' i (by omega), hD' (i + 1) q, updL_ne (show i ≠ (j : Int) by omega), updL_ne q]
      exact a13 i i0 (by omega)
theorem PJ_end {lp : Int → Int → Int} {sp : Int} {mu : Prop} {n b l : Nat} {first t w f x : Int} {W K D : Int → Int} (hn : 1 ≤ n) (h : PJ lp sp mu n n b l first t w f W K D) (hF : Fst lp sp mu (n - 1) first x) : PlanOK lp sp mu n K D x := by
  obtain ⟨a1, a2, a3, a4, a5, a6, a7, a8, a9, a10, a11, a12, a13⟩ := h
  obtain ⟨b1, b2, b3, b4, b5, b6, b7⟩ := a12 (by omega)
  refine ⟨W, b3, b4, ?_, fun j j0 j1 => a13 j j0 j1⟩
  rw [show ((n : Int) - 1).toNat = n - 1 by omega, b2]; exact hF
def frP (I J : Int → Int → Int) : Prop := ∀ b k, b ≠ 182 → b ≠ 183 → ¬ (b = 179 ∧ k = 7) → J b k = I b k
def spX1_trace (As : List MV) (σ : MS) (K : Option MV → MS → Prop) : Prop := pR As fun a r => pI r fun n r => pN r (a = 179 ∧ σ.2.1 = PF ∧ ∃ (m : Nat) (lp : Int → Int → Int), n = m ∧ 1 ≤ m ∧ m ≤ 40 ∧ rcB σ.2.2.1 lp ∧ stiOK σ.2.2.1 lp m ∧ (∀ j, 1 ≤ j → j ≤ m → frR σ.2.2.1 lp j) ∧ (∀ j, 1 ≤ j → j ≤ m → afR σ.2.2.1 lp j) ∧ (m = 1 → ¬ σ.2.2.1 179 11 ≠ 0) ∧
  ∀ I' : Int → Int → Int, frP σ.2.2.1 I' → PlanOK lp (σ.2.2.1 179 4) (σ.2.2.1 179 11 ≠ 0) m (I' 182) (I' 183) (I' 179 7) → K none (σ.1, σ.2.1, I', σ.2.2.2))
def ciX1_trace : CI := (2, 1, 0, 0, spX1_trace)
def kX1_trace (pc : Nat) : List ME := match pc with
  | 0 => [(.iconst 0, 1, []), (.istore_n 2, 1, []), (.iconst 1, 1, []), (.istore_n 3, 1, [])]
  | 4 => [(.iload_n 3, 1, []), (.iconst 4, 1, []), (.if_icmp .ge 34, 3, [40]), (.aload_n 0, 1, []), (.getfield 37, 3, []), (.iconst 2, 1, []), (.iload_n 3, 1, []), (.imul, 1, []), (.aaload, 1, []), (.iload_n 1, 1, []), (.iaload, 1, []), (.aload_n 0, 1, []), (.getfield 37, 3, []), (.iconst 2, 1, []), (.iload_n 2, 1, []), (.imul, 1, []), (.aaload, 1, []), (.iload_n 1, 1, []), (.iaload, 1, []), (.if_icmp .ge 5, 3, [34]), (.iload_n 3, 1, []), (.istore_n 2, 1, [])]
  | 34 => [(.iinc 3 1, 3, []), (.goto (-33), 3, [4])]
  | 40 => [(.aload_n 0, 1, []), (.aload_n 0, 1, []), (.getfield 37, 3, []), (.iconst 2, 1, []), (.iload_n 2, 1, []), (.imul, 1, []), (.aaload, 1, []), (.iload_n 1, 1, []), (.iaload, 1, []), (.putfield 91, 3, []), (.iconst 2, 1, []), (.iload_n 2, 1, []), (.imul, 1, []), (.istore_n 3, 1, []), (.iconst 0, 1, []), (.istore 4, 2, []), (.aload_n 0, 1, []), (.iload_n 3, 1, []), (.iload_n 1, 1, []), (.invokevirtual 94, 3, []), (.istore 5, 2, []), (.iconst 0, 1, []), (.istore 6, 2, [])]
  | 72 => [(.iload 6, 2, []), (.iload_n 1, 1, []), (.if_icmp .ge 66, 3, [141]), (.iload 6, 2, []), (.iload 4, 2, []), (.isub, 1, []), (.iload 5, 2, []), (.if_icmp .lt 28, 3, [113]), (.aload_n 0, 1, []), (.iload_n 3, 1, []), (.iload_n 1, 1, []), (.iload 6, 2, []), (.isub, 1, []), (.invokevirtual 97, 3, []), (.istore_n 3, 1, []), (.iload 6, 2, []), (.istore 4, 2, []), (.aload_n 0, 1, []), (.iload_n 3, 1, []), (.iload_n 1, 1, []), (.iload 6, 2, []), (.isub, 1, []), (.invokevirtual 94, 3, []), (.istore 5, 2, [])]
  | 113 => [(.aload_n 0, 1, []), (.getfield 18, 3, []), (.iload 6, 2, []), (.iload_n 3, 1, []), (.iconst 2, 1, []), (.idiv, 1, []), (.iastore, 1, []), (.aload_n 0, 1, []), (.getfield 21, 3, []), (.iload 6, 2, []), (.iload 6, 2, []), (.iload 4, 2, []), (.isub, 1, []), (.iastore, 1, []), (.iinc 6 1, 3, []), (.goto (-66), 3, [72])]
  | 141 => [(.return_, 1, [])]
  | _ => []
theorem qX1_trace : ∀ pc, chk cX1_trace pc (kX1_trace pc) = true := by
  intro pc
  unfold kX1_trace
  split <;> first | decide +kernel | exact chk_nil
abbrev rmX1_trace : Room := { frames := 2, cells := 0, slots := 0, locals := 47 }
def aX1_trace (x : Nat) : Option CI := match x with
  | 94 => some ciX1_longestStint
  | 97 => some ciX1_nextState
  | _ => none
theorem aokX1_trace : ∀ x ci, aX1_trace x = some ci → CalOK RX1 rmX1_trace x ci := by
  intro x ci h
  unfold aX1_trace at h
  split at h
  · cases h; exact cal_V mX1_longestStint (by decide) rfl (List.forall_mem_cons.mpr ⟨(ws_mem (List.mem_of_getElem? (i := 606) (by decide +kernel)) (by decide +kernel)), List.forall_mem_cons.mpr ⟨(ws_mem (List.mem_of_getElem? (i := 608) (by decide +kernel)) (by decide +kernel)), List.forall_mem_cons.mpr ⟨(ws_mem (List.mem_of_getElem? (i := 16) (by decide +kernel)) (by decide +kernel)), List.forall_mem_cons.mpr ⟨(ws_mem (List.mem_of_getElem? (i := 62) (by decide +kernel)) (by decide +kernel)), List.forall_mem_cons.mpr ⟨(ws_mem (List.mem_of_getElem? (i := 609) (by decide +kernel)) (by decide +kernel)), fun _ h => absurd h List.not_mem_nil⟩⟩⟩⟩⟩) rfl (by unfold nice; decide +kernel) (by unfold rfits; decide) ⟨rfl, rfl⟩
  · cases h; exact cal_V mX1_nextState (by decide) rfl (List.forall_mem_cons.mpr ⟨(ws_mem (List.mem_of_getElem? (i := 610) (by decide +kernel)) (by decide +kernel)), List.forall_mem_cons.mpr ⟨(ws_mem (List.mem_of_getElem? (i := 612) (by decide +kernel)) (by decide +kernel)), List.forall_mem_cons.mpr ⟨(ws_mem (List.mem_of_getElem? (i := 17) (by decide +kernel)) (by decide +kernel)), List.forall_mem_cons.mpr ⟨(ws_mem (List.mem_of_getElem? (i := 62) (by decide +kernel)) (by decide +kernel)), List.forall_mem_cons.mpr ⟨(ws_mem (List.mem_of_getElem? (i := 613) (by decide +kernel)) (by decide +kernel)), fun _ h => absurd h List.not_mem_nil⟩⟩⟩⟩⟩) rfl (by unfold nice; decide +kernel) (by unfold rfits; decide) ⟨rfl, rfl⟩
  · cases h
theorem ocX1_trace_94 (f : Nat → Nat → Nat → Nat → (List MV → MS → (Option MV → MS → Prop) → Prop) → Prop) : oC aX1_trace 94 f = f 3 1 0 0 spX1_longestStint := propext Iff.rfl
theorem ocX1_trace_97 (f : Nat → Nat → Nat → Nat → (List MV → MS → (Option MV → MS → Prop) → Prop) → Prop) : oC aX1_trace 97 f = f 3 1 0 0 spX1_nextState := propext Iff.rfl
theorem mdX1_trace : MD RX1 cX1_trace rmX1_trace kX1_trace fX1 aX1_trace zX1 uX1 := ⟨fokX1, zokX1, uokX1, aokX1_trace, qX1_trace⟩
theorem frP_B {I J : Int → Int → Int} {lp : Int → Int → Int} (h : frP I J) (hB : rcB I lp) : rcB J lp := by
  unfold rcB; rw [h 179 4 (by omega) (by omega) (by omega), h 179 11 (by omega) (by omega) (by omega)]; exact hB
theorem frP_s {I J : Int → Int → Int} {lp : Int → Int → Int} {m : Nat} (h : frP I J) (hs : stiOK I lp m) : stiOK J lp m := fun t l t0 t1 hl => by
  rw [h (185 + t) l (by omega) (by omega) (by omega)]; exact hs t l t0 t1 hl
theorem frP_f {I J : Int → Int → Int} {lp : Int → Int → Int} {m : Nat} (h : frP I J) (hf : frR I lp m) : frR J lp m := fun t w t0 t1 hw => by
  rw [h 179 4 (by omega) (by omega) (by omega), h 179 11 (by omega) (by omega) (by omega), h (190 + (2 * t + w)) m (by omega) (by omega) (by omega)]; exact hf t w t0 t1 hw
theorem frP_a {I J : Int → Int → Int} {lp : Int → Int → Int} {m : Nat} (h : frP I J) (hf : afR I lp m) : afR J lp m := fun t w t0 t1 hw => by
  rw [h 179 4 (by omega) (by omega) (by omega), h 179 11 (by omega) (by omega) (by omega), h (199 + (2 * t + w)) m (by omega) (by omega) (by omega)]; exact hf t w t0 t1 hw
set_option maxHeartbeats 1600000 in
set_option maxRecDepth 100000 in
theorem lpX1_t2 {post : Option MV → MS → Prop} {U : Pt → Prop} {N n : Nat} {I L : Int → Int → Int} {lp : Int → Int → Int} {first x : Int} (n1 : n ≤ 40) (hn : 1 ≤ n) (hB : rcB I lp) (hs : stiOK I lp n) (hf : ∀ j, 1 ≤ j → j ≤ n → frR I lp j) (ha : ∀ j, 1 ≤ j → j ≤ n → afR I lp j) (hF : Fst lp (I 179 4) (I 179 11 ≠ 0) (n - 1) first x)
    (h : ∀ I1 : Int → Int → Int, frP I I1 → I1 179 7 = x → PlanOK lp (I 179 4) (I 179 11 ≠ 0) n (I1 182) (I1 183) x → post none (N, PF, I1, L)) :
    ∀ (m j b l : Nat) (t w f : Int) (W : Int → Int) (I1 : Int → Int → Int), j + m = n → frP I I1 → I1 179 7 = x → PJ lp (I 179 4) (I 179 11 ≠ 0) n j b l first t w f W (I1 182) (I1 183) →
    Ok RX1 cX1_trace 7 rmX1_trace false none post U (72, [some (.inr (.inr (some 179))), some (.inl n), some (.inl first), some (.inl (2 * t + w)), some (.inl b), some (.inl l), some (.inl j)], [], (N, PF, I1, L), 0, 0)
  | 0, j, b, l, t, w, f, W, I1, hj, h1, h2, h3 => by
    refine Ok.seg mdX1_trace [72, 113] 10 ?_
    simp only [wp_nil, wp_cons, ↓stp, ↓lI, ↓lL, ↓lR, ↓lIn_0, ↓lIn_1, ↓lIn_2, ↓lIn_3, ↓lLn_0, ↓lLn_1, ↓lLn_2, ↓lLn_3, ↓lRn_0, ↓lRn_1, ↓lRn_2, ↓lRn_3, ↓pI, ↓pL, ↓pR, ↓pA, ↓pN, ↓pV, ↓fp, ↓tsw, ↓oS, ↓spMax, ↓spMin, ↓spAbs, ↓spObj, RI, RLg, b2i_lo, b2i_hi, getL, setL, ltL, killL, isLong, inl, cnd, br, tgt, rcv, rpl, mputI, mputL, mputP, fv, fr, mcat, mcs, entL, entA, rfit, nf_0, nf_1, nf_2, nf_3, nf2_0, nf2_1, b2i_0, b2i_1, RI_b2i, b2i_fit, List.append, List.length, List.replicate, List.cons_append, List.nil_append, List.length_cons, List.length_nil, List.replicate_succ, List.replicate_zero, List.tail_cons, reduceIte, if_true, if_false, ite_true, ite_false, Bool.false_eq_true, true_and, and_true, and_self, false_and, and_false, or_self, or_true, true_or, or_false, false_or, not_true_eq_false, not_false_eq_true, ne_eq, forall_const, implies_true, imp_self, true_implies, false_implies, Nat.reduceAdd, Nat.reduceSub, Nat.reduceMul, Nat.reduceDiv, Nat.reduceMod, Nat.reduceEqDiff, Nat.reduceLT, Nat.reduceLeDiff, Nat.reduceBEq, Nat.add_zero, Nat.zero_add, Nat.le_refl, Nat.not_lt_zero, Nat.succ_eq_add_one, Int.reduceNatCast, Int.cast_ofNat_Int, Int.reduceSub, Int.reduceMul, Int.reduceNeg, Int.reduceLE, Int.reduceLT, Int.reduceToNat, Int.reduceEq, Int.reduceNe, Int.reduceAdd, Option.some.injEq, kX1_trace, rmX1_trace, ↓ofX1_18, ↓ofX1_21, ↓ofX1_37, ↓ofX1_91, ↓ocX1_trace_94, ↓spX1_longestStint, ↓ocX1_trace_97, ↓spX1_nextState, G_1, G_2, G_3, G_4, G_35, G_36, G_37, G_38, G_39, G_40, G_41, G_42, G_43, G_44, G_45, G_46, G_47, G_48, G_49, G_140, G_141, G_142, G_143, G_144, G_145, G_146, G_178, G_179, G_180, G_181, G_182, G_183, G_184, G_189, G_198, G_207, PF_1_0, PF_1_1, PF_1_2, PF_1_3, PF_2_0, PF_2_1, PF_2_3, PF_2_4, PF_2_5, PF_2_6, PF_2_7, PF_2_8, PF_2_9, PF_2_10, PF_2_11, PF_3_0, PF_35_0, PF_35_1, PF_35_2, PF_35_3, PF_40_0, PF_40_1, PF_40_2, PF_44_0, PF_44_1, PF_44_2, PF_145_0, PF_145_1, PF_179_0, PF_179_1, PF_179_2, PF_179_3, PF_179_8, PF_179_9, PF_179_10]
    have : j = n := by omega
    subst this
    exact ⟨by omega, by omega, fun q => h I1 h1 h2 (PJ_end hn h3 hF), fun q => by omega⟩
  | m + 1, j, b, l, t, w, f, W, I1, hj, h1, h2, h3 => by
    have ih := fun b l t w f W I1 => lpX1_t2 (U := U) (post := post) n1 hn hB hs hf ha hF h m (j + 1) b l t w f W I1 (by omega)
    have tail : ∀ (b l : Nat) (t w f : Int) (W : Int → Int), 0 ≤ t ∧ t ≤ 3 → (w = 0 ∨ w = 1) → b ≤ j → (∀ K' D' : Int → Int, K' j = t → D' j = (j : Int) - b → (∀ i : Int, i ≠ j → K' i = I1 182 i) → (∀ i : Int, i ≠ j → D' i = I1 183 i) → PJ lp (I 179 4) (I 179 11 ≠ 0) n (j + 1) b l first t w f W K' D') → Ok RX1 cX1_trace 7 rmX1_trace false none post U (113, [some (.inr (.inr (some 179))), some (.inl n), some (.inl first), some (.inl (2 * t + w)), some (.inl b), some (.inl l), some (.inl j)], [], (N, PF, I1, L), 0, 0) := fun b l t w f W ht hw hb hP => by
      have e := td2 ht.1 hw
      refine Ok.seg mdX1_trace [72, 113] 20 ?_
      simp only [wp_nil, wp_cons, ↓stp, ↓lI, ↓lL, ↓lR, ↓lIn_0, ↓lIn_1, ↓lIn_2, ↓lIn_3, ↓lLn_0, ↓lLn_1, ↓lLn_2, ↓lLn_3, ↓lRn_0, ↓lRn_1, ↓lRn_2, ↓lRn_3, ↓pI, ↓pL, ↓pR, ↓pA, ↓pN, ↓pV, ↓fp, ↓tsw, ↓oS, ↓spMax, ↓spMin, ↓spAbs, ↓spObj, RI, RLg, b2i_lo, b2i_hi, getL, setL, ltL, killL, isLong, inl, cnd, br, tgt, rcv, rpl, mputI, mputL, mputP, fv, fr, mcat, mcs, entL, entA, rfit, nf_0, nf_1, nf_2, nf_3, nf2_0, nf2_1, b2i_0, b2i_1, RI_b2i, b2i_fit, List.append, List.length, List.replicate, List.cons_append, List.nil_append, List.length_cons, List.length_nil, List.replicate_succ, List.replicate_zero, List.tail_cons, reduceIte, if_true, if_false, ite_true, ite_false, Bool.false_eq_true, true_and, and_true, and_self, false_and, and_false, or_self, or_true, true_or, or_false, false_or, not_true_eq_false, not_false_eq_true, ne_eq, forall_const, implies_true, imp_self, true_implies, false_implies, Nat.reduceAdd, Nat.reduceSub, Nat.reduceMul, Nat.reduceDiv, Nat.reduceMod, Nat.reduceEqDiff, Nat.reduceLT, Nat.reduceLeDiff, Nat.reduceBEq, Nat.add_zero, Nat.zero_add, Nat.le_refl, Nat.not_lt_zero, Nat.succ_eq_add_one, Int.reduceNatCast, Int.cast_ofNat_Int, Int.reduceSub, Int.reduceMul, Int.reduceNeg, Int.reduceLE, Int.reduceLT, Int.reduceToNat, Int.reduceEq, Int.reduceNe, Int.reduceAdd, Option.some.injEq, kX1_trace, rmX1_trace, ↓ofX1_18, ↓ofX1_21, ↓ofX1_37, ↓ofX1_91, ↓ocX1_trace_94, ↓spX1_longestStint, ↓ocX1_trace_97, ↓spX1_nextState, e.1, e.2, G_1, G_2, G_3, G_4, G_35, G_36, G_37, G_38, G_39, G_40, G_41, G_42, G_43, G_44, G_45, G_46, G_47, G_48, G_49, G_140, G_141, G_142, G_143, G_144, G_145, G_146, G_178, G_179, G_180, G_181, G_182, G_183, G_184, G_189, G_198, G_207, PF_1_0, PF_1_1, PF_1_2, PF_1_3, PF_2_0, PF_2_1, PF_2_3, PF_2_4, PF_2_5, PF_2_6, PF_2_7, PF_2_8, PF_2_9, PF_2_10, PF_2_11, PF_3_0, PF_35_0, PF_35_1, PF_35_2, PF_35_3, PF_40_0, PF_40_1, PF_40_2, PF_44_0, PF_44_1, PF_44_2, PF_145_0, PF_145_1, PF_179_0, PF_179_1, PF_179_2, PF_179_3, PF_179_8, PF_179_9, PF_179_10]
      have := ih b l t w f W (upI (upI I1 182 j t) 183 j ((j : Int) - b)) (fun b' k c1 c2 c3 => by rw [upI_ne c2, upI_ne c1]; exact h1 b' k c1 c2 c3) (by rw [upI_ne (by omega), upI_ne (by omega)]; exact h2) (hP _ _ ?_ ?_ (fun i hi => ?_) (fun i hi => ?_))
      · rw [show ((j + 1 : Nat) : Int) = (j : Int) + 1 by omega] at this
        exact ⟨by omega, by omega, by omega, by omega, by omega, this⟩
      · rw [upI_ne (by omega)]; exact upI_same
      · exact upI_same
      · rw [upI_ne (by omega)]; exact upI_nj hi
      · rw [upI_nj hi]; exact upI_ne (by omega)
    have h3' := h3
    obtain ⟨a1, a2, a3, a4, a5, a6, a7, a8, a9, a10, a11, a12, a13⟩ := h3
    refine Ok.seg mdX1_trace [72, 113] 40 ?_
    simp only [wp_nil, wp_cons, ↓stp, ↓lI, ↓lL, ↓lR, ↓lIn_0, ↓lIn_1, ↓lIn_2, ↓lIn_3, ↓lLn_0, ↓lLn_1, ↓lLn_2, ↓lLn_3, ↓lRn_0, ↓lRn_1, ↓lRn_2, ↓lRn_3, ↓pI, ↓pL, ↓pR, ↓pA, ↓pN, ↓pV, ↓fp, ↓tsw, ↓oS, ↓spMax, ↓spMin, ↓spAbs, ↓spObj, RI, RLg, b2i_lo, b2i_hi, getL, setL, ltL, killL, isLong, inl, cnd, br, tgt, rcv, rpl, mputI, mputL, mputP, fv, fr, mcat, mcs, entL, entA, rfit, nf_0, nf_1, nf_2, nf_3, nf2_0, nf2_1, b2i_0, b2i_1, RI_b2i, b2i_fit, List.append, List.length, List.replicate, List.cons_append, List.nil_append, List.length_cons, List.length_nil, List.replicate_succ, List.replicate_zero, List.tail_cons, reduceIte, if_true, if_false, ite_true, ite_false, Bool.false_eq_true, true_and, and_true, and_self, false_and, and_false, or_self, or_true, true_or, or_false, false_or, not_true_eq_false, not_false_eq_true, ne_eq, forall_const, implies_true, imp_self, true_implies, false_implies, Nat.reduceAdd, Nat.reduceSub, Nat.reduceMul, Nat.reduceDiv, Nat.reduceMod, Nat.reduceEqDiff, Nat.reduceLT, Nat.reduceLeDiff, Nat.reduceBEq, Nat.add_zero, Nat.zero_add, Nat.le_refl, Nat.not_lt_zero, Nat.succ_eq_add_one, Int.reduceNatCast, Int.cast_ofNat_Int, Int.reduceSub, Int.reduceMul, Int.reduceNeg, Int.reduceLE, Int.reduceLT, Int.reduceToNat, Int.reduceEq, Int.reduceNe, Int.reduceAdd, Option.some.injEq, kX1_trace, rmX1_trace, ↓ofX1_18, ↓ofX1_21, ↓ofX1_37, ↓ofX1_91, ↓ocX1_trace_94, ↓spX1_longestStint, ↓ocX1_trace_97, ↓spX1_nextState, G_1, G_2, G_3, G_4, G_35, G_36, G_37, G_38, G_39, G_40, G_41, G_42, G_43, G_44, G_45, G_46, G_47, G_48, G_49, G_140, G_141, G_142, G_143, G_144, G_145, G_146, G_178, G_179, G_180, G_181, G_182, G_183, G_184, G_189, G_198, G_207, PF_1_0, PF_1_1, PF_1_2, PF_1_3, PF_2_0, PF_2_1, PF_2_3, PF_2_4, PF_2_5, PF_2_6, PF_2_7, PF_2_8, PF_2_9, PF_2_10, PF_2_11, PF_3_0, PF_35_0, PF_35_1, PF_35_2, PF_35_3, PF_40_0, PF_40_1, PF_40_2, PF_44_0, PF_44_1, PF_44_2, PF_145_0, PF_145_1, PF_179_0, PF_179_1, PF_179_2, PF_179_3, PF_179_8, PF_179_9, PF_179_10]
    refine ⟨by omega, by omega, fun q => by omega, fun q => ⟨by omega, by omega, fun q2 => ?_, fun q2 => ?_⟩⟩
    · exact tail b l t w f _ a1 a2 a3 (fun K' D' k1 k2 k3 k4 => PJ_go h3' (by omega) (by omega) k1 k2 k3 k4)
    · have c4 := h1 179 4 (by omega) (by omega) (by omega)
      have c11 := h1 179 11 (by omega) (by omega) (by omega)
      have hjn : (n : Int) - j = ((n - j : Nat) : Int) := by omega
      have eA := (afV hB (by omega) (by omega) (ha (n - j) (by omega) (by omega) t w a1.1 a1.2 a2)).2.2
      have cA : I1 (199 + (2 * t + w)) ((n - j : Nat) : Int) = I (199 + (2 * t + w)) ((n - j : Nat) : Int) := h1 _ _ (by omega) (by omega) (by omega)
      refine ⟨t, w, n - j, lp, rfl, hjn, a1.1, a1.2, a2, by omega, by omega, frP_B h1 hB, frP_f h1 (hf _ (by omega) (by omega)), ?_, fun k k0 k1 k2 k3 k4 => ?_⟩
      · rw [c4, c11, cA]; exact eA
      · rw [c4, c11, cA] at k2
        rw [cA] at k3
        have k4' : ∀ k', 0 ≤ k' → k' < k → ¬ Fr lp (I 179 4) (I 179 11 ≠ 0) (n - j - 1) k' (tw w t k') (I (199 + (2 * t + w)) ((n - j : Nat) : Int)) := fun k' c0 c1 z => k4 k' c0 c1 (by rw [c4, c11, cA]; exact z)
        refine ⟨k, tw w t k, n - j, lp, rfl, hjn, k0, k1, tw_01 _ _ _, by omega, by omega, frP_B h1 hB, frP_s h1 (fun t l t0 t1 hl => hs t l t0 t1 (by omega)), fun i i0 i1 => frP_a h1 (ha i i0 (by omega)), ?_, fun l2 l20 l21 l22 l23 => ?_⟩
        · rw [c4, c11, k3]; exact ⟨k2, fun y hy => eA.2 y ⟨k, k0, k1, hy⟩⟩
        · rw [c4, c11, k3] at l22
          exact tail j l2 k (tw w t k) _ (updL W j (tw w t k)) ⟨k0, k1⟩ (tw_01 _ _ _) (Nat.le_refl _) (fun K' D' m1 m2 m3 m4 => PJ_stop h3' (by omega) (by omega) eA k0 k1 k2 k4' l20 l21 l22 (fun l' d0 d1 z => l23 l' d0 d1 (by rw [c4, c11, k3]; exact z)) m1 (by omega) m3 m4)
set_option maxHeartbeats 1600000 in
set_option maxRecDepth 100000 in
theorem lpX1_t1 {post : Option MV → MS → Prop} {U : Pt → Prop} {N n : Nat} {I L : Int → Int → Int} (n1 : n ≤ 40) (hr : ∀ k, 0 ≤ k → k ≤ 3 → 0 ≤ I (190 + 2 * k) n ∧ I (190 + 2 * k) n ≤ 536870912)
    (h : ∀ (first : Int) (t3 : Option MV), 0 ≤ first → first ≤ 3 → (∀ k, 0 ≤ k → k ≤ 3 → I (190 + 2 * first) n ≤ I (190 + 2 * k) n) → (∀ k, 0 ≤ k → k < first → I (190 + 2 * first) n < I (190 + 2 * k) n) → Ok RX1 cX1_trace 7 rmX1_trace false none post U (40, [some (.inr (.inr (some 179))), some (.inl n), some (.inl first), t3, none, none, none], [], (N, PF, I, L), 0, 0)) :
    ∀ (m : Nat) (k first : Int), k + m = 4 → 1 ≤ k → 0 ≤ first → first < k → (∀ k', 0 ≤ k' → k' < k → I (190 + 2 * first) n ≤ I (190 + 2 * k') n) → (∀ k', 0 ≤ k' → k' < first → I (190 + 2 * first) n < I (190 + 2 * k') n) →
    Ok RX1 cX1_trace 7 rmX1_trace false none post U (4, [some (.inr (.inr (some 179))), some (.inl n), some (.inl first), some (.inl k), none, none, none], [], (N, PF, I, L), 0, 0)
  | 0, k, first, hk, k0, f0, f1, h1, h2 => by
    refine Ok.seg mdX1_trace [4, 34, 40] 10 ?_
    simp only [wp_nil, wp_cons, ↓stp, ↓lI, ↓lL, ↓lR, ↓lIn_0, ↓lIn_1, ↓lIn_2, ↓lIn_3, ↓lLn_0, ↓lLn_1, ↓lLn_2, ↓lLn_3, ↓lRn_0, ↓lRn_1, ↓lRn_2, ↓lRn_3, ↓pI, ↓pL, ↓pR, ↓pA, ↓pN, ↓pV, ↓fp, ↓tsw, ↓oS, ↓spMax, ↓spMin, ↓spAbs, ↓spObj, RI, RLg, b2i_lo, b2i_hi, getL, setL, ltL, killL, isLong, inl, cnd, br, tgt, rcv, rpl, mputI, mputL, mputP, fv, fr, mcat, mcs, entL, entA, rfit, nf_0, nf_1, nf_2, nf_3, nf2_0, nf2_1, b2i_0, b2i_1, RI_b2i, b2i_fit, List.append, List.length, List.replicate, List.cons_append, List.nil_append, List.length_cons, List.length_nil, List.replicate_succ, List.replicate_zero, List.tail_cons, reduceIte, if_true, if_false, ite_true, ite_false, Bool.false_eq_true, true_and, and_true, and_self, false_and, and_false, or_self, or_true, true_or, or_false, false_or, not_true_eq_false, not_false_eq_true, ne_eq, forall_const, implies_true, imp_self, true_implies, false_implies, Nat.reduceAdd, Nat.reduceSub, Nat.reduceMul, Nat.reduceDiv, Nat.reduceMod, Nat.reduceEqDiff, Nat.reduceLT, Nat.reduceLeDiff, Nat.reduceBEq, Nat.add_zero, Nat.zero_add, Nat.le_refl, Nat.not_lt_zero, Nat.succ_eq_add_one, Int.reduceNatCast, Int.cast_ofNat_Int, Int.reduceSub, Int.reduceMul, Int.reduceNeg, Int.reduceLE, Int.reduceLT, Int.reduceToNat, Int.reduceEq, Int.reduceNe, Int.reduceAdd, Option.some.injEq, kX1_trace, rmX1_trace, ↓ofX1_18, ↓ofX1_21, ↓ofX1_37, ↓ofX1_91, ↓ocX1_trace_94, ↓spX1_longestStint, ↓ocX1_trace_97, ↓spX1_nextState, G_1, G_2, G_3, G_4, G_35, G_36, G_37, G_38, G_39, G_40, G_41, G_42, G_43, G_44, G_45, G_46, G_47, G_48, G_49, G_140, G_141, G_142, G_143, G_144, G_145, G_146, G_178, G_179, G_180, G_181, G_182, G_183, G_184, G_189, G_198, G_207, PF_1_0, PF_1_1, PF_1_2, PF_1_3, PF_2_0, PF_2_1, PF_2_3, PF_2_4, PF_2_5, PF_2_6, PF_2_7, PF_2_8, PF_2_9, PF_2_10, PF_2_11, PF_3_0, PF_35_0, PF_35_1, PF_35_2, PF_35_3, PF_40_0, PF_40_1, PF_40_2, PF_44_0, PF_44_1, PF_44_2, PF_145_0, PF_145_1, PF_179_0, PF_179_1, PF_179_2, PF_179_3, PF_179_8, PF_179_9, PF_179_10]
    exact ⟨by omega, fun q => h first _ f0 (by omega) (fun k' a b => h1 k' a (by omega)) h2, fun q => by omega⟩
  | m + 1, k, first, hk, k0, f0, f1, h1, h2 => by
    have ih := lpX1_t1 (U := U) (post := post) n1 hr h m (k + 1)
    have p1 := PF_fresh (i := 2 * k) (by omega) (by omega)
    have g1 := G_fresh (a := 190 + 2 * k) (by omega) (by omega)
    have p2 := PF_fresh (i := 2 * first) (by omega) (by omega)
    have g2 := G_fresh (a := 190 + 2 * first) (by omega) (by omega)
    have r1 := hr k (by omega) (by omega)
    have r2 := hr first (by omega) (by omega)
    refine Ok.seg mdX1_trace [4, 34, 40] 40 ?_
    simp only [wp_nil, wp_cons, ↓stp, ↓lI, ↓lL, ↓lR, ↓lIn_0, ↓lIn_1, ↓lIn_2, ↓lIn_3, ↓lLn_0, ↓lLn_1, ↓lLn_2, ↓lLn_3, ↓lRn_0, ↓lRn_1, ↓lRn_2, ↓lRn_3, ↓pI, ↓pL, ↓pR, ↓pA, ↓pN, ↓pV, ↓fp, ↓tsw, ↓oS, ↓spMax, ↓spMin, ↓spAbs, ↓spObj, RI, RLg, b2i_lo, b2i_hi, getL, setL, ltL, killL, isLong, inl, cnd, br, tgt, rcv, rpl, mputI, mputL, mputP, fv, fr, mcat, mcs, entL, entA, rfit, nf_0, nf_1, nf_2, nf_3, nf2_0, nf2_1, b2i_0, b2i_1, RI_b2i, b2i_fit, List.append, List.length, List.replicate, List.cons_append, List.nil_append, List.length_cons, List.length_nil, List.replicate_succ, List.replicate_zero, List.tail_cons, reduceIte, if_true, if_false, ite_true, ite_false, Bool.false_eq_true, true_and, and_true, and_self, false_and, and_false, or_self, or_true, true_or, or_false, false_or, not_true_eq_false, not_false_eq_true, ne_eq, forall_const, implies_true, imp_self, true_implies, false_implies, Nat.reduceAdd, Nat.reduceSub, Nat.reduceMul, Nat.reduceDiv, Nat.reduceMod, Nat.reduceEqDiff, Nat.reduceLT, Nat.reduceLeDiff, Nat.reduceBEq, Nat.add_zero, Nat.zero_add, Nat.le_refl, Nat.not_lt_zero, Nat.succ_eq_add_one, Int.reduceNatCast, Int.cast_ofNat_Int, Int.reduceSub, Int.reduceMul, Int.reduceNeg, Int.reduceLE, Int.reduceLT, Int.reduceToNat, Int.reduceEq, Int.reduceNe, Int.reduceAdd, Option.some.injEq, kX1_trace, rmX1_trace, ↓ofX1_18, ↓ofX1_21, ↓ofX1_37, ↓ofX1_91, ↓ocX1_trace_94, ↓spX1_longestStint, ↓ocX1_trace_97, ↓spX1_nextState, p1, p2, g1, g2, G_1, G_2, G_3, G_4, G_35, G_36, G_37, G_38, G_39, G_40, G_41, G_42, G_43, G_44, G_45, G_46, G_47, G_48, G_49, G_140, G_141, G_142, G_143, G_144, G_145, G_146, G_178, G_179, G_180, G_181, G_182, G_183, G_184, G_189, G_198, G_207, PF_1_0, PF_1_1, PF_1_2, PF_1_3, PF_2_0, PF_2_1, PF_2_3, PF_2_4, PF_2_5, PF_2_6, PF_2_7, PF_2_8, PF_2_9, PF_2_10, PF_2_11, PF_3_0, PF_35_0, PF_35_1, PF_35_2, PF_35_3, PF_40_0, PF_40_1, PF_40_2, PF_44_0, PF_44_1, PF_44_2, PF_145_0, PF_145_1, PF_179_0, PF_179_1, PF_179_2, PF_179_3, PF_179_8, PF_179_9, PF_179_10]
    refine ⟨by omega, fun q => by omega, fun q => ⟨by omega, by omega, by omega, by omega, by omega, by omega, by omega, by omega, by omega, by omega, fun q2 => ?_, fun q2 => ?_⟩⟩
    · refine Ok.seg mdX1_trace [4, 40] 10 ?_
      simp only [wp_nil, wp_cons, ↓stp, ↓lI, ↓lL, ↓lR, ↓lIn_0, ↓lIn_1, ↓lIn_2, ↓lIn_3, ↓lLn_0, ↓lLn_1, ↓lLn_2, ↓lLn_3, ↓lRn_0, ↓lRn_1, ↓lRn_2, ↓lRn_3, ↓pI, ↓pL, ↓pR, ↓pA, ↓pN, ↓pV, ↓fp, ↓tsw, ↓oS, ↓spMax, ↓spMin, ↓spAbs, ↓spObj, RI, RLg, b2i_lo, b2i_hi, getL, setL, ltL, killL, isLong, inl, cnd, br, tgt, rcv, rpl, mputI, mputL, mputP, fv, fr, mcat, mcs, entL, entA, rfit, nf_0, nf_1, nf_2, nf_3, nf2_0, nf2_1, b2i_0, b2i_1, RI_b2i, b2i_fit, List.append, List.length, List.replicate, List.cons_append, List.nil_append, List.length_cons, List.length_nil, List.replicate_succ, List.replicate_zero, List.tail_cons, reduceIte, if_true, if_false, ite_true, ite_false, Bool.false_eq_true, true_and, and_true, and_self, false_and, and_false, or_self, or_true, true_or, or_false, false_or, not_true_eq_false, not_false_eq_true, ne_eq, forall_const, implies_true, imp_self, true_implies, false_implies, Nat.reduceAdd, Nat.reduceSub, Nat.reduceMul, Nat.reduceDiv, Nat.reduceMod, Nat.reduceEqDiff, Nat.reduceLT, Nat.reduceLeDiff, Nat.reduceBEq, Nat.add_zero, Nat.zero_add, Nat.le_refl, Nat.not_lt_zero, Nat.succ_eq_add_one, Int.reduceNatCast, Int.cast_ofNat_Int, Int.reduceSub, Int.reduceMul, Int.reduceNeg, Int.reduceLE, Int.reduceLT, Int.reduceToNat, Int.reduceEq, Int.reduceNe, Int.reduceAdd, Option.some.injEq, kX1_trace, rmX1_trace, ↓ofX1_18, ↓ofX1_21, ↓ofX1_37, ↓ofX1_91, ↓ocX1_trace_94, ↓spX1_longestStint, ↓ocX1_trace_97, ↓spX1_nextState, G_1, G_2, G_3, G_4, G_35, G_36, G_37, G_38, G_39, G_40, G_41, G_42, G_43, G_44, G_45, G_46, G_47, G_48, G_49, G_140, G_141, G_142, G_143, G_144, G_145, G_146, G_178, G_179, G_180, G_181, G_182, G_183, G_184, G_189, G_198, G_207, PF_1_0, PF_1_1, PF_1_2, PF_1_3, PF_2_0, PF_2_1, PF_2_3, PF_2_4, PF_2_5, PF_2_6, PF_2_7, PF_2_8, PF_2_9, PF_2_10, PF_2_11, PF_3_0, PF_35_0, PF_35_1, PF_35_2, PF_35_3, PF_40_0, PF_40_1, PF_40_2, PF_44_0, PF_44_1, PF_44_2, PF_145_0, PF_145_1, PF_179_0, PF_179_1, PF_179_2, PF_179_3, PF_179_8, PF_179_9, PF_179_10]
      refine ih first (by omega) (by omega) f0 (by omega) (fun k' a b => ?_) h2
      by_cases q3 : k' = k
      · rw [q3]; omega
      · exact h1 k' a (by omega)
    · refine Ok.seg mdX1_trace [4, 40] 10 ?_
      simp only [wp_nil, wp_cons, ↓stp, ↓lI, ↓lL, ↓lR, ↓lIn_0, ↓lIn_1, ↓lIn_2, ↓lIn_3, ↓lLn_0, ↓lLn_1, ↓lLn_2, ↓lLn_3, ↓lRn_0, ↓lRn_1, ↓lRn_2, ↓lRn_3, ↓pI, ↓pL, ↓pR, ↓pA, ↓pN, ↓pV, ↓fp, ↓tsw, ↓oS, ↓spMax, ↓spMin, ↓spAbs, ↓spObj, RI, RLg, b2i_lo, b2i_hi, getL, setL, ltL, killL, isLong, inl, cnd, br, tgt, rcv, rpl, mputI, mputL, mputP, fv, fr, mcat, mcs, entL, entA, rfit, nf_0, nf_1, nf_2, nf_3, nf2_0, nf2_1, b2i_0, b2i_1, RI_b2i, b2i_fit, List.append, List.length, List.replicate, List.cons_append, List.nil_append, List.length_cons, List.length_nil, List.replicate_succ, List.replicate_zero, List.tail_cons, reduceIte, if_true, if_false, ite_true, ite_false, Bool.false_eq_true, true_and, and_true, and_self, false_and, and_false, or_self, or_true, true_or, or_false, false_or, not_true_eq_false, not_false_eq_true, ne_eq, forall_const, implies_true, imp_self, true_implies, false_implies, Nat.reduceAdd, Nat.reduceSub, Nat.reduceMul, Nat.reduceDiv, Nat.reduceMod, Nat.reduceEqDiff, Nat.reduceLT, Nat.reduceLeDiff, Nat.reduceBEq, Nat.add_zero, Nat.zero_add, Nat.le_refl, Nat.not_lt_zero, Nat.succ_eq_add_one, Int.reduceNatCast, Int.cast_ofNat_Int, Int.reduceSub, Int.reduceMul, Int.reduceNeg, Int.reduceLE, Int.reduceLT, Int.reduceToNat, Int.reduceEq, Int.reduceNe, Int.reduceAdd, Option.some.injEq, kX1_trace, rmX1_trace, ↓ofX1_18, ↓ofX1_21, ↓ofX1_37, ↓ofX1_91, ↓ocX1_trace_94, ↓spX1_longestStint, ↓ocX1_trace_97, ↓spX1_nextState, G_1, G_2, G_3, G_4, G_35, G_36, G_37, G_38, G_39, G_40, G_41, G_42, G_43, G_44, G_45, G_46, G_47, G_48, G_49, G_140, G_141, G_142, G_143, G_144, G_145, G_146, G_178, G_179, G_180, G_181, G_182, G_183, G_184, G_189, G_198, G_207, PF_1_0, PF_1_1, PF_1_2, PF_1_3, PF_2_0, PF_2_1, PF_2_3, PF_2_4, PF_2_5, PF_2_6, PF_2_7, PF_2_8, PF_2_9, PF_2_10, PF_2_11, PF_3_0, PF_35_0, PF_35_1, PF_35_2, PF_35_3, PF_40_0, PF_40_1, PF_40_2, PF_44_0, PF_44_1, PF_44_2, PF_145_0, PF_145_1, PF_179_0, PF_179_1, PF_179_2, PF_179_3, PF_179_8, PF_179_9, PF_179_10]
      refine ih k (by omega) (by omega) (by omega) (by omega) (fun k' a b => ?_) (fun k' a b => ?_)
      · by_cases q3 : k' = k
        · rw [q3]; omega
        · have := h1 k' a (by omega); omega
      · have := h1 k' a (by omega); omega
set_option maxRecDepth 100000 in
set_option maxHeartbeats 800000 in
theorem mX1_trace : MOK yX1_trace cX1_trace 7 none rmX1_trace ciX1_trace := by
  refine mok_of (ini := false) (by decide +kernel) (by decide) rfl rfl ?_
  intro σ As K hrc hl h
  obtain ⟨N, P, I, L⟩ := σ
  have h9 := pR_iff.mp h
  clear h
  obtain ⟨a, r, e9, h⟩ := h9
  subst e9
  have h9 := pI_iff.mp h
  clear h
  obtain ⟨n, r, e9, h⟩ := h9
  subst e9
  have h9 := pN_iff.mp h
  clear h
  obtain ⟨e9, h⟩ := h9
  subst e9
  dsimp only at h
  obtain ⟨rfl, rfl, m, lp, rfl, m0, m1, hB, hs, hf, ha, hmu, h⟩ := h
  refine ⟨Nat.le_of_ble_eq_true rfl, Ok.seg mdX1_trace [4] 8 ?_⟩
  simp only [wp_nil, wp_cons, ↓stp, ↓lI, ↓lL, ↓lR, ↓lIn_0, ↓lIn_1, ↓lIn_2, ↓lIn_3, ↓lLn_0, ↓lLn_1, ↓lLn_2, ↓lLn_3, ↓lRn_0, ↓lRn_1, ↓lRn_2, ↓lRn_3, ↓pI, ↓pL, ↓pR, ↓pA, ↓pN, ↓pV, ↓fp, ↓tsw, ↓oS, ↓spMax, ↓spMin, ↓spAbs, ↓spObj, RI, RLg, b2i_lo, b2i_hi, getL, setL, ltL, killL, isLong, inl, cnd, br, tgt, rcv, rpl, mputI, mputL, mputP, fv, fr, mcat, mcs, entL, entA, rfit, nf_0, nf_1, nf_2, nf_3, nf2_0, nf2_1, b2i_0, b2i_1, RI_b2i, b2i_fit, List.append, List.length, List.replicate, List.cons_append, List.nil_append, List.length_cons, List.length_nil, List.replicate_succ, List.replicate_zero, List.tail_cons, reduceIte, if_true, if_false, ite_true, ite_false, Bool.false_eq_true, true_and, and_true, and_self, false_and, and_false, or_self, or_true, true_or, or_false, false_or, not_true_eq_false, not_false_eq_true, ne_eq, forall_const, implies_true, imp_self, true_implies, false_implies, Nat.reduceAdd, Nat.reduceSub, Nat.reduceMul, Nat.reduceDiv, Nat.reduceMod, Nat.reduceEqDiff, Nat.reduceLT, Nat.reduceLeDiff, Nat.reduceBEq, Nat.add_zero, Nat.zero_add, Nat.le_refl, Nat.not_lt_zero, Nat.succ_eq_add_one, Int.reduceNatCast, Int.cast_ofNat_Int, Int.reduceSub, Int.reduceMul, Int.reduceNeg, Int.reduceLE, Int.reduceLT, Int.reduceToNat, Int.reduceEq, Int.reduceNe, Int.reduceAdd, Option.some.injEq, kX1_trace, rmX1_trace, ↓ofX1_18, ↓ofX1_21, ↓ofX1_37, ↓ofX1_91, ↓ocX1_trace_94, ↓spX1_longestStint, ↓ocX1_trace_97, ↓spX1_nextState, G_1, G_2, G_3, G_4, G_35, G_36, G_37, G_38, G_39, G_40, G_41, G_42, G_43, G_44, G_45, G_46, G_47, G_48, G_49, G_140, G_141, G_142, G_143, G_144, G_145, G_146, G_178, G_179, G_180, G_181, G_182, G_183, G_184, G_189, G_198, G_207, PF_1_0, PF_1_1, PF_1_2, PF_1_3, PF_2_0, PF_2_1, PF_2_3, PF_2_4, PF_2_5, PF_2_6, PF_2_7, PF_2_8, PF_2_9, PF_2_10, PF_2_11, PF_3_0, PF_35_0, PF_35_1, PF_35_2, PF_35_3, PF_40_0, PF_40_1, PF_40_2, PF_44_0, PF_44_1, PF_44_2, PF_145_0, PF_145_1, PF_179_0, PF_179_1, PF_179_2, PF_179_3, PF_179_8, PF_179_9, PF_179_10]
  have e0 : ∀ k, I (190 + 2 * k) m = I (190 + (2 * k + 0)) m := fun k => by rw [Int.add_zero]
  have hfm := fun k k0 k1 => hf m m0 (Nat.le_refl _) k 0 k0 k1 (.inl rfl)
  have hlt : ∀ k, 0 ≤ k → k ≤ 3 → Lt (Fr lp (I 179 4) (I 179 11 ≠ 0) (m - 1) k 0) (I (190 + 2 * k) m) := fun k k0 k1 => by
    have a := hfm k k0 k1
    rw [← e0] at a
    have hx : ∃ y, Fr lp (I 179 4) (I 179 11 ≠ 0) (m - 1) k 0 y := Fr_ex (by
      by_cases q : m = 1
      · exact .inl (hmu q)
      · exact .inr (.inr (by omega)))
    obtain ⟨y, hy⟩ := hx
    exact a.lt ⟨y, hy, by have := Fr_rng hB.1 hB.2.2 (by omega) k0 k1 hy; omega⟩
  have hr : ∀ k, 0 ≤ k → k ≤ 3 → 0 ≤ I (190 + 2 * k) m ∧ I (190 + 2 * k) m ≤ 536870912 := fun k k0 k1 => by
    have := frV hB m0 m1 k0 k1 (hfm k k0 k1)
    rwa [← e0] at this
  refine lpX1_t1 m1 hr (fun first t3 f0 f1 k1 k2 => ?_) 3 1 0 (by omega) (by omega) (by omega) (by omega) (fun k a b => by rw [show k = 0 by omega]; exact Int.le_refl _) (fun k a b => by omega)
  have hF : Fst lp (I 179 4) (I 179 11 ≠ 0) (m - 1) first (I (190 + 2 * first) m) := by
    refine ⟨⟨f0, f1⟩, (hlt first f0 f1).1, fun k y a b c => ?_, fun k a b c => ?_⟩
    · have := k1 k a b; have := (hlt k a b).2 y c; omega
    · have := k2 k a b; have := (hlt k a (by omega)).2 _ c; omega
  have p2 := PF_fresh (i := 2 * first) (by omega) (by omega)
  have g2 := G_fresh (a := 190 + 2 * first) (by omega) (by omega)
  have hu : frP I (upI I 179 7 (I (190 + 2 * first) m)) := fun b k b1 b2 b3 => if_neg b3
  refine Ok.seg mdX1_trace [72] 40 ?_
  simp only [wp_nil, wp_cons, ↓stp, ↓lI, ↓lL, ↓lR, ↓lIn_0, ↓lIn_1, ↓lIn_2, ↓lIn_3, ↓lLn_0, ↓lLn_1, ↓lLn_2, ↓lLn_3, ↓lRn_0, ↓lRn_1, ↓lRn_2, ↓lRn_3, ↓pI, ↓pL, ↓pR, ↓pA, ↓pN, ↓pV, ↓fp, ↓tsw, ↓oS, ↓spMax, ↓spMin, ↓spAbs, ↓spObj, RI, RLg, b2i_lo, b2i_hi, getL, setL, ltL, killL, isLong, inl, cnd, br, tgt, rcv, rpl, mputI, mputL, mputP, fv, fr, mcat, mcs, entL, entA, rfit, nf_0, nf_1, nf_2, nf_3, nf2_0, nf2_1, b2i_0, b2i_1, RI_b2i, b2i_fit, List.append, List.length, List.replicate, List.cons_append, List.nil_append, List.length_cons, List.length_nil, List.replicate_succ, List.replicate_zero, List.tail_cons, reduceIte, if_true, if_false, ite_true, ite_false, Bool.false_eq_true, true_and, and_true, and_self, false_and, and_false, or_self, or_true, true_or, or_false, false_or, not_true_eq_false, not_false_eq_true, ne_eq, forall_const, implies_true, imp_self, true_implies, false_implies, Nat.reduceAdd, Nat.reduceSub, Nat.reduceMul, Nat.reduceDiv, Nat.reduceMod, Nat.reduceEqDiff, Nat.reduceLT, Nat.reduceLeDiff, Nat.reduceBEq, Nat.add_zero, Nat.zero_add, Nat.le_refl, Nat.not_lt_zero, Nat.succ_eq_add_one, Int.reduceNatCast, Int.cast_ofNat_Int, Int.reduceSub, Int.reduceMul, Int.reduceNeg, Int.reduceLE, Int.reduceLT, Int.reduceToNat, Int.reduceEq, Int.reduceNe, Int.reduceAdd, Option.some.injEq, kX1_trace, rmX1_trace, ↓ofX1_18, ↓ofX1_21, ↓ofX1_37, ↓ofX1_91, ↓ocX1_trace_94, ↓spX1_longestStint, ↓ocX1_trace_97, ↓spX1_nextState, p2, g2, G_1, G_2, G_3, G_4, G_35, G_36, G_37, G_38, G_39, G_40, G_41, G_42, G_43, G_44, G_45, G_46, G_47, G_48, G_49, G_140, G_141, G_142, G_143, G_144, G_145, G_146, G_178, G_179, G_180, G_181, G_182, G_183, G_184, G_189, G_198, G_207, PF_1_0, PF_1_1, PF_1_2, PF_1_3, PF_2_0, PF_2_1, PF_2_3, PF_2_4, PF_2_5, PF_2_6, PF_2_7, PF_2_8, PF_2_9, PF_2_10, PF_2_11, PF_3_0, PF_35_0, PF_35_1, PF_35_2, PF_35_3, PF_40_0, PF_40_1, PF_40_2, PF_44_0, PF_44_1, PF_44_2, PF_145_0, PF_145_1, PF_179_0, PF_179_1, PF_179_2, PF_179_3, PF_179_8, PF_179_9, PF_179_10]
  have ue : ∀ b k, ¬ (b = 179 ∧ k = 7) → upI I 179 7 (I (190 + 2 * first) m) b k = I b k := fun b k hb => if_neg hb
  refine ⟨by omega, by omega, by omega, by omega, first, 0, m, lp, by omega, rfl, f0, f1, .inl rfl, by omega, by omega, frP_B hu hB, frP_s hu hs, fun j j0 j1 => frP_a hu (ha j j0 (by omega)), ?_, fun l l0 l1 l2 l3 => ?_⟩
  · rw [ue 179 4 (by omega), ue 179 11 (by omega), ue (190 + 2 * first) m (by omega)]; exact hlt first f0 f1
  · rw [ue 179 4 (by omega), ue 179 11 (by omega), ue (190 + 2 * first) m (by omega)] at l2
    have := lpX1_t2 (post := fun r σ' => rfit none r ∧ K r σ') (U := fun _ => False) (N := N) (L := L) m1 m0 hB hs hf ha hF (fun I1 a b c => ⟨trivial, h I1 a (by rw [b]; exact c)⟩) m 0 0 l first 0 (I (190 + 2 * first) m) (fun _ => 0) (upI I 179 7 (I (190 + 2 * first) m)) (by omega) hu upI_same ⟨⟨f0, f1⟩, .inl rfl, by omega, by omega, l0, by omega, by omega, hlt first f0 f1, l2, fun l' a b z => l3 l' a (by omega) (by rw [ue 179 4 (by omega), ue 179 11 (by omega), ue (190 + 2 * first) m (by omega)]; exact z), fun _ => ⟨rfl, rfl, rfl⟩, fun q => by omega, fun i a b => by omega⟩
    rw [Int.add_zero] at this
    exact this
/-- the time of a lap on a tyre -/
noncomputable def lpf (I : Int → Int → Int) (t d : Int) : Int := Classical.epsilon (fun v => lapT I (grpv (I 180) (I 181) t d) (I 36 1) (I 36 2) v)
theorem lpf_of {I : Int → Int → Int} {t d v : Int} (h : lapT I (grpv (I 180) (I 181) t d) (I 36 1) (I 36 2) v) : lpf I t d = v := lapT.uniq (Classical.epsilon_spec (p := fun v => lapT I (grpv (I 180) (I 181) t d) (I 36 1) (I 36 2) v) ⟨v, h⟩) h
theorem lapT_ex {I : Int → Int → Int} {g bk st : Int} (ht : tOK I) (hc : carOK I) (hb : 0 ≤ bk) (hs : 1 ≤ st) : ∃ v, lapT I g bk st v := by
  have h0 := ht.1
  by_cases hn : I 3 1 = 0
  · exact ⟨0, .inl ⟨hn, rfl⟩⟩
  · have hn' : 0 < I 3 1 := by omega
    obtain ⟨t, h⟩ := LapE_ex (g := g) hc hb hs hn'
    obtain ⟨v, a, b⟩ := least_ex (S := LapE I g bk st) (fun x hx => (LapE_rng ht hn' hx).1) t.toNat t (Nat.le_refl _) h
    exact ⟨v, .inr ⟨hn', a, b⟩⟩
theorem lpf_T {I : Int → Int → Int} (ht : tOK I) (hc : carOK I) (t d : Int) : lapT I (grpv (I 180) (I 181) t d) (I 36 1) (I 36 2) (lpf I t d) := by
  have hn := hc.2
  unfold nOK at hn
  exact Classical.epsilon_spec (p := fun v => lapT I (grpv (I 180) (I 181) t d) (I 36 1) (I 36 2) v) (lapT_ex ht hc (by omega) (by omega))
theorem lapT_iff {I J : Int → Int → Int} {g bk st v : Int} (h : tsame I J) : lapT I g bk st v ↔ lapT J g bk st v := ⟨lapT_cg h, lapT_cg h.sy⟩
theorem lpf_cg {I J : Int → Int → Int} (h : tsame I J) (h36 : ∀ k, J 36 k = I 36 k) (h180 : ∀ k, J 180 k = I 180 k) (h181 : ∀ k, J 181 k = I 181 k) : lpf J = lpf I := funext fun t => funext fun d => by
  unfold lpf
  rw [h36, h36, show J 180 = I 180 from funext h180, show J 181 = I 181 from funext h181]
  congr 1
  funext v
  exact propext (lapT_iff h).symm
def mus (I : Int → Int → Int) (n : Int) : Prop := I 179 5 = 1 ∧ 1 < n
def raceOK (I : Int → Int → Int) : Prop := raceR I ∧ (I 179 6 = 0 ∨ (1 ≤ I 179 6 ∧ I 179 6 ≤ 40) ∧ PlanOK (lpf I) (I 179 4) (mus I (I 179 6)) (I 179 6) (I 182) (I 183) (I 179 7)) ∧ ∀ t, 0 ≤ t → t ≤ 3 → I (185 + t) 0 = 0
def frL (I J : Int → Int → Int) : Prop := ∀ b k, b ≠ 48 → b ≠ 140 → b ≠ 141 → b ≠ 144 → ¬ (50 ≤ b ∧ b ≤ 139) → ¬ (182 ≤ b ∧ b ≤ 206) → ¬ (b = 179 ∧ (k = 6 ∨ k = 7 ∨ k = 11)) → J b k = I b k
theorem frL.lo {I J : Int → Int → Int} (h : frL I J) : ∀ b k, b < 40 → J b k = I b k := fun b k hb => h b k (by omega) (by omega) (by omega) (by omega) (by omega) (by omega) (by omega)
def spX1_prepare (As : List MV) (σ : MS) (K : Option MV → MS → Prop) : Prop := pR As fun a r => pR r fun w r => pI r fun n r => pN r (a = 179 ∧ w = 2 ∧ σ.2.1 = PF ∧ 1 ≤ n ∧ n ≤ 40 ∧ tOK σ.2.2.1 ∧ carOK σ.2.2.1 ∧ capOK σ.2.2.1 ∧ raceOK σ.2.2.1 ∧
  ∀ I' : Int → Int → Int, frL σ.2.2.1 I' → capOK I' → raceOK I' → I' 179 6 = n → K none (σ.1, σ.2.1, I', σ.2.2.2))
def ciX1_prepare : CI := (3, 1, 0, 0, spX1_prepare)
def kX1_prepare (pc : Nat) : List ME := match pc with
  | 0 => [(.aload_n 0, 1, []), (.getfield 55, 3, []), (.iload_n 2, 1, []), (.if_icmp .eq 117, 3, [122]), (.aload_n 0, 1, []), (.aload_n 0, 1, []), (.getfield 28, 3, []), (.ifCond .eq 12, 3, [25]), (.iload_n 2, 1, []), (.iconst 1, 1, []), (.if_icmp .le 7, 3, [25]), (.iconst 1, 1, []), (.goto 4, 3, [26])]
  | 25 => [(.iconst 0, 1, [])]
  | 26 => [(.putfield 58, 3, []), (.iconst 0, 1, []), (.istore_n 3, 1, [])]
  | 31 => [(.iload_n 3, 1, []), (.iconst 4, 1, []), (.if_icmp .ge 56, 3, [89]), (.iconst 0, 1, []), (.istore 4, 2, [])]
  | 39 => [(.iload 4, 2, []), (.iload_n 2, 1, []), (.if_icmp .ge 41, 3, [83]), (.aload_n 0, 1, []), (.getfield 34, 3, []), (.iload_n 3, 1, []), (.aaload, 1, []), (.iload 4, 2, []), (.iconst 1, 1, []), (.iadd, 1, []), (.aload_n 0, 1, []), (.getfield 34, 3, []), (.iload_n 3, 1, []), (.aaload, 1, []), (.iload 4, 2, []), (.iaload, 1, []), (.aload_n 1, 1, []), (.aload_n 0, 1, []), (.iload_n 3, 1, []), (.iload 4, 2, []), (.invokevirtual 61, 3, []), (.invokevirtual 64, 3, []), (.iadd, 1, []), (.iastore, 1, []), (.iinc 4 1, 3, []), (.goto (-41), 3, [39])]
  | 83 => [(.iinc 3 1, 3, []), (.goto (-55), 3, [31])]
  | 89 => [(.iconst 1, 1, []), (.istore_n 3, 1, [])]
  | 91 => [(.iload_n 3, 1, []), (.iload_n 2, 1, []), (.if_icmp .gt 19, 3, [112]), (.aload_n 0, 1, []), (.iload_n 3, 1, []), (.invokevirtual 70, 3, []), (.aload_n 0, 1, []), (.iload_n 3, 1, []), (.invokevirtual 74, 3, []), (.iinc 3 1, 3, []), (.goto (-18), 3, [91])]
  | 112 => [(.aload_n 0, 1, []), (.iload_n 2, 1, []), (.invokevirtual 77, 3, []), (.aload_n 0, 1, []), (.iload_n 2, 1, []), (.putfield 55, 3, [])]
  | 122 => [(.return_, 1, [])]
  | _ => []
theorem qX1_prepare : ∀ pc, chk cX1_prepare pc (kX1_prepare pc) = true := by
  intro pc
  unfold kX1_prepare
  split <;> first | decide +kernel | exact chk_nil
abbrev rmX1_prepare : Room := { frames := 5, cells := 0, slots := 0, locals := 121 }
def aX1_prepare (x : Nat) : Option CI := match x with
  | 61 => some ciX1_gripOf
  | 64 => some ciX7_lapByGrip
  | 70 => some ciX1_fillFresh
  | 74 => some ciX1_fillAfter
  | 77 => some ciX1_trace
  | _ => none
theorem aokX1_prepare : ∀ x ci, aX1_prepare x = some ci → CalOK RX1 rmX1_prepare x ci := by
  intro x ci h
  unfold aX1_prepare at h
  split at h
  · cases h; exact cal_V mX1_gripOf (by decide) rfl (List.forall_mem_cons.mpr ⟨(ws_mem (List.mem_of_getElem? (i := 576) (by decide +kernel)) (by decide +kernel)), List.forall_mem_cons.mpr ⟨(ws_mem (List.mem_of_getElem? (i := 577) (by decide +kernel)) (by decide +kernel)), List.forall_mem_cons.mpr ⟨(ws_mem (List.mem_of_getElem? (i := 578) (by decide +kernel)) (by decide +kernel)), List.forall_mem_cons.mpr ⟨(ws_mem (List.mem_of_getElem? (i := 62) (by decide +kernel)) (by decide +kernel)), List.forall_mem_cons.mpr ⟨(ws_mem (List.mem_of_getElem? (i := 579) (by decide +kernel)) (by decide +kernel)), fun _ h => absurd h List.not_mem_nil⟩⟩⟩⟩⟩) rfl (by unfold nice; decide +kernel) (by unfold rfits; decide) ⟨rfl, rfl⟩
  · cases h; exact cal_V mX7_lapByGrip (by decide) rfl (List.forall_mem_cons.mpr ⟨(ws_mem (List.mem_of_getElem? (i := 581) (by decide +kernel)) (by decide +kernel)), List.forall_mem_cons.mpr ⟨(ws_mem (List.mem_of_getElem? (i := 582) (by decide +kernel)) (by decide +kernel)), List.forall_mem_cons.mpr ⟨(ws_mem (List.mem_of_getElem? (i := 583) (by decide +kernel)) (by decide +kernel)), List.forall_mem_cons.mpr ⟨(ws_mem (List.mem_of_getElem? (i := 54) (by decide +kernel)) (by decide +kernel)), List.forall_mem_cons.mpr ⟨(ws_mem (List.mem_of_getElem? (i := 584) (by decide +kernel)) (by decide +kernel)), fun _ h => absurd h List.not_mem_nil⟩⟩⟩⟩⟩) rfl (by unfold nice; decide +kernel) (by unfold rfits; decide) ⟨rfl, rfl⟩
  · cases h; exact cal_V mX1_fillFresh (by decide) rfl (List.forall_mem_cons.mpr ⟨(ws_mem (List.mem_of_getElem? (i := 585) (by decide +kernel)) (by decide +kernel)), List.forall_mem_cons.mpr ⟨(ws_mem (List.mem_of_getElem? (i := 587) (by decide +kernel)) (by decide +kernel)), List.forall_mem_cons.mpr ⟨(ws_mem (List.mem_of_getElem? (i := 12) (by decide +kernel)) (by decide +kernel)), List.forall_mem_cons.mpr ⟨(ws_mem (List.mem_of_getElem? (i := 62) (by decide +kernel)) (by decide +kernel)), List.forall_mem_cons.mpr ⟨(ws_mem (List.mem_of_getElem? (i := 588) (by decide +kernel)) (by decide +kernel)), fun _ h => absurd h List.not_mem_nil⟩⟩⟩⟩⟩) rfl (by unfold nice; decide +kernel) (by unfold rfits; decide) ⟨rfl, rfl⟩
  · cases h; exact cal_V mX1_fillAfter (by decide) rfl (List.forall_mem_cons.mpr ⟨(ws_mem (List.mem_of_getElem? (i := 595) (by decide +kernel)) (by decide +kernel)), List.forall_mem_cons.mpr ⟨(ws_mem (List.mem_of_getElem? (i := 597) (by decide +kernel)) (by decide +kernel)), List.forall_mem_cons.mpr ⟨(ws_mem (List.mem_of_getElem? (i := 14) (by decide +kernel)) (by decide +kernel)), List.forall_mem_cons.mpr ⟨(ws_mem (List.mem_of_getElem? (i := 62) (by decide +kernel)) (by decide +kernel)), List.forall_mem_cons.mpr ⟨(ws_mem (List.mem_of_getElem? (i := 598) (by decide +kernel)) (by decide +kernel)), fun _ h => absurd h List.not_mem_nil⟩⟩⟩⟩⟩) rfl (by unfold nice; decide +kernel) (by unfold rfits; decide) ⟨rfl, rfl⟩
  · cases h; exact cal_V mX1_trace (by decide) rfl (List.forall_mem_cons.mpr ⟨(ws_mem (List.mem_of_getElem? (i := 602) (by decide +kernel)) (by decide +kernel)), List.forall_mem_cons.mpr ⟨(ws_mem (List.mem_of_getElem? (i := 604) (by decide +kernel)) (by decide +kernel)), List.forall_mem_cons.mpr ⟨(ws_mem (List.mem_of_getElem? (i := 15) (by decide +kernel)) (by decide +kernel)), List.forall_mem_cons.mpr ⟨(ws_mem (List.mem_of_getElem? (i := 62) (by decide +kernel)) (by decide +kernel)), List.forall_mem_cons.mpr ⟨(ws_mem (List.mem_of_getElem? (i := 605) (by decide +kernel)) (by decide +kernel)), fun _ h => absurd h List.not_mem_nil⟩⟩⟩⟩⟩) rfl (by unfold nice; decide +kernel) (by unfold rfits; decide) ⟨rfl, rfl⟩
  · cases h
theorem ocX1_prepare_61 (f : Nat → Nat → Nat → Nat → (List MV → MS → (Option MV → MS → Prop) → Prop) → Prop) : oC aX1_prepare 61 f = f 3 1 0 0 spX1_gripOf := propext Iff.rfl
theorem ocX1_prepare_64 (f : Nat → Nat → Nat → Nat → (List MV → MS → (Option MV → MS → Prop) → Prop) → Prop) : oC aX1_prepare 64 f = f 2 7 0 0 spX7_lapByGrip := propext Iff.rfl
theorem ocX1_prepare_70 (f : Nat → Nat → Nat → Nat → (List MV → MS → (Option MV → MS → Prop) → Prop) → Prop) : oC aX1_prepare 70 f = f 2 1 0 0 spX1_fillFresh := propext Iff.rfl
theorem ocX1_prepare_74 (f : Nat → Nat → Nat → Nat → (List MV → MS → (Option MV → MS → Prop) → Prop) → Prop) : oC aX1_prepare 74 f = f 2 1 0 0 spX1_fillAfter := propext Iff.rfl
theorem ocX1_prepare_77 (f : Nat → Nat → Nat → Nat → (List MV → MS → (Option MV → MS → Prop) → Prop) → Prop) : oC aX1_prepare 77 f = f 2 1 0 0 spX1_trace := propext Iff.rfl
theorem mdX1_prepare : MD RX1 cX1_prepare rmX1_prepare kX1_prepare fX1 aX1_prepare zX1 uX1 := ⟨fokX1, zokX1, uokX1, aokX1_prepare, qX1_prepare⟩
theorem frL_lpf {I J : Int → Int → Int} (h : frL I J) (h3 : I 3 1 ≤ 30) : lpf J = lpf I := lpf_cg (tsame_of h.lo h3) (fun k => h.lo _ _ (by omega)) (fun k => h _ _ (by omega) (by omega) (by omega) (by omega) (by omega) (by omega) (by omega)) (fun k => h _ _ (by omega) (by omega) (by omega) (by omega) (by omega) (by omega) (by omega))
/-- while the stints are told -/
def frM (I J : Int → Int → Int) : Prop := ∀ b k, b ≠ 48 → b ≠ 140 → b ≠ 141 → b ≠ 144 → ¬ (50 ≤ b ∧ b ≤ 139) → ¬ (185 ≤ b ∧ b ≤ 188) → J b k = I b k
theorem frM.lo {I J : Int → Int → Int} (h : frM I J) : ∀ b k, b < 40 → J b k = I b k := fun b k hb => h b k (by omega) (by omega) (by omega) (by omega) (by omega) (by omega)
theorem raceR_cg {I J : Int → Int → Int} (h : frM I J) (hr : raceR I) : raceR J := by
  unfold raceR
  rw [h 179 4 (by omega) (by omega) (by omega) (by omega) (by omega) (by omega), h 179 5 (by omega) (by omega) (by omega) (by omega) (by omega) (by omega)]
  exact ⟨fun t a b => by rw [h 180 t (by omega) (by omega) (by omega) (by omega) (by omega) (by omega), h 181 t (by omega) (by omega) (by omega) (by omega) (by omega) (by omega)]; exact hr.1 t a b, hr.2⟩
set_option maxHeartbeats 1600000 in
set_option maxRecDepth 100000 in
theorem lpX1_p1 {post : Option MV → MS → Prop} {U : Pt → Prop} {N n : Nat} {I L : Int → Int → Int} {t : Int} (t0 : 0 ≤ t) (t1 : t ≤ 3) (n1 : n ≤ 40) (ht : tOK I) (hc : carOK I) (hr : raceR I)
    (h : ∀ (I1 : Int → Int → Int) (t4 : Option MV), frM I I1 → capOK I1 → (∀ (t' : Int) (l : Nat), 0 ≤ t' → t' ≤ t → l ≤ n → I1 (185 + t') l = sumI (lpf I t') l) → (∀ t', 0 ≤ t' → t' ≤ 3 → I1 (185 + t') 0 = 0) → Ok RX1 cX1_prepare 5 rmX1_prepare false none post U (83, [some (.inr (.inr (some 179))), some (.inr (.inr (some 2))), some (.inl n), some (.inl t), t4], [], (N, PF, I1, L), 0, 0)) :
    ∀ (m d : Nat) (I1 : Int → Int → Int), d + m = n → frM I I1 → capOK I1 → (∀ (t' : Int) (l : Nat), 0 ≤ t' → t' < t → l ≤ n → I1 (185 + t') l = sumI (lpf I t') l) → (∀ l : Nat, l ≤ d → I1 (185 + t) l = sumI (lpf I t) l) → (∀ t', 0 ≤ t' → t' ≤ 3 → I1 (185 + t') 0 = 0) →
    Ok RX1 cX1_prepare 5 rmX1_prepare false none post U (39, [some (.inr (.inr (some 179))), some (.inr (.inr (some 2))), some (.inl n), some (.inl t), some (.inl d)], [], (N, PF, I1, L), 0, 0)
  | 0, d, I1, hd, h1, h2, h3, h4, h5 => by
    refine Ok.seg mdX1_prepare [39, 83] 10 ?_
    simp only [wp_nil, wp_cons, ↓stp, ↓lI, ↓lL, ↓lR, ↓lIn_0, ↓lIn_1, ↓lIn_2, ↓lIn_3, ↓lLn_0, ↓lLn_1, ↓lLn_2, ↓lLn_3, ↓lRn_0, ↓lRn_1, ↓lRn_2, ↓lRn_3, ↓pI, ↓pL, ↓pR, ↓pA, ↓pN, ↓pV, ↓fp, ↓tsw, ↓oS, ↓spMax, ↓spMin, ↓spAbs, ↓spObj, RI, RLg, b2i_lo, b2i_hi, getL, setL, ltL, killL, isLong, inl, cnd, br, tgt, rcv, rpl, mputI, mputL, mputP, fv, fr, mcat, mcs, entL, entA, rfit, nf_0, nf_1, nf_2, nf_3, nf2_0, nf2_1, b2i_0, b2i_1, RI_b2i, b2i_fit, List.append, List.length, List.replicate, List.cons_append, List.nil_append, List.length_cons, List.length_nil, List.replicate_succ, List.replicate_zero, List.tail_cons, reduceIte, if_true, if_false, ite_true, ite_false, Bool.false_eq_true, true_and, and_true, and_self, false_and, and_false, or_self, or_true, true_or, or_false, false_or, not_true_eq_false, not_false_eq_true, ne_eq, forall_const, implies_true, imp_self, true_implies, false_implies, Nat.reduceAdd, Nat.reduceSub, Nat.reduceMul, Nat.reduceDiv, Nat.reduceMod, Nat.reduceEqDiff, Nat.reduceLT, Nat.reduceLeDiff, Nat.reduceBEq, Nat.add_zero, Nat.zero_add, Nat.le_refl, Nat.not_lt_zero, Nat.succ_eq_add_one, Int.reduceNatCast, Int.cast_ofNat_Int, Int.reduceSub, Int.reduceMul, Int.reduceNeg, Int.reduceLE, Int.reduceLT, Int.reduceToNat, Int.reduceEq, Int.reduceNe, Int.reduceAdd, Option.some.injEq, kX1_prepare, rmX1_prepare, ↓ofX1_28, ↓ofX1_34, ↓ofX1_55, ↓ofX1_58, ↓ocX1_prepare_61, ↓spX1_gripOf, ↓ocX1_prepare_64, ↓spX7_lapByGrip, ↓ocX1_prepare_70, ↓spX1_fillFresh, ↓ocX1_prepare_74, ↓spX1_fillAfter, ↓ocX1_prepare_77, ↓spX1_trace, G_1, G_2, G_3, G_4, G_35, G_36, G_37, G_38, G_39, G_40, G_41, G_42, G_43, G_44, G_45, G_46, G_47, G_48, G_49, G_140, G_141, G_142, G_143, G_144, G_145, G_146, G_178, G_179, G_180, G_181, G_182, G_183, G_184, G_189, G_198, G_207, PF_1_0, PF_1_1, PF_1_2, PF_1_3, PF_2_0, PF_2_1, PF_2_3, PF_2_4, PF_2_5, PF_2_6, PF_2_7, PF_2_8, PF_2_9, PF_2_10, PF_2_11, PF_3_0, PF_35_0, PF_35_1, PF_35_2, PF_35_3, PF_40_0, PF_40_1, PF_40_2, PF_44_0, PF_44_1, PF_44_2, PF_145_0, PF_145_1, PF_179_0, PF_179_1, PF_179_2, PF_179_3, PF_179_8, PF_179_9, PF_179_10]
    refine ⟨by omega, by omega, fun q => h I1 _ h1 h2 (fun t' l a b c => ?_) h5, fun q => by omega⟩
    by_cases e : t' = t
    · rw [e]; exact h4 l (by omega)
    · exact h3 t' l a (by omega) c
  | m + 1, d, I1, hd, h1, h2, h3, h4, h5 => by
    have ih := lpX1_p1 (U := U) (post := post) t0 t1 n1 ht hc hr h m (d + 1)
    have hp := PF_stint (i := t) (by omega) (by omega)
    have hg := G_stint (a := 185 + t) (by omega) (by omega)
    have e180 : I1 180 = I 180 := funext fun k => h1 _ _ (by omega) (by omega) (by omega) (by omega) (by omega) (by omega)
    have e181 : I1 181 = I 181 := funext fun k => h1 _ _ (by omega) (by omega) (by omega) (by omega) (by omega) (by omega)
    have htI := tOK_cg h1.lo ht
    have hcI := carOK_cg h1.lo hc
    have hrI := raceR_cg h1 hr
    have gr := grpv_rng (d := d) (hr.1 t t0 t1) (by omega)
    have e36 : I1 36 = I 36 := funext fun k => h1.lo _ _ (by omega)
    refine Ok.seg mdX1_prepare [39, 83] 60 ?_
    simp only [wp_nil, wp_cons, ↓stp, ↓lI, ↓lL, ↓lR, ↓lIn_0, ↓lIn_1, ↓lIn_2, ↓lIn_3, ↓lLn_0, ↓lLn_1, ↓lLn_2, ↓lLn_3, ↓lRn_0, ↓lRn_1, ↓lRn_2, ↓lRn_3, ↓pI, ↓pL, ↓pR, ↓pA, ↓pN, ↓pV, ↓fp, ↓tsw, ↓oS, ↓spMax, ↓spMin, ↓spAbs, ↓spObj, RI, RLg, b2i_lo, b2i_hi, getL, setL, ltL, killL, isLong, inl, cnd, br, tgt, rcv, rpl, mputI, mputL, mputP, fv, fr, mcat, mcs, entL, entA, rfit, nf_0, nf_1, nf_2, nf_3, nf2_0, nf2_1, b2i_0, b2i_1, RI_b2i, b2i_fit, List.append, List.length, List.replicate, List.cons_append, List.nil_append, List.length_cons, List.length_nil, List.replicate_succ, List.replicate_zero, List.tail_cons, reduceIte, if_true, if_false, ite_true, ite_false, Bool.false_eq_true, true_and, and_true, and_self, false_and, and_false, or_self, or_true, true_or, or_false, false_or, not_true_eq_false, not_false_eq_true, ne_eq, forall_const, implies_true, imp_self, true_implies, false_implies, Nat.reduceAdd, Nat.reduceSub, Nat.reduceMul, Nat.reduceDiv, Nat.reduceMod, Nat.reduceEqDiff, Nat.reduceLT, Nat.reduceLeDiff, Nat.reduceBEq, Nat.add_zero, Nat.zero_add, Nat.le_refl, Nat.not_lt_zero, Nat.succ_eq_add_one, Int.reduceNatCast, Int.cast_ofNat_Int, Int.reduceSub, Int.reduceMul, Int.reduceNeg, Int.reduceLE, Int.reduceLT, Int.reduceToNat, Int.reduceEq, Int.reduceNe, Int.reduceAdd, Option.some.injEq, kX1_prepare, rmX1_prepare, ↓ofX1_28, ↓ofX1_34, ↓ofX1_55, ↓ofX1_58, ↓ocX1_prepare_61, ↓spX1_gripOf, ↓ocX1_prepare_64, ↓spX7_lapByGrip, ↓ocX1_prepare_70, ↓spX1_fillFresh, ↓ocX1_prepare_74, ↓spX1_fillAfter, ↓ocX1_prepare_77, ↓spX1_trace, hp, hg, e180, e181, e36, htI, hcI, h2, hrI, G_1, G_2, G_3, G_4, G_35, G_36, G_37, G_38, G_39, G_40, G_41, G_42, G_43, G_44, G_45, G_46, G_47, G_48, G_49, G_140, G_141, G_142, G_143, G_144, G_145, G_146, G_178, G_179, G_180, G_181, G_182, G_183, G_184, G_189, G_198, G_207, PF_1_0, PF_1_1, PF_1_2, PF_1_3, PF_2_0, PF_2_1, PF_2_3, PF_2_4, PF_2_5, PF_2_6, PF_2_7, PF_2_8, PF_2_9, PF_2_10, PF_2_11, PF_3_0, PF_35_0, PF_35_1, PF_35_2, PF_35_3, PF_40_0, PF_40_1, PF_40_2, PF_44_0, PF_44_1, PF_44_2, PF_145_0, PF_145_1, PF_179_0, PF_179_1, PF_179_2, PF_179_3, PF_179_8, PF_179_9, PF_179_10]
    refine ⟨by omega, by omega, fun q => by omega, fun q => ?_⟩
    repeat refine ⟨by omega, ?_⟩
    refine fun I2 v k1 k2 k3 => ?_
    have ev : lpf I t d = v := lpf_of (lapT_cg (tsame_of h1.lo ht.2.1).sy k3)
    have ed := h4 d (Nat.le_refl _)
    refine ⟨by omega, by omega, ?_⟩
    have hfr : frM I (upI I2 (185 + t) ((d : Int) + 1) (I1 (185 + t) d + v)) := fun b k b1 b2 b3 b4 b5 b6 => by
      rw [upI_ne (by omega), k1 b k b1 b2 b3 b4 b5]; exact h1 b k b1 b2 b3 b4 b5 b6
    have e2 : ∀ t' k, 0 ≤ t' → t' ≤ 3 → I2 (185 + t') k = I1 (185 + t') k := fun t' k a b => k1 _ k (by omega) (by omega) (by omega) (by omega) (by omega)
    have := ih (upI I2 (185 + t) ((d : Int) + 1) (I1 (185 + t) d + v)) (by omega) hfr ?_ (fun t' l a b c => by rw [upI_ne (by omega), e2 t' l a (by omega)]; exact h3 t' l a b c) (fun l a => ?_) (fun t' a b => by rw [upI_nj (by omega), e2 t' 0 a b]; exact h5 t' a b)
    · rwa [show ((d + 1 : Nat) : Int) = (d : Int) + 1 by omega] at this
    · have h3I := htI.2.1
      exact capOK_cg (I := I2) (fun b k hb => upI_ne (by omega)) (by rw [k1.lo 3 1 (by omega)]; exact h3I) (fun k => upI_ne (by omega)) k2
    · by_cases q3 : l = d + 1
      · rw [q3, show ((d + 1 : Nat) : Int) = (d : Int) + 1 by omega, upI_same, ed, sumI_s, ev]
      · rw [upI_nj (by omega), e2 t l t0 t1]; exact h4 l (by omega)
set_option maxHeartbeats 1600000 in
set_option maxRecDepth 100000 in
theorem lpX1_p2 {post : Option MV → MS → Prop} {U : Pt → Prop} {N n : Nat} {I L : Int → Int → Int} (n1 : n ≤ 40) (ht : tOK I) (hc : carOK I) (hr : raceR I)
    (h : ∀ (I1 : Int → Int → Int) (t4 : Option MV), frM I I1 → capOK I1 → stiOK I1 (lpf I) n → (∀ t', 0 ≤ t' → t' ≤ 3 → I1 (185 + t') 0 = 0) → Ok RX1 cX1_prepare 5 rmX1_prepare false none post U (91, [some (.inr (.inr (some 179))), some (.inr (.inr (some 2))), some (.inl n), some (.inl 1), t4], [], (N, PF, I1, L), 0, 0)) :
    ∀ (m : Nat) (t : Int) (I1 : Int → Int → Int) (t4 : Option MV), t + m = 4 → 0 ≤ t → frM I I1 → capOK I1 → (∀ (t' : Int) (l : Nat), 0 ≤ t' → t' < t → l ≤ n → I1 (185 + t') l = sumI (lpf I t') l) → (∀ t', 0 ≤ t' → t' ≤ 3 → I1 (185 + t') 0 = 0) →
    Ok RX1 cX1_prepare 5 rmX1_prepare false none post U (31, [some (.inr (.inr (some 179))), some (.inr (.inr (some 2))), some (.inl n), some (.inl t), t4], [], (N, PF, I1, L), 0, 0)
  | 0, t, I1, t4, hm, t0, h1, h2, h3, h4 => by
    refine Ok.seg mdX1_prepare [31, 91] 10 ?_
    simp only [wp_nil, wp_cons, ↓stp, ↓lI, ↓lL, ↓lR, ↓lIn_0, ↓lIn_1, ↓lIn_2, ↓lIn_3, ↓lLn_0, ↓lLn_1, ↓lLn_2, ↓lLn_3, ↓lRn_0, ↓lRn_1, ↓lRn_2, ↓lRn_3, ↓pI, ↓pL, ↓pR, ↓pA, ↓pN, ↓pV, ↓fp, ↓tsw, ↓oS, ↓spMax, ↓spMin, ↓spAbs, ↓spObj, RI, RLg, b2i_lo, b2i_hi, getL, setL, ltL, killL, isLong, inl, cnd, br, tgt, rcv, rpl, mputI, mputL, mputP, fv, fr, mcat, mcs, entL, entA, rfit, nf_0, nf_1, nf_2, nf_3, nf2_0, nf2_1, b2i_0, b2i_1, RI_b2i, b2i_fit, List.append, List.length, List.replicate, List.cons_append, List.nil_append, List.length_cons, List.length_nil, List.replicate_succ, List.replicate_zero, List.tail_cons, reduceIte, if_true, if_false, ite_true, ite_false, Bool.false_eq_true, true_and, and_true, and_self, false_and, and_false, or_self, or_true, true_or, or_false, false_or, not_true_eq_false, not_false_eq_true, ne_eq, forall_const, implies_true, imp_self, true_implies, false_implies, Nat.reduceAdd, Nat.reduceSub, Nat.reduceMul, Nat.reduceDiv, Nat.reduceMod, Nat.reduceEqDiff, Nat.reduceLT, Nat.reduceLeDiff, Nat.reduceBEq, Nat.add_zero, Nat.zero_add, Nat.le_refl, Nat.not_lt_zero, Nat.succ_eq_add_one, Int.reduceNatCast, Int.cast_ofNat_Int, Int.reduceSub, Int.reduceMul, Int.reduceNeg, Int.reduceLE, Int.reduceLT, Int.reduceToNat, Int.reduceEq, Int.reduceNe, Int.reduceAdd, Option.some.injEq, kX1_prepare, rmX1_prepare, ↓ofX1_28, ↓ofX1_34, ↓ofX1_55, ↓ofX1_58, ↓ocX1_prepare_61, ↓spX1_gripOf, ↓ocX1_prepare_64, ↓spX7_lapByGrip, ↓ocX1_prepare_70, ↓spX1_fillFresh, ↓ocX1_prepare_74, ↓spX1_fillAfter, ↓ocX1_prepare_77, ↓spX1_trace, G_1, G_2, G_3, G_4, G_35, G_36, G_37, G_38, G_39, G_40, G_41, G_42, G_43, G_44, G_45, G_46, G_47, G_48, G_49, G_140, G_141, G_142, G_143, G_144, G_145, G_146, G_178, G_179, G_180, G_181, G_182, G_183, G_184, G_189, G_198, G_207, PF_1_0, PF_1_1, PF_1_2, PF_1_3, PF_2_0, PF_2_1, PF_2_3, PF_2_4, PF_2_5, PF_2_6, PF_2_7, PF_2_8, PF_2_9, PF_2_10, PF_2_11, PF_3_0, PF_35_0, PF_35_1, PF_35_2, PF_35_3, PF_40_0, PF_40_1, PF_40_2, PF_44_0, PF_44_1, PF_44_2, PF_145_0, PF_145_1, PF_179_0, PF_179_1, PF_179_2, PF_179_3, PF_179_8, PF_179_9, PF_179_10]
    exact ⟨by omega, fun q => h I1 _ h1 h2 (fun t' l a b c => h3 t' l a (by omega) c) h4, fun q => by omega⟩
  | m + 1, t, I1, t4, hm, t0, h1, h2, h3, h4 => by
    have ih := lpX1_p2 (U := U) (post := post) n1 ht hc hr h m (t + 1)
    refine Ok.seg mdX1_prepare [31, 39, 83] 10 ?_
    simp only [wp_nil, wp_cons, ↓stp, ↓lI, ↓lL, ↓lR, ↓lIn_0, ↓lIn_1, ↓lIn_2, ↓lIn_3, ↓lLn_0, ↓lLn_1, ↓lLn_2, ↓lLn_3, ↓lRn_0, ↓lRn_1, ↓lRn_2, ↓lRn_3, ↓pI, ↓pL, ↓pR, ↓pA, ↓pN, ↓pV, ↓fp, ↓tsw, ↓oS, ↓spMax, ↓spMin, ↓spAbs, ↓spObj, RI, RLg, b2i_lo, b2i_hi, getL, setL, ltL, killL, isLong, inl, cnd, br, tgt, rcv, rpl, mputI, mputL, mputP, fv, fr, mcat, mcs, entL, entA, rfit, nf_0, nf_1, nf_2, nf_3, nf2_0, nf2_1, b2i_0, b2i_1, RI_b2i, b2i_fit, List.append, List.length, List.replicate, List.cons_append, List.nil_append, List.length_cons, List.length_nil, List.replicate_succ, List.replicate_zero, List.tail_cons, reduceIte, if_true, if_false, ite_true, ite_false, Bool.false_eq_true, true_and, and_true, and_self, false_and, and_false, or_self, or_true, true_or, or_false, false_or, not_true_eq_false, not_false_eq_true, ne_eq, forall_const, implies_true, imp_self, true_implies, false_implies, Nat.reduceAdd, Nat.reduceSub, Nat.reduceMul, Nat.reduceDiv, Nat.reduceMod, Nat.reduceEqDiff, Nat.reduceLT, Nat.reduceLeDiff, Nat.reduceBEq, Nat.add_zero, Nat.zero_add, Nat.le_refl, Nat.not_lt_zero, Nat.succ_eq_add_one, Int.reduceNatCast, Int.cast_ofNat_Int, Int.reduceSub, Int.reduceMul, Int.reduceNeg, Int.reduceLE, Int.reduceLT, Int.reduceToNat, Int.reduceEq, Int.reduceNe, Int.reduceAdd, Option.some.injEq, kX1_prepare, rmX1_prepare, ↓ofX1_28, ↓ofX1_34, ↓ofX1_55, ↓ofX1_58, ↓ocX1_prepare_61, ↓spX1_gripOf, ↓ocX1_prepare_64, ↓spX7_lapByGrip, ↓ocX1_prepare_70, ↓spX1_fillFresh, ↓ocX1_prepare_74, ↓spX1_fillAfter, ↓ocX1_prepare_77, ↓spX1_trace, G_1, G_2, G_3, G_4, G_35, G_36, G_37, G_38, G_39, G_40, G_41, G_42, G_43, G_44, G_45, G_46, G_47, G_48, G_49, G_140, G_141, G_142, G_143, G_144, G_145, G_146, G_178, G_179, G_180, G_181, G_182, G_183, G_184, G_189, G_198, G_207, PF_1_0, PF_1_1, PF_1_2, PF_1_3, PF_2_0, PF_2_1, PF_2_3, PF_2_4, PF_2_5, PF_2_6, PF_2_7, PF_2_8, PF_2_9, PF_2_10, PF_2_11, PF_3_0, PF_35_0, PF_35_1, PF_35_2, PF_35_3, PF_40_0, PF_40_1, PF_40_2, PF_44_0, PF_44_1, PF_44_2, PF_145_0, PF_145_1, PF_179_0, PF_179_1, PF_179_2, PF_179_3, PF_179_8, PF_179_9, PF_179_10]
    refine ⟨by omega, fun q => by omega, fun q => ?_⟩
    refine lpX1_p1 t0 (by omega) n1 ht hc hr (fun I2 t4 k1 k2 k3 k4 => ?_) n 0 I1 (by omega) h1 h2 h3 (fun l a => by rw [show l = 0 by omega]; exact h4 t t0 (by omega)) h4
    refine Ok.seg mdX1_prepare [31, 39, 83] 10 ?_
    simp only [wp_nil, wp_cons, ↓stp, ↓lI, ↓lL, ↓lR, ↓lIn_0, ↓lIn_1, ↓lIn_2, ↓lIn_3, ↓lLn_0, ↓lLn_1, ↓lLn_2, ↓lLn_3, ↓lRn_0, ↓lRn_1, ↓lRn_2, ↓lRn_3, ↓pI, ↓pL, ↓pR, ↓pA, ↓pN, ↓pV, ↓fp, ↓tsw, ↓oS, ↓spMax, ↓spMin, ↓spAbs, ↓spObj, RI, RLg, b2i_lo, b2i_hi, getL, setL, ltL, killL, isLong, inl, cnd, br, tgt, rcv, rpl, mputI, mputL, mputP, fv, fr, mcat, mcs, entL, entA, rfit, nf_0, nf_1, nf_2, nf_3, nf2_0, nf2_1, b2i_0, b2i_1, RI_b2i, b2i_fit, List.append, List.length, List.replicate, List.cons_append, List.nil_append, List.length_cons, List.length_nil, List.replicate_succ, List.replicate_zero, List.tail_cons, reduceIte, if_true, if_false, ite_true, ite_false, Bool.false_eq_true, true_and, and_true, and_self, false_and, and_false, or_self, or_true, true_or, or_false, false_or, not_true_eq_false, not_false_eq_true, ne_eq, forall_const, implies_true, imp_self, true_implies, false_implies, Nat.reduceAdd, Nat.reduceSub, Nat.reduceMul, Nat.reduceDiv, Nat.reduceMod, Nat.reduceEqDiff, Nat.reduceLT, Nat.reduceLeDiff, Nat.reduceBEq, Nat.add_zero, Nat.zero_add, Nat.le_refl, Nat.not_lt_zero, Nat.succ_eq_add_one, Int.reduceNatCast, Int.cast_ofNat_Int, Int.reduceSub, Int.reduceMul, Int.reduceNeg, Int.reduceLE, Int.reduceLT, Int.reduceToNat, Int.reduceEq, Int.reduceNe, Int.reduceAdd, Option.some.injEq, kX1_prepare, rmX1_prepare, ↓ofX1_28, ↓ofX1_34, ↓ofX1_55, ↓ofX1_58, ↓ocX1_prepare_61, ↓spX1_gripOf, ↓ocX1_prepare_64, ↓spX7_lapByGrip, ↓ocX1_prepare_70, ↓spX1_fillFresh, ↓ocX1_prepare_74, ↓spX1_fillAfter, ↓ocX1_prepare_77, ↓spX1_trace, G_1, G_2, G_3, G_4, G_35, G_36, G_37, G_38, G_39, G_40, G_41, G_42, G_43, G_44, G_45, G_46, G_47, G_48, G_49, G_140, G_141, G_142, G_143, G_144, G_145, G_146, G_178, G_179, G_180, G_181, G_182, G_183, G_184, G_189, G_198, G_207, PF_1_0, PF_1_1, PF_1_2, PF_1_3, PF_2_0, PF_2_1, PF_2_3, PF_2_4, PF_2_5, PF_2_6, PF_2_7, PF_2_8, PF_2_9, PF_2_10, PF_2_11, PF_3_0, PF_35_0, PF_35_1, PF_35_2, PF_35_3, PF_40_0, PF_40_1, PF_40_2, PF_44_0, PF_44_1, PF_44_2, PF_145_0, PF_145_1, PF_179_0, PF_179_1, PF_179_2, PF_179_3, PF_179_8, PF_179_9, PF_179_10]
    exact ih I2 _ (by omega) (by omega) k1 k2 (fun t' l a b c => k3 t' l a (by omega) c) k4
def frN (I J : Int → Int → Int) : Prop := ∀ b k, ¬ (190 ≤ b ∧ b ≤ 206) → J b k = I b k
set_option maxHeartbeats 1600000 in
set_option maxRecDepth 100000 in
theorem lpX1_p3 {post : Option MV → MS → Prop} {U : Pt → Prop} {N n : Nat} {I L : Int → Int → Int} {lp : Int → Int → Int} {t4 : Option MV} (n1 : n ≤ 40) (hB : rcB I lp) (hs : stiOK I lp n)
    (h : ∀ (I1 : Int → Int → Int) (t3 : Option MV), frN I I1 → rcB I1 lp → stiOK I1 lp n → (∀ j, 1 ≤ j → j ≤ n → frR I1 lp j) → (∀ j, 1 ≤ j → j ≤ n → afR I1 lp j) → Ok RX1 cX1_prepare 5 rmX1_prepare false none post U (112, [some (.inr (.inr (some 179))), some (.inr (.inr (some 2))), some (.inl n), t3, t4], [], (N, PF, I1, L), 0, 0)) :
    ∀ (m j : Nat) (I1 : Int → Int → Int), j + m = n + 1 → 1 ≤ j → frN I I1 → rcB I1 lp → stiOK I1 lp n → (∀ i, 1 ≤ i → i < j → frR I1 lp i) → (∀ i, 1 ≤ i → i < j → afR I1 lp i) →
    Ok RX1 cX1_prepare 5 rmX1_prepare false none post U (91, [some (.inr (.inr (some 179))), some (.inr (.inr (some 2))), some (.inl n), some (.inl j), t4], [], (N, PF, I1, L), 0, 0)
  | 0, j, I1, hj, j0, h1, h2, h3, h4, h5 => by
    refine Ok.seg mdX1_prepare [91, 112] 10 ?_
    simp only [wp_nil, wp_cons, ↓stp, ↓lI, ↓lL, ↓lR, ↓lIn_0, ↓lIn_1, ↓lIn_2, ↓lIn_3, ↓lLn_0, ↓lLn_1, ↓lLn_2, ↓lLn_3, ↓lRn_0, ↓lRn_1, ↓lRn_2, ↓lRn_3, ↓pI, ↓pL, ↓pR, ↓pA, ↓pN, ↓pV, ↓fp, ↓tsw, ↓oS, ↓spMax, ↓spMin, ↓spAbs, ↓spObj, RI, RLg, b2i_lo, b2i_hi, getL, setL, ltL, killL, isLong, inl, cnd, br, tgt, rcv, rpl, mputI, mputL, mputP, fv, fr, mcat, mcs, entL, entA, rfit, nf_0, nf_1, nf_2, nf_3, nf2_0, nf2_1, b2i_0, b2i_1, RI_b2i, b2i_fit, List.append, List.length, List.replicate, List.cons_append, List.nil_append, List.length_cons, List.length_nil, List.replicate_succ, List.replicate_zero, List.tail_cons, reduceIte, if_true, if_false, ite_true, ite_false, Bool.false_eq_true, true_and, and_true, and_self, false_and, and_false, or_self, or_true, true_or, or_false, false_or, not_true_eq_false, not_false_eq_true, ne_eq, forall_const, implies_true, imp_self, true_implies, false_implies, Nat.reduceAdd, Nat.reduceSub, Nat.reduceMul, Nat.reduceDiv, Nat.reduceMod, Nat.reduceEqDiff, Nat.reduceLT, Nat.reduceLeDiff, Nat.reduceBEq, Nat.add_zero, Nat.zero_add, Nat.le_refl, Nat.not_lt_zero, Nat.succ_eq_add_one, Int.reduceNatCast, Int.cast_ofNat_Int, Int.reduceSub, Int.reduceMul, Int.reduceNeg, Int.reduceLE, Int.reduceLT, Int.reduceToNat, Int.reduceEq, Int.reduceNe, Int.reduceAdd, Option.some.injEq, kX1_prepare, rmX1_prepare, ↓ofX1_28, ↓ofX1_34, ↓ofX1_55, ↓ofX1_58, ↓ocX1_prepare_61, ↓spX1_gripOf, ↓ocX1_prepare_64, ↓spX7_lapByGrip, ↓ocX1_prepare_70, ↓spX1_fillFresh, ↓ocX1_prepare_74, ↓spX1_fillAfter, ↓ocX1_prepare_77, ↓spX1_trace, G_1, G_2, G_3, G_4, G_35, G_36, G_37, G_38, G_39, G_40, G_41, G_42, G_43, G_44, G_45, G_46, G_47, G_48, G_49, G_140, G_141, G_142, G_143, G_144, G_145, G_146, G_178, G_179, G_180, G_181, G_182, G_183, G_184, G_189, G_198, G_207, PF_1_0, PF_1_1, PF_1_2, PF_1_3, PF_2_0, PF_2_1, PF_2_3, PF_2_4, PF_2_5, PF_2_6, PF_2_7, PF_2_8, PF_2_9, PF_2_10, PF_2_11, PF_3_0, PF_35_0, PF_35_1, PF_35_2, PF_35_3, PF_40_0, PF_40_1, PF_40_2, PF_44_0, PF_44_1, PF_44_2, PF_145_0, PF_145_1, PF_179_0, PF_179_1, PF_179_2, PF_179_3, PF_179_8, PF_179_9, PF_179_10]
    exact ⟨by omega, by omega, fun q => h I1 _ h1 h2 h3 (fun i a b => h4 i a (by omega)) (fun i a b => h5 i a (by omega)), fun q => by omega⟩
  | m + 1, j, I1, hj, j0, h1, h2, h3, h4, h5 => by
    have ih := lpX1_p3 (U := U) (post := post) (t4 := t4) n1 hB hs h m (j + 1)
    refine Ok.seg mdX1_prepare [91, 112] 30 ?_
    simp only [wp_nil, wp_cons, ↓stp, ↓lI, ↓lL, ↓lR, ↓lIn_0, ↓lIn_1, ↓lIn_2, ↓lIn_3, ↓lLn_0, ↓lLn_1, ↓lLn_2, ↓lLn_3, ↓lRn_0, ↓lRn_1, ↓lRn_2, ↓lRn_3, ↓pI, ↓pL, ↓pR, ↓pA, ↓pN, ↓pV, ↓fp, ↓tsw, ↓oS, ↓spMax, ↓spMin, ↓spAbs, ↓spObj, RI, RLg, b2i_lo, b2i_hi, getL, setL, ltL, killL, isLong, inl, cnd, br, tgt, rcv, rpl, mputI, mputL, mputP, fv, fr, mcat, mcs, entL, entA, rfit, nf_0, nf_1, nf_2, nf_3, nf2_0, nf2_1, b2i_0, b2i_1, RI_b2i, b2i_fit, List.append, List.length, List.replicate, List.cons_append, List.nil_append, List.length_cons, List.length_nil, List.replicate_succ, List.replicate_zero, List.tail_cons, reduceIte, if_true, if_false, ite_true, ite_false, Bool.false_eq_true, true_and, and_true, and_self, false_and, and_false, or_self, or_true, true_or, or_false, false_or, not_true_eq_false, not_false_eq_true, ne_eq, forall_const, implies_true, imp_self, true_implies, false_implies, Nat.reduceAdd, Nat.reduceSub, Nat.reduceMul, Nat.reduceDiv, Nat.reduceMod, Nat.reduceEqDiff, Nat.reduceLT, Nat.reduceLeDiff, Nat.reduceBEq, Nat.add_zero, Nat.zero_add, Nat.le_refl, Nat.not_lt_zero, Nat.succ_eq_add_one, Int.reduceNatCast, Int.cast_ofNat_Int, Int.reduceSub, Int.reduceMul, Int.reduceNeg, Int.reduceLE, Int.reduceLT, Int.reduceToNat, Int.reduceEq, Int.reduceNe, Int.reduceAdd, Option.some.injEq, kX1_prepare, rmX1_prepare, ↓ofX1_28, ↓ofX1_34, ↓ofX1_55, ↓ofX1_58, ↓ocX1_prepare_61, ↓spX1_gripOf, ↓ocX1_prepare_64, ↓spX7_lapByGrip, ↓ocX1_prepare_70, ↓spX1_fillFresh, ↓ocX1_prepare_74, ↓spX1_fillAfter, ↓ocX1_prepare_77, ↓spX1_trace, G_1, G_2, G_3, G_4, G_35, G_36, G_37, G_38, G_39, G_40, G_41, G_42, G_43, G_44, G_45, G_46, G_47, G_48, G_49, G_140, G_141, G_142, G_143, G_144, G_145, G_146, G_178, G_179, G_180, G_181, G_182, G_183, G_184, G_189, G_198, G_207, PF_1_0, PF_1_1, PF_1_2, PF_1_3, PF_2_0, PF_2_1, PF_2_3, PF_2_4, PF_2_5, PF_2_6, PF_2_7, PF_2_8, PF_2_9, PF_2_10, PF_2_11, PF_3_0, PF_35_0, PF_35_1, PF_35_2, PF_35_3, PF_40_0, PF_40_1, PF_40_2, PF_44_0, PF_44_1, PF_44_2, PF_145_0, PF_145_1, PF_179_0, PF_179_1, PF_179_2, PF_179_3, PF_179_8, PF_179_9, PF_179_10]
    refine ⟨by omega, by omega, fun q => by omega, fun q => ⟨j, lp, rfl, j0, by omega, h2, fun t l a b c => h3 t l a b (by omega), h5, fun I2 k1 k2 => ?_⟩⟩
    have B2 : rcB I2 lp := by unfold rcB; rw [k1 179 4 (by omega), k1 179 11 (by omega)]; exact h2
    refine ⟨j, lp, rfl, j0, by omega, B2, k2, fun I3 m1 m2 => ?_⟩
    have B3 : rcB I3 lp := by unfold rcB; rw [m1 179 4 (by omega), m1 179 11 (by omega)]; exact B2
    have := ih I3 (by omega) (by omega) (fun b k hb => by rw [m1 b k (by omega), k1 b k (by omega)]; exact h1 b k hb) B3 (fun t l a b c => by rw [m1 _ _ (by omega), k1 _ _ (by omega)]; exact h3 t l a b c) (fun i a b => ?_) (fun i a b => ?_)
    · rwa [show ((j + 1 : Nat) : Int) = (j : Int) + 1 by omega] at this
    · by_cases e : i = j
      · subst e
        intro t w c0 c1 c2
        rw [m1 179 4 (by omega), m1 179 11 (by omega), m1 (190 + (2 * t + w)) i (by omega)]
        exact k2 t w c0 c1 c2
      · intro t w c0 c1 c2
        rw [m1 179 4 (by omega), m1 179 11 (by omega), m1 (190 + (2 * t + w)) i (by omega), k1 179 4 (by omega), k1 179 11 (by omega), k1 (190 + (2 * t + w)) i (by omega)]
        exact h4 i a (by omega) t w c0 c1 c2
    · by_cases e : i = j
      · subst e; exact m2
      · intro t w c0 c1 c2
        rw [m1 179 4 (by omega), m1 179 11 (by omega), m1 (199 + (2 * t + w)) i (by omega), k1 179 4 (by omega), k1 179 11 (by omega), k1 (199 + (2 * t + w)) i (by omega)]
        exact h5 i a (by omega) t w c0 c1 c2
set_option maxRecDepth 100000 in
set_option maxHeartbeats 800000 in
theorem mX1_prepare : MOK yX1_prepare cX1_prepare 5 none rmX1_prepare ciX1_prepare := by
  refine mok_of (ini := false) (by decide +kernel) (by decide) rfl rfl ?_
  intro σ As K hrc hl h
  obtain ⟨N, P, I, L⟩ := σ
  have h9 := pR_iff.mp h
  clear h
  obtain ⟨a, r, e9, h⟩ := h9
  subst e9
  have h9 := pR_iff.mp h
  clear h
  obtain ⟨w, r, e9, h⟩ := h9
  subst e9
  have h9 := pI_iff.mp h
  clear h
  obtain ⟨n, r, e9, h⟩ := h9
  subst e9
  have h9 := pN_iff.mp h
  clear h
  obtain ⟨e9, h⟩ := h9
  subst e9
  dsimp only at h
  obtain ⟨rfl, rfl, rfl, n0, n1, ht, hc, hk, hR, h⟩ := h
  obtain ⟨hr, hpl, hz⟩ := hR
  have h3 := ht.2.1
  have hpr : 0 ≤ I 179 6 ∧ I 179 6 ≤ 40 := by omega
  have hn := hc.2
  unfold nOK at hn
  have go : ∀ sb, (sb = 0 ∨ sb = 1) → (sb ≠ 0 ↔ mus I n) → Ok RX1 cX1_prepare 5 rmX1_prepare false none (fun r σ' => rfit none r ∧ K r σ') (fun _ => False) (31, [some (.inr (.inr (some 179))), some (.inr (.inr (some 2))), some (.inl n), some (.inl 0), none], [], (N, PF, upI I 179 11 sb, L), 0, 0) := fun sb hsb hsm => by
    obtain ⟨m, rfl⟩ : ∃ m : Nat, n = m := ⟨n.toNat, by omega⟩
    have ue : ∀ b k, ¬ (b = 179 ∧ k = 11) → upI I 179 11 sb b k = I b k := fun b k hb => if_neg hb
    have lo0 : ∀ b k, b < 40 → upI I 179 11 sb b k = I b k := fun b k hb => ue b k (by omega)
    have ht0 := tOK_cg lo0 ht
    have hc0 := carOK_cg lo0 hc
    have hr0 : raceR (upI I 179 11 sb) := by
      unfold raceR; rw [ue 179 4 (by omega), ue 179 5 (by omega), show upI I 179 11 sb 180 = I 180 from funext fun k => ue _ _ (by omega), show upI I 179 11 sb 181 = I 181 from funext fun k => ue _ _ (by omega)]; exact hr
    have el : lpf (upI I 179 11 sb) = lpf I := lpf_cg (tsame_of lo0 h3) (fun k => ue _ _ (by omega)) (fun k => ue _ _ (by omega)) (fun k => ue _ _ (by omega))
    refine lpX1_p2 (by omega) ht0 hc0 hr0 (fun I1 t4 k1 k2 k3 k4 => ?_) 4 0 _ none (by omega) (by omega) (fun _ _ _ _ _ _ _ _ => rfl) (capOK_cg lo0 h3 (fun k => ue _ _ (by omega)) hk) (fun t' l a b => by omega) (fun t' a b => by rw [ue _ _ (by omega)]; exact hz t' a b)
    have e4 : I1 179 4 = I 179 4 := (k1 179 4 (by omega) (by omega) (by omega) (by omega) (by omega) (by omega)).trans (ue _ _ (by omega))
    have e5 : I1 179 5 = I 179 5 := (k1 179 5 (by omega) (by omega) (by omega) (by omega) (by omega) (by omega)).trans (ue _ _ (by omega))
    have e11 : I1 179 11 = sb := (k1 179 11 (by omega) (by omega) (by omega) (by omega) (by omega) (by omega)).trans upI_same
    have hB1 : rcB I1 (lpf I) := ⟨by rw [e4]; exact hr.2.1, by rw [e11]; exact hsb, fun t d a b c e => lapT_rng ht (lpf_T ht hc t d)⟩
    rw [el] at k3
    refine lpX1_p3 (lp := lpf I) (by omega) hB1 k3 (fun I2 t3 m1 m2 m3 m4 m5 => ?_) m 1 I1 (by omega) (by omega) (fun _ _ _ => rfl) hB1 k3 (fun i a b => by omega) (fun i a b => by omega)
    have f4 : I2 179 4 = I 179 4 := (m1 _ _ (by omega)).trans e4
    have f5 : I2 179 5 = I 179 5 := (m1 _ _ (by omega)).trans e5
    have f11 : I2 179 11 = sb := (m1 _ _ (by omega)).trans e11
    refine Ok.seg mdX1_prepare [] 20 ?_
    simp only [wp_nil, wp_cons, ↓stp, ↓lI, ↓lL, ↓lR, ↓lIn_0, ↓lIn_1, ↓lIn_2, ↓lIn_3, ↓lLn_0, ↓lLn_1, ↓lLn_2, ↓lLn_3, ↓lRn_0, ↓lRn_1, ↓lRn_2, ↓lRn_3, ↓pI, ↓pL, ↓pR, ↓pA, ↓pN, ↓pV, ↓fp, ↓tsw, ↓oS, ↓spMax, ↓spMin, ↓spAbs, ↓spObj, RI, RLg, b2i_lo, b2i_hi, getL, setL, ltL, killL, isLong, inl, cnd, br, tgt, rcv, rpl, mputI, mputL, mputP, fv, fr, mcat, mcs, entL, entA, rfit, nf_0, nf_1, nf_2, nf_3, nf2_0, nf2_1, b2i_0, b2i_1, RI_b2i, b2i_fit, List.append, List.length, List.replicate, List.cons_append, List.nil_append, List.length_cons, List.length_nil, List.replicate_succ, List.replicate_zero, List.tail_cons, reduceIte, if_true, if_false, ite_true, ite_false, Bool.false_eq_true, true_and, and_true, and_self, false_and, and_false, or_self, or_true, true_or, or_false, false_or, not_true_eq_false, not_false_eq_true, ne_eq, forall_const, implies_true, imp_self, true_implies, false_implies, Nat.reduceAdd, Nat.reduceSub, Nat.reduceMul, Nat.reduceDiv, Nat.reduceMod, Nat.reduceEqDiff, Nat.reduceLT, Nat.reduceLeDiff, Nat.reduceBEq, Nat.add_zero, Nat.zero_add, Nat.le_refl, Nat.not_lt_zero, Nat.succ_eq_add_one, Int.reduceNatCast, Int.cast_ofNat_Int, Int.reduceSub, Int.reduceMul, Int.reduceNeg, Int.reduceLE, Int.reduceLT, Int.reduceToNat, Int.reduceEq, Int.reduceNe, Int.reduceAdd, Option.some.injEq, kX1_prepare, rmX1_prepare, ↓ofX1_28, ↓ofX1_34, ↓ofX1_55, ↓ofX1_58, ↓ocX1_prepare_61, ↓spX1_gripOf, ↓ocX1_prepare_64, ↓spX7_lapByGrip, ↓ocX1_prepare_70, ↓spX1_fillFresh, ↓ocX1_prepare_74, ↓spX1_fillAfter, ↓ocX1_prepare_77, ↓spX1_trace, G_1, G_2, G_3, G_4, G_35, G_36, G_37, G_38, G_39, G_40, G_41, G_42, G_43, G_44, G_45, G_46, G_47, G_48, G_49, G_140, G_141, G_142, G_143, G_144, G_145, G_146, G_178, G_179, G_180, G_181, G_182, G_183, G_184, G_189, G_198, G_207, PF_1_0, PF_1_1, PF_1_2, PF_1_3, PF_2_0, PF_2_1, PF_2_3, PF_2_4, PF_2_5, PF_2_6, PF_2_7, PF_2_8, PF_2_9, PF_2_10, PF_2_11, PF_3_0, PF_35_0, PF_35_1, PF_35_2, PF_35_3, PF_40_0, PF_40_1, PF_40_2, PF_44_0, PF_44_1, PF_44_2, PF_145_0, PF_145_1, PF_179_0, PF_179_1, PF_179_2, PF_179_3, PF_179_8, PF_179_9, PF_179_10]
    refine ⟨m, lpf I, rfl, by omega, by omega, m2, m3, m4, m5, fun q => ?_, fun I3 p1 p2 => ?_⟩
    · rw [f11]
      intro z
      have := (hsm.mp z).2
      omega
    · have hfr : frL I (upI I3 179 6 m) := fun b k b1 b2 b3 b4 b5 b6 b7 => by
        rw [show upI I3 179 6 m b k = I3 b k from if_neg (fun z => b7 ⟨z.1, .inl z.2⟩), p1 b k (by omega) (by omega) (by omega), m1 b k (by omega), k1 b k b1 b2 b3 b4 b5 (by omega)]
        exact ue b k (by omega)
      have g5 : upI I3 179 6 m 179 5 = I 179 5 := hfr 179 5 (by omega) (by omega) (by omega) (by omega) (by omega) (by omega) (by omega)
      have g4 : upI I3 179 6 m 179 4 = I 179 4 := hfr 179 4 (by omega) (by omega) (by omega) (by omega) (by omega) (by omega) (by omega)
      have g6 : upI I3 179 6 m 179 6 = m := upI_same
      have emus : mus (upI I3 179 6 m) m = mus I m := by unfold mus; rw [g5]
      refine h _ hfr ?_ ⟨?_, .inr ⟨by rw [g6]; omega, ?_⟩, fun t' a b => ?_⟩ g6
      · have loA : ∀ b k, b < 40 → upI I3 179 6 m b k = I1 b k := fun b k hb => by rw [upI_ne (by omega), p1 b k (by omega) (by omega) (by omega), m1 b k (by omega)]
        exact capOK_cg loA (by rw [k1.lo 3 1 (by omega), lo0 3 1 (by omega)]; exact h3) (fun k => by rw [upI_ne (by omega), p1 _ k (by omega) (by omega) (by omega), m1 _ k (by omega)]) k2
      · unfold raceR; rw [g4, g5]
        exact ⟨fun t a b => by rw [hfr 180 t (by omega) (by omega) (by omega) (by omega) (by omega) (by omega) (by omega), hfr 181 t (by omega) (by omega) (by omega) (by omega) (by omega) (by omega) (by omega)]; exact hr.1 t a b, hr.2⟩
      · rw [g6, emus, g4, frL_lpf hfr h3, show upI I3 179 6 m 179 7 = I3 179 7 from if_neg (by omega), show upI I3 179 6 m 182 = I3 182 from funext fun k => upI_ne (by omega), show upI I3 179 6 m 183 = I3 183 from funext fun k => upI_ne (by omega), ← propext hsm]
        rw [f4, f11] at p2
        exact p2
      · rw [upI_ne (by omega), p1 _ _ (by omega) (by omega) (by omega), m1 _ _ (by omega)]; exact k4 t' a b
  refine ⟨Nat.le_of_ble_eq_true rfl, Ok.seg mdX1_prepare [31] 60 ?_⟩
  simp only [wp_nil, wp_cons, ↓stp, ↓lI, ↓lL, ↓lR, ↓lIn_0, ↓lIn_1, ↓lIn_2, ↓lIn_3, ↓lLn_0, ↓lLn_1, ↓lLn_2, ↓lLn_3, ↓lRn_0, ↓lRn_1, ↓lRn_2, ↓lRn_3, ↓pI, ↓pL, ↓pR, ↓pA, ↓pN, ↓pV, ↓fp, ↓tsw, ↓oS, ↓spMax, ↓spMin, ↓spAbs, ↓spObj, RI, RLg, b2i_lo, b2i_hi, getL, setL, ltL, killL, isLong, inl, cnd, br, tgt, rcv, rpl, mputI, mputL, mputP, fv, fr, mcat, mcs, entL, entA, rfit, nf_0, nf_1, nf_2, nf_3, nf2_0, nf2_1, b2i_0, b2i_1, RI_b2i, b2i_fit, List.append, List.length, List.replicate, List.cons_append, List.nil_append, List.length_cons, List.length_nil, List.replicate_succ, List.replicate_zero, List.tail_cons, reduceIte, if_true, if_false, ite_true, ite_false, Bool.false_eq_true, true_and, and_true, and_self, false_and, and_false, or_self, or_true, true_or, or_false, false_or, not_true_eq_false, not_false_eq_true, ne_eq, forall_const, implies_true, imp_self, true_implies, false_implies, Nat.reduceAdd, Nat.reduceSub, Nat.reduceMul, Nat.reduceDiv, Nat.reduceMod, Nat.reduceEqDiff, Nat.reduceLT, Nat.reduceLeDiff, Nat.reduceBEq, Nat.add_zero, Nat.zero_add, Nat.le_refl, Nat.not_lt_zero, Nat.succ_eq_add_one, Int.reduceNatCast, Int.cast_ofNat_Int, Int.reduceSub, Int.reduceMul, Int.reduceNeg, Int.reduceLE, Int.reduceLT, Int.reduceToNat, Int.reduceEq, Int.reduceNe, Int.reduceAdd, Option.some.injEq, kX1_prepare, rmX1_prepare, ↓ofX1_28, ↓ofX1_34, ↓ofX1_55, ↓ofX1_58, ↓ocX1_prepare_61, ↓spX1_gripOf, ↓ocX1_prepare_64, ↓spX7_lapByGrip, ↓ocX1_prepare_70, ↓spX1_fillFresh, ↓ocX1_prepare_74, ↓spX1_fillAfter, ↓ocX1_prepare_77, ↓spX1_trace, G_1, G_2, G_3, G_4, G_35, G_36, G_37, G_38, G_39, G_40, G_41, G_42, G_43, G_44, G_45, G_46, G_47, G_48, G_49, G_140, G_141, G_142, G_143, G_144, G_145, G_146, G_178, G_179, G_180, G_181, G_182, G_183, G_184, G_189, G_198, G_207, PF_1_0, PF_1_1, PF_1_2, PF_1_3, PF_2_0, PF_2_1, PF_2_3, PF_2_4, PF_2_5, PF_2_6, PF_2_7, PF_2_8, PF_2_9, PF_2_10, PF_2_11, PF_3_0, PF_35_0, PF_35_1, PF_35_2, PF_35_3, PF_40_0, PF_40_1, PF_40_2, PF_44_0, PF_44_1, PF_44_2, PF_145_0, PF_145_1, PF_179_0, PF_179_1, PF_179_2, PF_179_3, PF_179_8, PF_179_9, PF_179_10]
  have r5 := hr.2.2
  refine ⟨by omega, by omega, fun q => h I (fun _ _ _ _ _ _ _ _ _ => rfl) hk ⟨hr, hpl, hz⟩ q, fun q => ⟨by omega, fun q2 => go 0 (.inl rfl) ?_, fun q2 => ⟨by omega, fun q3 => go 0 (.inl rfl) ?_, fun q3 => go 1 (.inr rfl) ?_⟩⟩⟩
  · unfold mus; omega
  · unfold mus; omega
  · unfold mus; omega
