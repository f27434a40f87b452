/-! LapBoard$Ways.mostWanting -/
theorem Ach_hi {lm lm' : Int → Int → Int} {tm tm' : Int → Int → Int → Int} {rc : Int → Int} {bk n : Int} : ∀ (k : Nat) (i l p t : Int), 0 ≤ i → i + k < n → (∀ m l, i < m → m < n → 0 ≤ l → l ≤ 2 → lm m l = lm' m l) → (∀ m c q, i < m → m < n → tm m c q = tm' m c q) → (Ach lm tm rc bk k i l p t ↔ Ach lm' tm' rc bk k i l p t)
  | 0, i, l, p, t, i0, i1, h, h' => Iff.rfl
  | k + 1, i, l, p, t, i0, i1, h, h' => by
    have ih := fun l p t => Ach_hi (rc := rc) (bk := bk) k (i + 1) l p t (by omega) (by omega) (fun m l a b c d => h m l (by omega) b c d) (fun m c q a b => h' m c q (by omega) b)
    constructor
    · rintro ⟨l', q, t', a, ⟨b1, b2, b3, b4⟩, c, d⟩
      exact ⟨l', q, t', a, ⟨b1, b2, b3, by rw [← h _ _ (by omega) (by omega) a.2.2.1 a.2.2.2]; exact b4⟩, (ih l' q t').mp c, by rw [← h' _ _ _ (by omega) (by omega)]; exact d⟩
    · rintro ⟨l', q, t', a, ⟨b1, b2, b3, b4⟩, c, d⟩
      exact ⟨l', q, t', a, ⟨b1, b2, b3, by rw [h _ _ (by omega) (by omega) a.2.2.1 a.2.2.2]; exact b4⟩, (ih l' q t').mpr c, by rw [h' _ _ _ (by omega) (by omega)]; exact d⟩
theorem rowOK_hi {I J : Int → Int → Int} {bk i j l : Int} (i0 : 0 ≤ i) (hij : i ≤ j) (hj : j < I 3 1) (h48 : ∀ m l, i < m → 0 ≤ l → l ≤ 2 → J 48 (3 * m + l) = I 48 (3 * m + l)) (h37 : ∀ k, J 37 k = I 37 k) (h31 : J 3 1 = I 3 1) (hlen : ∀ m, 0 ≤ m → m < I 3 1 → J (5 + m) 1 = I (5 + m) 1) (hr : ∀ p, J (50 + (3 * j + l)) p = I (50 + (3 * j + l)) p) (h : rowOK I bk j l) : rowOK J bk j l := fun p p0 p1 => by
  rw [hr]
  refine ⟨(h p p0 p1).1, (h p p0 p1).2.cg (fun y => ?_)⟩
  unfold AchI
  rw [show kk J j = kk I j by unfold kk; rw [h31], show J 37 = I 37 from funext h37]
  refine Ach_hi (n := I 3 1) _ _ _ _ _ (by omega) (by unfold kk; omega) (fun m l a b c d => h48 m l (by omega) c d) (fun m c q a b => ?_)
  show tmv (J (5 + m) 1) c q = tmv (I (5 + m) 1) c q
  rw [hlen m (by omega) b]
/-- the base of one station 1 more -/
def rais (I : Int → Int → Int) (i : Int) : Int → Int → Int := upI I (5 + i) 2 (mn 60 (I (5 + i) 2 + 1))
def wnt (T : Int) (R : Int → Int) (n v : Int) : Prop := (v = -2 ∧ ∀ i, 0 ≤ i → i < n → T ≤ R i) ∨ (0 ≤ v ∧ v < n ∧ R v < T ∧ (∀ i, 0 ≤ i → i < v → R v < R i) ∧ ∀ i, v ≤ i → i < n → R v ≤ R i)
def wantV (I : Int → Int → Int) (v : Int) : Prop := ∃ (T : Int) (R : Int → Int), lapT I (I 36 0) (I 36 1) (I 36 2) T ∧ (∀ i, 0 ≤ i → i < I 3 1 → lapT (rais I i) (I 36 0) (I 36 1) (I 36 2) (R i)) ∧ wnt T R (I 3 1) v
def wle (T : Int) (R : Int → Int) (v : Int) : Int := if v < 0 then T else R v
theorem wnt_cg {T n v : Int} {R R' : Int → Int} (h : ∀ i, 0 ≤ i → i < n → R i = R' i) (hw : wnt T R n v) : wnt T R' n v := by
  rcases hw with ⟨a, b⟩ | ⟨a, b, c, d, e⟩
  · exact .inl ⟨a, fun i i0 i1 => by rw [← h i i0 i1]; exact b i i0 i1⟩
  · refine .inr ⟨a, b, by rw [← h v a b]; exact c, fun i i0 i1 => by rw [← h v a b, ← h i i0 (by omega)]; exact d i i0 i1, fun i i0 i1 => by rw [← h v a b, ← h i (by omega) i1]; exact e i i0 i1⟩
theorem wnt_no {T i v : Int} {R : Int → Int} (hw : wnt T R i v) (h : wle T R v ≤ R i) : wnt T R (i + 1) v := by
  unfold wle at h
  rcases hw with ⟨a, b⟩ | ⟨a, b, c, d, e⟩
  · rw [if_pos (by omega)] at h
    exact .inl ⟨a, fun j j0 j1 => by by_cases q : j = i; rw [q]; exact h; exact b j j0 (by omega)⟩
  · rw [if_neg (by omega)] at h
    exact .inr ⟨a, by omega, c, d, fun j j0 j1 => by by_cases q : j = i; rw [q]; exact h; exact e j j0 (by omega)⟩
theorem wnt_yes {T i v : Int} {R : Int → Int} (i0 : 0 ≤ i) (hw : wnt T R i v) (h : R i < wle T R v) : wnt T R (i + 1) i := by
  unfold wle at h
  rcases hw with ⟨a, b⟩ | ⟨a, b, c, d, e⟩
  · rw [if_pos (by omega)] at h
    refine .inr ⟨i0, by omega, h, fun j j0 j1 => by have := b j j0 j1; omega, fun j j0 j1 => by rw [show j = i by omega]; exact Int.le_refl _⟩
  · rw [if_neg (by omega)] at h
    refine .inr ⟨i0, by omega, by omega, fun j j0 j1 => ?_, fun j j0 j1 => by rw [show j = i by omega]; exact Int.le_refl _⟩
    by_cases q : j < v
    · have := d j j0 q; omega
    · have := e j (by omega) j1; omega
theorem wnt_v {T n v : Int} {R : Int → Int} (h : wnt T R n v) : -2 ≤ v ∧ (v < n ∨ v = -2) := by rcases h with h | h <;> omega
theorem rais_t {I : Int → Int → Int} {i : Int} (ht : tOK I) (i0 : 0 ≤ i) (i1 : i < I 3 1) : tOK (rais I i) := by
  have ht2 := ht.2.1
  have hs := ht.2.2 i i0 i1
  unfold stOK at hs
  have e3 : rais I i 3 1 = I 3 1 := upI_ne (by omega)
  refine ⟨by rw [e3]; exact ht.1, by rw [e3]; exact ht2, fun j j0 j1 => ?_⟩
  rw [e3] at j1
  by_cases e : j = i
  · subst e
    unfold rais stOK
    rw [upI_nj (show (0 : Int) ≠ 2 by omega), upI_nj (show (1 : Int) ≠ 2 by omega), upI_same, upI_nj (show (3 : Int) ≠ 2 by omega), upI_nj (show (4 : Int) ≠ 2 by omega)]
    have := @mn_le 60 (I (5 + j) 2 + 1)
    omega
  · exact stOK_cg (fun k => upI_ne (by omega)) (ht.2.2 j j0 j1)
def spX7_mostWanting (As : List MV) (σ : MS) (K : Option MV → MS → Prop) : Prop := pR As fun s r => pN r (s = 2 ∧ σ.2.1 = PF ∧ tOK σ.2.2.1 ∧ carOK σ.2.2.1 ∧
  ∀ (I' : Int → Int → Int) (v : Int), (∀ b k, b ≠ 48 → b ≠ 140 → b ≠ 141 → ¬ (50 ≤ b ∧ b ≤ 139) → I' b k = σ.2.2.1 b k) → wantV σ.2.2.1 v → K (some (.inl v)) (σ.1, σ.2.1, I', σ.2.2.2))
def ciX7_mostWanting : CI := (1, 7, 0, 0, spX7_mostWanting)
def kX7_mostWanting (pc : Nat) : List ME := match pc with
  | 0 => [(.aload_n 0, 1, []), (.getfield 21, 3, []), (.getfield 76, 3, []), (.iconst 0, 1, []), (.iaload, 1, []), (.istore_n 1, 1, []), (.aload_n 0, 1, []), (.getfield 21, 3, []), (.getfield 76, 3, []), (.iconst 1, 1, []), (.iaload, 1, []), (.istore_n 2, 1, []), (.aload_n 0, 1, []), (.getfield 21, 3, []), (.getfield 76, 3, []), (.iconst 2, 1, []), (.iaload, 1, []), (.istore_n 3, 1, []), (.aload_n 0, 1, []), (.iload_n 1, 1, []), (.iload_n 2, 1, []), (.iload_n 3, 1, []), (.invokevirtual 79, 3, []), (.istore 4, 2, []), (.bipush (-2), 2, []), (.istore 5, 2, []), (.iconst 0, 1, []), (.istore 6, 2, [])]
  | 46 => [(.iload 6, 2, []), (.aload_n 0, 1, []), (.getfield 12, 3, []), (.getfield 108, 3, []), (.if_icmp .ge 94, 3, [149]), (.aload_n 0, 1, []), (.getfield 12, 3, []), (.getfield 87, 3, []), (.iload 6, 2, []), (.aaload, 1, []), (.astore 7, 2, []), (.aload 7, 2, []), (.getfield 111, 3, []), (.istore 8, 2, []), (.aload 7, 2, []), (.bipush 60, 2, []), (.iload 8, 2, []), (.iconst 1, 1, []), (.iadd, 1, []), (.invokestatic 114, 3, []), (.putfield 111, 3, []), (.aload_n 0, 1, []), (.iload 6, 2, []), (.iload_n 1, 1, []), (.invokevirtual 120, 3, []), (.aload_n 0, 1, []), (.iload 6, 2, []), (.iconst 1, 1, []), (.isub, 1, []), (.iload_n 2, 1, []), (.invokevirtual 124, 3, []), (.aload_n 0, 1, []), (.iload_n 3, 1, []), (.invokevirtual 127, 3, []), (.istore 9, 2, []), (.aload 7, 2, []), (.iload 8, 2, []), (.putfield 111, 3, []), (.aload_n 0, 1, []), (.iload 6, 2, []), (.iload_n 1, 1, []), (.invokevirtual 120, 3, []), (.iload 9, 2, []), (.iload 4, 2, []), (.if_icmp .ge 11, 3, [143]), (.iload 9, 2, []), (.istore 4, 2, []), (.iload 6, 2, []), (.istore 5, 2, [])]
  | 143 => [(.iinc 6 1, 3, []), (.goto (-100), 3, [46])]
  | 149 => [(.iload 5, 2, []), (.ireturn, 1, [])]
  | _ => []
theorem qX7_mostWanting : ∀ pc, chk cX7_mostWanting pc (kX7_mostWanting pc) = true := by
  intro pc
  unfold kX7_mostWanting
  split <;> first | decide +kernel | exact chk_nil
abbrev rmX7_mostWanting : Room := { frames := 4, cells := 0, slots := 0, locals := 99 }
def aX7_mostWanting (x : Nat) : Option CI := match x with
  | 79 => some ciX7_solve
  | 114 => some ciMin
  | 120 => some ciX7_fillLimits
  | 124 => some ciX7_fillRests
  | 127 => some ciX7_leastLap
  | _ => none
theorem aokX7_mostWanting : ∀ x ci, aX7_mostWanting x = some ci → CalOK RX7 rmX7_mostWanting x ci := by
  intro x ci h
  unfold aX7_mostWanting at h
  split at h
  · cases h; exact cal_V mX7_solve (by decide) rfl (List.forall_mem_cons.mpr ⟨(ws_mem (List.mem_of_getElem? (i := 469) (by decide +kernel)) (by decide +kernel)), List.forall_mem_cons.mpr ⟨(ws_mem (List.mem_of_getElem? (i := 471) (by decide +kernel)) (by decide +kernel)), List.forall_mem_cons.mpr ⟨(ws_mem (List.mem_of_getElem? (i := 3) (by decide +kernel)) (by decide +kernel)), List.forall_mem_cons.mpr ⟨(ws_mem (List.mem_of_getElem? (i := 54) (by decide +kernel)) (by decide +kernel)), List.forall_mem_cons.mpr ⟨(ws_mem (List.mem_of_getElem? (i := 472) (by decide +kernel)) (by decide +kernel)), fun _ h => absurd h List.not_mem_nil⟩⟩⟩⟩⟩) rfl (by unfold nice; decide +kernel) (by unfold rfits; decide) ⟨rfl, rfl⟩
  · cases h; exact cal_min (List.forall_mem_cons.mpr ⟨(ws_mem (List.mem_of_getElem? (i := 489) (by decide +kernel)) (by decide +kernel)), List.forall_mem_cons.mpr ⟨(ws_mem (List.mem_of_getElem? (i := 154) (by decide +kernel)) (by decide +kernel)), List.forall_mem_cons.mpr ⟨(ws_mem (List.mem_of_getElem? (i := 58) (by decide +kernel)) (by decide +kernel)), List.forall_mem_cons.mpr ⟨(ws_mem (List.mem_of_getElem? (i := 155) (by decide +kernel)) (by decide +kernel)), fun _ h => absurd h List.not_mem_nil⟩⟩⟩⟩) (by decide)
  · cases h; exact cal_V mX7_fillLimits (by decide) rfl (List.forall_mem_cons.mpr ⟨(ws_mem (List.mem_of_getElem? (i := 473) (by decide +kernel)) (by decide +kernel)), List.forall_mem_cons.mpr ⟨(ws_mem (List.mem_of_getElem? (i := 475) (by decide +kernel)) (by decide +kernel)), List.forall_mem_cons.mpr ⟨(ws_mem (List.mem_of_getElem? (i := 4) (by decide +kernel)) (by decide +kernel)), List.forall_mem_cons.mpr ⟨(ws_mem (List.mem_of_getElem? (i := 54) (by decide +kernel)) (by decide +kernel)), List.forall_mem_cons.mpr ⟨(ws_mem (List.mem_of_getElem? (i := 476) (by decide +kernel)) (by decide +kernel)), fun _ h => absurd h List.not_mem_nil⟩⟩⟩⟩⟩) rfl (by unfold nice; decide +kernel) (by unfold rfits; decide) ⟨rfl, rfl⟩
  · cases h; exact cal_V mX7_fillRests (by decide) rfl (List.forall_mem_cons.mpr ⟨(ws_mem (List.mem_of_getElem? (i := 478) (by decide +kernel)) (by decide +kernel)), List.forall_mem_cons.mpr ⟨(ws_mem (List.mem_of_getElem? (i := 480) (by decide +kernel)) (by decide +kernel)), List.forall_mem_cons.mpr ⟨(ws_mem (List.mem_of_getElem? (i := 5) (by decide +kernel)) (by decide +kernel)), List.forall_mem_cons.mpr ⟨(ws_mem (List.mem_of_getElem? (i := 54) (by decide +kernel)) (by decide +kernel)), List.forall_mem_cons.mpr ⟨(ws_mem (List.mem_of_getElem? (i := 481) (by decide +kernel)) (by decide +kernel)), fun _ h => absurd h List.not_mem_nil⟩⟩⟩⟩⟩) rfl (by unfold nice; decide +kernel) (by unfold rfits; decide) ⟨rfl, rfl⟩
  · cases h; exact cal_V mX7_leastLap (by decide) rfl (List.forall_mem_cons.mpr ⟨(ws_mem (List.mem_of_getElem? (i := 494) (by decide +kernel)) (by decide +kernel)), List.forall_mem_cons.mpr ⟨(ws_mem (List.mem_of_getElem? (i := 496) (by decide +kernel)) (by decide +kernel)), List.forall_mem_cons.mpr ⟨(ws_mem (List.mem_of_getElem? (i := 8) (by decide +kernel)) (by decide +kernel)), List.forall_mem_cons.mpr ⟨(ws_mem (List.mem_of_getElem? (i := 54) (by decide +kernel)) (by decide +kernel)), List.forall_mem_cons.mpr ⟨(ws_mem (List.mem_of_getElem? (i := 497) (by decide +kernel)) (by decide +kernel)), fun _ h => absurd h List.not_mem_nil⟩⟩⟩⟩⟩) rfl (by unfold nice; decide +kernel) (by unfold rfits; decide) ⟨rfl, rfl⟩
  · cases h
theorem ocX7_mostWanting_79 (f : Nat → Nat → Nat → Nat → (List MV → MS → (Option MV → MS → Prop) → Prop) → Prop) : oC aX7_mostWanting 79 f = f 4 7 0 0 spX7_solve := propext Iff.rfl
theorem ocX7_mostWanting_114 (f : Nat → Nat → Nat → Nat → (List MV → MS → (Option MV → MS → Prop) → Prop) → Prop) : oC aX7_mostWanting 114 f = f 2 10 0 0 spMin := propext Iff.rfl
theorem ocX7_mostWanting_120 (f : Nat → Nat → Nat → Nat → (List MV → MS → (Option MV → MS → Prop) → Prop) → Prop) : oC aX7_mostWanting 120 f = f 3 7 0 0 spX7_fillLimits := propext Iff.rfl
theorem ocX7_mostWanting_124 (f : Nat → Nat → Nat → Nat → (List MV → MS → (Option MV → MS → Prop) → Prop) → Prop) : oC aX7_mostWanting 124 f = f 3 7 0 0 spX7_fillRests := propext Iff.rfl
theorem ocX7_mostWanting_127 (f : Nat → Nat → Nat → Nat → (List MV → MS → (Option MV → MS → Prop) → Prop) → Prop) : oC aX7_mostWanting 127 f = f 2 7 0 0 spX7_leastLap := propext Iff.rfl
theorem mdX7_mostWanting : MD RX7 cX7_mostWanting rmX7_mostWanting kX7_mostWanting fX7 aX7_mostWanting zX7 uX7 := ⟨fokX7, zokX7, uokX7, aokX7_mostWanting, qX7_mostWanting⟩
set_option maxHeartbeats 1600000 in
set_option maxRecDepth 100000 in
theorem lpX7_w1 {post : Option MV → MS → Prop} {U : Pt → Prop} {N : Nat} {I L : Int → Int → Int} {T : Int} (ht : tOK I) (hc : carOK I) (hT : lapT I (I 36 0) (I 36 1) (I 36 2) T)
    (h : ∀ (I1 : Int → Int → Int) (v : Int), (∀ b k, b ≠ 48 → b ≠ 140 → b ≠ 141 → ¬ (50 ≤ b ∧ b ≤ 139) → I1 b k = I b k) → wantV I v → post (some (.inl v)) (N, PF, I1, L)) :
    ∀ (m : Nat) (i v : Int) (R : Int → Int) (I1 : Int → Int → Int) (t7 t8 t9 : Option MV), i + m = I 3 1 → 0 ≤ i → (∀ b k, b ≠ 48 → b ≠ 140 → b ≠ 141 → ¬ (50 ≤ b ∧ b ≤ 139) → I1 b k = I b k) → limOK I1 (I 36 0) → (∀ j l, i ≤ j → j < I 3 1 → 0 ≤ l → l ≤ 2 → rowOK I1 (I 36 1) j l) → (∀ j, 0 ≤ j → j < i → lapT (rais I j) (I 36 0) (I 36 1) (I 36 2) (R j)) → wnt T R i v →
    Ok RX7 cX7_mostWanting 10 rmX7_mostWanting false none post U (46, [some (.inr (.inr (some 2))), some (.inl (I 36 0)), some (.inl (I 36 1)), some (.inl (I 36 2)), some (.inl (wle T R v)), some (.inl v), some (.inl i), t7, t8, t9], [], (N, PF, I1, L), 0, 0)
  | 0, i, v, R, I1, t7, t8, t9, hm, i0, h1, h2, h3, h4, h5 => by
    have ht2 := ht.2.1
    have e31 : I1 3 1 = I 3 1 := h1 3 1 (by omega) (by omega) (by omega) (by omega)
    refine Ok.seg mdX7_mostWanting [46] 10 ?_
    simp only [wp_nil, wp_cons, ↓stp, ↓lI, ↓lL, ↓lR, ↓lIn_0, ↓lIn_1, ↓lIn_2, ↓lIn_3, ↓lLn_0, ↓lLn_1, ↓lLn_2, ↓lLn_3, ↓lRn_0, ↓lRn_1, ↓lRn_2, ↓lRn_3, ↓pI, ↓pL, ↓pR, ↓pA, ↓pN, ↓pV, ↓fp, ↓tsw, ↓oS, ↓spMax, ↓spMin, ↓spAbs, ↓spObj, RI, RLg, b2i_lo, b2i_hi, getL, setL, ltL, killL, isLong, inl, cnd, br, tgt, rcv, rpl, mputI, mputL, mputP, fv, fr, mcat, mcs, entL, entA, rfit, nf_0, nf_1, nf_2, nf_3, nf2_0, nf2_1, b2i_0, b2i_1, RI_b2i, b2i_fit, List.append, List.length, List.replicate, List.cons_append, List.nil_append, List.length_cons, List.length_nil, List.replicate_succ, List.replicate_zero, List.tail_cons, reduceIte, if_true, if_false, ite_true, ite_false, Bool.false_eq_true, true_and, and_true, and_self, false_and, and_false, or_self, or_true, true_or, or_false, false_or, not_true_eq_false, not_false_eq_true, ne_eq, forall_const, implies_true, imp_self, true_implies, false_implies, Nat.reduceAdd, Nat.reduceSub, Nat.reduceMul, Nat.reduceDiv, Nat.reduceMod, Nat.reduceEqDiff, Nat.reduceLT, Nat.reduceLeDiff, Nat.reduceBEq, Nat.add_zero, Nat.zero_add, Nat.le_refl, Nat.not_lt_zero, Nat.succ_eq_add_one, Int.reduceNatCast, Int.cast_ofNat_Int, Int.reduceSub, Int.reduceMul, Int.reduceNeg, Int.reduceLE, Int.reduceLT, Int.reduceToNat, Int.reduceEq, Int.reduceNe, Int.reduceAdd, Option.some.injEq, kX7_mostWanting, rmX7_mostWanting, ↓ofX7_108, ↓ofX7_111, ↓ofX7_12, ↓ofX7_21, ↓ofX7_76, ↓ofX7_87, ↓ocX7_mostWanting_79, ↓spX7_solve, ↓ocX7_mostWanting_114, ↓ocX7_mostWanting_120, ↓spX7_fillLimits, ↓ocX7_mostWanting_124, ↓spX7_fillRests, ↓ocX7_mostWanting_127, ↓spX7_leastLap, e31, G_1, G_2, G_3, G_4, G_35, G_36, G_37, G_38, G_39, G_40, G_41, G_42, G_43, G_44, G_45, G_46, G_47, G_48, G_49, G_140, G_141, G_142, G_143, G_144, G_145, G_146, G_178, G_179, G_180, G_181, G_182, G_183, G_184, G_189, G_198, G_207, PF_1_0, PF_1_1, PF_1_2, PF_1_3, PF_2_0, PF_2_1, PF_2_3, PF_2_4, PF_2_5, PF_2_6, PF_2_7, PF_2_8, PF_2_9, PF_2_10, PF_2_11, PF_3_0, PF_35_0, PF_35_1, PF_35_2, PF_35_3, PF_40_0, PF_40_1, PF_40_2, PF_44_0, PF_44_1, PF_44_2, PF_145_0, PF_145_1, PF_179_0, PF_179_1, PF_179_2, PF_179_3, PF_179_8, PF_179_9, PF_179_10]
    have := wnt_v h5
    refine ⟨by omega, by omega, fun q => h I1 v h1 ⟨T, R, hT, fun j a b => h4 j a (by omega), ?_⟩, fun q => by omega⟩
    rwa [show i = I 3 1 by omega] at h5
  | m + 1, i, v, R, I1, t7, t8, t9, hm, i0, h1, h2, h3, h4, h5 => by
    have ht2 := ht.2.1
    have ih := lpX7_w1 (U := U) ht hc hT h m (i + 1)
    have e31 : I1 3 1 = I 3 1 := h1 3 1 (by omega) (by omega) (by omega) (by omega)
    have hp := PF_st (i := i) (by omega) (by omega)
    have hg := G_st (a := 5 + i) (by omega) (by omega)
    have hst := ht.2.2 i i0 (by omega)
    unfold stOK at hst
    have eb : ∀ k, I1 (5 + i) k = I (5 + i) k := fun k => h1 _ k (by omega) (by omega) (by omega) (by omega)
    have hn := hc.2
    unfold nOK at hn
    refine Ok.seg mdX7_mostWanting [46] 60 ?_
    simp only [wp_nil, wp_cons, ↓stp, ↓lI, ↓lL, ↓lR, ↓lIn_0, ↓lIn_1, ↓lIn_2, ↓lIn_3, ↓lLn_0, ↓lLn_1, ↓lLn_2, ↓lLn_3, ↓lRn_0, ↓lRn_1, ↓lRn_2, ↓lRn_3, ↓pI, ↓pL, ↓pR, ↓pA, ↓pN, ↓pV, ↓fp, ↓tsw, ↓oS, ↓spMax, ↓spMin, ↓spAbs, ↓spObj, RI, RLg, b2i_lo, b2i_hi, getL, setL, ltL, killL, isLong, inl, cnd, br, tgt, rcv, rpl, mputI, mputL, mputP, fv, fr, mcat, mcs, entL, entA, rfit, nf_0, nf_1, nf_2, nf_3, nf2_0, nf2_1, b2i_0, b2i_1, RI_b2i, b2i_fit, List.append, List.length, List.replicate, List.cons_append, List.nil_append, List.length_cons, List.length_nil, List.replicate_succ, List.replicate_zero, List.tail_cons, reduceIte, if_true, if_false, ite_true, ite_false, Bool.false_eq_true, true_and, and_true, and_self, false_and, and_false, or_self, or_true, true_or, or_false, false_or, not_true_eq_false, not_false_eq_true, ne_eq, forall_const, implies_true, imp_self, true_implies, false_implies, Nat.reduceAdd, Nat.reduceSub, Nat.reduceMul, Nat.reduceDiv, Nat.reduceMod, Nat.reduceEqDiff, Nat.reduceLT, Nat.reduceLeDiff, Nat.reduceBEq, Nat.add_zero, Nat.zero_add, Nat.le_refl, Nat.not_lt_zero, Nat.succ_eq_add_one, Int.reduceNatCast, Int.cast_ofNat_Int, Int.reduceSub, Int.reduceMul, Int.reduceNeg, Int.reduceLE, Int.reduceLT, Int.reduceToNat, Int.reduceEq, Int.reduceNe, Int.reduceAdd, Option.some.injEq, kX7_mostWanting, rmX7_mostWanting, ↓ofX7_108, ↓ofX7_111, ↓ofX7_12, ↓ofX7_21, ↓ofX7_76, ↓ofX7_87, ↓ocX7_mostWanting_79, ↓spX7_solve, ↓ocX7_mostWanting_114, ↓ocX7_mostWanting_120, ↓spX7_fillLimits, ↓ocX7_mostWanting_124, ↓spX7_fillRests, ↓ocX7_mostWanting_127, ↓spX7_leastLap, e31, hp, hg, eb, G_1, G_2, G_3, G_4, G_35, G_36, G_37, G_38, G_39, G_40, G_41, G_42, G_43, G_44, G_45, G_46, G_47, G_48, G_49, G_140, G_141, G_142, G_143, G_144, G_145, G_146, G_178, G_179, G_180, G_181, G_182, G_183, G_184, G_189, G_198, G_207, PF_1_0, PF_1_1, PF_1_2, PF_1_3, PF_2_0, PF_2_1, PF_2_3, PF_2_4, PF_2_5, PF_2_6, PF_2_7, PF_2_8, PF_2_9, PF_2_10, PF_2_11, PF_3_0, PF_35_0, PF_35_1, PF_35_2, PF_35_3, PF_40_0, PF_40_1, PF_40_2, PF_44_0, PF_44_1, PF_44_2, PF_145_0, PF_145_1, PF_179_0, PF_179_1, PF_179_2, PF_179_3, PF_179_8, PF_179_9, PF_179_10]
    have lo1 : ∀ b k, b < 40 → I1 b k = I b k := fun b k hb => h1 b k (by omega) (by omega) (by omega) (by omega)
    refine ⟨by omega, by omega, fun q => by omega, fun q => ⟨i0, by omega, by omega, fun r r0 r1 r2 => ?_⟩⟩
    have er : r = mn 60 (I (5 + i) 2 + 1) := mn_of r0 r1 r2
    have eraise : ∀ b k, b < 40 → upI I1 (5 + i) 2 r b k = rais I i b k := fun b k hb => by
      unfold rais upI
      rw [lo1 b k hb, er]
    have htR := rais_t ht i0 (by omega)
    have eR3 : rais I i 3 1 = I 3 1 := upI_ne (by omega)
    have hcR : carOK (rais I i) := carOK_cg (I := I) (J := fun b k => if b < 36 then I b k else rais I i b k) (fun b k hb => by
      show (if b < 36 then I b k else rais I i b k) = I b k
      by_cases e : b < 36
      · rw [if_pos e]
      · rw [if_neg e]; exact upI_ne (by omega)) hc
    refine ⟨i0, by omega, stOK_cg (fun k => eraise _ k (by omega)) (htR.2.2 i i0 (by omega)), by omega, by omega, fun I2 k1 k2 => ?_⟩
    have lo2 : ∀ b k, b < 40 → I2 b k = rais I i b k := fun b k hb => (k1 b k (by omega)).trans (eraise b k hb)
    have e32 : I2 3 1 = I 3 1 := (lo2 3 1 (by omega)).trans eR3
    have ht2' := tOK_cg lo2 htR
    have hc2 := carOK_cg lo2 hcR
    have hlim2 : limOK I2 (I 36 0) := fun j l j0 j1 l0 l1 => by
      by_cases e : j = i
      · subst e
        rw [k2 l l0 l1]; exact (lmv_cg (fun k => k1 _ k (by omega))).symm
      · rw [k1 48 _ (by omega), upI_ne (by omega), h2 j l j0 (by rw [e31]; omega) l0 l1]
        exact (lmv_cg (fun k => by rw [k1 _ k (by omega), upI_ne (by omega)])).symm
    refine ⟨by omega, by omega, by omega, by omega, ht2', hc2, hlim2.R, fun j l j0 j1 l0 l1 => ?_, fun I3 j1 j2 j3 => ?_⟩
    · refine rowOK_hi (I := I1) i0 (by omega) (by omega) (fun m l a b c => ?_) (fun k => ?_) (e32.trans e31.symm) (fun m a b => ?_) (fun p => ?_) (h3 j l (by omega) (by omega) l0 l1)
      · rw [k1 48 _ (by omega), upI_ne (by omega)]
      · rw [k1 37 k (by omega), upI_ne (by omega)]
      · rw [k1 _ 1 (by omega)]; exact upI_nj (by omega)
      · rw [k1 _ p (by omega), upI_ne (by omega)]
    · have lo3 : ∀ b k, b < 40 → I3 b k = I2 b k := fun b k hb => j1 b k (by omega) (by omega) (by omega)
      have e33 : I3 3 1 = I 3 1 := (lo3 3 1 (by omega)).trans e32
      have ht3 := tOK_cg lo3 ht2'
      have hc3 := carOK_cg lo3 hc2
      have hlim3 : limOK I3 (I 36 0) := limOK_cg ⟨lo3, fun k => j1 48 k (by omega) (by omega) (by omega)⟩ (by omega) hlim2
      refine ⟨by omega, by omega, ht3, hlim3.R, I 36 1, fun l a b c => j2 0 l (by omega) (by omega) b c, fun v1 hv => ?_⟩
      have hT3 := lapT_of ht3 hc3 hlim3 (by omega) (by omega) hv
      have lo23 : ∀ b k, b < 40 → I3 b k = rais I i b k := fun b k hb => (lo3 b k hb).trans (lo2 b k hb)
      have hTR : lapT (rais I i) (I 36 0) (I 36 1) (I 36 2) v1 := lapT_cg (tsame_of (I := rais I i) lo23 (by omega)).sy hT3
      have hv1 := lapT_rng htR hTR
      have eI3 : ∀ b k, b < 40 → upI I3 (5 + i) 2 (I (5 + i) 2) b k = I b k := fun b k hb => by
        by_cases e : b = 5 + i ∧ k = 2
        · rw [e.1, e.2]; exact upI_same
        · rw [show upI I3 (5 + i) 2 (I (5 + i) 2) b k = I3 b k from if_neg e, lo23 b k hb]; exact if_neg e
      refine ⟨i0, by omega, stOK_cg (fun k => eI3 _ k (by omega)) (ht.2.2 i i0 (by omega)), by omega, by omega, fun I4 n1 n2 => ?_⟩
      have lo4 : ∀ b k, b < 40 → I4 b k = I b k := fun b k hb => (n1 b k (by omega)).trans (eI3 b k hb)
      have h14 : ∀ b k, b ≠ 48 → b ≠ 140 → b ≠ 141 → ¬ (50 ≤ b ∧ b ≤ 139) → I4 b k = I b k := fun b k b1 b2 b3 b4 => by
        by_cases e : b < 40
        · exact lo4 b k e
        · rw [n1 b k (by omega), upI_ne (by omega), j1 b k b2 b3 b4, k1 b k (by omega), upI_ne (by omega)]; exact h1 b k b1 b2 b3 b4
      have e34 : I4 3 1 = I 3 1 := lo4 3 1 (by omega)
      have hlim4 : limOK I4 (I 36 0) := fun j l j0 j1' l0 l1 => by
        by_cases e : j = i
        · subst e
          rw [n2 l l0 l1]; exact (lmv_cg (fun k => n1 _ k (by omega))).symm
        · rw [n1 48 _ (by omega), upI_ne (by omega), hlim3 j l j0 (by omega) l0 l1]
          exact (lmv_cg (fun k => by rw [n1 _ k (by omega), upI_ne (by omega)])).symm
      have hrow4 : ∀ j l, i + 1 ≤ j → j < I 3 1 → 0 ≤ l → l ≤ 2 → rowOK I4 (I 36 1) j l := fun j l j0 j1' l0 l1 => by
        refine rowOK_hi (I := I3) i0 (by omega) (by omega) (fun m l a b c => ?_) (fun k => ?_) (e34.trans e33.symm) (fun m a b => ?_) (fun p => ?_) (j2 j l (by omega) (by omega) l0 l1)
        · rw [n1 48 _ (by omega), upI_ne (by omega)]
        · rw [n1 37 k (by omega), upI_ne (by omega)]
        · rw [n1 _ 1 (by omega)]; exact upI_nj (by omega)
        · rw [n1 _ p (by omega), upI_ne (by omega)]
      have fin : ∀ (R' : Int → Int) v', wnt T R' (i + 1) v' → R' = (fun j => if j = i then v1 else R j) → ∀ t7 t8 t9, Ok RX7 cX7_mostWanting 10 rmX7_mostWanting false none post U (46, [some (.inr (.inr (some 2))), some (.inl (I 36 0)), some (.inl (I 36 1)), some (.inl (I 36 2)), some (.inl (wle T R' v')), some (.inl v'), some (.inl (i + 1)), t7, t8, t9], [], (N, PF, I4, L), 0, 0) := fun R' v' hw e t7 t8 t9 => by
        refine ih v' R' I4 t7 t8 t9 (by omega) (by omega) h14 hlim4 hrow4 (fun j j0 j1' => ?_) hw
        rw [e]
        show lapT _ _ _ _ (if j = i then v1 else R j)
        by_cases q : j = i
        · rw [if_pos q, q]; exact hTR
        · rw [if_neg q]; exact h4 j j0 (by omega)
      have hR' : wnt T (fun j => if j = i then v1 else R j) i v := wnt_cg (fun j a b => (if_neg (by omega)).symm) h5
      have hvv := wnt_v h5
      have ewl : wle T (fun j => if j = i then v1 else R j) v = wle T R v := by
        unfold wle
        by_cases q : v < 0
        · rw [if_pos q, if_pos q]
        · rw [if_neg q, if_neg q]; exact if_neg (by omega)
      have ewr : 0 ≤ wle T R v ∧ wle T R v ≤ 3030000 := by
        unfold wle
        by_cases q : v < 0
        · rw [if_pos q]; exact lapT_rng ht hT
        · rw [if_neg q]; exact lapT_rng (rais_t ht (by omega) (by omega)) (h4 v (by omega) (by omega))
      refine ⟨by omega, by omega, fun q2 => ?_, fun q2 => ?_⟩
      · rw [← ewl] at q2 ⊢
        exact fin _ v (wnt_no hR' (by show wle T (fun j => if j = i then v1 else R j) v ≤ (if i = i then v1 else R i); rw [if_pos rfl]; exact q2)) rfl _ _ _
      · rw [← ewl] at q2
        have := fin _ i (wnt_yes i0 hR' (by show (if i = i then v1 else R i) < wle T (fun j => if j = i then v1 else R j) v; rw [if_pos rfl]; omega)) rfl (some (.inr (.inr (some (5 + i))))) (some (.inl (I (5 + i) 2))) (some (.inl v1))
        rw [show wle T (fun j => if j = i then v1 else R j) i = v1 by unfold wle; rw [if_neg (by omega)]; exact if_pos rfl] at this
        exact this
set_option maxRecDepth 100000 in
set_option maxHeartbeats 800000 in
theorem mX7_mostWanting : MOK yX7_mostWanting cX7_mostWanting 10 (some .int) rmX7_mostWanting ciX7_mostWanting := by
  refine mok_of (ini := false) (by decide +kernel) (by decide) rfl rfl ?_
  intro σ As K hrc hl h
  obtain ⟨N, P, I, L⟩ := σ
  have h9 := pR_iff.mp h
  clear h
  obtain ⟨s, r, e9, h⟩ := h9
  subst e9
  have h9 := pN_iff.mp h
  clear h
  obtain ⟨e9, h⟩ := h9
  subst e9
  dsimp only at h
  obtain ⟨rfl, rfl, ht, hc, h⟩ := h
  have hn := hc.2
  unfold nOK at hn
  refine ⟨Nat.le_of_ble_eq_true rfl, Ok.seg mdX7_mostWanting [46] 60 ?_⟩
  simp only [wp_nil, wp_cons, ↓stp, ↓lI, ↓lL, ↓lR, ↓lIn_0, ↓lIn_1, ↓lIn_2, ↓lIn_3, ↓lLn_0, ↓lLn_1, ↓lLn_2, ↓lLn_3, ↓lRn_0, ↓lRn_1, ↓lRn_2, ↓lRn_3, ↓pI, ↓pL, ↓pR, ↓pA, ↓pN, ↓pV, ↓fp, ↓tsw, ↓oS, ↓spMax, ↓spMin, ↓spAbs, ↓spObj, RI, RLg, b2i_lo, b2i_hi, getL, setL, ltL, killL, isLong, inl, cnd, br, tgt, rcv, rpl, mputI, mputL, mputP, fv, fr, mcat, mcs, entL, entA, rfit, nf_0, nf_1, nf_2, nf_3, nf2_0, nf2_1, b2i_0, b2i_1, RI_b2i, b2i_fit, List.append, List.length, List.replicate, List.cons_append, List.nil_append, List.length_cons, List.length_nil, List.replicate_succ, List.replicate_zero, List.tail_cons, reduceIte, if_true, if_false, ite_true, ite_false, Bool.false_eq_true, true_and, and_true, and_self, false_and, and_false, or_self, or_true, true_or, or_false, false_or, not_true_eq_false, not_false_eq_true, ne_eq, forall_const, implies_true, imp_self, true_implies, false_implies, Nat.reduceAdd, Nat.reduceSub, Nat.reduceMul, Nat.reduceDiv, Nat.reduceMod, Nat.reduceEqDiff, Nat.reduceLT, Nat.reduceLeDiff, Nat.reduceBEq, Nat.add_zero, Nat.zero_add, Nat.le_refl, Nat.not_lt_zero, Nat.succ_eq_add_one, Int.reduceNatCast, Int.cast_ofNat_Int, Int.reduceSub, Int.reduceMul, Int.reduceNeg, Int.reduceLE, Int.reduceLT, Int.reduceToNat, Int.reduceEq, Int.reduceNe, Int.reduceAdd, Option.some.injEq, kX7_mostWanting, rmX7_mostWanting, ↓ofX7_108, ↓ofX7_111, ↓ofX7_12, ↓ofX7_21, ↓ofX7_76, ↓ofX7_87, ↓ocX7_mostWanting_79, ↓spX7_solve, ↓ocX7_mostWanting_114, ↓ocX7_mostWanting_120, ↓spX7_fillLimits, ↓ocX7_mostWanting_124, ↓spX7_fillRests, ↓ocX7_mostWanting_127, ↓spX7_leastLap, G_1, G_2, G_3, G_4, G_35, G_36, G_37, G_38, G_39, G_40, G_41, G_42, G_43, G_44, G_45, G_46, G_47, G_48, G_49, G_140, G_141, G_142, G_143, G_144, G_145, G_146, G_178, G_179, G_180, G_181, G_182, G_183, G_184, G_189, G_198, G_207, PF_1_0, PF_1_1, PF_1_2, PF_1_3, PF_2_0, PF_2_1, PF_2_3, PF_2_4, PF_2_5, PF_2_6, PF_2_7, PF_2_8, PF_2_9, PF_2_10, PF_2_11, PF_3_0, PF_35_0, PF_35_1, PF_35_2, PF_35_3, PF_40_0, PF_40_1, PF_40_2, PF_44_0, PF_44_1, PF_44_2, PF_145_0, PF_145_1, PF_179_0, PF_179_1, PF_179_2, PF_179_3, PF_179_8, PF_179_9, PF_179_10]
  refine ⟨by omega, by omega, by omega, by omega, by omega, by omega, ht, hc, fun I1 v h1 h2 h3 => ?_⟩
  have lo1 := slv_frame h1
  have hT := lapT_of (tOK_cg lo1 ht) (carOK_cg lo1 hc) h2.1 (by omega) (by omega) h3
  have hT2 := lapT_cg (tsame_of lo1 ht.2.1).sy hT
  have := lpX7_w1 (post := fun r σ' => rfit (some .int) r ∧ K r σ') (U := fun _ => False) (N := N) (L := L) ht hc hT2 (fun I1 v a b => ⟨trivial, h I1 v a b⟩) (I 3 1).toNat 0 (-2) (fun _ => 0) I1 none none none (by have := ht.1; omega) (by omega) h1 h2.1 (fun j l a b c d => h2.2 j l (by omega) (by rw [lo1 3 1 (by omega)]; exact b) c d) (fun j a b => by omega) (.inl ⟨rfl, fun j a b => by omega⟩)
  exact this
