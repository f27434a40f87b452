/-! the least lap, told by the track alone; LapBoard$Ways: lapByGrip, lapIf -/
def AchE (I : Int → Int → Int) (g bk : Int) (k : Nat) (i l p t : Int) : Prop := Ach (lmv I g) (fun i c q => tmv (I (5 + i) 1) c q) (rch (I 38) (I 39)) bk k i l p t
def LapE (I : Int → Int → Int) (g bk st t : Int) : Prop := ∃ l p t', 0 ≤ l ∧ l ≤ 2 ∧ (1 ≤ p ∧ p ≤ st ∧ p ≤ lmv I g 0 l) ∧ AchE I g bk (kk I 0) 0 l p t' ∧ t = tmv (I 5 1) 0 p + t'
/-- v is the least lap's time -/
def lapT (I : Int → Int → Int) (g bk st v : Int) : Prop := (I 3 1 = 0 ∧ v = 0) ∨ (0 < I 3 1 ∧ LapE I g bk st v ∧ ∀ x, LapE I g bk st x → v ≤ x)
theorem lapT.uniq {I : Int → Int → Int} {g bk st v w : Int} (h : lapT I g bk st v) (h' : lapT I g bk st w) : v = w := by
  rcases h with ⟨a, b⟩ | ⟨a, b, c⟩ <;> rcases h' with ⟨a', b'⟩ | ⟨a', b', c'⟩
  · omega
  · omega
  · omega
  · have := c _ b'; have := c' _ b; omega
theorem Ach_rng {lm : Int → Int → Int} {tm : Int → Int → Int → Int} {rc : Int → Int} {bk n : Int} (h2 : ∀ i c q, 0 ≤ i → i < n → 1 ≤ q → 0 ≤ tm i c q ∧ tm i c q ≤ 101000) :
    ∀ (k : Nat) (i l p t : Int), 0 ≤ i → i + k < n → Ach lm tm rc bk k i l p t → 0 ≤ t ∧ t ≤ 101000 * k
  | 0, i, l, p, t, i0, i1, h => by have : t = 0 := h; omega
  | k + 1, i, l, p, t, i0, i1, h => by
    obtain ⟨l', q, t', a, ⟨b1, b2, b3, b4⟩, c, d⟩ := h
    have := Ach_rng h2 k (i + 1) l' q t' (by omega) (by omega) c
    have := h2 (i + 1) (dif l l') q (by omega) (by omega) b1
    omega
theorem Ach_ex {lm : Int → Int → Int} {tm : Int → Int → Int → Int} {rc : Int → Int} {bk n : Int} (h1 : ∀ i l, 0 ≤ i → i < n → 0 ≤ l → l ≤ 2 → 1 ≤ lm i l) (h2 : 1 ≤ rc 1) (hb : 0 ≤ bk) :
    ∀ (k : Nat) (i l : Int), 0 ≤ i → i + k < n → 0 ≤ l → l ≤ 2 → ∃ t, Ach lm tm rc bk k i l 1 t
  | 0, i, l, i0, i1, l0, l1 => ⟨0, rfl⟩
  | k + 1, i, l, i0, i1, l0, l1 => by
    obtain ⟨t, h⟩ := Ach_ex (tm := tm) h1 h2 hb k (i + 1) l (by omega) (by omega) l0 l1
    exact ⟨_, l, 1, t, ⟨by omega, by omega, l0, l1⟩, ⟨by omega, by omega, h2, h1 _ _ (by omega) (by omega) l0 l1⟩, h, rfl⟩
theorem AchI_E {I : Int → Int → Int} {g bk : Int} (hc : carOK I) (hl : limOK I g) {k : Nat} {i l p : Int} (t : Int) (i0 : 0 ≤ i) (i1 : i + k < I 3 1) (p0 : 1 ≤ p) (p1 : p ≤ 60) : AchI I bk k i l p t ↔ AchE I g bk k i l p t :=
  Ach_cg (n := I 3 1) (fun i l a b c d => hl i l a b c d) (fun i l a b c d => (hl.R i l a b c d).2) (fun i c q _ _ _ _ _ => rfl) (fun p a b => hc.1.2 p a b) k i l p t i0 i1 p0 p1
theorem LapI_E {I : Int → Int → Int} {g bk st : Int} (hc : carOK I) (hl : limOK I g) (hn : 0 < I 3 1) (t : Int) : LapI I bk st t ↔ LapE I g bk st t := by
  have hk : (0 : Int) + (kk I 0 : Nat) < I 3 1 := by unfold kk; omega
  have e : ∀ l, 0 ≤ l → l ≤ 2 → I 48 l = lmv I g 0 l := fun l a b => by
    have := hl 0 l (by omega) hn a b
    rwa [show 3 * 0 + l = l by omega] at this
  unfold LapI LapE
  constructor
  · rintro ⟨l, p, t', a, b, ⟨c1, c2, c3⟩, d, f⟩
    rw [e l a b] at c3
    have := lim_rng (I (5 + 0) 0) (I (5 + 0) 2) (I (5 + 0) 3) l g
    unfold lmv at c3
    exact ⟨l, p, t', a, b, ⟨c1, c2, c3⟩, (AchI_E hc hl t' (by omega) hk c1 (by omega)).mp d, f⟩
  · rintro ⟨l, p, t', a, b, ⟨c1, c2, c3⟩, d, f⟩
    have := lim_rng (I (5 + 0) 0) (I (5 + 0) 2) (I (5 + 0) 3) l g
    have c4 := c3
    unfold lmv at c4
    rw [← e l a b] at c3
    exact ⟨l, p, t', a, b, ⟨c1, c2, c3⟩, (AchI_E hc hl t' (by omega) hk c1 (by omega)).mpr d, f⟩
theorem tm_rng {I : Int → Int → Int} (ht : tOK I) (i c q : Int) (i0 : 0 ≤ i) (i1 : i < I 3 1) (q1 : 1 ≤ q) : 0 ≤ tmv (I (5 + i) 1) c q ∧ tmv (I (5 + i) 1) c q ≤ 101000 := by
  have hs := ht.2.2 i i0 i1
  unfold stOK at hs
  exact tmv_rng (by omega) (by omega) q1
theorem LapE_rng {I : Int → Int → Int} {g bk st t : Int} (ht : tOK I) (hn : 0 < I 3 1) (h : LapE I g bk st t) : 0 ≤ t ∧ t ≤ 101000 * I 3 1 := by
  obtain ⟨l, p, t', a, b, ⟨c1, c2, c3⟩, d, f⟩ := h
  have h1 := Ach_rng (n := I 3 1) (tm := fun i c q => tmv (I (5 + i) 1) c q) (fun i c q i0 i1 q1 => tm_rng ht i c q i0 i1 q1) (kk I 0) 0 l p t' (by omega) (by unfold kk; omega) d
  have h2 : 0 ≤ tmv (I 5 1) 0 p ∧ tmv (I 5 1) 0 p ≤ 101000 := tm_rng ht 0 0 p (by omega) hn c1
  have h3 : ((kk I 0 : Nat) : Int) = I 3 1 - 1 := by unfold kk; omega
  omega
theorem LapE_ex {I : Int → Int → Int} {g bk st : Int} (hc : carOK I) (hb : 0 ≤ bk) (hs : 1 ≤ st) (hn : 0 < I 3 1) : ∃ t, LapE I g bk st t := by
  have hr := rch_rng (p := 1) hc.1.1 (by omega)
  obtain ⟨t, h⟩ := Ach_ex (lm := lmv I g) (tm := fun i c q => tmv (I (5 + i) 1) c q) (rc := rch (I 38) (I 39)) (bk := bk) (n := I 3 1) (fun i l _ _ _ _ => (lim_rng _ _ _ _ _).1) hr.1 hb (kk I 0) 0 1 (by omega) (by unfold kk; omega) (by omega) (by omega)
  exact ⟨_, 1, 1, t, by omega, by omega, ⟨by omega, hs, (lim_rng _ _ _ _ _).1⟩, h, rfl⟩
theorem lapT_of {I : Int → Int → Int} {g bk st v : Int} (ht : tOK I) (hc : carOK I) (hl : limOK I g) (hb : 0 ≤ bk) (hs : 1 ≤ st) (h : lapV I bk st v) : lapT I g bk st v := by
  obtain ⟨a, b, c⟩ := h
  have h3 := ht.1
  have h4 := ht.2.1
  by_cases hn : I 3 1 = 0
  · exact .inl ⟨hn, b hn⟩
  · have hn' : 0 < I 3 1 := by omega
    obtain ⟨c1, c2, c3⟩ := (c hn').cg (fun y => (LapI_E hc hl hn' y).symm)
    refine .inr ⟨hn', ?_, c3⟩
    rcases c1 with c1 | c1
    · obtain ⟨t, z⟩ := LapE_ex (g := g) hc hb hs hn'
      have := c3 t z
      have := (LapE_rng ht hn' z).2
      omega
    · exact c1
/-- all that a lap's time hangs on -/
def tsame (I J : Int → Int → Int) : Prop := J 3 1 = I 3 1 ∧ (∀ i k, 0 ≤ i → i < I 3 1 → 0 ≤ k → k ≤ 3 → J (5 + i) k = I (5 + i) k) ∧ (∀ k, J 38 k = I 38 k) ∧ ∀ k, J 39 k = I 39 k
theorem tsame_of {I J : Int → Int → Int} (h : ∀ b k, b < 40 → J b k = I b k) (h3 : I 3 1 ≤ 30) : tsame I J := ⟨h _ _ (by omega), fun i k _ _ _ _ => h _ _ (by omega), fun k => h _ _ (by omega), fun k => h _ _ (by omega)⟩
theorem tsame.sy {I J : Int → Int → Int} (h : tsame I J) : tsame J I := ⟨h.1.symm, fun i k a b c d => (h.2.1 i k a (by rw [← h.1]; exact b) c d).symm, fun k => (h.2.2.1 k).symm, fun k => (h.2.2.2 k).symm⟩
theorem LapE_cg {I J : Int → Int → Int} {g bk st t : Int} (h : tsame I J) (hn : 0 < I 3 1) (hL : LapE I g bk st t) : LapE J g bk st t := by
  obtain ⟨l, p, t', a, b, ⟨c1, c2, c3⟩, d, f⟩ := hL
  have el : ∀ i l, 0 ≤ i → i < I 3 1 → lmv J g i l = lmv I g i l := fun i l a b => by
    unfold lmv; rw [h.2.1 i 0 a b (by omega) (by omega), h.2.1 i 2 a b (by omega) (by omega), h.2.1 i 3 a b (by omega) (by omega)]
  have c4 := (lim_rng (I (5 + 0) 0) (I (5 + 0) 2) (I (5 + 0) 3) l g).2
  have c5 := c3
  unfold lmv at c5
  refine ⟨l, p, t', a, b, ⟨c1, c2, by rw [el 0 l (by omega) hn]; exact c3⟩, ?_, ?_⟩
  · have ek : kk J 0 = kk I 0 := by unfold kk; rw [h.1]
    have e38 : J 38 = I 38 := funext h.2.2.1
    have e39 : J 39 = I 39 := funext h.2.2.2
    unfold AchE
    rw [ek, e38, e39]
    refine (Ach_cg (n := I 3 1) (fun i l a b _ _ => (el i l a b).symm) (fun i l _ _ _ _ => (lim_rng _ _ _ _ _).2) (fun i c q a b _ _ _ => ?_) (fun _ _ _ => rfl) (kk I 0) 0 l p t' (by omega) (by unfold kk; omega) c1 (by omega)).mp d
    show tmv (I (5 + i) 1) c q = tmv (J (5 + i) 1) c q
    rw [h.2.1 i 1 a b (by omega) (by omega)]
  · rw [f, show J 5 1 = I 5 1 from h.2.1 0 1 (by omega) hn (by omega) (by omega)]
theorem lapT_cg {I J : Int → Int → Int} {g bk st v : Int} (h : tsame I J) (hL : lapT I g bk st v) : lapT J g bk st v := by
  rcases hL with ⟨a, b⟩ | ⟨a, b, c⟩
  · exact .inl ⟨by rw [h.1]; exact a, b⟩
  · exact .inr ⟨by rw [h.1]; exact a, LapE_cg h a b, fun x hx => c x (LapE_cg h.sy (by rw [h.1]; exact a) hx)⟩
theorem lapT_rng {I : Int → Int → Int} {g bk st v : Int} (ht : tOK I) (h : lapT I g bk st v) : 0 ≤ v ∧ v ≤ 3030000 := by
  have := ht.2.1
  rcases h with ⟨a, b⟩ | ⟨a, b, c⟩
  · omega
  · have := LapE_rng ht a b; omega
/-- the laps by grip that are kept are right -/
def capOK (I : Int → Int → Int) : Prop := ∀ g, -20 ≤ g → g ≤ 20 → I 144 (g + 20) < 0 ∧ -1 ≤ I 144 (g + 20) ∨ lapT I g (I 36 1) (I 36 2) (I 144 (g + 20))
/-- the frame of solve and of kept laps -/
def frS (I J : Int → Int → Int) : Prop := ∀ b k, b ≠ 48 → b ≠ 140 → b ≠ 141 → b ≠ 144 → ¬ (50 ≤ b ∧ b ≤ 139) → J b k = I b k
theorem frS.lo {I J : Int → Int → Int} (h : frS I J) : ∀ b k, b < 40 → J b k = I b k := fun b k hb => h b k (by omega) (by omega) (by omega) (by omega) (by omega)
def spX7_lapByGrip (As : List MV) (σ : MS) (K : Option MV → MS → Prop) : Prop := pR As fun s r => pI r fun g r => pN r (s = 2 ∧ σ.2.1 = PF ∧ -20 ≤ g ∧ g ≤ 20 ∧ tOK σ.2.2.1 ∧ carOK σ.2.2.1 ∧ capOK σ.2.2.1 ∧
  ∀ (I' : Int → Int → Int) (v : Int), frS σ.2.2.1 I' → capOK I' → lapT σ.2.2.1 g (σ.2.2.1 36 1) (σ.2.2.1 36 2) v → K (some (.inl v)) (σ.1, σ.2.1, I', σ.2.2.2))
def ciX7_lapByGrip : CI := (2, 7, 0, 0, spX7_lapByGrip)
def kX7_lapByGrip (pc : Nat) : List ME := match pc with
  | 0 => [(.iload_n 1, 1, []), (.bipush 20, 2, []), (.iadd, 1, []), (.istore_n 2, 1, []), (.iload_n 2, 1, []), (.ifCond .lt 9, 3, [15]), (.iload_n 2, 1, []), (.bipush 40, 2, []), (.if_icmp .le 5, 3, [17])]
  | 15 => [(.iconst 0, 1, []), (.ireturn, 1, [])]
  | 17 => [(.aload_n 0, 1, []), (.getfield 56, 3, []), (.iload_n 2, 1, []), (.iaload, 1, []), (.ifCond .ge 32, 3, [55]), (.aload_n 0, 1, []), (.getfield 56, 3, []), (.iload_n 2, 1, []), (.aload_n 0, 1, []), (.iload_n 1, 1, []), (.aload_n 0, 1, []), (.getfield 21, 3, []), (.getfield 76, 3, []), (.iconst 1, 1, []), (.iaload, 1, []), (.aload_n 0, 1, []), (.getfield 21, 3, []), (.getfield 76, 3, []), (.iconst 2, 1, []), (.iaload, 1, []), (.invokevirtual 79, 3, []), (.iastore, 1, [])]
  | 55 => [(.aload_n 0, 1, []), (.getfield 56, 3, []), (.iload_n 2, 1, []), (.iaload, 1, []), (.ireturn, 1, [])]
  | _ => []
theorem qX7_lapByGrip : ∀ pc, chk cX7_lapByGrip pc (kX7_lapByGrip pc) = true := by
  intro pc
  unfold kX7_lapByGrip
  split <;> first | decide +kernel | exact chk_nil
abbrev rmX7_lapByGrip : Room := { frames := 4, cells := 0, slots := 0, locals := 99 }
def aX7_lapByGrip (x : Nat) : Option CI := match x with
  | 79 => some ciX7_solve
  | _ => none
theorem aokX7_lapByGrip : ∀ x ci, aX7_lapByGrip x = some ci → CalOK RX7 rmX7_lapByGrip x ci := by
  intro x ci h
  unfold aX7_lapByGrip at h
  split at h
  · cases h; exact cal_V mX7_solve (by decide) rfl (List.forall_mem_cons.mpr ⟨(ws_mem (List.mem_of_getElem? (i := 469) (by decide +kernel)) (by decide +kernel)), List.forall_mem_cons.mpr ⟨(ws_mem (List.mem_of_getElem? (i := 471) (by decide +kernel)) (by decide +kernel)), List.forall_mem_cons.mpr ⟨(ws_mem (List.mem_of_getElem? (i := 3) (by decide +kernel)) (by decide +kernel)), List.forall_mem_cons.mpr ⟨(ws_mem (List.mem_of_getElem? (i := 54) (by decide +kernel)) (by decide +kernel)), List.forall_mem_cons.mpr ⟨(ws_mem (List.mem_of_getElem? (i := 472) (by decide +kernel)) (by decide +kernel)), fun _ h => absurd h List.not_mem_nil⟩⟩⟩⟩⟩) rfl (by unfold nice; decide +kernel) (by unfold rfits; decide) ⟨rfl, rfl⟩
  · cases h
theorem ocX7_lapByGrip_79 (f : Nat → Nat → Nat → Nat → (List MV → MS → (Option MV → MS → Prop) → Prop) → Prop) : oC aX7_lapByGrip 79 f = f 4 7 0 0 spX7_solve := propext Iff.rfl
theorem mdX7_lapByGrip : MD RX7 cX7_lapByGrip rmX7_lapByGrip kX7_lapByGrip fX7 aX7_lapByGrip zX7 uX7 := ⟨fokX7, zokX7, uokX7, aokX7_lapByGrip, qX7_lapByGrip⟩
set_option maxRecDepth 100000 in
set_option maxHeartbeats 800000 in
theorem mX7_lapByGrip : MOK yX7_lapByGrip cX7_lapByGrip 3 (some .int) rmX7_lapByGrip ciX7_lapByGrip := by
  refine mok_of (ini := false) (by decide +kernel) (by decide) rfl rfl ?_
  intro σ As K hrc hl h
  obtain ⟨N, P, I, L⟩ := σ
  have h9 := pR_iff.mp h
  clear h
  obtain ⟨s, r, e9, h⟩ := h9
  subst e9
  have h9 := pI_iff.mp h
  clear h
  obtain ⟨g, r, e9, h⟩ := h9
  subst e9
  have h9 := pN_iff.mp h
  clear h
  obtain ⟨e9, h⟩ := h9
  subst e9
  dsimp only at h
  obtain ⟨rfl, rfl, g0, g1, ht, hc, hk, h⟩ := h
  have hn := hc.2
  unfold nOK at hn
  have h3 := ht.2.1
  have hkg := hk g g0 g1
  refine ⟨Nat.le_of_ble_eq_true rfl, Ok.seg mdX7_lapByGrip [] 60 ?_⟩
  simp only [wp_nil, wp_cons, ↓stp, ↓lI, ↓lL, ↓lR, ↓lIn_0, ↓lIn_1, ↓lIn_2, ↓lIn_3, ↓lLn_0, ↓lLn_1, ↓lLn_2, ↓lLn_3, ↓lRn_0, ↓lRn_1, ↓lRn_2, ↓lRn_3, ↓pI, ↓pL, ↓pR, ↓pA, ↓pN, ↓pV, ↓fp, ↓tsw, ↓oS, ↓spMax, ↓spMin, ↓spAbs, ↓spObj, RI, RLg, b2i_lo, b2i_hi, getL, setL, ltL, killL, isLong, inl, cnd, br, tgt, rcv, rpl, mputI, mputL, mputP, fv, fr, mcat, mcs, entL, entA, rfit, nf_0, nf_1, nf_2, nf_3, nf2_0, nf2_1, b2i_0, b2i_1, RI_b2i, b2i_fit, List.append, List.length, List.replicate, List.cons_append, List.nil_append, List.length_cons, List.length_nil, List.replicate_succ, List.replicate_zero, List.tail_cons, reduceIte, if_true, if_false, ite_true, ite_false, Bool.false_eq_true, true_and, and_true, and_self, false_and, and_false, or_self, or_true, true_or, or_false, false_or, not_true_eq_false, not_false_eq_true, ne_eq, forall_const, implies_true, imp_self, true_implies, false_implies, Nat.reduceAdd, Nat.reduceSub, Nat.reduceMul, Nat.reduceDiv, Nat.reduceMod, Nat.reduceEqDiff, Nat.reduceLT, Nat.reduceLeDiff, Nat.reduceBEq, Nat.add_zero, Nat.zero_add, Nat.le_refl, Nat.not_lt_zero, Nat.succ_eq_add_one, Int.reduceNatCast, Int.cast_ofNat_Int, Int.reduceSub, Int.reduceMul, Int.reduceNeg, Int.reduceLE, Int.reduceLT, Int.reduceToNat, Int.reduceEq, Int.reduceNe, Int.reduceAdd, Option.some.injEq, kX7_lapByGrip, rmX7_lapByGrip, ↓ofX7_21, ↓ofX7_56, ↓ofX7_76, ↓ocX7_lapByGrip_79, ↓spX7_solve, ht, hc, upI_same, G_1, G_2, G_3, G_4, G_35, G_36, G_37, G_38, G_39, G_40, G_41, G_42, G_43, G_44, G_45, G_46, G_47, G_48, G_49, G_140, G_141, G_142, G_143, G_144, G_145, G_146, G_178, G_179, G_180, G_181, G_182, G_183, G_184, G_189, G_198, G_207, PF_1_0, PF_1_1, PF_1_2, PF_1_3, PF_2_0, PF_2_1, PF_2_3, PF_2_4, PF_2_5, PF_2_6, PF_2_7, PF_2_8, PF_2_9, PF_2_10, PF_2_11, PF_3_0, PF_35_0, PF_35_1, PF_35_2, PF_35_3, PF_40_0, PF_40_1, PF_40_2, PF_44_0, PF_44_1, PF_44_2, PF_145_0, PF_145_1, PF_179_0, PF_179_1, PF_179_2, PF_179_3, PF_179_8, PF_179_9, PF_179_10]
  have key : ∀ (I' : Int → Int → Int) (v : Int), (∀ b k, ¬ b = 48 → ¬ b = 140 → ¬ b = 141 → ¬ (50 ≤ b ∧ b ≤ 139) → I' b k = I b k) → slvOK I' g (I 36 1) → lapV I' (I 36 1) (I 36 2) v → K (some (.inl v)) (N, PF, upI I' 144 (g + 20) v, L) := fun I' v h1 h2 h5 => by
    have lo := slv_frame h1
    have ht' := tOK_cg lo ht
    have hT := lapT_of ht' (carOK_cg lo hc) h2.1 (by omega) (by omega) h5
    have hT2 := lapT_cg (tsame_of lo (by omega)).sy hT
    refine h _ v (fun b k b1 b2 b3 b4 b5 => by rw [upI_ne b4]; exact h1 b k b1 b2 b3 b5) (fun j j0 j1 => ?_) hT2
    have hs : tsame I (upI I' 144 (g + 20) v) := tsame_of (fun b k hb => by rw [upI_ne (by omega)]; exact lo b k hb) (by omega)
    rw [show upI I' 144 (g + 20) v 36 1 = I 36 1 by rw [upI_ne (by omega)]; exact lo 36 1 (by omega), show upI I' 144 (g + 20) v 36 2 = I 36 2 by rw [upI_ne (by omega)]; exact lo 36 2 (by omega)]
    by_cases e : j = g
    · subst e; rw [upI_same]; exact .inr (lapT_cg hs hT2)
    · rw [upI_nj (by omega), h1 144 _ (by omega) (by omega) (by omega) (by omega)]
      exact (hk j j0 j1).imp id (fun q => lapT_cg hs q)
  refine ⟨by omega, fun q => by omega, fun q => ⟨by omega, fun q2 => ⟨by omega, by omega, ?_, fun q3 => ⟨by omega, by omega, ?_⟩, fun q3 => ⟨by omega, by omega, by omega, by omega, by omega, by omega, fun I' v h1 h2 h5 => ⟨by omega, by omega, by omega, by omega, key I' v h1 h2 h5⟩⟩⟩, fun q2 => by omega⟩⟩
  · rcases hkg with hkg | hkg
    · omega
    · have := lapT_rng ht hkg; omega
  · rcases hkg with hkg | hkg
    · omega
    · exact h I _ (fun _ _ _ _ _ _ _ => rfl) hk hkg
def spX7_lapIf (As : List MV) (σ : MS) (K : Option MV → MS → Prop) : Prop := pR As fun s r => pI r fun w r => pI r fun n r => pN r (s = 2 ∧ σ.2.1 = PF ∧ (w = 0 ∧ -20 ≤ n ∧ n ≤ 20 ∨ w = 1 ∧ 1 ≤ n ∧ n ≤ 30 ∨ w = 2 ∧ 1 ≤ n ∧ n ≤ 60) ∧ tOK σ.2.2.1 ∧ carOK σ.2.2.1 ∧ capOK σ.2.2.1 ∧
  ∀ (I' : Int → Int → Int) (v : Int), frS σ.2.2.1 I' → capOK I' → lapT σ.2.2.1 (if w = 0 then n else σ.2.2.1 36 0) (if w = 1 then n else σ.2.2.1 36 1) (if w = 2 then n else σ.2.2.1 36 2) v → K (some (.inl v)) (σ.1, σ.2.1, I', σ.2.2.2))
def ciX7_lapIf : CI := (3, 7, 0, 0, spX7_lapIf)
def kX7_lapIf (pc : Nat) : List ME := match pc with
  | 0 => [(.iload_n 1, 1, []), (.ifCond .ne 9, 3, [10]), (.aload_n 0, 1, []), (.iload_n 2, 1, []), (.invokevirtual 104, 3, []), (.ireturn, 1, [])]
  | 10 => [(.iload_n 1, 1, []), (.iconst 1, 1, []), (.if_icmp .ne 7, 3, [19]), (.iload_n 2, 1, []), (.goto 12, 3, [28])]
  | 19 => [(.aload_n 0, 1, []), (.getfield 21, 3, []), (.getfield 76, 3, []), (.iconst 1, 1, []), (.iaload, 1, [])]
  | 28 => [(.istore_n 3, 1, []), (.iload_n 1, 1, []), (.iconst 2, 1, []), (.if_icmp .ne 7, 3, [38]), (.iload_n 2, 1, []), (.goto 12, 3, [47])]
  | 38 => [(.aload_n 0, 1, []), (.getfield 21, 3, []), (.getfield 76, 3, []), (.iconst 2, 1, []), (.iaload, 1, [])]
  | 47 => [(.istore 4, 2, []), (.aload_n 0, 1, []), (.aload_n 0, 1, []), (.getfield 21, 3, []), (.getfield 76, 3, []), (.iconst 0, 1, []), (.iaload, 1, []), (.iload_n 3, 1, []), (.iload 4, 2, []), (.invokevirtual 79, 3, []), (.ireturn, 1, [])]
  | _ => []
theorem qX7_lapIf : ∀ pc, chk cX7_lapIf pc (kX7_lapIf pc) = true := by
  intro pc
  unfold kX7_lapIf
  split <;> first | decide +kernel | exact chk_nil
abbrev rmX7_lapIf : Room := { frames := 5, cells := 0, slots := 0, locals := 121 }
def aX7_lapIf (x : Nat) : Option CI := match x with
  | 104 => some ciX7_lapByGrip
  | 79 => some ciX7_solve
  | _ => none
theorem aokX7_lapIf : ∀ x ci, aX7_lapIf x = some ci → CalOK RX7 rmX7_lapIf x ci := by
  intro x ci h
  unfold aX7_lapIf at h
  split at h
  · cases h; exact cal_V mX7_lapByGrip (by decide) rfl (List.forall_mem_cons.mpr ⟨(ws_mem (List.mem_of_getElem? (i := 806) (by decide +kernel)) (by decide +kernel)), List.forall_mem_cons.mpr ⟨(ws_mem (List.mem_of_getElem? (i := 582) (by decide +kernel)) (by decide +kernel)), List.forall_mem_cons.mpr ⟨(ws_mem (List.mem_of_getElem? (i := 583) (by decide +kernel)) (by decide +kernel)), List.forall_mem_cons.mpr ⟨(ws_mem (List.mem_of_getElem? (i := 54) (by decide +kernel)) (by decide +kernel)), List.forall_mem_cons.mpr ⟨(ws_mem (List.mem_of_getElem? (i := 584) (by decide +kernel)) (by decide +kernel)), fun _ h => absurd h List.not_mem_nil⟩⟩⟩⟩⟩) rfl (by unfold nice; decide +kernel) (by unfold rfits; decide) ⟨rfl, rfl⟩
  · cases h; exact cal_V mX7_solve (by decide) rfl (List.forall_mem_cons.mpr ⟨(ws_mem (List.mem_of_getElem? (i := 469) (by decide +kernel)) (by decide +kernel)), List.forall_mem_cons.mpr ⟨(ws_mem (List.mem_of_getElem? (i := 471) (by decide +kernel)) (by decide +kernel)), List.forall_mem_cons.mpr ⟨(ws_mem (List.mem_of_getElem? (i := 3) (by decide +kernel)) (by decide +kernel)), List.forall_mem_cons.mpr ⟨(ws_mem (List.mem_of_getElem? (i := 54) (by decide +kernel)) (by decide +kernel)), List.forall_mem_cons.mpr ⟨(ws_mem (List.mem_of_getElem? (i := 472) (by decide +kernel)) (by decide +kernel)), fun _ h => absurd h List.not_mem_nil⟩⟩⟩⟩⟩) rfl (by unfold nice; decide +kernel) (by unfold rfits; decide) ⟨rfl, rfl⟩
  · cases h
theorem ocX7_lapIf_104 (f : Nat → Nat → Nat → Nat → (List MV → MS → (Option MV → MS → Prop) → Prop) → Prop) : oC aX7_lapIf 104 f = f 2 7 0 0 spX7_lapByGrip := propext Iff.rfl
theorem ocX7_lapIf_79 (f : Nat → Nat → Nat → Nat → (List MV → MS → (Option MV → MS → Prop) → Prop) → Prop) : oC aX7_lapIf 79 f = f 4 7 0 0 spX7_solve := propext Iff.rfl
theorem mdX7_lapIf : MD RX7 cX7_lapIf rmX7_lapIf kX7_lapIf fX7 aX7_lapIf zX7 uX7 := ⟨fokX7, zokX7, uokX7, aokX7_lapIf, qX7_lapIf⟩
theorem capOK_cg {I J : Int → Int → Int} (lo : ∀ b k, b < 40 → J b k = I b k) (h3 : I 3 1 ≤ 30) (h144 : ∀ k, J 144 k = I 144 k) (h : capOK I) : capOK J := fun g g0 g1 => by
  rw [h144, lo 36 1 (by omega), lo 36 2 (by omega)]
  exact (h g g0 g1).imp id (fun q => lapT_cg (tsame_of lo h3) q)
set_option maxRecDepth 100000 in
set_option maxHeartbeats 800000 in
theorem mX7_lapIf : MOK yX7_lapIf cX7_lapIf 5 (some .int) rmX7_lapIf ciX7_lapIf := by
  refine mok_of (ini := false) (by decide +kernel) (by decide) rfl rfl ?_
  intro σ As K hrc hl h
  obtain ⟨N, P, I, L⟩ := σ
  have h9 := pR_iff.mp h
  clear h
  obtain ⟨s, r, e9, h⟩ := h9
  subst e9
  have h9 := pI_iff.mp h
  clear h
  obtain ⟨w, r, e9, h⟩ := h9
  subst e9
  have h9 := pI_iff.mp h
  clear h
  obtain ⟨n, r, e9, h⟩ := h9
  subst e9
  have h9 := pN_iff.mp h
  clear h
  obtain ⟨e9, h⟩ := h9
  subst e9
  dsimp only at h
  obtain ⟨rfl, rfl, hw, ht, hc, hk, h⟩ := h
  have hn := hc.2
  unfold nOK at hn
  have h3 := ht.2.1
  have key : ∀ g bk st, 0 ≤ bk → 1 ≤ st → lapT I g bk st = lapT I (if w = 0 then n else I 36 0) (if w = 1 then n else I 36 1) (if w = 2 then n else I 36 2) → ∀ (I' : Int → Int → Int) (v : Int), (∀ b k, ¬ b = 48 → ¬ b = 140 → ¬ b = 141 → ¬ (50 ≤ b ∧ b ≤ 139) → I' b k = I b k) → slvOK I' g bk → lapV I' bk st v → K (some (.inl v)) (N, PF, I', L) := fun g bk st hb hst e I' v h1 h2 h5 => by
    have lo := slv_frame h1
    have hT := lapT_of (tOK_cg lo ht) (carOK_cg lo hc) h2.1 hb hst h5
    have hT2 := lapT_cg (tsame_of lo (by omega)).sy hT
    rw [e] at hT2
    exact h I' v (fun b k b1 b2 b3 b4 b5 => h1 b k b1 b2 b3 b5) (capOK_cg lo h3 (fun k => h1 _ k (by omega) (by omega) (by omega) (by omega)) hk) hT2
  refine ⟨Nat.le_of_ble_eq_true rfl, Ok.seg mdX7_lapIf [] 60 ?_⟩
  rcases hw with ⟨rfl, hw⟩ | ⟨rfl, hw⟩ | ⟨rfl, hw⟩
  · simp only [wp_nil, wp_cons, ↓stp, ↓lI, ↓lL, ↓lR, ↓lIn_0, ↓lIn_1, ↓lIn_2, ↓lIn_3, ↓lLn_0, ↓lLn_1, ↓lLn_2, ↓lLn_3, ↓lRn_0, ↓lRn_1, ↓lRn_2, ↓lRn_3, ↓pI, ↓pL, ↓pR, ↓pA, ↓pN, ↓pV, ↓fp, ↓tsw, ↓oS, ↓spMax, ↓spMin, ↓spAbs, ↓spObj, RI, RLg, b2i_lo, b2i_hi, getL, setL, ltL, killL, isLong, inl, cnd, br, tgt, rcv, rpl, mputI, mputL, mputP, fv, fr, mcat, mcs, entL, entA, rfit, nf_0, nf_1, nf_2, nf_3, nf2_0, nf2_1, b2i_0, b2i_1, RI_b2i, b2i_fit, List.append, List.length, List.replicate, List.cons_append, List.nil_append, List.length_cons, List.length_nil, List.replicate_succ, List.replicate_zero, List.tail_cons, reduceIte, if_true, if_false, ite_true, ite_false, Bool.false_eq_true, true_and, and_true, and_self, false_and, and_false, or_self, or_true, true_or, or_false, false_or, not_true_eq_false, not_false_eq_true, ne_eq, forall_const, implies_true, imp_self, true_implies, false_implies, Nat.reduceAdd, Nat.reduceSub, Nat.reduceMul, Nat.reduceDiv, Nat.reduceMod, Nat.reduceEqDiff, Nat.reduceLT, Nat.reduceLeDiff, Nat.reduceBEq, Nat.add_zero, Nat.zero_add, Nat.le_refl, Nat.not_lt_zero, Nat.succ_eq_add_one, Int.reduceNatCast, Int.cast_ofNat_Int, Int.reduceSub, Int.reduceMul, Int.reduceNeg, Int.reduceLE, Int.reduceLT, Int.reduceToNat, Int.reduceEq, Int.reduceNe, Int.reduceAdd, Option.some.injEq, kX7_lapIf, rmX7_lapIf, ↓ofX7_21, ↓ofX7_76, ↓ocX7_lapIf_104, ↓spX7_lapByGrip, ↓ocX7_lapIf_79, ↓spX7_solve, ht, hc, hk, G_1, G_2, G_3, G_4, G_35, G_36, G_37, G_38, G_39, G_40, G_41, G_42, G_43, G_44, G_45, G_46, G_47, G_48, G_49, G_140, G_141, G_142, G_143, G_144, G_145, G_146, G_178, G_179, G_180, G_181, G_182, G_183, G_184, G_189, G_198, G_207, PF_1_0, PF_1_1, PF_1_2, PF_1_3, PF_2_0, PF_2_1, PF_2_3, PF_2_4, PF_2_5, PF_2_6, PF_2_7, PF_2_8, PF_2_9, PF_2_10, PF_2_11, PF_3_0, PF_35_0, PF_35_1, PF_35_2, PF_35_3, PF_40_0, PF_40_1, PF_40_2, PF_44_0, PF_44_1, PF_44_2, PF_145_0, PF_145_1, PF_179_0, PF_179_1, PF_179_2, PF_179_3, PF_179_8, PF_179_9, PF_179_10]
    exact ⟨by omega, by omega, fun I' v h1 h2 h5 => h I' v h1 h2 h5⟩
  · simp only [wp_nil, wp_cons, ↓stp, ↓lI, ↓lL, ↓lR, ↓lIn_0, ↓lIn_1, ↓lIn_2, ↓lIn_3, ↓lLn_0, ↓lLn_1, ↓lLn_2, ↓lLn_3, ↓lRn_0, ↓lRn_1, ↓lRn_2, ↓lRn_3, ↓pI, ↓pL, ↓pR, ↓pA, ↓pN, ↓pV, ↓fp, ↓tsw, ↓oS, ↓spMax, ↓spMin, ↓spAbs, ↓spObj, RI, RLg, b2i_lo, b2i_hi, getL, setL, ltL, killL, isLong, inl, cnd, br, tgt, rcv, rpl, mputI, mputL, mputP, fv, fr, mcat, mcs, entL, entA, rfit, nf_0, nf_1, nf_2, nf_3, nf2_0, nf2_1, b2i_0, b2i_1, RI_b2i, b2i_fit, List.append, List.length, List.replicate, List.cons_append, List.nil_append, List.length_cons, List.length_nil, List.replicate_succ, List.replicate_zero, List.tail_cons, reduceIte, if_true, if_false, ite_true, ite_false, Bool.false_eq_true, true_and, and_true, and_self, false_and, and_false, or_self, or_true, true_or, or_false, false_or, not_true_eq_false, not_false_eq_true, ne_eq, forall_const, implies_true, imp_self, true_implies, false_implies, Nat.reduceAdd, Nat.reduceSub, Nat.reduceMul, Nat.reduceDiv, Nat.reduceMod, Nat.reduceEqDiff, Nat.reduceLT, Nat.reduceLeDiff, Nat.reduceBEq, Nat.add_zero, Nat.zero_add, Nat.le_refl, Nat.not_lt_zero, Nat.succ_eq_add_one, Int.reduceNatCast, Int.cast_ofNat_Int, Int.reduceSub, Int.reduceMul, Int.reduceNeg, Int.reduceLE, Int.reduceLT, Int.reduceToNat, Int.reduceEq, Int.reduceNe, Int.reduceAdd, Option.some.injEq, kX7_lapIf, rmX7_lapIf, ↓ofX7_21, ↓ofX7_76, ↓ocX7_lapIf_104, ↓spX7_lapByGrip, ↓ocX7_lapIf_79, ↓spX7_solve, ht, hc, hk, G_1, G_2, G_3, G_4, G_35, G_36, G_37, G_38, G_39, G_40, G_41, G_42, G_43, G_44, G_45, G_46, G_47, G_48, G_49, G_140, G_141, G_142, G_143, G_144, G_145, G_146, G_178, G_179, G_180, G_181, G_182, G_183, G_184, G_189, G_198, G_207, PF_1_0, PF_1_1, PF_1_2, PF_1_3, PF_2_0, PF_2_1, PF_2_3, PF_2_4, PF_2_5, PF_2_6, PF_2_7, PF_2_8, PF_2_9, PF_2_10, PF_2_11, PF_3_0, PF_35_0, PF_35_1, PF_35_2, PF_35_3, PF_40_0, PF_40_1, PF_40_2, PF_44_0, PF_44_1, PF_44_2, PF_145_0, PF_145_1, PF_179_0, PF_179_1, PF_179_2, PF_179_3, PF_179_8, PF_179_9, PF_179_10]
    exact ⟨by omega, by omega, by omega, by omega, by omega, by omega, key _ _ _ (by omega) (by omega) (by simp)⟩
  · simp only [wp_nil, wp_cons, ↓stp, ↓lI, ↓lL, ↓lR, ↓lIn_0, ↓lIn_1, ↓lIn_2, ↓lIn_3, ↓lLn_0, ↓lLn_1, ↓lLn_2, ↓lLn_3, ↓lRn_0, ↓lRn_1, ↓lRn_2, ↓lRn_3, ↓pI, ↓pL, ↓pR, ↓pA, ↓pN, ↓pV, ↓fp, ↓tsw, ↓oS, ↓spMax, ↓spMin, ↓spAbs, ↓spObj, RI, RLg, b2i_lo, b2i_hi, getL, setL, ltL, killL, isLong, inl, cnd, br, tgt, rcv, rpl, mputI, mputL, mputP, fv, fr, mcat, mcs, entL, entA, rfit, nf_0, nf_1, nf_2, nf_3, nf2_0, nf2_1, b2i_0, b2i_1, RI_b2i, b2i_fit, List.append, List.length, List.replicate, List.cons_append, List.nil_append, List.length_cons, List.length_nil, List.replicate_succ, List.replicate_zero, List.tail_cons, reduceIte, if_true, if_false, ite_true, ite_false, Bool.false_eq_true, true_and, and_true, and_self, false_and, and_false, or_self, or_true, true_or, or_false, false_or, not_true_eq_false, not_false_eq_true, ne_eq, forall_const, implies_true, imp_self, true_implies, false_implies, Nat.reduceAdd, Nat.reduceSub, Nat.reduceMul, Nat.reduceDiv, Nat.reduceMod, Nat.reduceEqDiff, Nat.reduceLT, Nat.reduceLeDiff, Nat.reduceBEq, Nat.add_zero, Nat.zero_add, Nat.le_refl, Nat.not_lt_zero, Nat.succ_eq_add_one, Int.reduceNatCast, Int.cast_ofNat_Int, Int.reduceSub, Int.reduceMul, Int.reduceNeg, Int.reduceLE, Int.reduceLT, Int.reduceToNat, Int.reduceEq, Int.reduceNe, Int.reduceAdd, Option.some.injEq, kX7_lapIf, rmX7_lapIf, ↓ofX7_21, ↓ofX7_76, ↓ocX7_lapIf_104, ↓spX7_lapByGrip, ↓ocX7_lapIf_79, ↓spX7_solve, ht, hc, hk, G_1, G_2, G_3, G_4, G_35, G_36, G_37, G_38, G_39, G_40, G_41, G_42, G_43, G_44, G_45, G_46, G_47, G_48, G_49, G_140, G_141, G_142, G_143, G_144, G_145, G_146, G_178, G_179, G_180, G_181, G_182, G_183, G_184, G_189, G_198, G_207, PF_1_0, PF_1_1, PF_1_2, PF_1_3, PF_2_0, PF_2_1, PF_2_3, PF_2_4, PF_2_5, PF_2_6, PF_2_7, PF_2_8, PF_2_9, PF_2_10, PF_2_11, PF_3_0, PF_35_0, PF_35_1, PF_35_2, PF_35_3, PF_40_0, PF_40_1, PF_40_2, PF_44_0, PF_44_1, PF_44_2, PF_145_0, PF_145_1, PF_179_0, PF_179_1, PF_179_2, PF_179_3, PF_179_8, PF_179_9, PF_179_10]
    exact ⟨by omega, by omega, by omega, by omega, by omega, by omega, key _ _ _ (by omega) (by omega) (by simp)⟩
