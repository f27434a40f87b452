/-! LapBoard$Way.quicken -/
def mn (x y : Int) : Int := if x ≤ y then x else y
theorem mn_of {x y r : Int} (h1 : r ≤ x) (h2 : r ≤ y) (h3 : r = x ∨ r = y) : r = mn x y := by unfold mn; split <;> omega
/-- what limits and the brake allow, m stations ahead of the last -/
def bqv (lm : Int → Int) (bk n : Int) : Nat → Int
  | 0 => lm (n - 1)
  | m + 1 => mn (lm (n - 2 - m)) (bqv lm bk n m + bk)
/-- then onward, what reach does -/
def fqv (b rc : Int → Int) (st : Int) : Nat → Int
  | 0 => mn (b 0) st
  | i + 1 => mn (b (i + 1)) (rc (fqv b rc st i))
def bq (lm : Int → Int) (bk n i : Int) : Int := bqv lm bk n (n - 1 - i).toNat
def qp (lm rc : Int → Int) (bk st n i : Int) : Int := fqv (bq lm bk n) rc st i.toNat
theorem bqv_rng {lm : Int → Int} {bk n : Int} (hl : ∀ i, 0 ≤ i → i < n → 1 ≤ lm i ∧ lm i ≤ 60) (hb : 1 ≤ bk) : ∀ (m : Nat), (m : Int) < n → 1 ≤ bqv lm bk n m ∧ bqv lm bk n m ≤ 60
  | 0, h => hl _ (by omega) (by omega)
  | m + 1, h => by
    have ih := bqv_rng hl hb m (by omega)
    have := hl (n - 2 - m) (by omega) (by omega)
    unfold bqv mn
    split <;> omega
theorem bq_rng {lm : Int → Int} {bk n : Int} (hl : ∀ i, 0 ≤ i → i < n → 1 ≤ lm i ∧ lm i ≤ 60) (hb : 1 ≤ bk) {i : Int} (h0 : 0 ≤ i) (h1 : i < n) : 1 ≤ bq lm bk n i ∧ bq lm bk n i ≤ 60 := bqv_rng hl hb _ (by omega)
theorem bq_last {lm : Int → Int} {bk n : Int} : bq lm bk n (n - 1) = lm (n - 1) := by
  unfold bq; rw [show (n - 1 - (n - 1)).toNat = 0 by omega]; rfl
theorem bq_step {lm : Int → Int} {bk n i : Int} (h1 : i < n - 1) : bq lm bk n i = mn (lm i) (bq lm bk n (i + 1) + bk) := by
  unfold bq
  rw [show (n - 1 - i).toNat = (n - 1 - (i + 1)).toNat + 1 by omega]
  show mn (lm (n - 2 - ((n - 1 - (i + 1)).toNat : Int))) _ = _
  rw [show n - 2 - ((n - 1 - (i + 1)).toNat : Int) = i by omega]
theorem qp_0 {lm rc : Int → Int} {bk st n : Int} : qp lm rc bk st n 0 = mn (bq lm bk n 0) st := rfl
theorem qp_step {lm rc : Int → Int} {bk st n i : Int} (h0 : 0 < i) : qp lm rc bk st n i = mn (bq lm bk n i) (rc (qp lm rc bk st n (i - 1))) := by
  unfold qp
  rw [show i.toNat = (i - 1).toNat + 1 by omega]
  show mn (bq lm bk n (((i - 1).toNat : Int) + 1)) _ = _
  rw [show ((i - 1).toNat : Int) + 1 = i by omega]
theorem fqv_rng {b rc : Int → Int} {st n : Int} (hb : ∀ i, 0 ≤ i → i < n → 1 ≤ b i ∧ b i ≤ 60) (hr : ∀ p, 1 ≤ p → p ≤ 60 → p ≤ rc p ∧ rc p ≤ 60) (hs : 1 ≤ st) : ∀ (i : Nat), (i : Int) < n → 1 ≤ fqv b rc st i ∧ fqv b rc st i ≤ 60
  | 0, h => by
    have := hb 0 (by omega) (by omega)
    unfold fqv mn
    split <;> omega
  | i + 1, h => by
    have ih := fqv_rng hb hr hs i (by omega)
    have := hb (i + 1) (by omega) (by omega)
    have := hr _ ih.1 ih.2
    unfold fqv mn
    split <;> omega
theorem qp_rng {lm rc : Int → Int} {bk st n i : Int} (hl : ∀ i, 0 ≤ i → i < n → 1 ≤ lm i ∧ lm i ≤ 60) (hr : ∀ p, 1 ≤ p → p ≤ 60 → p ≤ rc p ∧ rc p ≤ 60) (hb : 1 ≤ bk) (hs : 1 ≤ st) (h0 : 0 ≤ i) (h1 : i < n) : 1 ≤ qp lm rc bk st n i ∧ qp lm rc bk st n i ≤ 60 :=
  fqv_rng (n := n) (fun i h0 h1 => bq_rng hl hb h0 h1) hr hs _ (by omega)
/-- the limits along a way -/
def wlim (I : Int → Int → Int) (w g i : Int) : Int := lim (I (5 + i) 0) (I (5 + i) 2) (I (5 + i) 3) (I (w + 1) i) g
def nOK (I : Int → Int → Int) : Prop := -20 ≤ I 36 0 ∧ I 36 0 ≤ 20 ∧ 1 ≤ I 36 1 ∧ I 36 1 ≤ 30 ∧ 1 ≤ I 36 2 ∧ I 36 2 ≤ 60
def carOK (I : Int → Int → Int) : Prop := carI (I 38) (I 39) (I 37) ∧ nOK I
def wqp (I : Int → Int → Int) (w i : Int) : Int := qp (wlim I w (I 36 0)) (rch (I 38) (I 39)) (I 36 1) (I 36 2) (I 3 1) i
def wtm (I : Int → Int → Int) (w i : Int) : Int := tmv (I (5 + i) 1) (chgI I w i) (wqp I w i)
def spX6_quicken (As : List MV) (σ : MS) (K : Option MV → MS → Prop) : Prop := pR As fun w r => pR r fun t r => pR r fun c r => pN r ((w = 40 ∨ w = 44) ∧ t = 3 ∧ c = 35 ∧ σ.2.1 = PF ∧ tOK σ.2.2.1 ∧ carOK σ.2.2.1 ∧ laneOK σ.2.2.1 w (σ.2.2.1 3 1) ∧
  ∀ I' : Int → Int → Int, (∀ b j, b ≠ w + 2 → b ≠ w + 3 → ¬ (b = w ∧ j = 3) → I' b j = σ.2.2.1 b j) → (∀ i, 0 ≤ i → i < σ.2.2.1 3 1 → I' (w + 2) i = wqp σ.2.2.1 w i) → (∀ i, 0 ≤ i → i < σ.2.2.1 3 1 → I' (w + 3) i = wtm σ.2.2.1 w i) → I' w 3 = sumI (wtm σ.2.2.1 w) (σ.2.2.1 3 1).toNat → K none (σ.1, σ.2.1, I', σ.2.2.2))
def ciX6_quicken : CI := (3, 6, 0, 0, spX6_quicken)
def kX6_quicken (pc : Nat) : List ME := match pc with
  | 0 => [(.aload_n 1, 1, []), (.getfield 25, 3, []), (.iconst 1, 1, []), (.isub, 1, []), (.istore_n 3, 1, [])]
  | 7 => [(.iload_n 3, 1, []), (.ifCond .lt 76, 3, [84]), (.aload_n 0, 1, []), (.getfield 15, 3, []), (.iload_n 3, 1, []), (.aload_n 1, 1, []), (.getfield 31, 3, []), (.iload_n 3, 1, []), (.aaload, 1, []), (.aload_n 0, 1, []), (.getfield 9, 3, []), (.iload_n 3, 1, []), (.iaload, 1, []), (.aload_n 2, 1, []), (.getfield 35, 3, []), (.iconst 0, 1, []), (.iaload, 1, []), (.invokevirtual 40, 3, []), (.iastore, 1, []), (.iload_n 3, 1, []), (.aload_n 1, 1, []), (.getfield 25, 3, []), (.iconst 1, 1, []), (.isub, 1, []), (.if_icmp .ge 33, 3, [78]), (.aload_n 0, 1, []), (.getfield 15, 3, []), (.iload_n 3, 1, []), (.aload_n 0, 1, []), (.getfield 15, 3, []), (.iload_n 3, 1, []), (.iaload, 1, []), (.aload_n 0, 1, []), (.getfield 15, 3, []), (.iload_n 3, 1, []), (.iconst 1, 1, []), (.iadd, 1, []), (.iaload, 1, []), (.aload_n 2, 1, []), (.getfield 35, 3, []), (.iconst 1, 1, []), (.iaload, 1, []), (.iadd, 1, []), (.invokestatic 46, 3, []), (.iastore, 1, [])]
  | 78 => [(.iinc 3 (-1), 3, []), (.goto (-74), 3, [7])]
  | 84 => [(.aload_n 0, 1, []), (.iconst 0, 1, []), (.putfield 51, 3, []), (.iconst 0, 1, []), (.istore_n 3, 1, [])]
  | 91 => [(.iload_n 3, 1, []), (.aload_n 1, 1, []), (.getfield 25, 3, []), (.if_icmp .ge 95, 3, [191]), (.iload_n 3, 1, []), (.ifCond .ne 12, 3, [112]), (.aload_n 2, 1, []), (.getfield 35, 3, []), (.iconst 2, 1, []), (.iaload, 1, []), (.goto 16, 3, [125])]
  | 112 => [(.aload_n 2, 1, []), (.getfield 54, 3, []), (.aload_n 0, 1, []), (.getfield 15, 3, []), (.iload_n 3, 1, []), (.iconst 1, 1, []), (.isub, 1, []), (.iaload, 1, []), (.iaload, 1, [])]
  | 125 => [(.istore 4, 2, []), (.aload_n 0, 1, []), (.getfield 15, 3, []), (.iload_n 3, 1, []), (.aload_n 0, 1, []), (.getfield 15, 3, []), (.iload_n 3, 1, []), (.iaload, 1, []), (.iload 4, 2, []), (.invokestatic 46, 3, []), (.iastore, 1, []), (.aload_n 0, 1, []), (.getfield 18, 3, []), (.iload_n 3, 1, []), (.aload_n 1, 1, []), (.getfield 31, 3, []), (.iload_n 3, 1, []), (.aaload, 1, []), (.aload_n 0, 1, []), (.getfield 15, 3, []), (.iload_n 3, 1, []), (.iaload, 1, []), (.aload_n 0, 1, []), (.iload_n 3, 1, []), (.invokevirtual 21, 3, []), (.invokevirtual 57, 3, []), (.iastore, 1, []), (.aload_n 0, 1, []), (.dup, 1, []), (.getfield 51, 3, []), (.aload_n 0, 1, []), (.getfield 18, 3, []), (.iload_n 3, 1, []), (.iaload, 1, []), (.iadd, 1, []), (.putfield 51, 3, []), (.iinc 3 1, 3, []), (.goto (-97), 3, [91])]
  | 191 => [(.return_, 1, [])]
  | _ => []
theorem qX6_quicken : ∀ pc, chk cX6_quicken pc (kX6_quicken pc) = true := by
  intro pc
  unfold kX6_quicken
  split <;> first | decide +kernel | exact chk_nil
abbrev rmX6_quicken : Room := { frames := 2, cells := 0, slots := 0, locals := 44 }
def aX6_quicken (x : Nat) : Option CI := match x with
  | 40 => some ciX3_limitOn
  | 46 => some ciMin
  | 21 => some ciX6_changesAt
  | 57 => some ciX3_timeAt
  | _ => none
theorem aokX6_quicken : ∀ x ci, aX6_quicken x = some ci → CalOK RX6 rmX6_quicken x ci := by
  intro x ci h
  unfold aX6_quicken at h
  split at h
  · cases h; exact cal_V mX3_limitOn (by decide) rfl (List.forall_mem_cons.mpr ⟨(ws_mem (List.mem_of_getElem? (i := 451) (by decide +kernel)) (by decide +kernel)), List.forall_mem_cons.mpr ⟨(ws_mem (List.mem_of_getElem? (i := 415) (by decide +kernel)) (by decide +kernel)), List.forall_mem_cons.mpr ⟨(ws_mem (List.mem_of_getElem? (i := 416) (by decide +kernel)) (by decide +kernel)), List.forall_mem_cons.mpr ⟨(ws_mem (List.mem_of_getElem? (i := 56) (by decide +kernel)) (by decide +kernel)), List.forall_mem_cons.mpr ⟨(ws_mem (List.mem_of_getElem? (i := 417) (by decide +kernel)) (by decide +kernel)), fun _ h => absurd h List.not_mem_nil⟩⟩⟩⟩⟩) rfl (by unfold nice; decide +kernel) (by unfold rfits; decide) ⟨rfl, rfl⟩
  · cases h; exact cal_min (List.forall_mem_cons.mpr ⟨(ws_mem (List.mem_of_getElem? (i := 452) (by decide +kernel)) (by decide +kernel)), List.forall_mem_cons.mpr ⟨(ws_mem (List.mem_of_getElem? (i := 154) (by decide +kernel)) (by decide +kernel)), List.forall_mem_cons.mpr ⟨(ws_mem (List.mem_of_getElem? (i := 58) (by decide +kernel)) (by decide +kernel)), List.forall_mem_cons.mpr ⟨(ws_mem (List.mem_of_getElem? (i := 155) (by decide +kernel)) (by decide +kernel)), fun _ h => absurd h List.not_mem_nil⟩⟩⟩⟩) (by decide)
  · cases h; exact cal_V mX6_changesAt (by decide) rfl (List.forall_mem_cons.mpr ⟨(ws_mem (List.mem_of_getElem? (i := 453) (by decide +kernel)) (by decide +kernel)), List.forall_mem_cons.mpr ⟨(ws_mem (List.mem_of_getElem? (i := 454) (by decide +kernel)) (by decide +kernel)), List.forall_mem_cons.mpr ⟨(ws_mem (List.mem_of_getElem? (i := 455) (by decide +kernel)) (by decide +kernel)), List.forall_mem_cons.mpr ⟨(ws_mem (List.mem_of_getElem? (i := 59) (by decide +kernel)) (by decide +kernel)), List.forall_mem_cons.mpr ⟨(ws_mem (List.mem_of_getElem? (i := 456) (by decide +kernel)) (by decide +kernel)), fun _ h => absurd h List.not_mem_nil⟩⟩⟩⟩⟩) rfl (by unfold nice; decide +kernel) (by unfold rfits; decide) ⟨rfl, rfl⟩
  · cases h; exact cal_V mX3_timeAt (by decide) rfl (List.forall_mem_cons.mpr ⟨(ws_mem (List.mem_of_getElem? (i := 457) (by decide +kernel)) (by decide +kernel)), List.forall_mem_cons.mpr ⟨(ws_mem (List.mem_of_getElem? (i := 458) (by decide +kernel)) (by decide +kernel)), List.forall_mem_cons.mpr ⟨(ws_mem (List.mem_of_getElem? (i := 459) (by decide +kernel)) (by decide +kernel)), List.forall_mem_cons.mpr ⟨(ws_mem (List.mem_of_getElem? (i := 56) (by decide +kernel)) (by decide +kernel)), List.forall_mem_cons.mpr ⟨(ws_mem (List.mem_of_getElem? (i := 460) (by decide +kernel)) (by decide +kernel)), fun _ h => absurd h List.not_mem_nil⟩⟩⟩⟩⟩) rfl (by unfold nice; decide +kernel) (by unfold rfits; decide) ⟨rfl, rfl⟩
  · cases h
theorem ocX6_quicken_40 (f : Nat → Nat → Nat → Nat → (List MV → MS → (Option MV → MS → Prop) → Prop) → Prop) : oC aX6_quicken 40 f = f 3 3 0 0 spX3_limitOn := propext Iff.rfl
theorem ocX6_quicken_46 (f : Nat → Nat → Nat → Nat → (List MV → MS → (Option MV → MS → Prop) → Prop) → Prop) : oC aX6_quicken 46 f = f 2 10 0 0 spMin := propext Iff.rfl
theorem ocX6_quicken_21 (f : Nat → Nat → Nat → Nat → (List MV → MS → (Option MV → MS → Prop) → Prop) → Prop) : oC aX6_quicken 21 f = f 2 6 0 0 spX6_changesAt := propext Iff.rfl
theorem ocX6_quicken_57 (f : Nat → Nat → Nat → Nat → (List MV → MS → (Option MV → MS → Prop) → Prop) → Prop) : oC aX6_quicken 57 f = f 3 3 0 0 spX3_timeAt := propext Iff.rfl
theorem mdX6_quicken : MD RX6 cX6_quicken rmX6_quicken kX6_quicken fX6 aX6_quicken zX6 uX6 := ⟨fokX6, zokX6, uokX6, aokX6_quicken, qX6_quicken⟩
theorem wlim_rng (I : Int → Int → Int) (w g : Int) : ∀ i, 0 ≤ i → i < I 3 1 → 1 ≤ wlim I w g i ∧ wlim I w g i ≤ 60 := fun i _ _ => lim_rng _ _ _ _ _
set_option maxHeartbeats 1600000 in
set_option maxRecDepth 100000 in
theorem lpX6_qb {post : Option MV → MS → Prop} {U : Pt → Prop} {N : Nat} {I L : Int → Int → Int} {w : Int} (hw : w = 40 ∨ w = 44) (ht : tOK I) (hc : carOK I) (hl : laneOK I w (I 3 1))
    (h : ∀ I1 : Int → Int → Int, (∀ b j, b ≠ w + 2 → I1 b j = I b j) → (∀ j, 0 ≤ j → j < I 3 1 → I1 (w + 2) j = bq (wlim I w (I 36 0)) (I 36 1) (I 3 1) j) → Ok RX6 cX6_quicken 5 rmX6_quicken false none post U (84, [some (.inr (.inr (some w))), some (.inr (.inr (some 3))), some (.inr (.inr (some 35))), some (.inl (-1)), none], [], (N, PF, I1, L), 0, 0)) :
    ∀ (m : Nat) (I1 : Int → Int → Int), (m : Int) ≤ I 3 1 → (∀ b j, b ≠ w + 2 → I1 b j = I b j) → (∀ j : Int, (m : Int) ≤ j → j < I 3 1 → I1 (w + 2) j = bq (wlim I w (I 36 0)) (I 36 1) (I 3 1) j) →
    Ok RX6 cX6_quicken 5 rmX6_quicken false none post U (7, [some (.inr (.inr (some w))), some (.inr (.inr (some 3))), some (.inr (.inr (some 35))), some (.inl (m - 1)), none], [], (N, PF, I1, L), 0, 0)
  | 0, I1, hm, h1, h2 => by
    refine Ok.seg mdX6_quicken [84] 20 ?_
    simp only [wp_nil, wp_cons, ↓stp, ↓lI, ↓lL, ↓lR, ↓lIn_0, ↓lIn_1, ↓lIn_2, ↓lIn_3, ↓lLn_0, ↓lLn_1, ↓lLn_2, ↓lLn_3, ↓lRn_0, ↓lRn_1, ↓lRn_2, ↓lRn_3, ↓pI, ↓pL, ↓pR, ↓pA, ↓pN, ↓pV, ↓fp, ↓tsw, ↓oS, ↓spMax, ↓spMin, ↓spAbs, ↓spObj, RI, RLg, b2i_lo, b2i_hi, getL, setL, ltL, killL, isLong, inl, cnd, br, tgt, rcv, rpl, mputI, mputL, mputP, fv, fr, mcat, mcs, entL, entA, rfit, nf_0, nf_1, nf_2, nf_3, nf2_0, nf2_1, b2i_0, b2i_1, RI_b2i, b2i_fit, List.append, List.length, List.replicate, List.cons_append, List.nil_append, List.length_cons, List.length_nil, List.replicate_succ, List.replicate_zero, List.tail_cons, reduceIte, if_true, if_false, ite_true, ite_false, Bool.false_eq_true, true_and, and_true, and_self, false_and, and_false, or_self, or_true, true_or, or_false, false_or, not_true_eq_false, not_false_eq_true, ne_eq, forall_const, implies_true, imp_self, true_implies, false_implies, Nat.reduceAdd, Nat.reduceSub, Nat.reduceMul, Nat.reduceDiv, Nat.reduceMod, Nat.reduceEqDiff, Nat.reduceLT, Nat.reduceLeDiff, Nat.reduceBEq, Nat.add_zero, Nat.zero_add, Nat.le_refl, Nat.not_lt_zero, Nat.succ_eq_add_one, Int.reduceNatCast, Int.cast_ofNat_Int, Int.reduceSub, Int.reduceMul, Int.reduceNeg, Int.reduceLE, Int.reduceLT, Int.reduceToNat, Int.reduceEq, Int.reduceNe, Int.reduceAdd, Option.some.injEq, kX6_quicken, rmX6_quicken, ↓ofX6_15, ↓ofX6_18, ↓ofX6_25, ↓ofX6_31, ↓ofX6_35, ↓ofX6_51, ↓ofX6_54, ↓ofX6_9, ↓ocX6_quicken_40, ↓spX3_limitOn, ↓ocX6_quicken_46, ↓ocX6_quicken_21, ↓spX6_changesAt, ↓ocX6_quicken_57, ↓spX3_timeAt]
    exact h I1 h1 (fun j j0 j1 => h2 j (by omega) j1)
  | m + 1, I1, hm, h1, h2 => by
    obtain ⟨g0, g1, g2, g3, p0, p1, p2⟩ := wP_of hw
    have ih := lpX6_qb hw ht hc hl h m
    obtain ⟨s0, s1, hs⟩ := ht
    obtain ⟨⟨hok, hr⟩, hn⟩ := hc
    unfold nOK at hn
    have hp := PF_st (i := (m : Int)) (by omega) (by omega)
    have hg := G_st (a := 5 + (m : Int)) (by omega) (by omega)
    have e5 : I1 (5 + (m : Int)) = I (5 + (m : Int)) := funext fun j => h1 _ j (by omega)
    have e3 : I1 3 = I 3 := funext fun j => h1 _ j (by omega)
    have e36 : I1 36 = I 36 := funext fun j => h1 _ j (by omega)
    have ew : I1 (w + 1) = I (w + 1) := funext fun j => h1 _ j (by omega)
    have hst : stOK I1 (5 + (m : Int)) := by
      have := hs m (by omega) (by omega)
      unfold stOK at this ⊢
      rw [e5]; exact this
    have hla := hl m (by omega) (by omega)
    have hlr := wlim_rng I w (I 36 0) m (by omega) (by omega)
    have hm1 : ((m + 1 : Nat) : Int) - 1 = m := by omega
    have hcons : ∀ v, v = bq (wlim I w (I 36 0)) (I 36 1) (I 3 1) m → Ok RX6 cX6_quicken 5 rmX6_quicken false none post U (7, [some (.inr (.inr (some w))), some (.inr (.inr (some 3))), some (.inr (.inr (some 35))), some (.inl ((m : Int) + -1)), none], [], (N, PF, upI I1 (w + 2) m v, L), 0, 0) := fun v hv => by
      rw [show (m : Int) + -1 = m - 1 by omega]
      refine ih (upI I1 (w + 2) m v) (by omega) (fun b j hb => ?_) (fun j j0 j1 => ?_)
      · rw [upI_ne hb]; exact h1 b j hb
      · by_cases e : j = m
        · rw [e, upI_same]; exact hv
        · rw [upI_nj e]; exact h2 j (by omega) j1
    refine Ok.seg mdX6_quicken [7, 84] 52 ?_
    have n3 : (3 : Int) ≠ w + 2 := by omega
    have n36 : (36 : Int) ≠ w + 2 := by omega
    have nj : (m : Int) + 1 ≠ m := by omega
    rw [hm1]
    simp only [wp_nil, wp_cons, ↓stp, ↓lI, ↓lL, ↓lR, ↓lIn_0, ↓lIn_1, ↓lIn_2, ↓lIn_3, ↓lLn_0, ↓lLn_1, ↓lLn_2, ↓lLn_3, ↓lRn_0, ↓lRn_1, ↓lRn_2, ↓lRn_3, ↓pI, ↓pL, ↓pR, ↓pA, ↓pN, ↓pV, ↓fp, ↓tsw, ↓oS, ↓spMax, ↓spMin, ↓spAbs, ↓spObj, RI, RLg, b2i_lo, b2i_hi, getL, setL, ltL, killL, isLong, inl, cnd, br, tgt, rcv, rpl, mputI, mputL, mputP, fv, fr, mcat, mcs, entL, entA, rfit, nf_0, nf_1, nf_2, nf_3, nf2_0, nf2_1, b2i_0, b2i_1, RI_b2i, b2i_fit, List.append, List.length, List.replicate, List.cons_append, List.nil_append, List.length_cons, List.length_nil, List.replicate_succ, List.replicate_zero, List.tail_cons, reduceIte, if_true, if_false, ite_true, ite_false, Bool.false_eq_true, true_and, and_true, and_self, false_and, and_false, or_self, or_true, true_or, or_false, false_or, not_true_eq_false, not_false_eq_true, ne_eq, forall_const, implies_true, imp_self, true_implies, false_implies, Nat.reduceAdd, Nat.reduceSub, Nat.reduceMul, Nat.reduceDiv, Nat.reduceMod, Nat.reduceEqDiff, Nat.reduceLT, Nat.reduceLeDiff, Nat.reduceBEq, Nat.add_zero, Nat.zero_add, Nat.le_refl, Nat.not_lt_zero, Nat.succ_eq_add_one, Int.reduceNatCast, Int.cast_ofNat_Int, Int.reduceSub, Int.reduceMul, Int.reduceNeg, Int.reduceLE, Int.reduceLT, Int.reduceToNat, Int.reduceEq, Int.reduceNe, Int.reduceAdd, Option.some.injEq, kX6_quicken, rmX6_quicken, ↓ofX6_15, ↓ofX6_18, ↓ofX6_25, ↓ofX6_31, ↓ofX6_35, ↓ofX6_51, ↓ofX6_54, ↓ofX6_9, ↓ocX6_quicken_40, ↓spX3_limitOn, ↓ocX6_quicken_46, ↓ocX6_quicken_21, ↓spX6_changesAt, ↓ocX6_quicken_57, ↓spX3_timeAt, hp, hg, g0, g1, g2, p0, p1, e5, e3, e36, ew, hst, upI_same, upI_tw, upI_ne n3, upI_ne n36, upI_nj nj, G_1, G_2, G_3, G_4, G_35, G_36, G_37, G_38, G_39, G_40, G_41, G_42, G_43, G_44, G_45, G_46, G_47, G_48, G_49, G_140, G_141, G_142, G_143, G_144, G_145, G_146, G_178, G_179, G_180, G_181, G_182, G_183, G_184, G_189, G_198, G_207, PF_1_0, PF_1_1, PF_1_2, PF_1_3, PF_2_0, PF_2_1, PF_2_3, PF_2_4, PF_2_5, PF_2_6, PF_2_7, PF_2_8, PF_2_9, PF_2_10, PF_2_11, PF_3_0, PF_35_0, PF_35_1, PF_35_2, PF_35_3, PF_40_0, PF_40_1, PF_40_2, PF_44_0, PF_44_1, PF_44_2, PF_145_0, PF_145_1, PF_179_0, PF_179_1, PF_179_2, PF_179_3, PF_179_8, PF_179_9, PF_179_10]
    unfold wlim at hlr
    have hb1 : ¬ I 3 1 - 1 ≤ m → I1 (w + 2) (m + 1) = bq (wlim I w (I 36 0)) (I 36 1) (I 3 1) (m + 1) := fun q => h2 _ (by omega) (by omega)
    have hbr : ¬ I 3 1 - 1 ≤ m → _ := fun q => bq_rng (n := I 3 1) (wlim_rng I w (I 36 0)) hn.2.2.1 (i := (m : Int) + 1) (by omega) (by omega)
    refine ⟨by omega, fun _ => by omega, fun _ => ⟨by omega, by omega, by omega, by omega, by omega, by omega, by omega, by omega, by omega, by omega, by omega, by omega, by omega, fun q => ?_, fun q => ?_⟩⟩
    · refine hcons _ ?_
      rw [show (m : Int) = I 3 1 - 1 by omega, bq_last]
      rfl
    · rw [hb1 q]
      have hbr := hbr q
      refine ⟨by omega, by omega, by omega, by omega, by omega, by omega, fun r r1 r2 r3 => ⟨by omega, by omega, ?_⟩⟩
      refine hcons r ?_
      rw [bq_step (by omega)]
      exact mn_of r1 r2 r3
theorem laneOK_cg {I J : Int → Int → Int} {w n : Int} (h : ∀ j, J (w + 1) j = I (w + 1) j) (hl : laneOK I w n) : laneOK J w n := fun i i0 i1 => by rw [h]; exact hl i i0 i1
theorem chgI_cg {I J : Int → Int → Int} {w : Int} (h : ∀ j, J (w + 1) j = I (w + 1) j) (i : Int) : chgI J w i = chgI I w i := by unfold chgI; rw [h, h]
theorem stOK_cg {I J : Int → Int → Int} {a : Int} (h : ∀ j, J a j = I a j) (hl : stOK I a) : stOK J a := by unfold stOK at hl ⊢; rw [h, h, h, h, h]; exact hl
theorem sumI_s (f : Int → Int) (n : Nat) : sumI f (n + 1) = sumI f n + f n := rfl
theorem tmv_rng {len ch p : Int} (h1 : 1 ≤ len) (h2 : len ≤ 99) (hp : 1 ≤ p) : 0 ≤ tmv len ch p ∧ tmv len ch p ≤ 101000 := by
  unfold tmv
  have : ∀ d, 0 ≤ d → d ≤ 101000 → 0 ≤ d / p ∧ d / p ≤ 101000 := fun d d0 d1 => ⟨Int.ediv_nonneg d0 (by omega), Int.le_trans (Int.ediv_le_self p d0) d1⟩
  rw [if_pos (by omega)]
  split
  · exact this _ (by omega) (by omega)
  · exact this _ (by omega) (by omega)
theorem sumI_s' (f : Int → Int) {i : Int} (h : 0 ≤ i) : sumI f (i + 1).toNat = sumI f i.toNat + f i := by
  rw [show (i + 1).toNat = i.toNat + 1 by omega, sumI_s, Int.toNat_of_nonneg h]
set_option maxHeartbeats 1600000 in
set_option maxRecDepth 100000 in
theorem lpX6_qf {post : Option MV → MS → Prop} {U : Pt → Prop} {N : Nat} {I L : Int → Int → Int} {w : Int} (hw : w = 40 ∨ w = 44) (ht : tOK I) (hc : carOK I) (hl : laneOK I w (I 3 1))
    (h : ∀ I' : Int → Int → Int, (∀ b j, b ≠ w + 2 → b ≠ w + 3 → ¬ (b = w ∧ j = 3) → I' b j = I b j) → (∀ i, 0 ≤ i → i < I 3 1 → I' (w + 2) i = wqp I w i) → (∀ i, 0 ≤ i → i < I 3 1 → I' (w + 3) i = wtm I w i) → I' w 3 = sumI (wtm I w) (I 3 1).toNat → post none (N, PF, I', L)) :
    ∀ (m : Nat) (i : Int) (I1 : Int → Int → Int) (x : Option MV), 0 ≤ i → (i : Int) + m = I 3 1 → (∀ b j, b ≠ w + 2 → b ≠ w + 3 → ¬ (b = w ∧ j = 3) → I1 b j = I b j) →
    (∀ j : Int, 0 ≤ j → j < i → I1 (w + 2) j = wqp I w j) → (∀ j : Int, i ≤ j → j < I 3 1 → I1 (w + 2) j = bq (wlim I w (I 36 0)) (I 36 1) (I 3 1) j) →
    (∀ j : Int, 0 ≤ j → j < i → I1 (w + 3) j = wtm I w j) → I1 w 3 = sumI (wtm I w) i.toNat →
    Ok RX6 cX6_quicken 5 rmX6_quicken false none post U (91, [some (.inr (.inr (some w))), some (.inr (.inr (some 3))), some (.inr (.inr (some 35))), some (.inl i), x], [], (N, PF, I1, L), 0, 0)
  | 0, i, I1, x, i0, hm, h1, h2, h3, h4, h5 => by
    have e3 : I1 3 = I 3 := funext fun j => h1 _ j (by omega) (by omega) (by omega)
    obtain ⟨s0, s1, hs⟩ := ht
    refine Ok.seg mdX6_quicken [91, 125, 112] 20 ?_
    simp only [wp_nil, wp_cons, ↓stp, ↓lI, ↓lL, ↓lR, ↓lIn_0, ↓lIn_1, ↓lIn_2, ↓lIn_3, ↓lLn_0, ↓lLn_1, ↓lLn_2, ↓lLn_3, ↓lRn_0, ↓lRn_1, ↓lRn_2, ↓lRn_3, ↓pI, ↓pL, ↓pR, ↓pA, ↓pN, ↓pV, ↓fp, ↓tsw, ↓oS, ↓spMax, ↓spMin, ↓spAbs, ↓spObj, RI, RLg, b2i_lo, b2i_hi, getL, setL, ltL, killL, isLong, inl, cnd, br, tgt, rcv, rpl, mputI, mputL, mputP, fv, fr, mcat, mcs, entL, entA, rfit, nf_0, nf_1, nf_2, nf_3, nf2_0, nf2_1, b2i_0, b2i_1, RI_b2i, b2i_fit, List.append, List.length, List.replicate, List.cons_append, List.nil_append, List.length_cons, List.length_nil, List.replicate_succ, List.replicate_zero, List.tail_cons, reduceIte, if_true, if_false, ite_true, ite_false, Bool.false_eq_true, true_and, and_true, and_self, false_and, and_false, or_self, or_true, true_or, or_false, false_or, not_true_eq_false, not_false_eq_true, ne_eq, forall_const, implies_true, imp_self, true_implies, false_implies, Nat.reduceAdd, Nat.reduceSub, Nat.reduceMul, Nat.reduceDiv, Nat.reduceMod, Nat.reduceEqDiff, Nat.reduceLT, Nat.reduceLeDiff, Nat.reduceBEq, Nat.add_zero, Nat.zero_add, Nat.le_refl, Nat.not_lt_zero, Nat.succ_eq_add_one, Int.reduceNatCast, Int.cast_ofNat_Int, Int.reduceSub, Int.reduceMul, Int.reduceNeg, Int.reduceLE, Int.reduceLT, Int.reduceToNat, Int.reduceEq, Int.reduceNe, Int.reduceAdd, Option.some.injEq, kX6_quicken, rmX6_quicken, ↓ofX6_15, ↓ofX6_18, ↓ofX6_25, ↓ofX6_31, ↓ofX6_35, ↓ofX6_51, ↓ofX6_54, ↓ofX6_9, ↓ocX6_quicken_40, ↓spX3_limitOn, ↓ocX6_quicken_46, ↓ocX6_quicken_21, ↓spX6_changesAt, ↓ocX6_quicken_57, ↓spX3_timeAt, e3, G_1, G_2, G_3, G_4, G_35, G_36, G_37, G_38, G_39, G_40, G_41, G_42, G_43, G_44, G_45, G_46, G_47, G_48, G_49, G_140, G_141, G_142, G_143, G_144, G_145, G_146, G_178, G_179, G_180, G_181, G_182, G_183, G_184, G_189, G_198, G_207, PF_1_0, PF_1_1, PF_1_2, PF_1_3, PF_2_0, PF_2_1, PF_2_3, PF_2_4, PF_2_5, PF_2_6, PF_2_7, PF_2_8, PF_2_9, PF_2_10, PF_2_11, PF_3_0, PF_35_0, PF_35_1, PF_35_2, PF_35_3, PF_40_0, PF_40_1, PF_40_2, PF_44_0, PF_44_1, PF_44_2, PF_145_0, PF_145_1, PF_179_0, PF_179_1, PF_179_2, PF_179_3, PF_179_8, PF_179_9, PF_179_10]
    refine ⟨by omega, by omega, fun _ => h I1 h1 (fun j j0 j1 => h2 j j0 (by omega)) (fun j j0 j1 => h4 j j0 (by omega)) ?_, fun _ => by omega⟩
    rw [h5]; congr 1; omega
  | m + 1, i, I1, x, i0, hm, h1, h2, h3, h4, h5 => by
    obtain ⟨g0, g1, g2, g3, p0, p1, p2⟩ := wP_of hw
    have ih := lpX6_qf (U := U) hw ht hc hl h m (i + 1)
    obtain ⟨s0, s1, hs⟩ := ht
    obtain ⟨⟨hok, hr⟩, hn⟩ := hc
    unfold nOK at hn
    have hp := PF_st (i := i) (by omega) (by omega)
    have hg := G_st (a := 5 + i) (by omega) (by omega)
    have e3 : I1 3 = I 3 := funext fun j => h1 _ j (by omega) (by omega) (by omega)
    have e36 : I1 36 = I 36 := funext fun j => h1 _ j (by omega) (by omega) (by omega)
    have e37 : I1 37 = I 37 := funext fun j => h1 _ j (by omega) (by omega) (by omega)
    have n22 : w + 2 ≠ w + 3 := by omega
    have n3w : w ≠ w + 3 := by omega
    have n2w : w ≠ w + 2 := by omega
    have n5 : 5 + i ≠ w + 2 := by omega
    have hbq := bq_rng (n := I 3 1) (wlim_rng I w (I 36 0)) hn.2.2.1 (i := i) (by omega) (by omega)
    have hqp := qp_rng (n := I 3 1) (wlim_rng I w (I 36 0)) (fun p p0 p1 => rch_rng hok p1) hn.2.2.1 hn.2.2.2.2.1 (i := i) (by omega) (by omega)
    have mid : ∀ mo : Int, 1 ≤ mo → mo ≤ 60 → wqp I w i = mn (bq (wlim I w (I 36 0)) (I 36 1) (I 3 1) i) mo → Ok RX6 cX6_quicken 5 rmX6_quicken false none post U (125, [some (.inr (.inr (some w))), some (.inr (.inr (some 3))), some (.inr (.inr (some 35))), some (.inl i), x], [.inl mo], (N, PF, I1, L), 0, 0) := fun mo m0 m1 hq => by
      have e5 : I1 (5 + i) = I (5 + i) := funext fun j => h1 _ j (by omega) (by omega) (by omega)
      have hst : ∀ r, stOK (upI I1 (w + 2) i r) (5 + i) := fun r => stOK_cg (fun j => by rw [upI_ne n5, e5]) (hs i (by omega) (by omega))
      have ew : ∀ r j, upI I1 (w + 2) i r (w + 1) j = I (w + 1) j := fun r j => by rw [upI_ne (by omega)]; exact h1 _ j (by omega) (by omega) (by omega)
      have ecg : ∀ r, chgI (upI I1 (w + 2) i r) w i = chgI I w i := fun r => chgI_cg (ew r) i
      have elo : ∀ r, laneOK (upI I1 (w + 2) i r) w (i + 1) := fun r => laneOK_cg (ew r) (fun j j0 j1 => hl j j0 (by omega))
      have e2i := h3 i (by omega) (by omega)
      refine Ok.seg mdX6_quicken [91] 45 ?_
      simp only [wp_nil, wp_cons, ↓stp, ↓lI, ↓lL, ↓lR, ↓lIn_0, ↓lIn_1, ↓lIn_2, ↓lIn_3, ↓lLn_0, ↓lLn_1, ↓lLn_2, ↓lLn_3, ↓lRn_0, ↓lRn_1, ↓lRn_2, ↓lRn_3, ↓pI, ↓pL, ↓pR, ↓pA, ↓pN, ↓pV, ↓fp, ↓tsw, ↓oS, ↓spMax, ↓spMin, ↓spAbs, ↓spObj, RI, RLg, b2i_lo, b2i_hi, getL, setL, ltL, killL, isLong, inl, cnd, br, tgt, rcv, rpl, mputI, mputL, mputP, fv, fr, mcat, mcs, entL, entA, rfit, nf_0, nf_1, nf_2, nf_3, nf2_0, nf2_1, b2i_0, b2i_1, RI_b2i, b2i_fit, List.append, List.length, List.replicate, List.cons_append, List.nil_append, List.length_cons, List.length_nil, List.replicate_succ, List.replicate_zero, List.tail_cons, reduceIte, if_true, if_false, ite_true, ite_false, Bool.false_eq_true, true_and, and_true, and_self, false_and, and_false, or_self, or_true, true_or, or_false, false_or, not_true_eq_false, not_false_eq_true, ne_eq, forall_const, implies_true, imp_self, true_implies, false_implies, Nat.reduceAdd, Nat.reduceSub, Nat.reduceMul, Nat.reduceDiv, Nat.reduceMod, Nat.reduceEqDiff, Nat.reduceLT, Nat.reduceLeDiff, Nat.reduceBEq, Nat.add_zero, Nat.zero_add, Nat.le_refl, Nat.not_lt_zero, Nat.succ_eq_add_one, Int.reduceNatCast, Int.cast_ofNat_Int, Int.reduceSub, Int.reduceMul, Int.reduceNeg, Int.reduceLE, Int.reduceLT, Int.reduceToNat, Int.reduceEq, Int.reduceNe, Int.reduceAdd, Option.some.injEq, kX6_quicken, rmX6_quicken, ↓ofX6_15, ↓ofX6_18, ↓ofX6_25, ↓ofX6_31, ↓ofX6_35, ↓ofX6_51, ↓ofX6_54, ↓ofX6_9, ↓ocX6_quicken_40, ↓spX3_limitOn, ↓ocX6_quicken_46, ↓ocX6_quicken_21, ↓spX6_changesAt, ↓ocX6_quicken_57, ↓spX3_timeAt, hp, hg, g0, g1, g2, g3, p0, p1, p2, e5, e3, e36, hst, ecg, elo, hw, e2i, upI_same, upI_ne n22, upI_ne n3w, upI_ne n2w, upI_ne n5, G_1, G_2, G_3, G_4, G_35, G_36, G_37, G_38, G_39, G_40, G_41, G_42, G_43, G_44, G_45, G_46, G_47, G_48, G_49, G_140, G_141, G_142, G_143, G_144, G_145, G_146, G_178, G_179, G_180, G_181, G_182, G_183, G_184, G_189, G_198, G_207, PF_1_0, PF_1_1, PF_1_2, PF_1_3, PF_2_0, PF_2_1, PF_2_3, PF_2_4, PF_2_5, PF_2_6, PF_2_7, PF_2_8, PF_2_9, PF_2_10, PF_2_11, PF_3_0, PF_35_0, PF_35_1, PF_35_2, PF_35_3, PF_40_0, PF_40_1, PF_40_2, PF_44_0, PF_44_1, PF_44_2, PF_145_0, PF_145_1, PF_179_0, PF_179_1, PF_179_2, PF_179_3, PF_179_8, PF_179_9, PF_179_10]
      have hc2 := chgI_b I w i
      refine ⟨by omega, by omega, by omega, by omega, fun r r1 r2 r3 => ?_⟩
      have er : r = wqp I w i := by rw [hq]; exact mn_of r1 r2 r3
      refine ⟨by omega, by omega, by omega, by omega, by omega, by omega, by omega, by omega, by omega, by omega, by omega, by omega, hc2, by omega, by omega, by omega, by omega, ?_⟩
      subst er
      change Ok RX6 cX6_quicken 5 rmX6_quicken false none post U (91, [some (.inr (.inr (some w))), some (.inr (.inr (some 3))), some (.inr (.inr (some 35))), some (.inl (i + 1)), some (.inl mo)], [], (N, PF, upI (upI (upI I1 (w + 2) i (wqp I w i)) (w + 3) i (wtm I w i)) w 3 (I1 w 3 + wtm I w i), L), 0, 0)
      refine ih _ _ (by omega) (by omega) (fun b j b1 b2 b3 => ?_) (fun j j0 j1 => ?_) (fun j j0 j1 => ?_) (fun j j0 j1 => ?_) ?_
      · unfold upI; rw [if_neg (by omega), if_neg (by omega), if_neg (by omega)]; exact h1 b j b1 b2 b3
      · by_cases e : j = i
        · subst e; unfold upI; rw [if_neg (by omega), if_neg (by omega), if_pos (by omega)]
        · unfold upI; rw [if_neg (by omega), if_neg (by omega), if_neg (by omega)]; exact h2 j j0 (by omega)
      · unfold upI; rw [if_neg (by omega), if_neg (by omega), if_neg (by omega)]; exact h3 j (by omega) j1
      · by_cases e : j = i
        · subst e; unfold upI; rw [if_neg (by omega), if_pos (by omega)]
        · unfold upI; rw [if_neg (by omega), if_neg (by omega), if_neg (by omega)]; exact h4 j j0 (by omega)
      · rw [upI_same, h5, sumI_s' _ i0]
    refine Ok.seg mdX6_quicken [91, 125, 112] 20 ?_
    simp only [wp_nil, wp_cons, ↓stp, ↓lI, ↓lL, ↓lR, ↓lIn_0, ↓lIn_1, ↓lIn_2, ↓lIn_3, ↓lLn_0, ↓lLn_1, ↓lLn_2, ↓lLn_3, ↓lRn_0, ↓lRn_1, ↓lRn_2, ↓lRn_3, ↓pI, ↓pL, ↓pR, ↓pA, ↓pN, ↓pV, ↓fp, ↓tsw, ↓oS, ↓spMax, ↓spMin, ↓spAbs, ↓spObj, RI, RLg, b2i_lo, b2i_hi, getL, setL, ltL, killL, isLong, inl, cnd, br, tgt, rcv, rpl, mputI, mputL, mputP, fv, fr, mcat, mcs, entL, entA, rfit, nf_0, nf_1, nf_2, nf_3, nf2_0, nf2_1, b2i_0, b2i_1, RI_b2i, b2i_fit, List.append, List.length, List.replicate, List.cons_append, List.nil_append, List.length_cons, List.length_nil, List.replicate_succ, List.replicate_zero, List.tail_cons, reduceIte, if_true, if_false, ite_true, ite_false, Bool.false_eq_true, true_and, and_true, and_self, false_and, and_false, or_self, or_true, true_or, or_false, false_or, not_true_eq_false, not_false_eq_true, ne_eq, forall_const, implies_true, imp_self, true_implies, false_implies, Nat.reduceAdd, Nat.reduceSub, Nat.reduceMul, Nat.reduceDiv, Nat.reduceMod, Nat.reduceEqDiff, Nat.reduceLT, Nat.reduceLeDiff, Nat.reduceBEq, Nat.add_zero, Nat.zero_add, Nat.le_refl, Nat.not_lt_zero, Nat.succ_eq_add_one, Int.reduceNatCast, Int.cast_ofNat_Int, Int.reduceSub, Int.reduceMul, Int.reduceNeg, Int.reduceLE, Int.reduceLT, Int.reduceToNat, Int.reduceEq, Int.reduceNe, Int.reduceAdd, Option.some.injEq, kX6_quicken, rmX6_quicken, ↓ofX6_15, ↓ofX6_18, ↓ofX6_25, ↓ofX6_31, ↓ofX6_35, ↓ofX6_51, ↓ofX6_54, ↓ofX6_9, ↓ocX6_quicken_40, ↓spX3_limitOn, ↓ocX6_quicken_46, ↓ocX6_quicken_21, ↓spX6_changesAt, ↓ocX6_quicken_57, ↓spX3_timeAt, hp, hg, g0, g1, g2, p0, p1, e3, e36, G_1, G_2, G_3, G_4, G_35, G_36, G_37, G_38, G_39, G_40, G_41, G_42, G_43, G_44, G_45, G_46, G_47, G_48, G_49, G_140, G_141, G_142, G_143, G_144, G_145, G_146, G_178, G_179, G_180, G_181, G_182, G_183, G_184, G_189, G_198, G_207, PF_1_0, PF_1_1, PF_1_2, PF_1_3, PF_2_0, PF_2_1, PF_2_3, PF_2_4, PF_2_5, PF_2_6, PF_2_7, PF_2_8, PF_2_9, PF_2_10, PF_2_11, PF_3_0, PF_35_0, PF_35_1, PF_35_2, PF_35_3, PF_40_0, PF_40_1, PF_40_2, PF_44_0, PF_44_1, PF_44_2, PF_145_0, PF_145_1, PF_179_0, PF_179_1, PF_179_2, PF_179_3, PF_179_8, PF_179_9, PF_179_10]
    refine ⟨by omega, by omega, fun _ => by omega, fun _ => ⟨by omega, fun q => ?_, fun q => ?_⟩⟩
    · have hq1 := qp_rng (n := I 3 1) (wlim_rng I w (I 36 0)) (fun p p0 p1 => rch_rng hok p1) hn.2.2.1 hn.2.2.2.2.1 (i := i - 1) (by omega) (by omega)
      have e1 := h2 (i - 1) (by omega) (by omega)
      have hq2 : 1 ≤ wqp I w (i - 1) ∧ wqp I w (i - 1) ≤ 60 := hq1
      have e2 := hr (wqp I w (i - 1)) hq2.1 hq2.2
      have e4 := rch_rng hok hq2.2
      refine Ok.seg mdX6_quicken [91, 125] 20 ?_
      simp only [wp_nil, wp_cons, ↓stp, ↓lI, ↓lL, ↓lR, ↓lIn_0, ↓lIn_1, ↓lIn_2, ↓lIn_3, ↓lLn_0, ↓lLn_1, ↓lLn_2, ↓lLn_3, ↓lRn_0, ↓lRn_1, ↓lRn_2, ↓lRn_3, ↓pI, ↓pL, ↓pR, ↓pA, ↓pN, ↓pV, ↓fp, ↓tsw, ↓oS, ↓spMax, ↓spMin, ↓spAbs, ↓spObj, RI, RLg, b2i_lo, b2i_hi, getL, setL, ltL, killL, isLong, inl, cnd, br, tgt, rcv, rpl, mputI, mputL, mputP, fv, fr, mcat, mcs, entL, entA, rfit, nf_0, nf_1, nf_2, nf_3, nf2_0, nf2_1, b2i_0, b2i_1, RI_b2i, b2i_fit, List.append, List.length, List.replicate, List.cons_append, List.nil_append, List.length_cons, List.length_nil, List.replicate_succ, List.replicate_zero, List.tail_cons, reduceIte, if_true, if_false, ite_true, ite_false, Bool.false_eq_true, true_and, and_true, and_self, false_and, and_false, or_self, or_true, true_or, or_false, false_or, not_true_eq_false, not_false_eq_true, ne_eq, forall_const, implies_true, imp_self, true_implies, false_implies, Nat.reduceAdd, Nat.reduceSub, Nat.reduceMul, Nat.reduceDiv, Nat.reduceMod, Nat.reduceEqDiff, Nat.reduceLT, Nat.reduceLeDiff, Nat.reduceBEq, Nat.add_zero, Nat.zero_add, Nat.le_refl, Nat.not_lt_zero, Nat.succ_eq_add_one, Int.reduceNatCast, Int.cast_ofNat_Int, Int.reduceSub, Int.reduceMul, Int.reduceNeg, Int.reduceLE, Int.reduceLT, Int.reduceToNat, Int.reduceEq, Int.reduceNe, Int.reduceAdd, Option.some.injEq, kX6_quicken, rmX6_quicken, ↓ofX6_15, ↓ofX6_18, ↓ofX6_25, ↓ofX6_31, ↓ofX6_35, ↓ofX6_51, ↓ofX6_54, ↓ofX6_9, ↓ocX6_quicken_40, ↓spX3_limitOn, ↓ocX6_quicken_46, ↓ocX6_quicken_21, ↓spX6_changesAt, ↓ocX6_quicken_57, ↓spX3_timeAt, g0, g2, p1, e37, e1, e2, G_1, G_2, G_3, G_4, G_35, G_36, G_37, G_38, G_39, G_40, G_41, G_42, G_43, G_44, G_45, G_46, G_47, G_48, G_49, G_140, G_141, G_142, G_143, G_144, G_145, G_146, G_178, G_179, G_180, G_181, G_182, G_183, G_184, G_189, G_198, G_207, PF_1_0, PF_1_1, PF_1_2, PF_1_3, PF_2_0, PF_2_1, PF_2_3, PF_2_4, PF_2_5, PF_2_6, PF_2_7, PF_2_8, PF_2_9, PF_2_10, PF_2_11, PF_3_0, PF_35_0, PF_35_1, PF_35_2, PF_35_3, PF_40_0, PF_40_1, PF_40_2, PF_44_0, PF_44_1, PF_44_2, PF_145_0, PF_145_1, PF_179_0, PF_179_1, PF_179_2, PF_179_3, PF_179_8, PF_179_9, PF_179_10]
      refine ⟨by omega, by omega, by omega, by omega, mid _ (by omega) (by omega) ?_⟩
      exact qp_step (by omega)
    · have q : i = 0 := by omega
      refine mid _ (by omega) (by omega) ?_
      subst q
      exact qp_0

set_option maxRecDepth 100000 in
set_option maxHeartbeats 800000 in
theorem mX6_quicken : MOK yX6_quicken cX6_quicken 5 none rmX6_quicken ciX6_quicken := by
  refine mok_of (ini := false) (by decide +kernel) (by decide) rfl rfl ?_
  intro σ As K hrc hl h
  obtain ⟨N, P, I, L⟩ := σ
  have h9 := pR_iff.mp h
  clear h
  obtain ⟨w, r, e9, h⟩ := h9
  subst e9
  have h9 := pR_iff.mp h
  clear h
  obtain ⟨t, r, e9, h⟩ := h9
  subst e9
  have h9 := pR_iff.mp h
  clear h
  obtain ⟨c, r, e9, h⟩ := h9
  subst e9
  have h9 := pN_iff.mp h
  clear h
  obtain ⟨e9, h⟩ := h9
  subst e9
  dsimp only at h
  obtain ⟨hw, rfl, rfl, rfl, ht, hc, hl, h⟩ := h
  have ht2 := ht
  obtain ⟨s0, s1, hs⟩ := ht2
  obtain ⟨m, hm⟩ : ∃ m : Nat, I 3 1 = (m : Int) := ⟨(I 3 1).toNat, by omega⟩
  refine ⟨Nat.le_of_ble_eq_true rfl, Ok.seg mdX6_quicken [7, 84] 12 ?_⟩
  simp only [wp_nil, wp_cons, ↓stp, ↓lI, ↓lL, ↓lR, ↓lIn_0, ↓lIn_1, ↓lIn_2, ↓lIn_3, ↓lLn_0, ↓lLn_1, ↓lLn_2, ↓lLn_3, ↓lRn_0, ↓lRn_1, ↓lRn_2, ↓lRn_3, ↓pI, ↓pL, ↓pR, ↓pA, ↓pN, ↓pV, ↓fp, ↓tsw, ↓oS, ↓spMax, ↓spMin, ↓spAbs, ↓spObj, RI, RLg, b2i_lo, b2i_hi, getL, setL, ltL, killL, isLong, inl, cnd, br, tgt, rcv, rpl, mputI, mputL, mputP, fv, fr, mcat, mcs, entL, entA, rfit, nf_0, nf_1, nf_2, nf_3, nf2_0, nf2_1, b2i_0, b2i_1, RI_b2i, b2i_fit, List.append, List.length, List.replicate, List.cons_append, List.nil_append, List.length_cons, List.length_nil, List.replicate_succ, List.replicate_zero, List.tail_cons, reduceIte, if_true, if_false, ite_true, ite_false, Bool.false_eq_true, true_and, and_true, and_self, false_and, and_false, or_self, or_true, true_or, or_false, false_or, not_true_eq_false, not_false_eq_true, ne_eq, forall_const, implies_true, imp_self, true_implies, false_implies, Nat.reduceAdd, Nat.reduceSub, Nat.reduceMul, Nat.reduceDiv, Nat.reduceMod, Nat.reduceEqDiff, Nat.reduceLT, Nat.reduceLeDiff, Nat.reduceBEq, Nat.add_zero, Nat.zero_add, Nat.le_refl, Nat.not_lt_zero, Nat.succ_eq_add_one, Int.reduceNatCast, Int.cast_ofNat_Int, Int.reduceSub, Int.reduceMul, Int.reduceNeg, Int.reduceLE, Int.reduceLT, Int.reduceToNat, Int.reduceEq, Int.reduceNe, Int.reduceAdd, Option.some.injEq, kX6_quicken, rmX6_quicken, ↓ofX6_15, ↓ofX6_18, ↓ofX6_25, ↓ofX6_31, ↓ofX6_35, ↓ofX6_51, ↓ofX6_54, ↓ofX6_9, ↓ocX6_quicken_40, ↓spX3_limitOn, ↓ocX6_quicken_46, ↓ocX6_quicken_21, ↓spX6_changesAt, ↓ocX6_quicken_57, ↓spX3_timeAt, G_1, G_2, G_3, G_4, G_35, G_36, G_37, G_38, G_39, G_40, G_41, G_42, G_43, G_44, G_45, G_46, G_47, G_48, G_49, G_140, G_141, G_142, G_143, G_144, G_145, G_146, G_178, G_179, G_180, G_181, G_182, G_183, G_184, G_189, G_198, G_207, PF_1_0, PF_1_1, PF_1_2, PF_1_3, PF_2_0, PF_2_1, PF_2_3, PF_2_4, PF_2_5, PF_2_6, PF_2_7, PF_2_8, PF_2_9, PF_2_10, PF_2_11, PF_3_0, PF_35_0, PF_35_1, PF_35_2, PF_35_3, PF_40_0, PF_40_1, PF_40_2, PF_44_0, PF_44_1, PF_44_2, PF_145_0, PF_145_1, PF_179_0, PF_179_1, PF_179_2, PF_179_3, PF_179_8, PF_179_9, PF_179_10]
  obtain ⟨g0, g1, g2, g3, p0, p1, p2⟩ := wP_of hw
  rw [show I 3 1 - 1 = (m : Int) - 1 by rw [hm]]
  refine lpX6_qb hw ht hc hl (fun I1 h1 h2 => ?_) m I (by omega) (fun _ _ _ => rfl) (fun j j0 j1 => by omega)
  refine Ok.seg mdX6_quicken [91] 12 ?_
  simp only [wp_nil, wp_cons, ↓stp, ↓lI, ↓lL, ↓lR, ↓lIn_0, ↓lIn_1, ↓lIn_2, ↓lIn_3, ↓lLn_0, ↓lLn_1, ↓lLn_2, ↓lLn_3, ↓lRn_0, ↓lRn_1, ↓lRn_2, ↓lRn_3, ↓pI, ↓pL, ↓pR, ↓pA, ↓pN, ↓pV, ↓fp, ↓tsw, ↓oS, ↓spMax, ↓spMin, ↓spAbs, ↓spObj, RI, RLg, b2i_lo, b2i_hi, getL, setL, ltL, killL, isLong, inl, cnd, br, tgt, rcv, rpl, mputI, mputL, mputP, fv, fr, mcat, mcs, entL, entA, rfit, nf_0, nf_1, nf_2, nf_3, nf2_0, nf2_1, b2i_0, b2i_1, RI_b2i, b2i_fit, List.append, List.length, List.replicate, List.cons_append, List.nil_append, List.length_cons, List.length_nil, List.replicate_succ, List.replicate_zero, List.tail_cons, reduceIte, if_true, if_false, ite_true, ite_false, Bool.false_eq_true, true_and, and_true, and_self, false_and, and_false, or_self, or_true, true_or, or_false, false_or, not_true_eq_false, not_false_eq_true, ne_eq, forall_const, implies_true, imp_self, true_implies, false_implies, Nat.reduceAdd, Nat.reduceSub, Nat.reduceMul, Nat.reduceDiv, Nat.reduceMod, Nat.reduceEqDiff, Nat.reduceLT, Nat.reduceLeDiff, Nat.reduceBEq, Nat.add_zero, Nat.zero_add, Nat.le_refl, Nat.not_lt_zero, Nat.succ_eq_add_one, Int.reduceNatCast, Int.cast_ofNat_Int, Int.reduceSub, Int.reduceMul, Int.reduceNeg, Int.reduceLE, Int.reduceLT, Int.reduceToNat, Int.reduceEq, Int.reduceNe, Int.reduceAdd, Option.some.injEq, kX6_quicken, rmX6_quicken, ↓ofX6_15, ↓ofX6_18, ↓ofX6_25, ↓ofX6_31, ↓ofX6_35, ↓ofX6_51, ↓ofX6_54, ↓ofX6_9, ↓ocX6_quicken_40, ↓spX3_limitOn, ↓ocX6_quicken_46, ↓ocX6_quicken_21, ↓spX6_changesAt, ↓ocX6_quicken_57, ↓spX3_timeAt, g0, G_1, G_2, G_3, G_4, G_35, G_36, G_37, G_38, G_39, G_40, G_41, G_42, G_43, G_44, G_45, G_46, G_47, G_48, G_49, G_140, G_141, G_142, G_143, G_144, G_145, G_146, G_178, G_179, G_180, G_181, G_182, G_183, G_184, G_189, G_198, G_207, PF_1_0, PF_1_1, PF_1_2, PF_1_3, PF_2_0, PF_2_1, PF_2_3, PF_2_4, PF_2_5, PF_2_6, PF_2_7, PF_2_8, PF_2_9, PF_2_10, PF_2_11, PF_3_0, PF_35_0, PF_35_1, PF_35_2, PF_35_3, PF_40_0, PF_40_1, PF_40_2, PF_44_0, PF_44_1, PF_44_2, PF_145_0, PF_145_1, PF_179_0, PF_179_1, PF_179_2, PF_179_3, PF_179_8, PF_179_9, PF_179_10]
  refine lpX6_qf hw ht hc hl (fun I' z1 z2 z3 z4 => ⟨trivial, h I' z1 z2 z3 z4⟩) m 0 _ _ (by omega) (by omega) (fun b j b1 b2 b3 => ?_) (fun j j0 j1 => by omega) (fun j j0 j1 => ?_) (fun j j0 j1 => by omega) ?_
  · rw [← h1 b j b1]; exact if_neg b3
  · rw [← h2 j j0 j1]; exact if_neg (by omega)
  · exact upI_same
