/-! LapBoard$Ways.fillRests -/
/-- t may be the time of all stations after i, from lane l at pace p; k stations are left -/
def Ach (lm : Int → Int → Int) (tm : Int → Int → Int → Int) (rc : Int → Int) (bk : Int) : Nat → Int → Int → Int → Int → Prop
  | 0, _, _, _, t => t = 0
  | k + 1, i, l, p, t => ∃ l' q t', nr l l' ∧ (1 ≤ q ∧ p - bk ≤ q ∧ q ≤ rc p ∧ q ≤ lm (i + 1) l') ∧ Ach lm tm rc bk k (i + 1) l' q t' ∧ t = tm (i + 1) (dif l l') q + t'
theorem Ach_cg {lm lm' : Int → Int → Int} {tm tm' : Int → Int → Int → Int} {rc rc' : Int → Int} {bk n : Int} (h1 : ∀ i l, 0 ≤ i → i < n → 0 ≤ l → l ≤ 2 → lm i l = lm' i l) (hl : ∀ i l, 0 ≤ i → i < n → 0 ≤ l → l ≤ 2 → lm i l ≤ 60) (h2 : ∀ i c q, 0 ≤ i → i < n → (c = 0 ∨ c = 1) → 1 ≤ q → q ≤ 60 → tm i c q = tm' i c q) (h3 : ∀ p, 1 ≤ p → p ≤ 60 → rc p = rc' p) :
    ∀ (k : Nat) (i l p t : Int), 0 ≤ i → i + k < n → 1 ≤ p → p ≤ 60 → (Ach lm tm rc bk k i l p t ↔ Ach lm' tm' rc' bk k i l p t)
  | 0, i, l, p, t, i0, i1, p0, p1 => Iff.rfl
  | k + 1, i, l, p, t, i0, i1, p0, p1 => by
    constructor
    · rintro ⟨l', q, t', a, ⟨b1, b2, b3, b4⟩, c, d⟩
      have e := hl (i + 1) l' (by omega) (by omega) a.2.2.1 a.2.2.2
      refine ⟨l', q, t', a, ⟨b1, b2, by rw [← h3 p p0 p1]; exact b3, by rw [← h1 (i + 1) l' (by omega) (by omega) a.2.2.1 a.2.2.2]; exact b4⟩, (Ach_cg h1 hl h2 h3 k (i + 1) l' q t' (by omega) (by omega) b1 (by omega)).mp c, ?_⟩
      rw [← h2 (i + 1) _ q (by omega) (by omega) (dif_rng _ _) b1 (by omega)]; exact d
    · rintro ⟨l', q, t', a, ⟨b1, b2, b3, b4⟩, c, d⟩
      have e := hl (i + 1) l' (by omega) (by omega) a.2.2.1 a.2.2.2
      rw [← h1 (i + 1) l' (by omega) (by omega) a.2.2.1 a.2.2.2] at b4
      refine ⟨l', q, t', a, ⟨b1, b2, by rw [h3 p p0 p1]; exact b3, b4⟩, (Ach_cg h1 hl h2 h3 k (i + 1) l' q t' (by omega) (by omega) b1 (by omega)).mpr c, ?_⟩
      rw [h2 (i + 1) _ q (by omega) (by omega) (dif_rng _ _) b1 (by omega)]; exact d
def AchI (I : Int → Int → Int) (bk : Int) (k : Nat) (i l p t : Int) : Prop := Ach (fun i l => I 48 (3 * i + l)) (fun i c q => tmv (I (5 + i) 1) c q) (I 37) bk k i l p t
def kk (I : Int → Int → Int) (i : Int) : Nat := (I 3 1 - 1 - i).toNat
def rowOK (I : Int → Int → Int) (bk i l : Int) : Prop := ∀ p, 1 ≤ p → p ≤ 60 → 0 ≤ I (50 + (3 * i + l)) p ∧ Lst (AchI I bk (kk I i) i l p) 536870912 (I (50 + (3 * i + l)) p)
def limR (I : Int → Int → Int) : Prop := ∀ i l, 0 ≤ i → i < I 3 1 → 0 ≤ l → l ≤ 2 → 1 ≤ I 48 (3 * i + l) ∧ I 48 (3 * i + l) ≤ 60
/-- what rows speak of is unchanged -/
def rsame (I J : Int → Int → Int) : Prop := (∀ b k, b < 40 → J b k = I b k) ∧ ∀ k, J 48 k = I 48 k
theorem AchI_cg {I J : Int → Int → Int} {bk : Int} (h : rsame I J) (hl : limR I) (k : Nat) (i l p t : Int) (i0 : 0 ≤ i) (i1 : i + k < I 3 1) (h3 : I 3 1 ≤ 30) (p0 : 1 ≤ p) (p1 : p ≤ 60) : AchI J bk k i l p t ↔ AchI I bk k i l p t := by
  refine Iff.symm (Ach_cg (n := I 3 1) (fun i l _ _ _ _ => (h.2 _).symm) (fun i l a b c d => (hl i l a b c d).2) (fun i c q a b _ _ _ => ?_) (fun p _ _ => (h.1 37 p (by omega)).symm) k i l p t i0 i1 p0 p1)
  show tmv (I (5 + i) 1) c q = tmv (J (5 + i) 1) c q
  rw [h.1 (5 + i) 1 (by omega)]
theorem rowOK_cg {I J : Int → Int → Int} {bk i l : Int} (h : rsame I J) (hl : limR I) (h3 : 0 ≤ I 3 1 ∧ I 3 1 ≤ 30) (i0 : 0 ≤ i) (i1 : i < I 3 1) (hr : ∀ p, J (50 + (3 * i + l)) p = I (50 + (3 * i + l)) p) (hR : rowOK I bk i l) : rowOK J bk i l := fun p p0 p1 => by
  have ek : kk J i = kk I i := by unfold kk; rw [h.1 3 1 (by omega)]
  rw [hr, ek]
  refine ⟨(hR p p0 p1).1, (hR p p0 p1).2.cg (fun y => AchI_cg h hl _ i l p y i0 ?_ h3.2 p0 p1)⟩
  unfold kk; omega
theorem row_of {I : Int → Int → Int} {bk i l p v : Int} {k : Nat} {R : Int → Int → Int} {o : Int → Int} (ek : k + i + 2 = I 3 1) (ht : tOK I) (i0 : 0 ≤ i)
    (hR : ∀ l', 0 ≤ l' → l' ≤ 2 → ∀ q, 1 ≤ q → q ≤ 60 → 0 ≤ R l' q ∧ Lst (AchI I bk k (i + 1) l' q) 536870912 (R l' q)) (hl : limR I)
    (ho : ∀ q, 1 ≤ q → q ≤ 60 → Lst (fun y => ∃ l', nr l l' ∧ l' < 3 ∧ q ≤ I 48 (3 * (i + 1) + l') ∧ y = tmv (I (5 + (i + 1)) 1) (dif l l') q + R l' q) 536870912 (o q)) (p0 : I 37 p ≤ 60)
    (h1 : ∀ q, 1 ≤ q → p - bk ≤ q → q ≤ I 37 p → v ≤ o q) (h2 : ∃ q, 1 ≤ q ∧ p - bk ≤ q ∧ q ≤ I 37 p ∧ v = o q) : 0 ≤ v ∧ Lst (AchI I bk (k + 1) i l p) 536870912 v := by
  obtain ⟨q, q0, q1, q2, q3⟩ := h2
  obtain ⟨a, b, c⟩ := ho q q0 (by omega)
  have hs := ht.2.2 (i + 1) (by omega) (by omega)
  unfold stOK at hs
  have htm := fun c q (q0 : 1 ≤ q) => (tmv_rng (len := I (5 + (i + 1)) 1) (ch := c) (p := q) (by omega) (by omega) q0).1
  have h0 : 0 ≤ v := by
    rcases a with a | ⟨l', d1, d2, d3, d4⟩
    · omega
    · have := (hR l' d1.2.2.1 d1.2.2.2 q q0 (by omega)).1
      have := htm (dif l l') q q0
      omega
  refine ⟨h0, ?_, by omega, fun x hx => ?_⟩
  · rcases a with a | ⟨l', d1, d2, d3, d4⟩
    · exact .inl (by omega)
    · obtain ⟨r0, r1, r2, r3⟩ := hR l' d1.2.2.1 d1.2.2.2 q q0 (by omega)
      have := htm (dif l l') q q0
      rcases r1 with r1 | r1
      · exact .inl (by omega)
      · exact .inr ⟨l', q, _, d1, ⟨q0, q1, q2, d3⟩, r1, by rw [q3, d4]⟩
  · obtain ⟨l', q', t', d1, ⟨d2, d3, d4, d5⟩, d6, d7⟩ := hx
    obtain ⟨r0, r1, r2, r3⟩ := hR l' d1.2.2.1 d1.2.2.2 q' d2 (by omega)
    have e1 := r3 t' d6
    have e2 := (ho q' d2 (by omega)).2.2 _ ⟨l', d1, by have := d1.2.2.2; omega, d5, rfl⟩
    have e3 := h1 q' d2 d3 d4
    rw [d7]
    show v ≤ tmv (I (5 + (i + 1)) 1) (dif l l') q' + t'
    omega
def spX7_fillRests (As : List MV) (σ : MS) (K : Option MV → MS → Prop) : Prop := pR As fun s r => pI r fun la r => pI r fun bk r => pN r (s = 2 ∧ σ.2.1 = PF ∧ -1 ≤ la ∧ la < σ.2.2.1 3 1 ∧ 1 ≤ bk ∧ bk ≤ 30 ∧ tOK σ.2.2.1 ∧ carOK σ.2.2.1 ∧ limR σ.2.2.1 ∧ (∀ i l, la < i → i < σ.2.2.1 3 1 → 0 ≤ l → l ≤ 2 → rowOK σ.2.2.1 bk i l) ∧
  ∀ I' : Int → Int → Int, (∀ b k, b ≠ 140 → b ≠ 141 → ¬ (50 ≤ b ∧ b ≤ 139) → I' b k = σ.2.2.1 b k) → (∀ i l, 0 ≤ i → i < σ.2.2.1 3 1 → 0 ≤ l → l ≤ 2 → rowOK I' bk i l) → (∀ b k, 50 + 3 * (la + 1) ≤ b → b ≤ 139 → I' b k = σ.2.2.1 b k) → K none (σ.1, σ.2.1, I', σ.2.2.2))
def ciX7_fillRests : CI := (3, 7, 0, 0, spX7_fillRests)
def kX7_fillRests (pc : Nat) : List ME := match pc with
  | 0 => [(.iload_n 1, 1, []), (.istore_n 3, 1, [])]
  | 2 => [(.iload_n 3, 1, []), (.ifCond .lt 75, 3, [78]), (.iconst 0, 1, []), (.istore 4, 2, [])]
  | 9 => [(.iload 4, 2, []), (.iconst 3, 1, []), (.if_icmp .ge 60, 3, [72]), (.aload_n 0, 1, []), (.getfield 41, 3, []), (.iconst 3, 1, []), (.iload_n 3, 1, []), (.imul, 1, []), (.iload 4, 2, []), (.iadd, 1, []), (.aaload, 1, []), (.astore 5, 2, []), (.iload_n 3, 1, []), (.aload_n 0, 1, []), (.getfield 12, 3, []), (.getfield 108, 3, []), (.iconst 1, 1, []), (.isub, 1, []), (.if_icmp .ne 12, 3, [50]), (.aload 5, 2, []), (.iconst 0, 1, []), (.invokestatic 59, 3, []), (.goto 19, 3, [66])]
  | 50 => [(.aload_n 0, 1, []), (.iload_n 3, 1, []), (.iconst 1, 1, []), (.iadd, 1, []), (.iload 4, 2, []), (.invokevirtual 133, 3, []), (.aload_n 0, 1, []), (.aload 5, 2, []), (.iload_n 2, 1, []), (.invokevirtual 136, 3, [])]
  | 66 => [(.iinc 4 1, 3, []), (.goto (-60), 3, [9])]
  | 72 => [(.iinc 3 (-1), 3, []), (.goto (-73), 3, [2])]
  | 78 => [(.return_, 1, [])]
  | _ => []
theorem qX7_fillRests : ∀ pc, chk cX7_fillRests pc (kX7_fillRests pc) = true := by
  intro pc
  unfold kX7_fillRests
  split <;> first | decide +kernel | exact chk_nil
abbrev rmX7_fillRests : Room := { frames := 2, cells := 0, slots := 0, locals := 50 }
def aX7_fillRests (x : Nat) : Option CI := match x with
  | 59 => some ciJ7_fill_53178
  | 133 => some ciX7_fillOnward
  | 136 => some ciX7_fillRest
  | _ => none
theorem aokX7_fillRests : ∀ x ci, aX7_fillRests x = some ci → CalOK RX7 rmX7_fillRests x ci := by
  intro x ci h
  unfold aX7_fillRests at h
  split at h
  · cases h; exact cal_S mJ7_fill_53178 rfl (List.forall_mem_cons.mpr ⟨(ws_mem (List.mem_of_getElem? (i := 207) (by decide +kernel)) (by decide +kernel)), List.forall_mem_cons.mpr ⟨(ws_mem (List.mem_of_getElem? (i := 208) (by decide +kernel)) (by decide +kernel)), List.forall_mem_cons.mpr ⟨(ws_mem (List.mem_of_getElem? (i := 60) (by decide +kernel)) (by decide +kernel)), List.forall_mem_cons.mpr ⟨(ws_mem (List.mem_of_getElem? (i := 209) (by decide +kernel)) (by decide +kernel)), fun _ h => absurd h List.not_mem_nil⟩⟩⟩⟩) rfl (by unfold nice; decide +kernel) (by unfold rfits; decide) ⟨rfl, rfl⟩
  · cases h; exact cal_V mX7_fillOnward (by decide) rfl (List.forall_mem_cons.mpr ⟨(ws_mem (List.mem_of_getElem? (i := 482) (by decide +kernel)) (by decide +kernel)), List.forall_mem_cons.mpr ⟨(ws_mem (List.mem_of_getElem? (i := 484) (by decide +kernel)) (by decide +kernel)), List.forall_mem_cons.mpr ⟨(ws_mem (List.mem_of_getElem? (i := 6) (by decide +kernel)) (by decide +kernel)), List.forall_mem_cons.mpr ⟨(ws_mem (List.mem_of_getElem? (i := 54) (by decide +kernel)) (by decide +kernel)), List.forall_mem_cons.mpr ⟨(ws_mem (List.mem_of_getElem? (i := 485) (by decide +kernel)) (by decide +kernel)), fun _ h => absurd h List.not_mem_nil⟩⟩⟩⟩⟩) rfl (by unfold nice; decide +kernel) (by unfold rfits; decide) ⟨rfl, rfl⟩
  · cases h; exact cal_V mX7_fillRest (by decide) rfl (List.forall_mem_cons.mpr ⟨(ws_mem (List.mem_of_getElem? (i := 490) (by decide +kernel)) (by decide +kernel)), List.forall_mem_cons.mpr ⟨(ws_mem (List.mem_of_getElem? (i := 492) (by decide +kernel)) (by decide +kernel)), List.forall_mem_cons.mpr ⟨(ws_mem (List.mem_of_getElem? (i := 7) (by decide +kernel)) (by decide +kernel)), List.forall_mem_cons.mpr ⟨(ws_mem (List.mem_of_getElem? (i := 54) (by decide +kernel)) (by decide +kernel)), List.forall_mem_cons.mpr ⟨(ws_mem (List.mem_of_getElem? (i := 493) (by decide +kernel)) (by decide +kernel)), fun _ h => absurd h List.not_mem_nil⟩⟩⟩⟩⟩) rfl (by unfold nice; decide +kernel) (by unfold rfits; decide) ⟨rfl, rfl⟩
  · cases h
theorem ocX7_fillRests_59 (f : Nat → Nat → Nat → Nat → (List MV → MS → (Option MV → MS → Prop) → Prop) → Prop) : oC aX7_fillRests 59 f = f 2 10 0 0 spJ7_fill_53178 := propext Iff.rfl
theorem ocX7_fillRests_133 (f : Nat → Nat → Nat → Nat → (List MV → MS → (Option MV → MS → Prop) → Prop) → Prop) : oC aX7_fillRests 133 f = f 3 7 0 0 spX7_fillOnward := propext Iff.rfl
theorem ocX7_fillRests_136 (f : Nat → Nat → Nat → Nat → (List MV → MS → (Option MV → MS → Prop) → Prop) → Prop) : oC aX7_fillRests 136 f = f 3 7 0 0 spX7_fillRest := propext Iff.rfl
theorem mdX7_fillRests : MD RX7 cX7_fillRests rmX7_fillRests kX7_fillRests fX7 aX7_fillRests zX7 uX7 := ⟨fokX7, zokX7, uokX7, aokX7_fillRests, qX7_fillRests⟩
set_option maxHeartbeats 1600000 in
set_option maxRecDepth 100000 in
theorem lpX7_r1 {post : Option MV → MS → Prop} {U : Pt → Prop} {N : Nat} {I L : Int → Int → Int} {la bk i : Int} (ht : tOK I) (hc : carOK I) (hl : limR I) (hb : 1 ≤ bk ∧ bk ≤ 30) (i0 : 0 ≤ i) (i1 : i < I 3 1) (hR : ∀ j l, i < j → j < I 3 1 → 0 ≤ l → l ≤ 2 → rowOK I bk j l)
    (h : ∀ (I1 : Int → Int → Int) (t1 t2 : Option MV), (∀ b k, b ≠ 140 → b ≠ 141 → ¬ (50 + 3 * i ≤ b ∧ b ≤ 50 + 3 * i + 2) → I1 b k = I b k) → (∀ l, 0 ≤ l → l ≤ 2 → rowOK I1 bk i l) → Ok RX7 cX7_fillRests 6 rmX7_fillRests false none post U (2, [some (.inr (.inr (some 2))), some (.inl la), some (.inl bk), some (.inl (i + -1)), t1, t2], [], (N, PF, I1, L), 0, 0)) :
    ∀ (m : Nat) (x : Int) (I1 : Int → Int → Int) (t2 : Option MV), x + m = 3 → 0 ≤ x → (∀ b k, b ≠ 140 → b ≠ 141 → ¬ (50 + 3 * i ≤ b ∧ b ≤ 50 + 3 * i + 2) → I1 b k = I b k) → (∀ l, 0 ≤ l → l < x → rowOK I1 bk i l) →
    Ok RX7 cX7_fillRests 6 rmX7_fillRests false none post U (9, [some (.inr (.inr (some 2))), some (.inl la), some (.inl bk), some (.inl i), some (.inl x), t2], [], (N, PF, I1, L), 0, 0)
  | 0, x, I1, t2, hm, x0, h1, h2 => by
    refine Ok.seg mdX7_fillRests [2, 9] 20 ?_
    simp only [wp_nil, wp_cons, ↓stp, ↓lI, ↓lL, ↓lR, ↓lIn_0, ↓lIn_1, ↓lIn_2, ↓lIn_3, ↓lLn_0, ↓lLn_1, ↓lLn_2, ↓lLn_3, ↓lRn_0, ↓lRn_1, ↓lRn_2, ↓lRn_3, ↓pI, ↓pL, ↓pR, ↓pA, ↓pN, ↓pV, ↓fp, ↓tsw, ↓oS, ↓spMax, ↓spMin, ↓spAbs, ↓spObj, RI, RLg, b2i_lo, b2i_hi, getL, setL, ltL, killL, isLong, inl, cnd, br, tgt, rcv, rpl, mputI, mputL, mputP, fv, fr, mcat, mcs, entL, entA, rfit, nf_0, nf_1, nf_2, nf_3, nf2_0, nf2_1, b2i_0, b2i_1, RI_b2i, b2i_fit, List.append, List.length, List.replicate, List.cons_append, List.nil_append, List.length_cons, List.length_nil, List.replicate_succ, List.replicate_zero, List.tail_cons, reduceIte, if_true, if_false, ite_true, ite_false, Bool.false_eq_true, true_and, and_true, and_self, false_and, and_false, or_self, or_true, true_or, or_false, false_or, not_true_eq_false, not_false_eq_true, ne_eq, forall_const, implies_true, imp_self, true_implies, false_implies, Nat.reduceAdd, Nat.reduceSub, Nat.reduceMul, Nat.reduceDiv, Nat.reduceMod, Nat.reduceEqDiff, Nat.reduceLT, Nat.reduceLeDiff, Nat.reduceBEq, Nat.add_zero, Nat.zero_add, Nat.le_refl, Nat.not_lt_zero, Nat.succ_eq_add_one, Int.reduceNatCast, Int.cast_ofNat_Int, Int.reduceSub, Int.reduceMul, Int.reduceNeg, Int.reduceLE, Int.reduceLT, Int.reduceToNat, Int.reduceEq, Int.reduceNe, Int.reduceAdd, Option.some.injEq, kX7_fillRests, rmX7_fillRests, ↓ofX7_108, ↓ofX7_12, ↓ofX7_41, ↓ocX7_fillRests_59, ↓spJ7_fill_53178, ↓ocX7_fillRests_133, ↓spX7_fillOnward, ↓ocX7_fillRests_136, ↓spX7_fillRest, G_1, G_2, G_3, G_4, G_35, G_36, G_37, G_38, G_39, G_40, G_41, G_42, G_43, G_44, G_45, G_46, G_47, G_48, G_49, G_140, G_141, G_142, G_143, G_144, G_145, G_146, G_178, G_179, G_180, G_181, G_182, G_183, G_184, G_189, G_198, G_207, PF_1_0, PF_1_1, PF_1_2, PF_1_3, PF_2_0, PF_2_1, PF_2_3, PF_2_4, PF_2_5, PF_2_6, PF_2_7, PF_2_8, PF_2_9, PF_2_10, PF_2_11, PF_3_0, PF_35_0, PF_35_1, PF_35_2, PF_35_3, PF_40_0, PF_40_1, PF_40_2, PF_44_0, PF_44_1, PF_44_2, PF_145_0, PF_145_1, PF_179_0, PF_179_1, PF_179_2, PF_179_3, PF_179_8, PF_179_9, PF_179_10]
    exact ⟨by omega, fun _ => h I1 _ _ h1 (fun l l0 l1 => h2 l l0 (by omega)), fun q => by omega⟩
  | m + 1, x, I1, t2, hm, x0, h1, h2 => by
    have ih := lpX7_r1 (U := U) (la := la) ht hc hl hb i0 i1 hR h m (x + 1)
    have h3 := ht.1
    have h3' := ht.2.1
    have hs1 : rsame I I1 := ⟨fun b k hb => h1 b k (by omega) (by omega) (by omega), fun k => h1 _ k (by omega) (by omega) (by omega)⟩
    have ht1 := tOK_cg hs1.1 ht
    have hc1 := carOK_cg hs1.1 hc
    have e31 : I1 3 1 = I 3 1 := hs1.1 3 1 (by omega)
    have hp := PF_rest (i := 3 * i + x) (by omega) (by omega)
    have hr := G_row (a := 50 + (3 * i + x)) (by omega) (by omega)
    have hl1 : limR I1 := fun i l a b c d => by rw [e31] at b; rw [hs1.2]; exact hl i l a b c d
    have hR1 : ∀ j l, i < j → j < I 3 1 → 0 ≤ l → l ≤ 2 → rowOK I1 bk j l := fun j l a b c d => rowOK_cg hs1 hl ⟨h3, h3'⟩ (by omega) b (fun p => h1 _ p (by omega) (by omega) (by omega)) (hR j l a b c d)
    refine Ok.seg mdX7_fillRests [2, 9] 36 ?_
    simp only [wp_nil, wp_cons, ↓stp, ↓lI, ↓lL, ↓lR, ↓lIn_0, ↓lIn_1, ↓lIn_2, ↓lIn_3, ↓lLn_0, ↓lLn_1, ↓lLn_2, ↓lLn_3, ↓lRn_0, ↓lRn_1, ↓lRn_2, ↓lRn_3, ↓pI, ↓pL, ↓pR, ↓pA, ↓pN, ↓pV, ↓fp, ↓tsw, ↓oS, ↓spMax, ↓spMin, ↓spAbs, ↓spObj, RI, RLg, b2i_lo, b2i_hi, getL, setL, ltL, killL, isLong, inl, cnd, br, tgt, rcv, rpl, mputI, mputL, mputP, fv, fr, mcat, mcs, entL, entA, rfit, nf_0, nf_1, nf_2, nf_3, nf2_0, nf2_1, b2i_0, b2i_1, RI_b2i, b2i_fit, List.append, List.length, List.replicate, List.cons_append, List.nil_append, List.length_cons, List.length_nil, List.replicate_succ, List.replicate_zero, List.tail_cons, reduceIte, if_true, if_false, ite_true, ite_false, Bool.false_eq_true, true_and, and_true, and_self, false_and, and_false, or_self, or_true, true_or, or_false, false_or, not_true_eq_false, not_false_eq_true, ne_eq, forall_const, implies_true, imp_self, true_implies, false_implies, Nat.reduceAdd, Nat.reduceSub, Nat.reduceMul, Nat.reduceDiv, Nat.reduceMod, Nat.reduceEqDiff, Nat.reduceLT, Nat.reduceLeDiff, Nat.reduceBEq, Nat.add_zero, Nat.zero_add, Nat.le_refl, Nat.not_lt_zero, Nat.succ_eq_add_one, Int.reduceNatCast, Int.cast_ofNat_Int, Int.reduceSub, Int.reduceMul, Int.reduceNeg, Int.reduceLE, Int.reduceLT, Int.reduceToNat, Int.reduceEq, Int.reduceNe, Int.reduceAdd, Option.some.injEq, kX7_fillRests, rmX7_fillRests, ↓ofX7_108, ↓ofX7_12, ↓ofX7_41, ↓ocX7_fillRests_59, ↓spJ7_fill_53178, ↓ocX7_fillRests_133, ↓spX7_fillOnward, ↓ocX7_fillRests_136, ↓spX7_fillRest, hp, hr, e31, G_1, G_2, G_3, G_4, G_35, G_36, G_37, G_38, G_39, G_40, G_41, G_42, G_43, G_44, G_45, G_46, G_47, G_48, G_49, G_140, G_141, G_142, G_143, G_144, G_145, G_146, G_178, G_179, G_180, G_181, G_182, G_183, G_184, G_189, G_198, G_207, PF_1_0, PF_1_1, PF_1_2, PF_1_3, PF_2_0, PF_2_1, PF_2_3, PF_2_4, PF_2_5, PF_2_6, PF_2_7, PF_2_8, PF_2_9, PF_2_10, PF_2_11, PF_3_0, PF_35_0, PF_35_1, PF_35_2, PF_35_3, PF_40_0, PF_40_1, PF_40_2, PF_44_0, PF_44_1, PF_44_2, PF_145_0, PF_145_1, PF_179_0, PF_179_1, PF_179_2, PF_179_3, PF_179_8, PF_179_9, PF_179_10]
    refine ⟨by omega, fun q => by omega, fun q => ⟨by omega, by omega, by omega, by omega, fun q2 => ⟨by omega, by omega, by omega, by omega, ht1.2.2 (i + 1) (by omega) (by omega), fun l' a b => ⟨(hl1 (i + 1) l' (by omega) (by omega) a b).1, (hl1 (i + 1) l' (by omega) (by omega) a b).2, fun q q0 q1 => ?_⟩, fun J j1 j2 => ⟨by omega, by omega, hb.1, hb.2, carOK_cg (fun b k hb => j1 b k (by omega)) hc1, fun q q0 q1 => ?_, fun J2 k1 k2 => ?_⟩⟩, fun q2 => ?_⟩⟩
    · have := hR1 (i + 1) l' (by omega) (by omega) a b q q0 q1
      exact ⟨this.1, this.2.2.1⟩
    · refine ⟨?_, (j2 q q0 q1).2.1⟩
      rcases (j2 q q0 q1).1 with e | ⟨l', d1, d2, d3, d4⟩
      · omega
      · have z1 := (hR1 (i + 1) l' (by omega) (by omega) d1.2.2.1 d1.2.2.2 q q0 q1).1
        have hs := ht1.2.2 (i + 1) (by omega) (by omega)
        unfold stOK at hs
        have z2 := (tmv_rng (len := I1 (5 + (i + 1)) 1) (ch := dif x l') (p := q) (by omega) (by omega) q0).1
        omega
    · have hf : ∀ b k, b ≠ 140 → b ≠ 141 → ¬ b = 50 + (3 * i + x) → J2 b k = I1 b k := fun b k b1 b2 b3 => by rw [k1 b k b2 (fun z => b3 z.1), j1 b k b1]
      have hs2 : rsame I1 J2 := ⟨fun b k hb => hf b k (by omega) (by omega) (by omega), fun k => hf _ k (by omega) (by omega) (by omega)⟩
      refine ih J2 _ (by omega) (by omega) (fun b k b1 b2 b3 => by rw [hf b k b1 b2 (by omega)]; exact h1 b k b1 b2 b3) (fun l l0 l1 => ?_)
      by_cases e : l = x
      · subst e
        intro p p0 p1
        have ek : kk J2 i = kk I1 (i + 1) + 1 := by unfold kk; rw [hs2.1 3 1 (by omega)]; omega
        have er := rch_rng hc1.1.1 p1
        rw [← hc1.1.2 p p0 p1] at er
        have e37 : J 37 = I1 37 := funext fun k => j1 _ k (by omega)
        have := row_of (I := I1) (bk := bk) (i := i) (l := l) (p := p) (v := J2 (50 + (3 * i + l)) p) (k := kk I1 (i + 1)) (R := fun l' q => I1 (50 + (3 * (i + 1) + l')) q) (o := J 140) (by unfold kk; omega) ht1 i0
          (fun l' a b => hR1 (i + 1) l' (by omega) (by omega) a b) hl1 (fun q q0 q1 => j2 q q0 q1) (by omega) (fun q q0 q1 q2 => (k2 p p0 p1).1 q q0 q1 (by rw [e37]; exact q2)) (by
            obtain ⟨q, q0, q1, q2, q3⟩ := (k2 p p0 p1).2
            exact ⟨q, q0, q1, by rw [← e37]; exact q2, q3⟩)
        rw [ek]
        exact ⟨this.1, this.2.cg (fun y => AchI_cg hs2 hl1 _ i l p y i0 (by unfold kk; omega) (by omega) p0 p1)⟩
      · exact rowOK_cg hs2 hl1 ⟨by omega, by omega⟩ i0 (by omega) (fun p => hf _ p (by omega) (by omega) (by omega)) (h2 l l0 (by omega))
    · have hf : ∀ b k, ¬ b = 50 + (3 * i + x) → filI I1 (50 + (3 * i + x)) 0 61 b k = I1 b k := fun b k hb => if_neg (fun z => hb z.1)
      have hs2 : rsame I1 (filI I1 (50 + (3 * i + x)) 0 61) := ⟨fun b k hb => hf b k (by omega), fun k => hf _ k (by omega)⟩
      refine ih _ _ (by omega) (by omega) (fun b k b1 b2 b3 => by rw [hf b k (by omega)]; exact h1 b k b1 b2 b3) (fun l l0 l1 => ?_)
      by_cases e : l = x
      · subst e
        intro p p0 p1
        have ek : kk (filI I1 (50 + (3 * i + l)) 0 61) i = 0 := by unfold kk; rw [hs2.1 3 1 (by omega)]; omega
        rw [ek, show filI I1 (50 + (3 * i + l)) 0 61 (50 + (3 * i + l)) p = 0 from if_pos ⟨rfl, by omega, by omega⟩]
        exact ⟨by omega, .inr rfl, by omega, fun y hy => by have : y = 0 := hy; omega⟩
      · exact rowOK_cg hs2 hl1 ⟨by omega, by omega⟩ i0 (by omega) (fun p => hf _ p (by omega)) (h2 l l0 (by omega))
set_option maxHeartbeats 1600000 in
set_option maxRecDepth 100000 in
theorem lpX7_r2 {post : Option MV → MS → Prop} {U : Pt → Prop} {N : Nat} {I L : Int → Int → Int} {la bk : Int} (ht : tOK I) (hc : carOK I) (hl : limR I) (hb : 1 ≤ bk ∧ bk ≤ 30)
    (h : ∀ I' : Int → Int → Int, (∀ b k, b ≠ 140 → b ≠ 141 → ¬ (50 ≤ b ∧ b ≤ 139) → I' b k = I b k) → (∀ i l, 0 ≤ i → i < I 3 1 → 0 ≤ l → l ≤ 2 → rowOK I' bk i l) → (∀ b k, 50 + 3 * (la + 1) ≤ b → b ≤ 139 → I' b k = I b k) → post none (N, PF, I', L)) :
    ∀ (m : Nat) (I1 : Int → Int → Int) (t1 t2 : Option MV), (m : Int) ≤ I 3 1 → (m : Int) ≤ la + 1 → (∀ b k, b ≠ 140 → b ≠ 141 → ¬ (50 ≤ b ∧ b ≤ 139) → I1 b k = I b k) → (∀ i l, (m : Int) ≤ i → i < I 3 1 → 0 ≤ l → l ≤ 2 → rowOK I1 bk i l) → (∀ b k, 50 + 3 * (la + 1) ≤ b → b ≤ 139 → I1 b k = I b k) →
    Ok RX7 cX7_fillRests 6 rmX7_fillRests false none post U (2, [some (.inr (.inr (some 2))), some (.inl la), some (.inl bk), some (.inl (m + -1)), t1, t2], [], (N, PF, I1, L), 0, 0)
  | 0, I1, t1, t2, hm, hm2, h1, h2, h3 => by
    refine Ok.seg mdX7_fillRests [2, 9] 20 ?_
    simp only [wp_nil, wp_cons, ↓stp, ↓lI, ↓lL, ↓lR, ↓lIn_0, ↓lIn_1, ↓lIn_2, ↓lIn_3, ↓lLn_0, ↓lLn_1, ↓lLn_2, ↓lLn_3, ↓lRn_0, ↓lRn_1, ↓lRn_2, ↓lRn_3, ↓pI, ↓pL, ↓pR, ↓pA, ↓pN, ↓pV, ↓fp, ↓tsw, ↓oS, ↓spMax, ↓spMin, ↓spAbs, ↓spObj, RI, RLg, b2i_lo, b2i_hi, getL, setL, ltL, killL, isLong, inl, cnd, br, tgt, rcv, rpl, mputI, mputL, mputP, fv, fr, mcat, mcs, entL, entA, rfit, nf_0, nf_1, nf_2, nf_3, nf2_0, nf2_1, b2i_0, b2i_1, RI_b2i, b2i_fit, List.append, List.length, List.replicate, List.cons_append, List.nil_append, List.length_cons, List.length_nil, List.replicate_succ, List.replicate_zero, List.tail_cons, reduceIte, if_true, if_false, ite_true, ite_false, Bool.false_eq_true, true_and, and_true, and_self, false_and, and_false, or_self, or_true, true_or, or_false, false_or, not_true_eq_false, not_false_eq_true, ne_eq, forall_const, implies_true, imp_self, true_implies, false_implies, Nat.reduceAdd, Nat.reduceSub, Nat.reduceMul, Nat.reduceDiv, Nat.reduceMod, Nat.reduceEqDiff, Nat.reduceLT, Nat.reduceLeDiff, Nat.reduceBEq, Nat.add_zero, Nat.zero_add, Nat.le_refl, Nat.not_lt_zero, Nat.succ_eq_add_one, Int.reduceNatCast, Int.cast_ofNat_Int, Int.reduceSub, Int.reduceMul, Int.reduceNeg, Int.reduceLE, Int.reduceLT, Int.reduceToNat, Int.reduceEq, Int.reduceNe, Int.reduceAdd, Option.some.injEq, kX7_fillRests, rmX7_fillRests, ↓ofX7_108, ↓ofX7_12, ↓ofX7_41, ↓ocX7_fillRests_59, ↓spJ7_fill_53178, ↓ocX7_fillRests_133, ↓spX7_fillOnward, ↓ocX7_fillRests_136, ↓spX7_fillRest, G_1, G_2, G_3, G_4, G_35, G_36, G_37, G_38, G_39, G_40, G_41, G_42, G_43, G_44, G_45, G_46, G_47, G_48, G_49, G_140, G_141, G_142, G_143, G_144, G_145, G_146, G_178, G_179, G_180, G_181, G_182, G_183, G_184, G_189, G_198, G_207, PF_1_0, PF_1_1, PF_1_2, PF_1_3, PF_2_0, PF_2_1, PF_2_3, PF_2_4, PF_2_5, PF_2_6, PF_2_7, PF_2_8, PF_2_9, PF_2_10, PF_2_11, PF_3_0, PF_35_0, PF_35_1, PF_35_2, PF_35_3, PF_40_0, PF_40_1, PF_40_2, PF_44_0, PF_44_1, PF_44_2, PF_145_0, PF_145_1, PF_179_0, PF_179_1, PF_179_2, PF_179_3, PF_179_8, PF_179_9, PF_179_10]
    exact h I1 h1 (fun i l a b c d => h2 i l (by omega) b c d) h3
  | m + 1, I1, t1, t2, hm, hm2, h1, h2, h3 => by
    have ih := lpX7_r2 (U := U) (la := la) ht hc hl hb h m
    have h4 := ht.2.1
    have hs1 : rsame I I1 := ⟨fun b k hb => h1 b k (by omega) (by omega) (by omega), fun k => h1 _ k (by omega) (by omega) (by omega)⟩
    have ht1 := tOK_cg hs1.1 ht
    have hc1 := carOK_cg hs1.1 hc
    have e31 : I1 3 1 = I 3 1 := hs1.1 3 1 (by omega)
    have hl1 : limR I1 := fun i l a b c d => by rw [e31] at b; rw [hs1.2]; exact hl i l a b c d
    rw [show ((m + 1 : Nat) : Int) + -1 = m by omega]
    refine Ok.seg mdX7_fillRests [2, 9] 12 ?_
    simp only [wp_nil, wp_cons, ↓stp, ↓lI, ↓lL, ↓lR, ↓lIn_0, ↓lIn_1, ↓lIn_2, ↓lIn_3, ↓lLn_0, ↓lLn_1, ↓lLn_2, ↓lLn_3, ↓lRn_0, ↓lRn_1, ↓lRn_2, ↓lRn_3, ↓pI, ↓pL, ↓pR, ↓pA, ↓pN, ↓pV, ↓fp, ↓tsw, ↓oS, ↓spMax, ↓spMin, ↓spAbs, ↓spObj, RI, RLg, b2i_lo, b2i_hi, getL, setL, ltL, killL, isLong, inl, cnd, br, tgt, rcv, rpl, mputI, mputL, mputP, fv, fr, mcat, mcs, entL, entA, rfit, nf_0, nf_1, nf_2, nf_3, nf2_0, nf2_1, b2i_0, b2i_1, RI_b2i, b2i_fit, List.append, List.length, List.replicate, List.cons_append, List.nil_append, List.length_cons, List.length_nil, List.replicate_succ, List.replicate_zero, List.tail_cons, reduceIte, if_true, if_false, ite_true, ite_false, Bool.false_eq_true, true_and, and_true, and_self, false_and, and_false, or_self, or_true, true_or, or_false, false_or, not_true_eq_false, not_false_eq_true, ne_eq, forall_const, implies_true, imp_self, true_implies, false_implies, Nat.reduceAdd, Nat.reduceSub, Nat.reduceMul, Nat.reduceDiv, Nat.reduceMod, Nat.reduceEqDiff, Nat.reduceLT, Nat.reduceLeDiff, Nat.reduceBEq, Nat.add_zero, Nat.zero_add, Nat.le_refl, Nat.not_lt_zero, Nat.succ_eq_add_one, Int.reduceNatCast, Int.cast_ofNat_Int, Int.reduceSub, Int.reduceMul, Int.reduceNeg, Int.reduceLE, Int.reduceLT, Int.reduceToNat, Int.reduceEq, Int.reduceNe, Int.reduceAdd, Option.some.injEq, kX7_fillRests, rmX7_fillRests, ↓ofX7_108, ↓ofX7_12, ↓ofX7_41, ↓ocX7_fillRests_59, ↓spJ7_fill_53178, ↓ocX7_fillRests_133, ↓spX7_fillOnward, ↓ocX7_fillRests_136, ↓spX7_fillRest, G_1, G_2, G_3, G_4, G_35, G_36, G_37, G_38, G_39, G_40, G_41, G_42, G_43, G_44, G_45, G_46, G_47, G_48, G_49, G_140, G_141, G_142, G_143, G_144, G_145, G_146, G_178, G_179, G_180, G_181, G_182, G_183, G_184, G_189, G_198, G_207, PF_1_0, PF_1_1, PF_1_2, PF_1_3, PF_2_0, PF_2_1, PF_2_3, PF_2_4, PF_2_5, PF_2_6, PF_2_7, PF_2_8, PF_2_9, PF_2_10, PF_2_11, PF_3_0, PF_35_0, PF_35_1, PF_35_2, PF_35_3, PF_40_0, PF_40_1, PF_40_2, PF_44_0, PF_44_1, PF_44_2, PF_145_0, PF_145_1, PF_179_0, PF_179_1, PF_179_2, PF_179_3, PF_179_8, PF_179_9, PF_179_10]
    refine ⟨by omega, fun q => by omega, fun q => ?_⟩
    refine lpX7_r1 (I := I1) (i := m) ht1 hc1 hl1 hb (by omega) (by omega) (fun j l a b c d => h2 j l (by omega) (by omega) c d) (fun J u1 u2 j1 j2 => ?_) 3 0 I1 t2 (by omega) (by omega) (fun _ _ _ _ _ => rfl) (fun l a b => by omega)
    have hs2 : rsame I1 J := ⟨fun b k hb => j1 b k (by omega) (by omega) (by omega), fun k => j1 _ k (by omega) (by omega) (by omega)⟩
    refine ih J u1 u2 (by omega) (by omega) (fun b k b1 b2 b3 => by rw [j1 b k b1 b2 (by omega)]; exact h1 b k b1 b2 b3) (fun i l a b c d => ?_) (fun b k b1 b2 => by rw [j1 b k (by omega) (by omega) (by omega)]; exact h3 b k b1 b2)
    by_cases e : i = m
    · subst e; exact j2 l c d
    · exact rowOK_cg hs2 hl1 ⟨by omega, by omega⟩ (by omega) (by omega) (fun p => j1 _ p (by omega) (by omega) (by omega)) (h2 i l (by omega) b c d)
set_option maxRecDepth 100000 in
set_option maxHeartbeats 800000 in
theorem mX7_fillRests : MOK yX7_fillRests cX7_fillRests 6 none rmX7_fillRests ciX7_fillRests := by
  refine mok_of (ini := false) (by decide +kernel) (by decide) rfl rfl ?_
  intro σ As K hrc hl h
  obtain ⟨N, P, I, L⟩ := σ
  have h9 := pR_iff.mp h
  clear h
  obtain ⟨s, r, e9, h⟩ := h9
  subst e9
  have h9 := pI_iff.mp h
  clear h
  obtain ⟨la, r, e9, h⟩ := h9
  subst e9
  have h9 := pI_iff.mp h
  clear h
  obtain ⟨bk, r, e9, h⟩ := h9
  subst e9
  have h9 := pN_iff.mp h
  clear h
  obtain ⟨e9, h⟩ := h9
  subst e9
  dsimp only at h
  obtain ⟨rfl, rfl, a0, a1, b0, b1, ht, hc, hl, hR, h⟩ := h
  obtain ⟨m, hm⟩ : ∃ m : Nat, la = m + -1 := ⟨(la + 1).toNat, by omega⟩
  refine ⟨Nat.le_of_ble_eq_true rfl, Ok.seg mdX7_fillRests [2] 8 ?_⟩
  simp only [wp_nil, wp_cons, ↓stp, ↓lI, ↓lL, ↓lR, ↓lIn_0, ↓lIn_1, ↓lIn_2, ↓lIn_3, ↓lLn_0, ↓lLn_1, ↓lLn_2, ↓lLn_3, ↓lRn_0, ↓lRn_1, ↓lRn_2, ↓lRn_3, ↓pI, ↓pL, ↓pR, ↓pA, ↓pN, ↓pV, ↓fp, ↓tsw, ↓oS, ↓spMax, ↓spMin, ↓spAbs, ↓spObj, RI, RLg, b2i_lo, b2i_hi, getL, setL, ltL, killL, isLong, inl, cnd, br, tgt, rcv, rpl, mputI, mputL, mputP, fv, fr, mcat, mcs, entL, entA, rfit, nf_0, nf_1, nf_2, nf_3, nf2_0, nf2_1, b2i_0, b2i_1, RI_b2i, b2i_fit, List.append, List.length, List.replicate, List.cons_append, List.nil_append, List.length_cons, List.length_nil, List.replicate_succ, List.replicate_zero, List.tail_cons, reduceIte, if_true, if_false, ite_true, ite_false, Bool.false_eq_true, true_and, and_true, and_self, false_and, and_false, or_self, or_true, true_or, or_false, false_or, not_true_eq_false, not_false_eq_true, ne_eq, forall_const, implies_true, imp_self, true_implies, false_implies, Nat.reduceAdd, Nat.reduceSub, Nat.reduceMul, Nat.reduceDiv, Nat.reduceMod, Nat.reduceEqDiff, Nat.reduceLT, Nat.reduceLeDiff, Nat.reduceBEq, Nat.add_zero, Nat.zero_add, Nat.le_refl, Nat.not_lt_zero, Nat.succ_eq_add_one, Int.reduceNatCast, Int.cast_ofNat_Int, Int.reduceSub, Int.reduceMul, Int.reduceNeg, Int.reduceLE, Int.reduceLT, Int.reduceToNat, Int.reduceEq, Int.reduceNe, Int.reduceAdd, Option.some.injEq, kX7_fillRests, rmX7_fillRests, ↓ofX7_108, ↓ofX7_12, ↓ofX7_41, ↓ocX7_fillRests_59, ↓spJ7_fill_53178, ↓ocX7_fillRests_133, ↓spX7_fillOnward, ↓ocX7_fillRests_136, ↓spX7_fillRest, G_1, G_2, G_3, G_4, G_35, G_36, G_37, G_38, G_39, G_40, G_41, G_42, G_43, G_44, G_45, G_46, G_47, G_48, G_49, G_140, G_141, G_142, G_143, G_144, G_145, G_146, G_178, G_179, G_180, G_181, G_182, G_183, G_184, G_189, G_198, G_207, PF_1_0, PF_1_1, PF_1_2, PF_1_3, PF_2_0, PF_2_1, PF_2_3, PF_2_4, PF_2_5, PF_2_6, PF_2_7, PF_2_8, PF_2_9, PF_2_10, PF_2_11, PF_3_0, PF_35_0, PF_35_1, PF_35_2, PF_35_3, PF_40_0, PF_40_1, PF_40_2, PF_44_0, PF_44_1, PF_44_2, PF_145_0, PF_145_1, PF_179_0, PF_179_1, PF_179_2, PF_179_3, PF_179_8, PF_179_9, PF_179_10]
  have := lpX7_r2 (U := fun _ => False) (post := fun r σ' => rfit none r ∧ K r σ') (la := la) ht hc hl ⟨b0, b1⟩ (fun I' h1 h2 h3 => ⟨trivial, h I' h1 h2 h3⟩) m I none none (by omega) (by omega) (fun _ _ _ _ _ => rfl) (fun i l a b c d => hR i l (by omega) b c d) (fun _ _ _ _ => rfl)
  rw [← hm] at this
  exact this
