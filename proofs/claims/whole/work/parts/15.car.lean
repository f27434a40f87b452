/-! Arrays.fill, LapBoard$Car -/
def filI (I : Int → Int → Int) (a v n : Int) : Int → Int → Int := fun b j => if b = a ∧ 0 ≤ j ∧ j < n then v else I b j
theorem filI_0 (I : Int → Int → Int) (a v : Int) : filI I a v 0 = I := funext fun b => funext fun j => if_neg (fun z => by omega)
theorem filI_s (I : Int → Int → Int) (a v i : Int) (h : 0 ≤ i) : upI (filI I a v i) a i v = filI I a v (i + 1) := funext fun b => funext fun j => by
  unfold upI filI
  by_cases q : b = a ∧ j = i
  · rw [if_pos q, if_pos ⟨q.1, by omega, by omega⟩]
  · rw [if_neg q]
    by_cases q2 : b = a ∧ 0 ≤ j ∧ j < i
    · rw [if_pos q2, if_pos ⟨q2.1, by omega, by omega⟩]
    · rw [if_neg q2, if_neg (fun z => by
        by_cases q3 : j = i
        · exact q ⟨z.1, q3⟩
        · exact q2 ⟨z.1, by omega, by omega⟩)]
def spJ7_fill_53178 (As : List MV) (σ : MS) (K : Option MV → MS → Prop) : Prop := pR As fun a r => pI r fun v r => pN r ((G a).1 = 10 ∧ K none (σ.1, σ.2.1, filI σ.2.2.1 a v (G a).2, σ.2.2.2))
def ciJ7_fill_53178 : CI := (2, 10, 0, 0, spJ7_fill_53178)
def kJ7_fill_53178 (pc : Nat) : List ME := match pc with
  | 0 => [(.iconst 0, 1, []), (.istore_n 2, 1, []), (.aload_n 0, 1, []), (.arraylength, 1, []), (.istore_n 3, 1, [])]
  | 5 => [(.iload_n 2, 1, []), (.iload_n 3, 1, []), (.if_icmp .ge 13, 3, [20]), (.aload_n 0, 1, []), (.iload_n 2, 1, []), (.iload_n 1, 1, []), (.iastore, 1, []), (.iinc 2 1, 3, []), (.goto (-12), 3, [5])]
  | 20 => [(.return_, 1, [])]
  | _ => []
theorem qJ7_fill_53178 : ∀ pc, chk cJ7_fill_53178 pc (kJ7_fill_53178 pc) = true := by
  intro pc
  unfold kJ7_fill_53178
  split <;> first | decide +kernel | exact chk_nil
abbrev rmJ7_fill_53178 : Room := { frames := 0, cells := 0, slots := 0, locals := 0 }
def aJ7_fill_53178 (_ : Nat) : Option CI := none
theorem aokJ7_fill_53178 : ∀ x ci, aJ7_fill_53178 x = some ci → CalOK RJ7 rmJ7_fill_53178 x ci := fun _ _ h => by cases h
theorem mdJ7_fill_53178 : MD RJ7 cJ7_fill_53178 rmJ7_fill_53178 kJ7_fill_53178 fJ7 aJ7_fill_53178 zJ7 uJ7 := ⟨fokJ7, zokJ7, uokJ7, aokJ7_fill_53178, qJ7_fill_53178⟩
set_option maxHeartbeats 800000 in
theorem lpJ7_fill {post : Option MV → MS → Prop} {T : Pt → Prop} {N : Nat} {P : Int → Int → Option Int} {I L : Int → Int → Int} {a v : Int} {n : Nat} (hG : G a = (10, n)) (hn : n ≤ 20000) (h : post none (N, P, filI I a v n, L)) : ∀ (m : Nat) (i : Int), 0 ≤ i → i + m = n →
    Ok RJ7 cJ7_fill_53178 4 rmJ7_fill_53178 false none post T (5, [some (.inr (.inr (some a))), some (.inl v), some (.inl i), some (.inl n)], [], (N, P, filI I a v i, L), 0, 0)
  | 0, i, h0, hi => by
    refine Ok.seg mdJ7_fill_53178 [5] 20 ?_
    simp only [wp_nil, wp_cons, stp, RI, RLg, b2i_lo, b2i_hi, getL, setL, ltL, killL, isLong, inl, pI, pL, pR, pA, pN, lI, lL, lR, cnd, br, tgt, tsw, rcv, rpl, mputI, mputL, mputP, oI, oL, oF, oN, oC, oS, fv, fp, fr, mcat, mcs, entL, entA, rfit, ciMax, ciMin, ciAbs, ciObj, spMax, spMin, spAbs, spObj, b2i_0, b2i_1, RI_b2i, b2i_fit, List.append, List.length, List.replicate, List.cons_append, List.nil_append, List.length_cons, List.length_nil, List.replicate_succ, List.replicate_zero, List.tail_cons, reduceIte, if_true, if_false, ite_true, ite_false, Bool.false_eq_true, true_and, and_true, and_self, false_and, and_false, or_self, or_true, true_or, or_false, false_or, not_true_eq_false, not_false_eq_true, ne_eq, forall_const, implies_true, imp_self, true_implies, false_implies, Nat.reduceAdd, Nat.reduceSub, Nat.reduceMul, Nat.reduceDiv, Nat.reduceMod, Nat.reduceEqDiff, Nat.reduceLT, Nat.reduceLeDiff, Nat.reduceBEq, Nat.add_zero, Nat.zero_add, Nat.le_refl, Nat.not_lt_zero, Nat.succ_eq_add_one, Int.reduceNatCast, Int.cast_ofNat_Int, Int.reduceSub, Int.reduceMul, Int.reduceNeg, Int.reduceLE, Int.reduceLT, Int.reduceToNat, Int.reduceEq, Int.reduceNe, Int.reduceAdd, nf_0, nf_1, nf_2, nf_3, nf2_0, nf2_1, Option.some.injEq, kJ7_fill_53178, aJ7_fill_53178, rmJ7_fill_53178, fJ7, zJ7, uJ7, ciJ7_fill_53178, hG]
    repeat' (first | apply And.intro | intro _)
    all_goals try omega
    rw [show i = (n : Int) by omega]; exact h
  | m + 1, i, h0, hi => by
    have ih := lpJ7_fill (post := post) (T := T) (P := P) (I := I) (L := L) (v := v) hG hn h m (i + 1) (by omega) (by omega)
    rw [← filI_s I a v i h0] at ih
    refine Ok.seg mdJ7_fill_53178 [5] 20 ?_
    simp only [wp_nil, wp_cons, stp, RI, RLg, b2i_lo, b2i_hi, getL, setL, ltL, killL, isLong, inl, pI, pL, pR, pA, pN, lI, lL, lR, cnd, br, tgt, tsw, rcv, rpl, mputI, mputL, mputP, oI, oL, oF, oN, oC, oS, fv, fp, fr, mcat, mcs, entL, entA, rfit, ciMax, ciMin, ciAbs, ciObj, spMax, spMin, spAbs, spObj, b2i_0, b2i_1, RI_b2i, b2i_fit, List.append, List.length, List.replicate, List.cons_append, List.nil_append, List.length_cons, List.length_nil, List.replicate_succ, List.replicate_zero, List.tail_cons, reduceIte, if_true, if_false, ite_true, ite_false, Bool.false_eq_true, true_and, and_true, and_self, false_and, and_false, or_self, or_true, true_or, or_false, false_or, not_true_eq_false, not_false_eq_true, ne_eq, forall_const, implies_true, imp_self, true_implies, false_implies, Nat.reduceAdd, Nat.reduceSub, Nat.reduceMul, Nat.reduceDiv, Nat.reduceMod, Nat.reduceEqDiff, Nat.reduceLT, Nat.reduceLeDiff, Nat.reduceBEq, Nat.add_zero, Nat.zero_add, Nat.le_refl, Nat.not_lt_zero, Nat.succ_eq_add_one, Int.reduceNatCast, Int.cast_ofNat_Int, Int.reduceSub, Int.reduceMul, Int.reduceNeg, Int.reduceLE, Int.reduceLT, Int.reduceToNat, Int.reduceEq, Int.reduceNe, Int.reduceAdd, nf_0, nf_1, nf_2, nf_3, nf2_0, nf2_1, Option.some.injEq, kJ7_fill_53178, aJ7_fill_53178, rmJ7_fill_53178, fJ7, zJ7, uJ7, ciJ7_fill_53178, hG]
    repeat' (first | apply And.intro | intro _)
    all_goals first | omega | exact ih
set_option maxRecDepth 100000 in
set_option maxHeartbeats 800000 in
theorem mJ7_fill_53178 : MOK yJ7_fill_53178 cJ7_fill_53178 4 none rmJ7_fill_53178 ciJ7_fill_53178 := by
  refine mok_of (ini := false) (by decide +kernel) (by decide) rfl rfl ?_
  intro σ As K hrc hl h
  obtain ⟨N, P, I, L⟩ := σ
  have h9 := pR_iff.mp h
  clear h
  obtain ⟨a, r, e9, h⟩ := h9
  subst e9
  have h9 := pI_iff.mp h
  clear h
  obtain ⟨v, r, e9, h⟩ := h9
  subst e9
  have h9 := pN_iff.mp h
  clear h
  obtain ⟨e9, h⟩ := h9
  subst e9
  dsimp only at h
  obtain ⟨hg, h⟩ := h
  obtain ⟨n, hG⟩ : ∃ n, G a = (10, n) := ⟨(G a).2, by rw [← hg]⟩
  have hn := G_small a
  rw [hG] at h hn
  refine ⟨Nat.le_of_ble_eq_true rfl, Ok.seg mdJ7_fill_53178 [5] 20 ?_⟩
  simp only [wp_nil, wp_cons, stp, RI, RLg, b2i_lo, b2i_hi, getL, setL, ltL, killL, isLong, inl, pI, pL, pR, pA, pN, lI, lL, lR, cnd, br, tgt, tsw, rcv, rpl, mputI, mputL, mputP, oI, oL, oF, oN, oC, oS, fv, fp, fr, mcat, mcs, entL, entA, rfit, ciMax, ciMin, ciAbs, ciObj, spMax, spMin, spAbs, spObj, b2i_0, b2i_1, RI_b2i, b2i_fit, List.append, List.length, List.replicate, List.cons_append, List.nil_append, List.length_cons, List.length_nil, List.replicate_succ, List.replicate_zero, List.tail_cons, reduceIte, if_true, if_false, ite_true, ite_false, Bool.false_eq_true, true_and, and_true, and_self, false_and, and_false, or_self, or_true, true_or, or_false, false_or, not_true_eq_false, not_false_eq_true, ne_eq, forall_const, implies_true, imp_self, true_implies, false_implies, Nat.reduceAdd, Nat.reduceSub, Nat.reduceMul, Nat.reduceDiv, Nat.reduceMod, Nat.reduceEqDiff, Nat.reduceLT, Nat.reduceLeDiff, Nat.reduceBEq, Nat.add_zero, Nat.zero_add, Nat.le_refl, Nat.not_lt_zero, Nat.succ_eq_add_one, Int.reduceNatCast, Int.cast_ofNat_Int, Int.reduceSub, Int.reduceMul, Int.reduceNeg, Int.reduceLE, Int.reduceLT, Int.reduceToNat, Int.reduceEq, Int.reduceNe, Int.reduceAdd, nf_0, nf_1, nf_2, nf_3, nf2_0, nf2_1, Option.some.injEq, kJ7_fill_53178, aJ7_fill_53178, rmJ7_fill_53178, fJ7, zJ7, uJ7, ciJ7_fill_53178, hG]
  have := lpJ7_fill (post := fun r σ' => rfit none r ∧ K r σ') (T := fun _ => False) (P := P) (I := I) (L := L) (v := v) hG hn ⟨trivial, h⟩ n 0 (by omega) (by omega)
  rw [filI_0] at this
  exact this
/-- what gear g (top T, pull Q) gives from pace p -/
def pul (T Q p : Int) : Int := if p < T then (if p + Q < T then p + Q else T) else p
/-- the greatest over the gears 1 .. g -/
def rcm (T Q : Int → Int) (p : Int) : Nat → Int
  | 0 => p
  | g + 1 => if rcm T Q p g < pul (T (g + 1)) (Q (g + 1)) p then pul (T (g + 1)) (Q (g + 1)) p else rcm T Q p g
/-- REACH -/
def rch (T Q : Int → Int) (p : Int) : Int := rcm T Q p 6
def gOK (T Q : Int → Int) : Prop := ∀ i, 1 ≤ i → i ≤ 6 → 1 ≤ T i ∧ T i ≤ 60 ∧ 1 ≤ Q i ∧ Q i ≤ 20
theorem pul_rng {T Q p : Int} (hT : T ≤ 60) (hQ : 1 ≤ Q) (hp : p ≤ 60) : p ≤ pul T Q p ∧ pul T Q p ≤ 60 := by
  unfold pul
  split
  · split <;> omega
  · omega
theorem rcm_rng {T Q : Int → Int} {p : Int} (h : gOK T Q) (hp : p ≤ 60) : ∀ (g : Nat), g ≤ 6 → p ≤ rcm T Q p g ∧ rcm T Q p g ≤ 60
  | 0, _ => ⟨Int.le_refl _, hp⟩
  | g + 1, hg => by
    have ih := rcm_rng h hp g (by omega)
    have q := h (g + 1) (by omega) (by omega)
    have w := pul_rng (p := p) q.2.1 q.2.2.1 hp
    unfold rcm
    split <;> omega
theorem rch_rng {T Q : Int → Int} {p : Int} (h : gOK T Q) (hp : p ≤ 60) : p ≤ rch T Q p ∧ rch T Q p ≤ 60 := rcm_rng h hp 6 (by omega)
def cP (P : Int → Int → Option Int) : Prop := P 35 0 = some 36 ∧ P 35 1 = some 37 ∧ P 35 2 = some 38 ∧ P 35 3 = some 39
def spX0_pullOf (As : List MV) (σ : MS) (K : Option MV → MS → Prop) : Prop := pR As fun a r => pI r fun g r => pI r fun p r => pN r (a = 35 ∧ cP σ.2.1 ∧ gOK (σ.2.2.1 38) (σ.2.2.1 39) ∧ 1 ≤ g ∧ g ≤ 6 ∧ 1 ≤ p ∧ p ≤ 60 ∧ K (some (.inl (pul (σ.2.2.1 38 g) (σ.2.2.1 39 g) p))) σ)
def ciX0_pullOf : CI := (3, 0, 0, 0, spX0_pullOf)
def kX0_pullOf (pc : Nat) : List ME := match pc with
  | 0 => [(.aload_n 0, 1, []), (.getfield 18, 3, []), (.iload_n 1, 1, []), (.iaload, 1, []), (.iload_n 2, 1, []), (.if_icmp .le 23, 3, [30]), (.aload_n 0, 1, []), (.getfield 18, 3, []), (.iload_n 1, 1, []), (.iaload, 1, []), (.iload_n 2, 1, []), (.aload_n 0, 1, []), (.getfield 21, 3, []), (.iload_n 1, 1, []), (.iaload, 1, []), (.iadd, 1, []), (.invokestatic 31, 3, []), (.goto 4, 3, [31])]
  | 30 => [(.iload_n 2, 1, [])]
  | 31 => [(.ireturn, 1, [])]
  | _ => []
theorem qX0_pullOf : ∀ pc, chk cX0_pullOf pc (kX0_pullOf pc) = true := by
  intro pc
  unfold kX0_pullOf
  split <;> first | decide +kernel | exact chk_nil
abbrev rmX0_pullOf : Room := { frames := 1, cells := 0, slots := 0, locals := 21 }
def aX0_pullOf (x : Nat) : Option CI := match x with
  | 31 => some ciMin
  | _ => none
theorem aokX0_pullOf : ∀ x ci, aX0_pullOf x = some ci → CalOK RX0 rmX0_pullOf x ci := by
  intro x ci h
  unfold aX0_pullOf at h
  split at h
  · cases h; exact cal_min (List.forall_mem_cons.mpr ⟨(ws_mem (List.mem_of_getElem? (i := 154) (by decide +kernel)) (by decide +kernel)), List.forall_mem_cons.mpr ⟨(ws_mem (List.mem_of_getElem? (i := 155) (by decide +kernel)) (by decide +kernel)), List.forall_mem_cons.mpr ⟨(ws_mem (List.mem_of_getElem? (i := 58) (by decide +kernel)) (by decide +kernel)), List.forall_mem_cons.mpr ⟨(ws_mem (List.mem_of_getElem? (i := 156) (by decide +kernel)) (by decide +kernel)), fun _ h => absurd h List.not_mem_nil⟩⟩⟩⟩) (by decide)
  · cases h
theorem mdX0_pullOf : MD RX0 cX0_pullOf rmX0_pullOf kX0_pullOf fX0 aX0_pullOf zX0 uX0 := ⟨fokX0, zokX0, uokX0, aokX0_pullOf, qX0_pullOf⟩
set_option maxRecDepth 100000 in
set_option maxHeartbeats 800000 in
theorem mX0_pullOf : MOK yX0_pullOf cX0_pullOf 3 (some .int) rmX0_pullOf ciX0_pullOf := by
  refine mok_of (ini := false) (by decide +kernel) (by decide) rfl rfl ?_
  intro σ As K hrc hl h
  obtain ⟨N, P, I, L⟩ := σ
  have h9 := pR_iff.mp h
  clear h
  obtain ⟨a, r, e9, h⟩ := h9
  subst e9
  have h9 := pI_iff.mp h
  clear h
  obtain ⟨g, r, e9, h⟩ := h9
  subst e9
  have h9 := pI_iff.mp h
  clear h
  obtain ⟨p, r, e9, h⟩ := h9
  subst e9
  have h9 := pN_iff.mp h
  clear h
  obtain ⟨e9, h⟩ := h9
  subst e9
  dsimp only at h
  obtain ⟨rfl, ⟨c0, c1, c2, c3⟩, hok, g1, g2, p1, p2, h⟩ := h
  refine ⟨Nat.le_of_ble_eq_true rfl, Ok.seg mdX0_pullOf [] 40 ?_⟩
  have hq := hok g g1 g2
  simp only [wp_nil, wp_cons, stp, RI, RLg, b2i_lo, b2i_hi, getL, setL, ltL, killL, isLong, inl, pI, pL, pR, pA, pN, lI, lL, lR, cnd, br, tgt, tsw, rcv, rpl, mputI, mputL, mputP, oI, oL, oF, oN, oC, oS, fv, fp, fr, mcat, mcs, entL, entA, rfit, ciMax, ciMin, ciAbs, ciObj, spMax, spMin, spAbs, spObj, b2i_0, b2i_1, RI_b2i, b2i_fit, List.append, List.length, List.replicate, List.cons_append, List.nil_append, List.length_cons, List.length_nil, List.replicate_succ, List.replicate_zero, List.tail_cons, reduceIte, if_true, if_false, ite_true, ite_false, Bool.false_eq_true, true_and, and_true, and_self, false_and, and_false, or_self, or_true, true_or, or_false, false_or, not_true_eq_false, not_false_eq_true, ne_eq, forall_const, implies_true, imp_self, true_implies, false_implies, Nat.reduceAdd, Nat.reduceSub, Nat.reduceMul, Nat.reduceDiv, Nat.reduceMod, Nat.reduceEqDiff, Nat.reduceLT, Nat.reduceLeDiff, Nat.reduceBEq, Nat.add_zero, Nat.zero_add, Nat.le_refl, Nat.not_lt_zero, Nat.succ_eq_add_one, Int.reduceNatCast, Int.cast_ofNat_Int, Int.reduceSub, Int.reduceMul, Int.reduceNeg, Int.reduceLE, Int.reduceLT, Int.reduceToNat, Int.reduceEq, Int.reduceNe, Int.reduceAdd, nf_0, nf_1, nf_2, nf_3, nf2_0, nf2_1, Option.some.injEq, kX0_pullOf, aX0_pullOf, rmX0_pullOf, fX0, zX0, uX0, ciX0_pullOf, G_35, G_38, G_39, c0, c1, c2, c3]
  unfold pul at h
  repeat' (first | apply And.intro | intro _)
  all_goals try omega
  · rw [if_neg (by omega)] at h; exact h
  · rw [if_pos (by omega)] at h
    by_cases w : p + I 39 g < I 38 g
    · rw [if_pos w] at h; exact K_eq h (by omega)
    · rw [if_neg w] at h; exact K_eq h (by omega)
