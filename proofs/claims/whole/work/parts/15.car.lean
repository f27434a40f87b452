/-! Arrays.fill, LapBoard$Car -/
def filI (I : Int → Int → Int) (a v n : Int) : Int → Int → Int := fun b j => if b = a ∧ 0 ≤ j ∧ j < n then v else I b j
theorem filI_0 (I : Int → Int → Int) (a v : Int) : filI I a v 0 = I := funext fun b => funext fun j => if_neg (fun z => by omega)
theorem filI_s (I : Int → Int → Int) (a v i : Int) (h : 0 ≤ i) : upI (filI I a v i) a i v = filI I a v (i + 1) := funext fun b => funext fun j => by
  unfold upI filI
  by_cases q : b = a ∧ j = i
  · rw [if_pos q, if_pos ⟨q.1, by omega, by omega⟩]
  · rw [if_neg q]
    by_cases q2 : b = a ∧ 0 ≤ j ∧ j < i
    · rw [if_pos q2, if_pos ⟨q2.1, by omega, by omega⟩]
    · rw [if_neg q2, if_neg (fun z => by
        by_cases q3 : j = i
        · exact q ⟨z.1, q3⟩
        · exact q2 ⟨z.1, by omega, by omega⟩)]
def spJ7_fill_53178 (As : List MV) (σ : MS) (K : Option MV → MS → Prop) : Prop := pR As fun a r => pI r fun v r => pN r ((G a).1 = 10 ∧ K none (σ.1, σ.2.1, filI σ.2.2.1 a v (G a).2, σ.2.2.2))
def ciJ7_fill_53178 : CI := (2, 10, 0, 0, spJ7_fill_53178)
def kJ7_fill_53178 (pc : Nat) : List ME := match pc with
  | 0 => [(.iconst 0, 1, []), (.istore_n 2, 1, []), (.aload_n 0, 1, []), (.arraylength, 1, []), (.istore_n 3, 1, [])]
  | 5 => [(.iload_n 2, 1, []), (.iload_n 3, 1, []), (.if_icmp .ge 13, 3, [20]), (.aload_n 0, 1, []), (.iload_n 2, 1, []), (.iload_n 1, 1, []), (.iastore, 1, []), (.iinc 2 1, 3, []), (.goto (-12), 3, [5])]
  | 20 => [(.return_, 1, [])]
  | _ => []
theorem qJ7_fill_53178 : ∀ pc, chk cJ7_fill_53178 pc (kJ7_fill_53178 pc) = true := by
  intro pc
  unfold kJ7_fill_53178
  split <;> first | decide +kernel | exact chk_nil
abbrev rmJ7_fill_53178 : Room := { frames := 0, cells := 0, slots := 0, locals := 0 }
def aJ7_fill_53178 (_ : Nat) : Option CI := none
theorem aokJ7_fill_53178 : ∀ x ci, aJ7_fill_53178 x = some ci → CalOK RJ7 rmJ7_fill_53178 x ci := fun _ _ h => by cases h
theorem mdJ7_fill_53178 : MD RJ7 cJ7_fill_53178 rmJ7_fill_53178 kJ7_fill_53178 fJ7 aJ7_fill_53178 zJ7 uJ7 := ⟨fokJ7, zokJ7, uokJ7, aokJ7_fill_53178, qJ7_fill_53178⟩
set_option maxHeartbeats 800000 in
theorem lpJ7_fill {post : Option MV → MS → Prop} {T : Pt → Prop} {N : Nat} {P : Int → Int → Option Int} {I L : Int → Int → Int} {a v : Int} {n : Nat} (hG : G a = (10, n)) (hn : n ≤ 20000) (h : post none (N, P, filI I a v n, L)) : ∀ (m : Nat) (i : Int), 0 ≤ i → i + m = n →
    Ok RJ7 cJ7_fill_53178 4 rmJ7_fill_53178 false none post T (5, [some (.inr (.inr (some a))), some (.inl v), some (.inl i), some (.inl n)], [], (N, P, filI I a v i, L), 0, 0)
  | 0, i, h0, hi => by
    refine Ok.seg mdJ7_fill_53178 [5] 20 ?_
    simp only [wp_nil, wp_cons, ↓stp, ↓lI, ↓lL, ↓lR, ↓lIn_0, ↓lIn_1, ↓lIn_2, ↓lIn_3, ↓lLn_0, ↓lLn_1, ↓lLn_2, ↓lLn_3, ↓lRn_0, ↓lRn_1, ↓lRn_2, ↓lRn_3, ↓pI, ↓pL, ↓pR, ↓pA, ↓pN, ↓pV, ↓fp, ↓tsw, ↓oS, ↓spMax, ↓spMin, ↓spAbs, ↓spObj, RI, RLg, b2i_lo, b2i_hi, getL, setL, ltL, killL, isLong, inl, cnd, br, tgt, rcv, rpl, mputI, mputL, mputP, fv, fr, mcat, mcs, entL, entA, rfit, nf_0, nf_1, nf_2, nf_3, nf2_0, nf2_1, b2i_0, b2i_1, RI_b2i, b2i_fit, List.append, List.length, List.replicate, List.cons_append, List.nil_append, List.length_cons, List.length_nil, List.replicate_succ, List.replicate_zero, List.tail_cons, reduceIte, if_true, if_false, ite_true, ite_false, Bool.false_eq_true, true_and, and_true, and_self, false_and, and_false, or_self, or_true, true_or, or_false, false_or, not_true_eq_false, not_false_eq_true, ne_eq, forall_const, implies_true, imp_self, true_implies, false_implies, Nat.reduceAdd, Nat.reduceSub, Nat.reduceMul, Nat.reduceDiv, Nat.reduceMod, Nat.reduceEqDiff, Nat.reduceLT, Nat.reduceLeDiff, Nat.reduceBEq, Nat.add_zero, Nat.zero_add, Nat.le_refl, Nat.not_lt_zero, Nat.succ_eq_add_one, Int.reduceNatCast, Int.cast_ofNat_Int, Int.reduceSub, Int.reduceMul, Int.reduceNeg, Int.reduceLE, Int.reduceLT, Int.reduceToNat, Int.reduceEq, Int.reduceNe, Int.reduceAdd, Option.some.injEq, kJ7_fill_53178, rmJ7_fill_53178, hG]
    repeat' (first | apply And.intro | intro _)
    all_goals try omega
    rw [show i = (n : Int) by omega]; exact h
  | m + 1, i, h0, hi => by
    have ih := lpJ7_fill (post := post) (T := T) (P := P) (I := I) (L := L) (v := v) hG hn h m (i + 1) (by omega) (by omega)
    rw [← filI_s I a v i h0] at ih
    refine Ok.seg mdJ7_fill_53178 [5] 20 ?_
    simp only [wp_nil, wp_cons, ↓stp, ↓lI, ↓lL, ↓lR, ↓lIn_0, ↓lIn_1, ↓lIn_2, ↓lIn_3, ↓lLn_0, ↓lLn_1, ↓lLn_2, ↓lLn_3, ↓lRn_0, ↓lRn_1, ↓lRn_2, ↓lRn_3, ↓pI, ↓pL, ↓pR, ↓pA, ↓pN, ↓pV, ↓fp, ↓tsw, ↓oS, ↓spMax, ↓spMin, ↓spAbs, ↓spObj, RI, RLg, b2i_lo, b2i_hi, getL, setL, ltL, killL, isLong, inl, cnd, br, tgt, rcv, rpl, mputI, mputL, mputP, fv, fr, mcat, mcs, entL, entA, rfit, nf_0, nf_1, nf_2, nf_3, nf2_0, nf2_1, b2i_0, b2i_1, RI_b2i, b2i_fit, List.append, List.length, List.replicate, List.cons_append, List.nil_append, List.length_cons, List.length_nil, List.replicate_succ, List.replicate_zero, List.tail_cons, reduceIte, if_true, if_false, ite_true, ite_false, Bool.false_eq_true, true_and, and_true, and_self, false_and, and_false, or_self, or_true, true_or, or_false, false_or, not_true_eq_false, not_false_eq_true, ne_eq, forall_const, implies_true, imp_self, true_implies, false_implies, Nat.reduceAdd, Nat.reduceSub, Nat.reduceMul, Nat.reduceDiv, Nat.reduceMod, Nat.reduceEqDiff, Nat.reduceLT, Nat.reduceLeDiff, Nat.reduceBEq, Nat.add_zero, Nat.zero_add, Nat.le_refl, Nat.not_lt_zero, Nat.succ_eq_add_one, Int.reduceNatCast, Int.cast_ofNat_Int, Int.reduceSub, Int.reduceMul, Int.reduceNeg, Int.reduceLE, Int.reduceLT, Int.reduceToNat, Int.reduceEq, Int.reduceNe, Int.reduceAdd, Option.some.injEq, kJ7_fill_53178, rmJ7_fill_53178, hG]
    repeat' (first | apply And.intro | intro _)
    all_goals first | omega | exact ih
set_option maxRecDepth 100000 in
set_option maxHeartbeats 800000 in
theorem mJ7_fill_53178 : MOK yJ7_fill_53178 cJ7_fill_53178 4 none rmJ7_fill_53178 ciJ7_fill_53178 := by
  refine mok_of (ini := false) (by decide +kernel) (by decide) rfl rfl ?_
  intro σ As K hrc hl h
  obtain ⟨N, P, I, L⟩ := σ
  have h9 := pR_iff.mp h
  clear h
  obtain ⟨a, r, e9, h⟩ := h9
  subst e9
  have h9 := pI_iff.mp h
  clear h
  obtain ⟨v, r, e9, h⟩ := h9
  subst e9
  have h9 := pN_iff.mp h
  clear h
  obtain ⟨e9, h⟩ := h9
  subst e9
  dsimp only at h
  obtain ⟨hg, h⟩ := h
  obtain ⟨n, hG⟩ : ∃ n, G a = (10, n) := ⟨(G a).2, by rw [← hg]⟩
  have hn := G_small a
  rw [hG] at h hn
  refine ⟨Nat.le_of_ble_eq_true rfl, Ok.seg mdJ7_fill_53178 [5] 20 ?_⟩
  simp only [wp_nil, wp_cons, ↓stp, ↓lI, ↓lL, ↓lR, ↓lIn_0, ↓lIn_1, ↓lIn_2, ↓lIn_3, ↓lLn_0, ↓lLn_1, ↓lLn_2, ↓lLn_3, ↓lRn_0, ↓lRn_1, ↓lRn_2, ↓lRn_3, ↓pI, ↓pL, ↓pR, ↓pA, ↓pN, ↓pV, ↓fp, ↓tsw, ↓oS, ↓spMax, ↓spMin, ↓spAbs, ↓spObj, RI, RLg, b2i_lo, b2i_hi, getL, setL, ltL, killL, isLong, inl, cnd, br, tgt, rcv, rpl, mputI, mputL, mputP, fv, fr, mcat, mcs, entL, entA, rfit, nf_0, nf_1, nf_2, nf_3, nf2_0, nf2_1, b2i_0, b2i_1, RI_b2i, b2i_fit, List.append, List.length, List.replicate, List.cons_append, List.nil_append, List.length_cons, List.length_nil, List.replicate_succ, List.replicate_zero, List.tail_cons, reduceIte, if_true, if_false, ite_true, ite_false, Bool.false_eq_true, true_and, and_true, and_self, false_and, and_false, or_self, or_true, true_or, or_false, false_or, not_true_eq_false, not_false_eq_true, ne_eq, forall_const, implies_true, imp_self, true_implies, false_implies, Nat.reduceAdd, Nat.reduceSub, Nat.reduceMul, Nat.reduceDiv, Nat.reduceMod, Nat.reduceEqDiff, Nat.reduceLT, Nat.reduceLeDiff, Nat.reduceBEq, Nat.add_zero, Nat.zero_add, Nat.le_refl, Nat.not_lt_zero, Nat.succ_eq_add_one, Int.reduceNatCast, Int.cast_ofNat_Int, Int.reduceSub, Int.reduceMul, Int.reduceNeg, Int.reduceLE, Int.reduceLT, Int.reduceToNat, Int.reduceEq, Int.reduceNe, Int.reduceAdd, Option.some.injEq, kJ7_fill_53178, rmJ7_fill_53178, hG]
  have := lpJ7_fill (post := fun r σ' => rfit none r ∧ K r σ') (T := fun _ => False) (P := P) (I := I) (L := L) (v := v) hG hn ⟨trivial, h⟩ n 0 (by omega) (by omega)
  rw [filI_0] at this
  exact this
/-- what gear g (top T, pull Q) gives from pace p -/
def pul (T Q p : Int) : Int := if p < T then (if p + Q < T then p + Q else T) else p
/-- the greatest over the gears 1 .. g -/
def rcm (T Q : Int → Int) (p : Int) : Nat → Int
  | 0 => p
  | g + 1 => if rcm T Q p g < pul (T (g + 1)) (Q (g + 1)) p then pul (T (g + 1)) (Q (g + 1)) p else rcm T Q p g
/-- REACH -/
def rch (T Q : Int → Int) (p : Int) : Int := rcm T Q p 6
def gOK (T Q : Int → Int) : Prop := ∀ i, 1 ≤ i → i ≤ 6 → 1 ≤ T i ∧ T i ≤ 60 ∧ 1 ≤ Q i ∧ Q i ≤ 20
theorem pul_rng {T Q p : Int} (hT : T ≤ 60) (hQ : 1 ≤ Q) (hp : p ≤ 60) : p ≤ pul T Q p ∧ pul T Q p ≤ 60 := by
  unfold pul
  split
  · split <;> omega
  · omega
theorem rcm_rng {T Q : Int → Int} {p : Int} (h : gOK T Q) (hp : p ≤ 60) : ∀ (g : Nat), g ≤ 6 → p ≤ rcm T Q p g ∧ rcm T Q p g ≤ 60
  | 0, _ => ⟨Int.le_refl _, hp⟩
  | g + 1, hg => by
    have ih := rcm_rng h hp g (by omega)
    have q := h (g + 1) (by omega) (by omega)
    have w := pul_rng (p := p) q.2.1 q.2.2.1 hp
    unfold rcm
    split <;> omega
theorem rch_rng {T Q : Int → Int} {p : Int} (h : gOK T Q) (hp : p ≤ 60) : p ≤ rch T Q p ∧ rch T Q p ≤ 60 := rcm_rng h hp 6 (by omega)
def cP (P : Int → Int → Option Int) : Prop := P 35 0 = some 36 ∧ P 35 1 = some 37 ∧ P 35 2 = some 38 ∧ P 35 3 = some 39
def spX0_pullOf (As : List MV) (σ : MS) (K : Option MV → MS → Prop) : Prop := pR As fun a r => pI r fun g r => pI r fun p r => pN r (a = 35 ∧ cP σ.2.1 ∧ gOK (σ.2.2.1 38) (σ.2.2.1 39) ∧ 1 ≤ g ∧ g ≤ 6 ∧ 1 ≤ p ∧ p ≤ 60 ∧ K (some (.inl (pul (σ.2.2.1 38 g) (σ.2.2.1 39 g) p))) σ)
def ciX0_pullOf : CI := (3, 0, 0, 0, spX0_pullOf)
def kX0_pullOf (pc : Nat) : List ME := match pc with
  | 0 => [(.aload_n 0, 1, []), (.getfield 18, 3, []), (.iload_n 1, 1, []), (.iaload, 1, []), (.iload_n 2, 1, []), (.if_icmp .le 23, 3, [30]), (.aload_n 0, 1, []), (.getfield 18, 3, []), (.iload_n 1, 1, []), (.iaload, 1, []), (.iload_n 2, 1, []), (.aload_n 0, 1, []), (.getfield 21, 3, []), (.iload_n 1, 1, []), (.iaload, 1, []), (.iadd, 1, []), (.invokestatic 31, 3, []), (.goto 4, 3, [31])]
  | 30 => [(.iload_n 2, 1, [])]
  | 31 => [(.ireturn, 1, [])]
  | _ => []
theorem qX0_pullOf : ∀ pc, chk cX0_pullOf pc (kX0_pullOf pc) = true := by
  intro pc
  unfold kX0_pullOf
  split <;> first | decide +kernel | exact chk_nil
abbrev rmX0_pullOf : Room := { frames := 1, cells := 0, slots := 0, locals := 21 }
def aX0_pullOf (x : Nat) : Option CI := match x with
  | 31 => some ciMin
  | _ => none
theorem aokX0_pullOf : ∀ x ci, aX0_pullOf x = some ci → CalOK RX0 rmX0_pullOf x ci := by
  intro x ci h
  unfold aX0_pullOf at h
  split at h
  · cases h; exact cal_min (List.forall_mem_cons.mpr ⟨(ws_mem (List.mem_of_getElem? (i := 153) (by decide +kernel)) (by decide +kernel)), List.forall_mem_cons.mpr ⟨(ws_mem (List.mem_of_getElem? (i := 154) (by decide +kernel)) (by decide +kernel)), List.forall_mem_cons.mpr ⟨(ws_mem (List.mem_of_getElem? (i := 58) (by decide +kernel)) (by decide +kernel)), List.forall_mem_cons.mpr ⟨(ws_mem (List.mem_of_getElem? (i := 155) (by decide +kernel)) (by decide +kernel)), fun _ h => absurd h List.not_mem_nil⟩⟩⟩⟩) (by decide)
  · cases h
theorem ocX0_pullOf_31 (f : Nat → Nat → Nat → Nat → (List MV → MS → (Option MV → MS → Prop) → Prop) → Prop) : oC aX0_pullOf 31 f = f 2 10 0 0 spMin := propext Iff.rfl
theorem mdX0_pullOf : MD RX0 cX0_pullOf rmX0_pullOf kX0_pullOf fX0 aX0_pullOf zX0 uX0 := ⟨fokX0, zokX0, uokX0, aokX0_pullOf, qX0_pullOf⟩
set_option maxRecDepth 100000 in
set_option maxHeartbeats 800000 in
theorem mX0_pullOf : MOK yX0_pullOf cX0_pullOf 3 (some .int) rmX0_pullOf ciX0_pullOf := by
  refine mok_of (ini := false) (by decide +kernel) (by decide) rfl rfl ?_
  intro σ As K hrc hl h
  obtain ⟨N, P, I, L⟩ := σ
  have h9 := pR_iff.mp h
  clear h
  obtain ⟨a, r, e9, h⟩ := h9
  subst e9
  have h9 := pI_iff.mp h
  clear h
  obtain ⟨g, r, e9, h⟩ := h9
  subst e9
  have h9 := pI_iff.mp h
  clear h
  obtain ⟨p, r, e9, h⟩ := h9
  subst e9
  have h9 := pN_iff.mp h
  clear h
  obtain ⟨e9, h⟩ := h9
  subst e9
  dsimp only at h
  obtain ⟨rfl, ⟨c0, c1, c2, c3⟩, hok, g1, g2, p1, p2, h⟩ := h
  refine ⟨Nat.le_of_ble_eq_true rfl, Ok.seg mdX0_pullOf [] 40 ?_⟩
  have hq := hok g g1 g2
  simp only [wp_nil, wp_cons, ↓stp, ↓lI, ↓lL, ↓lR, ↓lIn_0, ↓lIn_1, ↓lIn_2, ↓lIn_3, ↓lLn_0, ↓lLn_1, ↓lLn_2, ↓lLn_3, ↓lRn_0, ↓lRn_1, ↓lRn_2, ↓lRn_3, ↓pI, ↓pL, ↓pR, ↓pA, ↓pN, ↓pV, ↓fp, ↓tsw, ↓oS, ↓spMax, ↓spMin, ↓spAbs, ↓spObj, RI, RLg, b2i_lo, b2i_hi, getL, setL, ltL, killL, isLong, inl, cnd, br, tgt, rcv, rpl, mputI, mputL, mputP, fv, fr, mcat, mcs, entL, entA, rfit, nf_0, nf_1, nf_2, nf_3, nf2_0, nf2_1, b2i_0, b2i_1, RI_b2i, b2i_fit, List.append, List.length, List.replicate, List.cons_append, List.nil_append, List.length_cons, List.length_nil, List.replicate_succ, List.replicate_zero, List.tail_cons, reduceIte, if_true, if_false, ite_true, ite_false, Bool.false_eq_true, true_and, and_true, and_self, false_and, and_false, or_self, or_true, true_or, or_false, false_or, not_true_eq_false, not_false_eq_true, ne_eq, forall_const, implies_true, imp_self, true_implies, false_implies, Nat.reduceAdd, Nat.reduceSub, Nat.reduceMul, Nat.reduceDiv, Nat.reduceMod, Nat.reduceEqDiff, Nat.reduceLT, Nat.reduceLeDiff, Nat.reduceBEq, Nat.add_zero, Nat.zero_add, Nat.le_refl, Nat.not_lt_zero, Nat.succ_eq_add_one, Int.reduceNatCast, Int.cast_ofNat_Int, Int.reduceSub, Int.reduceMul, Int.reduceNeg, Int.reduceLE, Int.reduceLT, Int.reduceToNat, Int.reduceEq, Int.reduceNe, Int.reduceAdd, Option.some.injEq, kX0_pullOf, rmX0_pullOf, ↓ofX0_18, ↓ofX0_21, ↓ocX0_pullOf_31, G_35, G_38, G_39, c0, c1, c2, c3]
  unfold pul at h
  repeat' (first | apply And.intro | intro _)
  all_goals try omega
  · rw [if_neg (by omega)] at h; exact h
  · rw [if_pos (by omega)] at h
    by_cases w : p + I 39 g < I 38 g
    · rw [if_pos w] at h; exact K_eq h (by omega)
    · rw [if_neg w] at h; exact K_eq h (by omega)
def spX0_fillReaches (As : List MV) (σ : MS) (K : Option MV → MS → Prop) : Prop := pR As fun a r => pN r (a = 35 ∧ cP σ.2.1 ∧ gOK (σ.2.2.1 38) (σ.2.2.1 39) ∧ ∀ I' : Int → Int → Int, (∀ b j, b ≠ 37 → I' b j = σ.2.2.1 b j) → (∀ p, 1 ≤ p → p ≤ 60 → I' 37 p = rch (σ.2.2.1 38) (σ.2.2.1 39) p) → K none (σ.1, σ.2.1, I', σ.2.2.2))
def ciX0_fillReaches : CI := (1, 0, 0, 0, spX0_fillReaches)
def kX0_fillReaches (pc : Nat) : List ME := match pc with
  | 0 => [(.iconst 1, 1, []), (.istore_n 1, 1, [])]
  | 2 => [(.iload_n 1, 1, []), (.bipush 60, 2, []), (.if_icmp .gt 48, 3, [53]), (.iload_n 1, 1, []), (.istore_n 2, 1, []), (.iconst 1, 1, []), (.istore_n 3, 1, [])]
  | 12 => [(.iload_n 3, 1, []), (.bipush 6, 2, []), (.if_icmp .gt 20, 3, [35]), (.iload_n 2, 1, []), (.aload_n 0, 1, []), (.iload_n 3, 1, []), (.iload_n 1, 1, []), (.invokevirtual 27, 3, []), (.invokestatic 36, 3, []), (.istore_n 2, 1, []), (.iinc 3 1, 3, []), (.goto (-20), 3, [12])]
  | 35 => [(.aload_n 0, 1, []), (.getfield 15, 3, []), (.iload_n 1, 1, []), (.bipush 60, 2, []), (.iload_n 2, 1, []), (.invokestatic 31, 3, []), (.iastore, 1, []), (.iinc 1 1, 3, []), (.goto (-48), 3, [2])]
  | 53 => [(.return_, 1, [])]
  | _ => []
theorem qX0_fillReaches : ∀ pc, chk cX0_fillReaches pc (kX0_fillReaches pc) = true := by
  intro pc
  unfold kX0_fillReaches
  split <;> first | decide +kernel | exact chk_nil
abbrev rmX0_fillReaches : Room := { frames := 2, cells := 0, slots := 0, locals := 43 }
def aX0_fillReaches (x : Nat) : Option CI := match x with
  | 27 => some ciX0_pullOf
  | 36 => some ciMax
  | 31 => some ciMin
  | _ => none
theorem aokX0_fillReaches : ∀ x ci, aX0_fillReaches x = some ci → CalOK RX0 rmX0_fillReaches x ci := by
  intro x ci h
  unfold aX0_fillReaches at h
  split at h
  · cases h; exact cal_V mX0_pullOf (by decide) rfl (List.forall_mem_cons.mpr ⟨(ws_mem (List.mem_of_getElem? (i := 149) (by decide +kernel)) (by decide +kernel)), List.forall_mem_cons.mpr ⟨(ws_mem (List.mem_of_getElem? (i := 151) (by decide +kernel)) (by decide +kernel)), List.forall_mem_cons.mpr ⟨(ws_mem (List.mem_of_getElem? (i := 1) (by decide +kernel)) (by decide +kernel)), List.forall_mem_cons.mpr ⟨(ws_mem (List.mem_of_getElem? (i := 57) (by decide +kernel)) (by decide +kernel)), List.forall_mem_cons.mpr ⟨(ws_mem (List.mem_of_getElem? (i := 152) (by decide +kernel)) (by decide +kernel)), fun _ h => absurd h List.not_mem_nil⟩⟩⟩⟩⟩) rfl (by unfold nice; decide +kernel) (by unfold rfits; decide) ⟨rfl, rfl⟩
  · cases h; exact cal_max (List.forall_mem_cons.mpr ⟨(ws_mem (List.mem_of_getElem? (i := 156) (by decide +kernel)) (by decide +kernel)), List.forall_mem_cons.mpr ⟨(ws_mem (List.mem_of_getElem? (i := 157) (by decide +kernel)) (by decide +kernel)), List.forall_mem_cons.mpr ⟨(ws_mem (List.mem_of_getElem? (i := 58) (by decide +kernel)) (by decide +kernel)), List.forall_mem_cons.mpr ⟨(ws_mem (List.mem_of_getElem? (i := 158) (by decide +kernel)) (by decide +kernel)), fun _ h => absurd h List.not_mem_nil⟩⟩⟩⟩) (by decide)
  · cases h; exact cal_min (List.forall_mem_cons.mpr ⟨(ws_mem (List.mem_of_getElem? (i := 153) (by decide +kernel)) (by decide +kernel)), List.forall_mem_cons.mpr ⟨(ws_mem (List.mem_of_getElem? (i := 154) (by decide +kernel)) (by decide +kernel)), List.forall_mem_cons.mpr ⟨(ws_mem (List.mem_of_getElem? (i := 58) (by decide +kernel)) (by decide +kernel)), List.forall_mem_cons.mpr ⟨(ws_mem (List.mem_of_getElem? (i := 155) (by decide +kernel)) (by decide +kernel)), fun _ h => absurd h List.not_mem_nil⟩⟩⟩⟩) (by decide)
  · cases h
theorem ocX0_fillReaches_27 (f : Nat → Nat → Nat → Nat → (List MV → MS → (Option MV → MS → Prop) → Prop) → Prop) : oC aX0_fillReaches 27 f = f 3 0 0 0 spX0_pullOf := propext Iff.rfl
theorem ocX0_fillReaches_36 (f : Nat → Nat → Nat → Nat → (List MV → MS → (Option MV → MS → Prop) → Prop) → Prop) : oC aX0_fillReaches 36 f = f 2 10 0 0 spMax := propext Iff.rfl
theorem ocX0_fillReaches_31 (f : Nat → Nat → Nat → Nat → (List MV → MS → (Option MV → MS → Prop) → Prop) → Prop) : oC aX0_fillReaches 31 f = f 2 10 0 0 spMin := propext Iff.rfl
theorem mdX0_fillReaches : MD RX0 cX0_fillReaches rmX0_fillReaches kX0_fillReaches fX0 aX0_fillReaches zX0 uX0 := ⟨fokX0, zokX0, uokX0, aokX0_fillReaches, qX0_fillReaches⟩
set_option maxHeartbeats 800000 in
theorem lpX0_fill1 {post : Option MV → MS → Prop} {U : Pt → Prop} {N : Nat} {P : Int → Int → Option Int} {I L : Int → Int → Int} {T Q : Int → Int} {p : Int} (hc : cP P) (hT : I 38 = T) (hQ : I 39 = Q) (hok : gOK T Q) (p1 : 1 ≤ p) (p2 : p ≤ 60)
    (h : ∀ x3, Ok RX0 cX0_fillReaches 4 rmX0_fillReaches false none post U (35, [some (.inr (.inr (some 35))), some (.inl p), some (.inl (rch T Q p)), x3], [], (N, P, I, L), 0, 0)) : ∀ (m g : Nat), g + m = 6 →
    Ok RX0 cX0_fillReaches 4 rmX0_fillReaches false none post U (12, [some (.inr (.inr (some 35))), some (.inl p), some (.inl (rcm T Q p g)), some (.inl (g + 1))], [], (N, P, I, L), 0, 0)
  | 0, g, hg => by
    have e : g = 6 := by omega
    subst e
    refine Ok.seg mdX0_fillReaches [35] 20 ?_
    simp only [wp_nil, wp_cons, ↓stp, ↓lI, ↓lL, ↓lR, ↓lIn_0, ↓lIn_1, ↓lIn_2, ↓lIn_3, ↓lLn_0, ↓lLn_1, ↓lLn_2, ↓lLn_3, ↓lRn_0, ↓lRn_1, ↓lRn_2, ↓lRn_3, ↓pI, ↓pL, ↓pR, ↓pA, ↓pN, ↓pV, ↓fp, ↓tsw, ↓oS, ↓spMax, ↓spMin, ↓spAbs, ↓spObj, RI, RLg, b2i_lo, b2i_hi, getL, setL, ltL, killL, isLong, inl, cnd, br, tgt, rcv, rpl, mputI, mputL, mputP, fv, fr, mcat, mcs, entL, entA, rfit, nf_0, nf_1, nf_2, nf_3, nf2_0, nf2_1, b2i_0, b2i_1, RI_b2i, b2i_fit, List.append, List.length, List.replicate, List.cons_append, List.nil_append, List.length_cons, List.length_nil, List.replicate_succ, List.replicate_zero, List.tail_cons, reduceIte, if_true, if_false, ite_true, ite_false, Bool.false_eq_true, true_and, and_true, and_self, false_and, and_false, or_self, or_true, true_or, or_false, false_or, not_true_eq_false, not_false_eq_true, ne_eq, forall_const, implies_true, imp_self, true_implies, false_implies, Nat.reduceAdd, Nat.reduceSub, Nat.reduceMul, Nat.reduceDiv, Nat.reduceMod, Nat.reduceEqDiff, Nat.reduceLT, Nat.reduceLeDiff, Nat.reduceBEq, Nat.add_zero, Nat.zero_add, Nat.le_refl, Nat.not_lt_zero, Nat.succ_eq_add_one, Int.reduceNatCast, Int.cast_ofNat_Int, Int.reduceSub, Int.reduceMul, Int.reduceNeg, Int.reduceLE, Int.reduceLT, Int.reduceToNat, Int.reduceEq, Int.reduceNe, Int.reduceAdd, Option.some.injEq, kX0_fillReaches, rmX0_fillReaches, ↓ofX0_15, ↓ocX0_fillReaches_27, ↓spX0_pullOf, ↓ocX0_fillReaches_36, ↓ocX0_fillReaches_31, hT, hQ, hc, G_35]
    repeat' (first | apply And.intro | intro _)
    all_goals first | omega | exact h _
  | m + 1, g, hg => by
    have ih := lpX0_fill1 hc hT hQ hok p1 p2 h m (g + 1) (by omega)
    have q := rcm_rng hok p2 g (by omega)
    have w := hok (g + 1) (by omega) (by omega)
    have w2 := pul_rng (p := p) w.2.1 w.2.2.1 p2
    refine Ok.seg mdX0_fillReaches [35, 12] 30 ?_
    simp only [wp_nil, wp_cons, ↓stp, ↓lI, ↓lL, ↓lR, ↓lIn_0, ↓lIn_1, ↓lIn_2, ↓lIn_3, ↓lLn_0, ↓lLn_1, ↓lLn_2, ↓lLn_3, ↓lRn_0, ↓lRn_1, ↓lRn_2, ↓lRn_3, ↓pI, ↓pL, ↓pR, ↓pA, ↓pN, ↓pV, ↓fp, ↓tsw, ↓oS, ↓spMax, ↓spMin, ↓spAbs, ↓spObj, RI, RLg, b2i_lo, b2i_hi, getL, setL, ltL, killL, isLong, inl, cnd, br, tgt, rcv, rpl, mputI, mputL, mputP, fv, fr, mcat, mcs, entL, entA, rfit, nf_0, nf_1, nf_2, nf_3, nf2_0, nf2_1, b2i_0, b2i_1, RI_b2i, b2i_fit, List.append, List.length, List.replicate, List.cons_append, List.nil_append, List.length_cons, List.length_nil, List.replicate_succ, List.replicate_zero, List.tail_cons, reduceIte, if_true, if_false, ite_true, ite_false, Bool.false_eq_true, true_and, and_true, and_self, false_and, and_false, or_self, or_true, true_or, or_false, false_or, not_true_eq_false, not_false_eq_true, ne_eq, forall_const, implies_true, imp_self, true_implies, false_implies, Nat.reduceAdd, Nat.reduceSub, Nat.reduceMul, Nat.reduceDiv, Nat.reduceMod, Nat.reduceEqDiff, Nat.reduceLT, Nat.reduceLeDiff, Nat.reduceBEq, Nat.add_zero, Nat.zero_add, Nat.le_refl, Nat.not_lt_zero, Nat.succ_eq_add_one, Int.reduceNatCast, Int.cast_ofNat_Int, Int.reduceSub, Int.reduceMul, Int.reduceNeg, Int.reduceLE, Int.reduceLT, Int.reduceToNat, Int.reduceEq, Int.reduceNe, Int.reduceAdd, Option.some.injEq, kX0_fillReaches, rmX0_fillReaches, ↓ofX0_15, ↓ocX0_fillReaches_27, ↓spX0_pullOf, ↓ocX0_fillReaches_36, ↓ocX0_fillReaches_31, hT, hQ, hc, G_35]
    refine ⟨by omega, fun _ => by omega, fun _ => ⟨hok, by omega, by omega, by omega, by omega, by omega, by omega, fun r r1 r2 r3 => ?_⟩⟩
    have e : r = rcm T Q p (g + 1) := by
      unfold rcm
      split <;> omega
    rw [e]
    exact ih
set_option maxHeartbeats 800000 in
theorem lpX0_fill2 {post : Option MV → MS → Prop} {U : Pt → Prop} {N : Nat} {P : Int → Int → Option Int} {I L : Int → Int → Int} (hc : cP P) (hok : gOK (I 38) (I 39))
    (h : ∀ I' : Int → Int → Int, (∀ b j, b ≠ 37 → I' b j = I b j) → (∀ p, 1 ≤ p → p ≤ 60 → I' 37 p = rch (I 38) (I 39) p) → post none (N, P, I', L)) : ∀ (m : Nat) (p : Int) (x2 x3 : Option MV) (I1 : Int → Int → Int), 1 ≤ p → p + m = 61 → (∀ b j, b ≠ 37 → I1 b j = I b j) → (∀ q, 1 ≤ q → q < p → I1 37 q = rch (I 38) (I 39) q) →
    Ok RX0 cX0_fillReaches 4 rmX0_fillReaches false none post U (2, [some (.inr (.inr (some 35))), some (.inl p), x2, x3], [], (N, P, I1, L), 0, 0)
  | 0, p, x2, x3, I1, p1, hp, h1, h2 => by
    refine Ok.seg mdX0_fillReaches [12] 20 ?_
    simp only [wp_nil, wp_cons, ↓stp, ↓lI, ↓lL, ↓lR, ↓lIn_0, ↓lIn_1, ↓lIn_2, ↓lIn_3, ↓lLn_0, ↓lLn_1, ↓lLn_2, ↓lLn_3, ↓lRn_0, ↓lRn_1, ↓lRn_2, ↓lRn_3, ↓pI, ↓pL, ↓pR, ↓pA, ↓pN, ↓pV, ↓fp, ↓tsw, ↓oS, ↓spMax, ↓spMin, ↓spAbs, ↓spObj, RI, RLg, b2i_lo, b2i_hi, getL, setL, ltL, killL, isLong, inl, cnd, br, tgt, rcv, rpl, mputI, mputL, mputP, fv, fr, mcat, mcs, entL, entA, rfit, nf_0, nf_1, nf_2, nf_3, nf2_0, nf2_1, b2i_0, b2i_1, RI_b2i, b2i_fit, List.append, List.length, List.replicate, List.cons_append, List.nil_append, List.length_cons, List.length_nil, List.replicate_succ, List.replicate_zero, List.tail_cons, reduceIte, if_true, if_false, ite_true, ite_false, Bool.false_eq_true, true_and, and_true, and_self, false_and, and_false, or_self, or_true, true_or, or_false, false_or, not_true_eq_false, not_false_eq_true, ne_eq, forall_const, implies_true, imp_self, true_implies, false_implies, Nat.reduceAdd, Nat.reduceSub, Nat.reduceMul, Nat.reduceDiv, Nat.reduceMod, Nat.reduceEqDiff, Nat.reduceLT, Nat.reduceLeDiff, Nat.reduceBEq, Nat.add_zero, Nat.zero_add, Nat.le_refl, Nat.not_lt_zero, Nat.succ_eq_add_one, Int.reduceNatCast, Int.cast_ofNat_Int, Int.reduceSub, Int.reduceMul, Int.reduceNeg, Int.reduceLE, Int.reduceLT, Int.reduceToNat, Int.reduceEq, Int.reduceNe, Int.reduceAdd, Option.some.injEq, kX0_fillReaches, rmX0_fillReaches, ↓ofX0_15, ↓ocX0_fillReaches_27, ↓spX0_pullOf, ↓ocX0_fillReaches_36, ↓ocX0_fillReaches_31, hc]
    repeat' (first | apply And.intro | intro _)
    all_goals first | omega | exact h I1 h1 (fun q q1 q2 => h2 q q1 (by omega))
  | m + 1, p, x2, x3, I1, p1, hp, h1, h2 => by
    have hc2 := hc
    obtain ⟨c0, c1, c2, c3⟩ := hc2
    have e38 : I1 38 = I 38 := funext fun j => h1 38 j (by decide)
    have e39 : I1 39 = I 39 := funext fun j => h1 39 j (by decide)
    have hr := rch_rng hok (p := p) (by omega)
    refine Ok.seg mdX0_fillReaches [12] 20 ?_
    simp only [wp_nil, wp_cons, ↓stp, ↓lI, ↓lL, ↓lR, ↓lIn_0, ↓lIn_1, ↓lIn_2, ↓lIn_3, ↓lLn_0, ↓lLn_1, ↓lLn_2, ↓lLn_3, ↓lRn_0, ↓lRn_1, ↓lRn_2, ↓lRn_3, ↓pI, ↓pL, ↓pR, ↓pA, ↓pN, ↓pV, ↓fp, ↓tsw, ↓oS, ↓spMax, ↓spMin, ↓spAbs, ↓spObj, RI, RLg, b2i_lo, b2i_hi, getL, setL, ltL, killL, isLong, inl, cnd, br, tgt, rcv, rpl, mputI, mputL, mputP, fv, fr, mcat, mcs, entL, entA, rfit, nf_0, nf_1, nf_2, nf_3, nf2_0, nf2_1, b2i_0, b2i_1, RI_b2i, b2i_fit, List.append, List.length, List.replicate, List.cons_append, List.nil_append, List.length_cons, List.length_nil, List.replicate_succ, List.replicate_zero, List.tail_cons, reduceIte, if_true, if_false, ite_true, ite_false, Bool.false_eq_true, true_and, and_true, and_self, false_and, and_false, or_self, or_true, true_or, or_false, false_or, not_true_eq_false, not_false_eq_true, ne_eq, forall_const, implies_true, imp_self, true_implies, false_implies, Nat.reduceAdd, Nat.reduceSub, Nat.reduceMul, Nat.reduceDiv, Nat.reduceMod, Nat.reduceEqDiff, Nat.reduceLT, Nat.reduceLeDiff, Nat.reduceBEq, Nat.add_zero, Nat.zero_add, Nat.le_refl, Nat.not_lt_zero, Nat.succ_eq_add_one, Int.reduceNatCast, Int.cast_ofNat_Int, Int.reduceSub, Int.reduceMul, Int.reduceNeg, Int.reduceLE, Int.reduceLT, Int.reduceToNat, Int.reduceEq, Int.reduceNe, Int.reduceAdd, Option.some.injEq, kX0_fillReaches, rmX0_fillReaches, ↓ofX0_15, ↓ocX0_fillReaches_27, ↓spX0_pullOf, ↓ocX0_fillReaches_36, ↓ocX0_fillReaches_31, hc]
    refine ⟨by omega, fun _ => by omega, fun _ => lpX0_fill1 (I := I1) hc e38 e39 hok p1 (by omega) (fun x3 => ?_) 6 0 rfl⟩
    refine Ok.seg mdX0_fillReaches [2] 20 ?_
    simp only [wp_nil, wp_cons, ↓stp, ↓lI, ↓lL, ↓lR, ↓lIn_0, ↓lIn_1, ↓lIn_2, ↓lIn_3, ↓lLn_0, ↓lLn_1, ↓lLn_2, ↓lLn_3, ↓lRn_0, ↓lRn_1, ↓lRn_2, ↓lRn_3, ↓pI, ↓pL, ↓pR, ↓pA, ↓pN, ↓pV, ↓fp, ↓tsw, ↓oS, ↓spMax, ↓spMin, ↓spAbs, ↓spObj, RI, RLg, b2i_lo, b2i_hi, getL, setL, ltL, killL, isLong, inl, cnd, br, tgt, rcv, rpl, mputI, mputL, mputP, fv, fr, mcat, mcs, entL, entA, rfit, nf_0, nf_1, nf_2, nf_3, nf2_0, nf2_1, b2i_0, b2i_1, RI_b2i, b2i_fit, List.append, List.length, List.replicate, List.cons_append, List.nil_append, List.length_cons, List.length_nil, List.replicate_succ, List.replicate_zero, List.tail_cons, reduceIte, if_true, if_false, ite_true, ite_false, Bool.false_eq_true, true_and, and_true, and_self, false_and, and_false, or_self, or_true, true_or, or_false, false_or, not_true_eq_false, not_false_eq_true, ne_eq, forall_const, implies_true, imp_self, true_implies, false_implies, Nat.reduceAdd, Nat.reduceSub, Nat.reduceMul, Nat.reduceDiv, Nat.reduceMod, Nat.reduceEqDiff, Nat.reduceLT, Nat.reduceLeDiff, Nat.reduceBEq, Nat.add_zero, Nat.zero_add, Nat.le_refl, Nat.not_lt_zero, Nat.succ_eq_add_one, Int.reduceNatCast, Int.cast_ofNat_Int, Int.reduceSub, Int.reduceMul, Int.reduceNeg, Int.reduceLE, Int.reduceLT, Int.reduceToNat, Int.reduceEq, Int.reduceNe, Int.reduceAdd, Option.some.injEq, kX0_fillReaches, rmX0_fillReaches, ↓ofX0_15, ↓ocX0_fillReaches_27, ↓spX0_pullOf, ↓ocX0_fillReaches_36, ↓ocX0_fillReaches_31, hc, G_35, G_37, c0, c1, c2, c3]
    refine ⟨by omega, fun r r1 r2 r3 => ⟨by omega, by omega, ?_⟩⟩
    refine lpX0_fill2 hc hok h m (p + 1) _ _ _ (by omega) (by omega) (fun b j hb => ?_) (fun q q1 q2 => ?_)
    · rw [upI_ne hb]; exact h1 b j hb
    · unfold upI
      by_cases e : q = p
      · rw [if_pos ⟨rfl, e⟩, e]; omega
      · rw [if_neg (fun z => e z.2)]; exact h2 q q1 (by omega)
set_option maxRecDepth 100000 in
set_option maxHeartbeats 800000 in
theorem mX0_fillReaches : MOK yX0_fillReaches cX0_fillReaches 4 none rmX0_fillReaches ciX0_fillReaches := by
  refine mok_of (ini := false) (by decide +kernel) (by decide) rfl rfl ?_
  intro σ As K hrc hl h
  obtain ⟨N, P, I, L⟩ := σ
  have h9 := pR_iff.mp h
  clear h
  obtain ⟨a, r, e9, h⟩ := h9
  subst e9
  have h9 := pN_iff.mp h
  clear h
  obtain ⟨e9, h⟩ := h9
  subst e9
  dsimp only at h
  obtain ⟨rfl, hc, hok, h⟩ := h
  refine ⟨Nat.le_of_ble_eq_true rfl, Ok.seg mdX0_fillReaches [2] 20 ?_⟩
  simp only [wp_nil, wp_cons, ↓stp, ↓lI, ↓lL, ↓lR, ↓lIn_0, ↓lIn_1, ↓lIn_2, ↓lIn_3, ↓lLn_0, ↓lLn_1, ↓lLn_2, ↓lLn_3, ↓lRn_0, ↓lRn_1, ↓lRn_2, ↓lRn_3, ↓pI, ↓pL, ↓pR, ↓pA, ↓pN, ↓pV, ↓fp, ↓tsw, ↓oS, ↓spMax, ↓spMin, ↓spAbs, ↓spObj, RI, RLg, b2i_lo, b2i_hi, getL, setL, ltL, killL, isLong, inl, cnd, br, tgt, rcv, rpl, mputI, mputL, mputP, fv, fr, mcat, mcs, entL, entA, rfit, nf_0, nf_1, nf_2, nf_3, nf2_0, nf2_1, b2i_0, b2i_1, RI_b2i, b2i_fit, List.append, List.length, List.replicate, List.cons_append, List.nil_append, List.length_cons, List.length_nil, List.replicate_succ, List.replicate_zero, List.tail_cons, reduceIte, if_true, if_false, ite_true, ite_false, Bool.false_eq_true, true_and, and_true, and_self, false_and, and_false, or_self, or_true, true_or, or_false, false_or, not_true_eq_false, not_false_eq_true, ne_eq, forall_const, implies_true, imp_self, true_implies, false_implies, Nat.reduceAdd, Nat.reduceSub, Nat.reduceMul, Nat.reduceDiv, Nat.reduceMod, Nat.reduceEqDiff, Nat.reduceLT, Nat.reduceLeDiff, Nat.reduceBEq, Nat.add_zero, Nat.zero_add, Nat.le_refl, Nat.not_lt_zero, Nat.succ_eq_add_one, Int.reduceNatCast, Int.cast_ofNat_Int, Int.reduceSub, Int.reduceMul, Int.reduceNeg, Int.reduceLE, Int.reduceLT, Int.reduceToNat, Int.reduceEq, Int.reduceNe, Int.reduceAdd, Option.some.injEq, kX0_fillReaches, rmX0_fillReaches, ↓ofX0_15, ↓ocX0_fillReaches_27, ↓spX0_pullOf, ↓ocX0_fillReaches_36, ↓ocX0_fillReaches_31]
  exact lpX0_fill2 hc hok (fun I' h1 h2 => ⟨trivial, h I' h1 h2⟩) 60 1 _ _ I (by omega) (by omega) (fun _ _ _ => rfl) (fun q q1 q2 => by omega)
def carI (T Q R : Int → Int) : Prop := gOK T Q ∧ ∀ p, 1 ≤ p → p ≤ 60 → R p = rch T Q p
/-- the least gear from g on by which 'to' is come to; 0: none (m: how many are left) -/
def gfr (T Q : Int → Int) (p to : Int) : Nat → Int → Int
  | 0, _ => 0
  | m + 1, g => if pul (T g) (Q g) p = to then g else gfr T Q p to m (g + 1)
def gear (T Q : Int → Int) (p : Int) : Int := if rch T Q p = p then 0 else gfr T Q p (rch T Q p) 6 1
def spX0_gearFor (As : List MV) (σ : MS) (K : Option MV → MS → Prop) : Prop := pR As fun a r => pI r fun p r => pN r (a = 35 ∧ cP σ.2.1 ∧ carI (σ.2.2.1 38) (σ.2.2.1 39) (σ.2.2.1 37) ∧ 1 ≤ p ∧ p ≤ 60 ∧ K (some (.inl (gear (σ.2.2.1 38) (σ.2.2.1 39) p))) σ)
def ciX0_gearFor : CI := (2, 0, 0, 0, spX0_gearFor)
def kX0_gearFor (pc : Nat) : List ME := match pc with
  | 0 => [(.aload_n 0, 1, []), (.getfield 15, 3, []), (.iload_n 1, 1, []), (.iaload, 1, []), (.iload_n 1, 1, []), (.if_icmp .ne 5, 3, [12]), (.iconst 0, 1, []), (.ireturn, 1, [])]
  | 12 => [(.iconst 1, 1, []), (.istore_n 2, 1, [])]
  | 14 => [(.iload_n 2, 1, []), (.bipush 6, 2, []), (.if_icmp .gt 26, 3, [43]), (.aload_n 0, 1, []), (.iload_n 2, 1, []), (.iload_n 1, 1, []), (.invokevirtual 27, 3, []), (.aload_n 0, 1, []), (.getfield 15, 3, []), (.iload_n 1, 1, []), (.iaload, 1, []), (.if_icmp .ne 5, 3, [37]), (.iload_n 2, 1, []), (.ireturn, 1, [])]
  | 37 => [(.iinc 2 1, 3, []), (.goto (-26), 3, [14])]
  | 43 => [(.iconst 0, 1, []), (.ireturn, 1, [])]
  | _ => []
theorem qX0_gearFor : ∀ pc, chk cX0_gearFor pc (kX0_gearFor pc) = true := by
  intro pc
  unfold kX0_gearFor
  split <;> first | decide +kernel | exact chk_nil
abbrev rmX0_gearFor : Room := { frames := 2, cells := 0, slots := 0, locals := 43 }
def aX0_gearFor (x : Nat) : Option CI := match x with
  | 27 => some ciX0_pullOf
  | _ => none
theorem aokX0_gearFor : ∀ x ci, aX0_gearFor x = some ci → CalOK RX0 rmX0_gearFor x ci := by
  intro x ci h
  unfold aX0_gearFor at h
  split at h
  · cases h; exact cal_V mX0_pullOf (by decide) rfl (List.forall_mem_cons.mpr ⟨(ws_mem (List.mem_of_getElem? (i := 149) (by decide +kernel)) (by decide +kernel)), List.forall_mem_cons.mpr ⟨(ws_mem (List.mem_of_getElem? (i := 151) (by decide +kernel)) (by decide +kernel)), List.forall_mem_cons.mpr ⟨(ws_mem (List.mem_of_getElem? (i := 1) (by decide +kernel)) (by decide +kernel)), List.forall_mem_cons.mpr ⟨(ws_mem (List.mem_of_getElem? (i := 57) (by decide +kernel)) (by decide +kernel)), List.forall_mem_cons.mpr ⟨(ws_mem (List.mem_of_getElem? (i := 152) (by decide +kernel)) (by decide +kernel)), fun _ h => absurd h List.not_mem_nil⟩⟩⟩⟩⟩) rfl (by unfold nice; decide +kernel) (by unfold rfits; decide) ⟨rfl, rfl⟩
  · cases h
theorem ocX0_gearFor_27 (f : Nat → Nat → Nat → Nat → (List MV → MS → (Option MV → MS → Prop) → Prop) → Prop) : oC aX0_gearFor 27 f = f 3 0 0 0 spX0_pullOf := propext Iff.rfl
theorem mdX0_gearFor : MD RX0 cX0_gearFor rmX0_gearFor kX0_gearFor fX0 aX0_gearFor zX0 uX0 := ⟨fokX0, zokX0, uokX0, aokX0_gearFor, qX0_gearFor⟩
set_option maxHeartbeats 800000 in
theorem lpX0_gear {K : Option MV → MS → Prop} {U : Pt → Prop} {N : Nat} {P : Int → Int → Option Int} {I L : Int → Int → Int} {p : Int} (hc : cP P) (hok : gOK (I 38) (I 39)) (hr : I 37 p = rch (I 38) (I 39) p) (p1 : 1 ≤ p) (p2 : p ≤ 60) : ∀ (m : Nat) (g : Int), 1 ≤ g → g + m = 7 → K (some (.inl (gfr (I 38) (I 39) p (I 37 p) m g))) (N, P, I, L) →
    Ok RX0 cX0_gearFor 3 rmX0_gearFor false none (fun r σ' => rfit (some .int) r ∧ K r σ') U (14, [some (.inr (.inr (some 35))), some (.inl p), some (.inl g)], [], (N, P, I, L), 0, 0)
  | 0, g, g1, hg, h => by
    refine Ok.seg mdX0_gearFor [14] 20 ?_
    simp only [wp_nil, wp_cons, ↓stp, ↓lI, ↓lL, ↓lR, ↓lIn_0, ↓lIn_1, ↓lIn_2, ↓lIn_3, ↓lLn_0, ↓lLn_1, ↓lLn_2, ↓lLn_3, ↓lRn_0, ↓lRn_1, ↓lRn_2, ↓lRn_3, ↓pI, ↓pL, ↓pR, ↓pA, ↓pN, ↓pV, ↓fp, ↓tsw, ↓oS, ↓spMax, ↓spMin, ↓spAbs, ↓spObj, RI, RLg, b2i_lo, b2i_hi, getL, setL, ltL, killL, isLong, inl, cnd, br, tgt, rcv, rpl, mputI, mputL, mputP, fv, fr, mcat, mcs, entL, entA, rfit, nf_0, nf_1, nf_2, nf_3, nf2_0, nf2_1, b2i_0, b2i_1, RI_b2i, b2i_fit, List.append, List.length, List.replicate, List.cons_append, List.nil_append, List.length_cons, List.length_nil, List.replicate_succ, List.replicate_zero, List.tail_cons, reduceIte, if_true, if_false, ite_true, ite_false, Bool.false_eq_true, true_and, and_true, and_self, false_and, and_false, or_self, or_true, true_or, or_false, false_or, not_true_eq_false, not_false_eq_true, ne_eq, forall_const, implies_true, imp_self, true_implies, false_implies, Nat.reduceAdd, Nat.reduceSub, Nat.reduceMul, Nat.reduceDiv, Nat.reduceMod, Nat.reduceEqDiff, Nat.reduceLT, Nat.reduceLeDiff, Nat.reduceBEq, Nat.add_zero, Nat.zero_add, Nat.le_refl, Nat.not_lt_zero, Nat.succ_eq_add_one, Int.reduceNatCast, Int.cast_ofNat_Int, Int.reduceSub, Int.reduceMul, Int.reduceNeg, Int.reduceLE, Int.reduceLT, Int.reduceToNat, Int.reduceEq, Int.reduceNe, Int.reduceAdd, Option.some.injEq, kX0_gearFor, rmX0_gearFor, ↓ofX0_15, ↓ocX0_gearFor_27, ↓spX0_pullOf, hc, G_35]
    repeat' (first | apply And.intro | intro _)
    all_goals first | omega | exact h
  | m + 1, g, g1, hg, h => by
    have hc2 := hc
    obtain ⟨c0, c1, c2, c3⟩ := hc2
    have w := hok g (by omega) (by omega)
    have w2 := pul_rng (p := p) w.2.1 w.2.2.1 p2
    have w3 := rch_rng hok p2
    refine Ok.seg mdX0_gearFor [14] 30 ?_
    simp only [wp_nil, wp_cons, ↓stp, ↓lI, ↓lL, ↓lR, ↓lIn_0, ↓lIn_1, ↓lIn_2, ↓lIn_3, ↓lLn_0, ↓lLn_1, ↓lLn_2, ↓lLn_3, ↓lRn_0, ↓lRn_1, ↓lRn_2, ↓lRn_3, ↓pI, ↓pL, ↓pR, ↓pA, ↓pN, ↓pV, ↓fp, ↓tsw, ↓oS, ↓spMax, ↓spMin, ↓spAbs, ↓spObj, RI, RLg, b2i_lo, b2i_hi, getL, setL, ltL, killL, isLong, inl, cnd, br, tgt, rcv, rpl, mputI, mputL, mputP, fv, fr, mcat, mcs, entL, entA, rfit, nf_0, nf_1, nf_2, nf_3, nf2_0, nf2_1, b2i_0, b2i_1, RI_b2i, b2i_fit, List.append, List.length, List.replicate, List.cons_append, List.nil_append, List.length_cons, List.length_nil, List.replicate_succ, List.replicate_zero, List.tail_cons, reduceIte, if_true, if_false, ite_true, ite_false, Bool.false_eq_true, true_and, and_true, and_self, false_and, and_false, or_self, or_true, true_or, or_false, false_or, not_true_eq_false, not_false_eq_true, ne_eq, forall_const, implies_true, imp_self, true_implies, false_implies, Nat.reduceAdd, Nat.reduceSub, Nat.reduceMul, Nat.reduceDiv, Nat.reduceMod, Nat.reduceEqDiff, Nat.reduceLT, Nat.reduceLeDiff, Nat.reduceBEq, Nat.add_zero, Nat.zero_add, Nat.le_refl, Nat.not_lt_zero, Nat.succ_eq_add_one, Int.reduceNatCast, Int.cast_ofNat_Int, Int.reduceSub, Int.reduceMul, Int.reduceNeg, Int.reduceLE, Int.reduceLT, Int.reduceToNat, Int.reduceEq, Int.reduceNe, Int.reduceAdd, Option.some.injEq, kX0_gearFor, rmX0_gearFor, ↓ofX0_15, ↓ocX0_gearFor_27, ↓spX0_pullOf, hc, G_35, G_37, c1]
    unfold gfr at h
    refine ⟨by omega, fun _ => by omega, fun _ => ⟨hok, by omega, by omega, by omega, by omega, by omega, by omega, by omega, by omega, fun q => ?_, fun q => ?_⟩⟩
    · rw [if_neg q] at h
      exact lpX0_gear hc hok hr p1 p2 m (g + 1) (by omega) (by omega) h
    · rw [if_pos (Classical.not_not.mp q)] at h
      exact h
set_option maxRecDepth 100000 in
set_option maxHeartbeats 800000 in
theorem mX0_gearFor : MOK yX0_gearFor cX0_gearFor 3 (some .int) rmX0_gearFor ciX0_gearFor := by
  refine mok_of (ini := false) (by decide +kernel) (by decide) rfl rfl ?_
  intro σ As K hrc hl h
  obtain ⟨N, P, I, L⟩ := σ
  have h9 := pR_iff.mp h
  clear h
  obtain ⟨a, r, e9, h⟩ := h9
  subst e9
  have h9 := pI_iff.mp h
  clear h
  obtain ⟨p, r, e9, h⟩ := h9
  subst e9
  have h9 := pN_iff.mp h
  clear h
  obtain ⟨e9, h⟩ := h9
  subst e9
  dsimp only at h
  obtain ⟨rfl, hc, ⟨hok, hr⟩, p1, p2, h⟩ := h
  have hc2 := hc
  obtain ⟨c0, c1, c2, c3⟩ := hc2
  have e := hr p p1 p2
  have w3 := rch_rng hok p2
  unfold gear at h
  refine ⟨Nat.le_of_ble_eq_true rfl, Ok.seg mdX0_gearFor [14] 30 ?_⟩
  simp only [wp_nil, wp_cons, ↓stp, ↓lI, ↓lL, ↓lR, ↓lIn_0, ↓lIn_1, ↓lIn_2, ↓lIn_3, ↓lLn_0, ↓lLn_1, ↓lLn_2, ↓lLn_3, ↓lRn_0, ↓lRn_1, ↓lRn_2, ↓lRn_3, ↓pI, ↓pL, ↓pR, ↓pA, ↓pN, ↓pV, ↓fp, ↓tsw, ↓oS, ↓spMax, ↓spMin, ↓spAbs, ↓spObj, RI, RLg, b2i_lo, b2i_hi, getL, setL, ltL, killL, isLong, inl, cnd, br, tgt, rcv, rpl, mputI, mputL, mputP, fv, fr, mcat, mcs, entL, entA, rfit, nf_0, nf_1, nf_2, nf_3, nf2_0, nf2_1, b2i_0, b2i_1, RI_b2i, b2i_fit, List.append, List.length, List.replicate, List.cons_append, List.nil_append, List.length_cons, List.length_nil, List.replicate_succ, List.replicate_zero, List.tail_cons, reduceIte, if_true, if_false, ite_true, ite_false, Bool.false_eq_true, true_and, and_true, and_self, false_and, and_false, or_self, or_true, true_or, or_false, false_or, not_true_eq_false, not_false_eq_true, ne_eq, forall_const, implies_true, imp_self, true_implies, false_implies, Nat.reduceAdd, Nat.reduceSub, Nat.reduceMul, Nat.reduceDiv, Nat.reduceMod, Nat.reduceEqDiff, Nat.reduceLT, Nat.reduceLeDiff, Nat.reduceBEq, Nat.add_zero, Nat.zero_add, Nat.le_refl, Nat.not_lt_zero, Nat.succ_eq_add_one, Int.reduceNatCast, Int.cast_ofNat_Int, Int.reduceSub, Int.reduceMul, Int.reduceNeg, Int.reduceLE, Int.reduceLT, Int.reduceToNat, Int.reduceEq, Int.reduceNe, Int.reduceAdd, Option.some.injEq, kX0_gearFor, rmX0_gearFor, ↓ofX0_15, ↓ocX0_gearFor_27, ↓spX0_pullOf, hc, G_35, G_37, c1, e]
  refine ⟨by omega, by omega, by omega, by omega, fun q => ?_, fun q => ?_⟩
  · rw [if_neg (by omega), ← e] at h
    exact lpX0_gear hc hok e p1 p2 6 1 (by omega) (by omega) h
  · rw [if_pos (by omega)] at h; exact h
def spX0_changeGear (As : List MV) (σ : MS) (K : Option MV → MS → Prop) : Prop := pR As fun a r => pI r fun g r => pI r fun t r => pI r fun q r => pN r (a = 35 ∧ cP σ.2.1 ∧ carI (σ.2.2.1 38) (σ.2.2.1 39) (σ.2.2.1 37) ∧ 1 ≤ g ∧ g ≤ 6 ∧ 1 ≤ t ∧ t ≤ 60 ∧ 1 ≤ q ∧ q ≤ 20 ∧
  ((σ.2.2.1 38 g = t ∧ σ.2.2.1 39 g = q) → K (some (.inl 0)) σ) ∧ (¬ (σ.2.2.1 38 g = t ∧ σ.2.2.1 39 g = q) → ∀ I' : Int → Int → Int, (∀ b j, b ≠ 37 → b ≠ 38 → b ≠ 39 → I' b j = σ.2.2.1 b j) → (∀ j, I' 38 j = if j = g then t else σ.2.2.1 38 j) → (∀ j, I' 39 j = if j = g then q else σ.2.2.1 39 j) → carI (I' 38) (I' 39) (I' 37) → K (some (.inl 1)) (σ.1, σ.2.1, I', σ.2.2.2)))
def ciX0_changeGear : CI := (4, 0, 0, 0, spX0_changeGear)
def kX0_changeGear (pc : Nat) : List ME := match pc with
  | 0 => [(.iload_n 1, 1, []), (.iconst 1, 1, []), (.if_icmp .lt 29, 3, [31]), (.iload_n 1, 1, []), (.bipush 6, 2, []), (.if_icmp .gt 23, 3, [31]), (.aload_n 0, 1, []), (.getfield 18, 3, []), (.iload_n 1, 1, []), (.iaload, 1, []), (.iload_n 2, 1, []), (.if_icmp .ne 15, 3, [33]), (.aload_n 0, 1, []), (.getfield 21, 3, []), (.iload_n 1, 1, []), (.iaload, 1, []), (.iload_n 3, 1, []), (.if_icmp .ne 5, 3, [33])]
  | 31 => [(.iconst 0, 1, []), (.ireturn, 1, [])]
  | 33 => [(.aload_n 0, 1, []), (.getfield 18, 3, []), (.iload_n 1, 1, []), (.iload_n 2, 1, []), (.iastore, 1, []), (.aload_n 0, 1, []), (.getfield 21, 3, []), (.iload_n 1, 1, []), (.iload_n 3, 1, []), (.iastore, 1, []), (.aload_n 0, 1, []), (.invokevirtual 24, 3, []), (.iconst 1, 1, []), (.ireturn, 1, [])]
  | _ => []
theorem qX0_changeGear : ∀ pc, chk cX0_changeGear pc (kX0_changeGear pc) = true := by
  intro pc
  unfold kX0_changeGear
  split <;> first | decide +kernel | exact chk_nil
abbrev rmX0_changeGear : Room := { frames := 3, cells := 0, slots := 0, locals := 66 }
def aX0_changeGear (x : Nat) : Option CI := match x with
  | 24 => some ciX0_fillReaches
  | _ => none
theorem aokX0_changeGear : ∀ x ci, aX0_changeGear x = some ci → CalOK RX0 rmX0_changeGear x ci := by
  intro x ci h
  unfold aX0_changeGear at h
  split at h
  · cases h; exact cal_V mX0_fillReaches (by decide) rfl (List.forall_mem_cons.mpr ⟨(ws_mem (List.mem_of_getElem? (i := 145) (by decide +kernel)) (by decide +kernel)), List.forall_mem_cons.mpr ⟨(ws_mem (List.mem_of_getElem? (i := 147) (by decide +kernel)) (by decide +kernel)), List.forall_mem_cons.mpr ⟨(ws_mem (List.mem_of_getElem? (i := 0) (by decide +kernel)) (by decide +kernel)), List.forall_mem_cons.mpr ⟨(ws_mem (List.mem_of_getElem? (i := 57) (by decide +kernel)) (by decide +kernel)), List.forall_mem_cons.mpr ⟨(ws_mem (List.mem_of_getElem? (i := 148) (by decide +kernel)) (by decide +kernel)), fun _ h => absurd h List.not_mem_nil⟩⟩⟩⟩⟩) rfl (by unfold nice; decide +kernel) (by unfold rfits; decide) ⟨rfl, rfl⟩
  · cases h
theorem ocX0_changeGear_24 (f : Nat → Nat → Nat → Nat → (List MV → MS → (Option MV → MS → Prop) → Prop) → Prop) : oC aX0_changeGear 24 f = f 1 0 0 0 spX0_fillReaches := propext Iff.rfl
theorem mdX0_changeGear : MD RX0 cX0_changeGear rmX0_changeGear kX0_changeGear fX0 aX0_changeGear zX0 uX0 := ⟨fokX0, zokX0, uokX0, aokX0_changeGear, qX0_changeGear⟩
set_option maxRecDepth 100000 in
set_option maxHeartbeats 800000 in
theorem mX0_changeGear : MOK yX0_changeGear cX0_changeGear 4 (some .boolean) rmX0_changeGear ciX0_changeGear := by
  refine mok_of (ini := false) (by decide +kernel) (by decide) rfl rfl ?_
  intro σ As K hrc hl h
  obtain ⟨N, P, I, L⟩ := σ
  have h9 := pR_iff.mp h
  clear h
  obtain ⟨a, r, e9, h⟩ := h9
  subst e9
  have h9 := pI_iff.mp h
  clear h
  obtain ⟨g, r, e9, h⟩ := h9
  subst e9
  have h9 := pI_iff.mp h
  clear h
  obtain ⟨t, r, e9, h⟩ := h9
  subst e9
  have h9 := pI_iff.mp h
  clear h
  obtain ⟨q, r, e9, h⟩ := h9
  subst e9
  have h9 := pN_iff.mp h
  clear h
  obtain ⟨e9, h⟩ := h9
  subst e9
  dsimp only at h
  obtain ⟨rfl, hc, ⟨hok, hr⟩, g1, g2, t1, t2, q1, q2, h0, h1⟩ := h
  have hc2 := hc
  obtain ⟨c0, c1, c2, c3⟩ := hc2
  have w := hok g g1 g2
  have key : ¬ (I 38 g = t ∧ I 39 g = q) → gOK (upI (upI I 38 g t) 39 g q 38) (upI (upI I 38 g t) 39 g q 39) ∧ ∀ I' : Int → Int → Int, (∀ b j, b ≠ 37 → I' b j = upI (upI I 38 g t) 39 g q b j) → (∀ p, 1 ≤ p → p ≤ 60 → I' 37 p = rch (upI (upI I 38 g t) 39 g q 38) (upI (upI I 38 g t) 39 g q 39) p) → K (some (.inl 1)) (N, P, I', L) := fun hne => by
    have a38 : ∀ j, upI (upI I 38 g t) 39 g q 38 j = if j = g then t else I 38 j := fun j => by
      unfold upI
      rw [if_neg (fun z => by have := z.1; omega)]
      by_cases e : j = g
      · rw [if_pos ⟨rfl, e⟩, if_pos e]
      · rw [if_neg (fun z => e z.2), if_neg e]
    have a39 : ∀ j, upI (upI I 38 g t) 39 g q 39 j = if j = g then q else I 39 j := fun j => by
      unfold upI
      by_cases e : j = g
      · rw [if_pos ⟨rfl, e⟩, if_pos e]
      · rw [if_neg (fun z => e z.2), if_neg e, if_neg (fun z => by have := z.1; omega)]
    have hk : gOK (upI (upI I 38 g t) 39 g q 38) (upI (upI I 38 g t) 39 g q 39) := fun i i1 i2 => by
      rw [a38, a39]
      have := hok i i1 i2
      by_cases e : i = g
      · rw [if_pos e, if_pos e]; omega
      · rw [if_neg e, if_neg e]; exact this
    refine ⟨hk, fun I' h2 h3 => h1 hne I' (fun b j b1 b2 b3 => ?_) (fun j => ?_) (fun j => ?_) ⟨?_, ?_⟩⟩
    · rw [h2 b j b1, upI_ne b3, upI_ne b2]
    · rw [h2 38 j (by decide), a38]
    · rw [h2 39 j (by decide), a39]
    · rw [show I' 38 = _ from funext fun j => h2 38 j (by decide), show I' 39 = _ from funext fun j => h2 39 j (by decide)]; exact hk
    · rw [show I' 38 = _ from funext fun j => h2 38 j (by decide), show I' 39 = _ from funext fun j => h2 39 j (by decide)]; exact h3
  refine ⟨Nat.le_of_ble_eq_true rfl, Ok.seg mdX0_changeGear [] 60 ?_⟩
  simp only [wp_nil, wp_cons, ↓stp, ↓lI, ↓lL, ↓lR, ↓lIn_0, ↓lIn_1, ↓lIn_2, ↓lIn_3, ↓lLn_0, ↓lLn_1, ↓lLn_2, ↓lLn_3, ↓lRn_0, ↓lRn_1, ↓lRn_2, ↓lRn_3, ↓pI, ↓pL, ↓pR, ↓pA, ↓pN, ↓pV, ↓fp, ↓tsw, ↓oS, ↓spMax, ↓spMin, ↓spAbs, ↓spObj, RI, RLg, b2i_lo, b2i_hi, getL, setL, ltL, killL, isLong, inl, cnd, br, tgt, rcv, rpl, mputI, mputL, mputP, fv, fr, mcat, mcs, entL, entA, rfit, nf_0, nf_1, nf_2, nf_3, nf2_0, nf2_1, b2i_0, b2i_1, RI_b2i, b2i_fit, List.append, List.length, List.replicate, List.cons_append, List.nil_append, List.length_cons, List.length_nil, List.replicate_succ, List.replicate_zero, List.tail_cons, reduceIte, if_true, if_false, ite_true, ite_false, Bool.false_eq_true, true_and, and_true, and_self, false_and, and_false, or_self, or_true, true_or, or_false, false_or, not_true_eq_false, not_false_eq_true, ne_eq, forall_const, implies_true, imp_self, true_implies, false_implies, Nat.reduceAdd, Nat.reduceSub, Nat.reduceMul, Nat.reduceDiv, Nat.reduceMod, Nat.reduceEqDiff, Nat.reduceLT, Nat.reduceLeDiff, Nat.reduceBEq, Nat.add_zero, Nat.zero_add, Nat.le_refl, Nat.not_lt_zero, Nat.succ_eq_add_one, Int.reduceNatCast, Int.cast_ofNat_Int, Int.reduceSub, Int.reduceMul, Int.reduceNeg, Int.reduceLE, Int.reduceLT, Int.reduceToNat, Int.reduceEq, Int.reduceNe, Int.reduceAdd, Option.some.injEq, kX0_changeGear, rmX0_changeGear, ↓ofX0_18, ↓ofX0_21, ↓ocX0_changeGear_24, ↓spX0_fillReaches, hc, G_35, G_38, G_39, c2, c3]
  repeat' (first | exact (key (by omega)).1 | apply And.intro | intro _)
  all_goals first | omega | exact h0 ⟨by omega, by omega⟩ | exact (key (by omega)).2 _ (by assumption) (by assumption)
