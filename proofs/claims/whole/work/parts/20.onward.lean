/-! the least of a set, capped; LapBoard$Ways.fillOnward -/
def dif (l l' : Int) : Int := if l' = l then 0 else 1
def nr (l l' : Int) : Prop := l - 1 ≤ l' ∧ l' ≤ l + 1 ∧ 0 ≤ l' ∧ l' ≤ 2
/-- v is the least of S, F if S has none below -/
def Lst (S : Int → Prop) (F v : Int) : Prop := (v = F ∨ S v) ∧ v ≤ F ∧ ∀ x, S x → v ≤ x
theorem Lst.add {S S' : Int → Prop} {F v w m : Int} (h : Lst S F v) (e : ∀ y, S' y ↔ S y ∨ y = w) (h1 : m ≤ v) (h2 : m ≤ w) (h3 : m = v ∨ m = w) : Lst S' F m := by
  obtain ⟨a, b, c⟩ := h
  refine ⟨?_, by omega, fun x hx => ?_⟩
  · rcases h3 with rfl | rfl
    · rcases a with a | a
      · exact .inl a
      · exact .inr ((e _).mpr (.inl a))
    · exact .inr ((e _).mpr (.inr rfl))
  · rcases (e x).mp hx with q | q
    · have := c x q; omega
    · omega
theorem Lst.cg {S S' : Int → Prop} {F v : Int} (h : Lst S F v) (e : ∀ y, S' y ↔ S y) : Lst S' F v :=
  ⟨h.1.imp id (fun q => (e _).mpr q), h.2.1, fun x hx => h.2.2 x ((e x).mp hx)⟩
theorem Lst.none {S : Int → Prop} {F : Int} (h : ∀ y, ¬ S y) : Lst S F F := ⟨.inl rfl, by omega, fun x hx => (h x hx).elim⟩
theorem Lst.uniq {S : Int → Prop} {F v w : Int} (h : Lst S F v) (h' : Lst S F w) : v = w := by
  obtain ⟨a, b, c⟩ := h
  obtain ⟨a', b', c'⟩ := h'
  rcases a with a | a <;> rcases a' with a' | a'
  · omega
  · have := c _ a'; omega
  · have := c' _ a; omega
  · have := c _ a'; have := c' _ a; omega
theorem dif_rng (l l' : Int) : dif l l' = 0 ∨ dif l l' = 1 := by unfold dif; split <;> simp
/-- what may come of going to station j from lane l at pace q, by lanes below x -/
def onS (I : Int → Int → Int) (j l x q y : Int) : Prop := ∃ l', nr l l' ∧ l' < x ∧ q ≤ I 48 (3 * j + l') ∧ y = tmv (I (5 + j) 1) (dif l l') q + I (50 + (3 * j + l')) q
def rowR (I : Int → Int → Int) (i l : Int) : Prop := ∀ q, 1 ≤ q → q ≤ 60 → 0 ≤ I (50 + (3 * i + l)) q ∧ I (50 + (3 * i + l)) q ≤ 536870912
def spX7_fillOnward (As : List MV) (σ : MS) (K : Option MV → MS → Prop) : Prop := pR As fun a r => pI r fun j r => pI r fun l r => pN r (a = 2 ∧ σ.2.1 = PF ∧ 0 ≤ j ∧ j < 30 ∧ 0 ≤ l ∧ l ≤ 2 ∧ stOK σ.2.2.1 (5 + j) ∧ (∀ l', 0 ≤ l' → l' ≤ 2 → 1 ≤ σ.2.2.1 48 (3 * j + l') ∧ σ.2.2.1 48 (3 * j + l') ≤ 60 ∧ rowR σ.2.2.1 j l') ∧
  ∀ I' : Int → Int → Int, (∀ b k, b ≠ 140 → I' b k = σ.2.2.1 b k) → (∀ q, 1 ≤ q → q ≤ 60 → Lst (onS σ.2.2.1 j l 3 q) 536870912 (I' 140 q)) → K none (σ.1, σ.2.1, I', σ.2.2.2))
def ciX7_fillOnward : CI := (3, 7, 0, 0, spX7_fillOnward)
def kX7_fillOnward (pc : Nat) : List ME := match pc with
  | 0 => [(.aload_n 0, 1, []), (.getfield 44, 3, []), (.ldc 139, 2, []), (.invokestatic 59, 3, []), (.iconst 0, 1, []), (.iload_n 2, 1, []), (.iconst 1, 1, []), (.isub, 1, []), (.invokestatic 140, 3, []), (.istore_n 3, 1, [])]
  | 17 => [(.iload_n 3, 1, []), (.iconst 3, 1, []), (.if_icmp .ge 114, 3, [133]), (.iload_n 3, 1, []), (.iload_n 2, 1, []), (.iconst 1, 1, []), (.iadd, 1, []), (.if_icmp .gt 107, 3, [133]), (.aload_n 0, 1, []), (.getfield 41, 3, []), (.iconst 3, 1, []), (.iload_n 1, 1, []), (.imul, 1, []), (.iload_n 3, 1, []), (.iadd, 1, []), (.aaload, 1, []), (.astore 4, 2, []), (.aload_n 0, 1, []), (.getfield 35, 3, []), (.iconst 3, 1, []), (.iload_n 1, 1, []), (.imul, 1, []), (.iload_n 3, 1, []), (.iadd, 1, []), (.iaload, 1, []), (.istore 5, 2, []), (.iconst 1, 1, []), (.istore 6, 2, [])]
  | 56 => [(.iload 6, 2, []), (.iload 5, 2, []), (.if_icmp .gt 67, 3, [127]), (.iload 6, 2, []), (.bipush 60, 2, []), (.if_icmp .gt 60, 3, [127]), (.aload_n 0, 1, []), (.getfield 12, 3, []), (.getfield 87, 3, []), (.iload_n 1, 1, []), (.aaload, 1, []), (.iload 6, 2, []), (.iload_n 3, 1, []), (.iload_n 2, 1, []), (.if_icmp .eq 7, 3, [90]), (.iconst 1, 1, []), (.goto 4, 3, [91])]
  | 90 => [(.iconst 0, 1, [])]
  | 91 => [(.invokevirtual 143, 3, []), (.istore 7, 2, []), (.aload_n 0, 1, []), (.getfield 44, 3, []), (.iload 6, 2, []), (.aload_n 0, 1, []), (.getfield 44, 3, []), (.iload 6, 2, []), (.iaload, 1, []), (.iload 7, 2, []), (.aload 4, 2, []), (.iload 6, 2, []), (.iaload, 1, []), (.iadd, 1, []), (.invokestatic 114, 3, []), (.iastore, 1, []), (.iinc 6 1, 3, []), (.goto (-68), 3, [56])]
  | 127 => [(.iinc 3 1, 3, []), (.goto (-113), 3, [17])]
  | 133 => [(.return_, 1, [])]
  | _ => []
theorem qX7_fillOnward : ∀ pc, chk cX7_fillOnward pc (kX7_fillOnward pc) = true := by
  intro pc
  unfold kX7_fillOnward
  split <;> first | decide +kernel | exact chk_nil
abbrev rmX7_fillOnward : Room := { frames := 1, cells := 0, slots := 0, locals := 23 }
def aX7_fillOnward (x : Nat) : Option CI := match x with
  | 59 => some ciJ7_fill_53178
  | 140 => some ciMax
  | 143 => some ciX3_timeAt
  | 114 => some ciMin
  | _ => none
theorem aokX7_fillOnward : ∀ x ci, aX7_fillOnward x = some ci → CalOK RX7 rmX7_fillOnward x ci := by
  intro x ci h
  unfold aX7_fillOnward at h
  split at h
  · cases h; exact cal_S mJ7_fill_53178 rfl (List.forall_mem_cons.mpr ⟨(ws_mem (List.mem_of_getElem? (i := 207) (by decide +kernel)) (by decide +kernel)), List.forall_mem_cons.mpr ⟨(ws_mem (List.mem_of_getElem? (i := 208) (by decide +kernel)) (by decide +kernel)), List.forall_mem_cons.mpr ⟨(ws_mem (List.mem_of_getElem? (i := 60) (by decide +kernel)) (by decide +kernel)), List.forall_mem_cons.mpr ⟨(ws_mem (List.mem_of_getElem? (i := 209) (by decide +kernel)) (by decide +kernel)), fun _ h => absurd h List.not_mem_nil⟩⟩⟩⟩) rfl (by unfold nice; decide +kernel) (by unfold rfits; decide) ⟨rfl, rfl⟩
  · cases h; exact cal_max (List.forall_mem_cons.mpr ⟨(ws_mem (List.mem_of_getElem? (i := 487) (by decide +kernel)) (by decide +kernel)), List.forall_mem_cons.mpr ⟨(ws_mem (List.mem_of_getElem? (i := 157) (by decide +kernel)) (by decide +kernel)), List.forall_mem_cons.mpr ⟨(ws_mem (List.mem_of_getElem? (i := 58) (by decide +kernel)) (by decide +kernel)), List.forall_mem_cons.mpr ⟨(ws_mem (List.mem_of_getElem? (i := 158) (by decide +kernel)) (by decide +kernel)), fun _ h => absurd h List.not_mem_nil⟩⟩⟩⟩) (by decide)
  · cases h; exact cal_V mX3_timeAt (by decide) rfl (List.forall_mem_cons.mpr ⟨(ws_mem (List.mem_of_getElem? (i := 488) (by decide +kernel)) (by decide +kernel)), List.forall_mem_cons.mpr ⟨(ws_mem (List.mem_of_getElem? (i := 458) (by decide +kernel)) (by decide +kernel)), List.forall_mem_cons.mpr ⟨(ws_mem (List.mem_of_getElem? (i := 459) (by decide +kernel)) (by decide +kernel)), List.forall_mem_cons.mpr ⟨(ws_mem (List.mem_of_getElem? (i := 56) (by decide +kernel)) (by decide +kernel)), List.forall_mem_cons.mpr ⟨(ws_mem (List.mem_of_getElem? (i := 460) (by decide +kernel)) (by decide +kernel)), fun _ h => absurd h List.not_mem_nil⟩⟩⟩⟩⟩) rfl (by unfold nice; decide +kernel) (by unfold rfits; decide) ⟨rfl, rfl⟩
  · cases h; exact cal_min (List.forall_mem_cons.mpr ⟨(ws_mem (List.mem_of_getElem? (i := 489) (by decide +kernel)) (by decide +kernel)), List.forall_mem_cons.mpr ⟨(ws_mem (List.mem_of_getElem? (i := 154) (by decide +kernel)) (by decide +kernel)), List.forall_mem_cons.mpr ⟨(ws_mem (List.mem_of_getElem? (i := 58) (by decide +kernel)) (by decide +kernel)), List.forall_mem_cons.mpr ⟨(ws_mem (List.mem_of_getElem? (i := 155) (by decide +kernel)) (by decide +kernel)), fun _ h => absurd h List.not_mem_nil⟩⟩⟩⟩) (by decide)
  · cases h
theorem ocX7_fillOnward_59 (f : Nat → Nat → Nat → Nat → (List MV → MS → (Option MV → MS → Prop) → Prop) → Prop) : oC aX7_fillOnward 59 f = f 2 10 0 0 spJ7_fill_53178 := propext Iff.rfl
theorem ocX7_fillOnward_140 (f : Nat → Nat → Nat → Nat → (List MV → MS → (Option MV → MS → Prop) → Prop) → Prop) : oC aX7_fillOnward 140 f = f 2 10 0 0 spMax := propext Iff.rfl
theorem ocX7_fillOnward_143 (f : Nat → Nat → Nat → Nat → (List MV → MS → (Option MV → MS → Prop) → Prop) → Prop) : oC aX7_fillOnward 143 f = f 3 3 0 0 spX3_timeAt := propext Iff.rfl
theorem ocX7_fillOnward_114 (f : Nat → Nat → Nat → Nat → (List MV → MS → (Option MV → MS → Prop) → Prop) → Prop) : oC aX7_fillOnward 114 f = f 2 10 0 0 spMin := propext Iff.rfl
theorem mdX7_fillOnward : MD RX7 cX7_fillOnward rmX7_fillOnward kX7_fillOnward fX7 aX7_fillOnward zX7 uX7 := ⟨fokX7, zokX7, uokX7, aokX7_fillOnward, qX7_fillOnward⟩
theorem onS_s {I : Int → Int → Int} {j l x q : Int} (hn : nr l x) (hq : q ≤ I 48 (3 * j + x)) (y : Int) : onS I j l (x + 1) q y ↔ onS I j l x q y ∨ y = tmv (I (5 + j) 1) (dif l x) q + I (50 + (3 * j + x)) q := by
  unfold onS
  constructor
  · rintro ⟨l', a, b, c, d⟩
    by_cases e : l' = x
    · subst e; exact .inr d
    · exact .inl ⟨l', a, by omega, c, d⟩
  · rintro (⟨l', a, b, c, d⟩ | d)
    · exact ⟨l', a, by omega, c, d⟩
    · exact ⟨x, hn, by omega, hq, d⟩
theorem onS_no {I : Int → Int → Int} {j l x q : Int} (h : ¬ nr l x ∨ I 48 (3 * j + x) < q) (y : Int) : onS I j l (x + 1) q y ↔ onS I j l x q y := by
  unfold onS
  constructor
  · rintro ⟨l', a, b, c, d⟩
    by_cases e : l' = x
    · subst e
      rcases h with h | h
      · exact (h a).elim
      · omega
    · exact ⟨l', a, by omega, c, d⟩
  · rintro ⟨l', a, b, c, d⟩
    exact ⟨l', a, by omega, c, d⟩
set_option maxHeartbeats 1600000 in
set_option maxRecDepth 100000 in
theorem lpX7_on1 {post : Option MV → MS → Prop} {U : Pt → Prop} {N : Nat} {I L : Int → Int → Int} {j l x : Int} (j0 : 0 ≤ j) (j1 : j < 30) (l0 : 0 ≤ l) (l1 : l ≤ 2) (hx : nr l x) (hs : stOK I (5 + j)) (hl' : ∀ l', 0 ≤ l' → l' ≤ 2 → 1 ≤ I 48 (3 * j + l') ∧ I 48 (3 * j + l') ≤ 60 ∧ rowR I j l')
    (h : ∀ (I1 : Int → Int → Int) (p t : Option MV), (∀ b k, b ≠ 140 → I1 b k = I b k) → (∀ q, 1 ≤ q → q ≤ 60 → Lst (onS I j l (x + 1) q) 536870912 (I1 140 q)) → Ok RX7 cX7_fillOnward 8 rmX7_fillOnward false none post U (17, [some (.inr (.inr (some 2))), some (.inl j), some (.inl l), some (.inl (x + 1)), some (.inr (.inr (some (50 + (3 * j + x))))), some (.inl (I 48 (3 * j + x))), p, t], [], (N, PF, I1, L), 0, 0)) :
    ∀ (m : Nat) (p : Int) (I1 : Int → Int → Int) (t : Option MV), 1 ≤ p → p + m = 61 → (∀ b k, b ≠ 140 → I1 b k = I b k) → (∀ q, 1 ≤ q → q < p → Lst (onS I j l (x + 1) q) 536870912 (I1 140 q)) → (∀ q, p ≤ q → q ≤ 60 → Lst (onS I j l x q) 536870912 (I1 140 q)) →
    Ok RX7 cX7_fillOnward 8 rmX7_fillOnward false none post U (56, [some (.inr (.inr (some 2))), some (.inl j), some (.inl l), some (.inl x), some (.inr (.inr (some (50 + (3 * j + x))))), some (.inl (I 48 (3 * j + x))), some (.inl p), t], [], (N, PF, I1, L), 0, 0)
  | 0, p, I1, t, p0, hm, h1, h2, h3 => by
    have hl := hl' x hx.2.2.1 hx.2.2.2
    unfold nr at hx
    refine Ok.seg mdX7_fillOnward [17, 56] 20 ?_
    simp only [wp_nil, wp_cons, ↓stp, ↓lI, ↓lL, ↓lR, ↓lIn_0, ↓lIn_1, ↓lIn_2, ↓lIn_3, ↓lLn_0, ↓lLn_1, ↓lLn_2, ↓lLn_3, ↓lRn_0, ↓lRn_1, ↓lRn_2, ↓lRn_3, ↓pI, ↓pL, ↓pR, ↓pA, ↓pN, ↓pV, ↓fp, ↓tsw, ↓oS, ↓spMax, ↓spMin, ↓spAbs, ↓spObj, RI, RLg, b2i_lo, b2i_hi, getL, setL, ltL, killL, isLong, inl, cnd, br, tgt, rcv, rpl, mputI, mputL, mputP, fv, fr, mcat, mcs, entL, entA, rfit, nf_0, nf_1, nf_2, nf_3, nf2_0, nf2_1, b2i_0, b2i_1, RI_b2i, b2i_fit, List.append, List.length, List.replicate, List.cons_append, List.nil_append, List.length_cons, List.length_nil, List.replicate_succ, List.replicate_zero, List.tail_cons, reduceIte, if_true, if_false, ite_true, ite_false, Bool.false_eq_true, true_and, and_true, and_self, false_and, and_false, or_self, or_true, true_or, or_false, false_or, not_true_eq_false, not_false_eq_true, ne_eq, forall_const, implies_true, imp_self, true_implies, false_implies, Nat.reduceAdd, Nat.reduceSub, Nat.reduceMul, Nat.reduceDiv, Nat.reduceMod, Nat.reduceEqDiff, Nat.reduceLT, Nat.reduceLeDiff, Nat.reduceBEq, Nat.add_zero, Nat.zero_add, Nat.le_refl, Nat.not_lt_zero, Nat.succ_eq_add_one, Int.reduceNatCast, Int.cast_ofNat_Int, Int.reduceSub, Int.reduceMul, Int.reduceNeg, Int.reduceLE, Int.reduceLT, Int.reduceToNat, Int.reduceEq, Int.reduceNe, Int.reduceAdd, Option.some.injEq, kX7_fillOnward, rmX7_fillOnward, ↓ofX7_12, ↓ofX7_35, ↓ofX7_41, ↓ofX7_44, ↓ofX7_87, ↓ozX7_139, ↓ocX7_fillOnward_59, ↓spJ7_fill_53178, ↓ocX7_fillOnward_140, ↓ocX7_fillOnward_143, ↓spX3_timeAt, ↓ocX7_fillOnward_114, G_1, G_2, G_3, G_4, G_35, G_36, G_37, G_38, G_39, G_40, G_41, G_42, G_43, G_44, G_45, G_46, G_47, G_48, G_49, G_140, G_141, G_142, G_143, G_144, G_145, G_146, G_178, G_179, G_180, G_181, G_182, G_183, G_184, G_189, G_198, G_207, PF_1_0, PF_1_1, PF_1_2, PF_1_3, PF_2_0, PF_2_1, PF_2_3, PF_2_4, PF_2_5, PF_2_6, PF_2_7, PF_2_8, PF_2_9, PF_2_10, PF_2_11, PF_3_0, PF_35_0, PF_35_1, PF_35_2, PF_35_3, PF_40_0, PF_40_1, PF_40_2, PF_44_0, PF_44_1, PF_44_2, PF_145_0, PF_145_1, PF_179_0, PF_179_1, PF_179_2, PF_179_3, PF_179_8, PF_179_9, PF_179_10]
    refine ⟨by omega, by omega, fun q => ?_, fun q => by omega⟩
    exact h I1 _ _ h1 (fun q q0 q1 => h2 q q0 (by omega))
  | m + 1, p, I1, t, p0, hm, h1, h2, h3 => by
    have ih := lpX7_on1 (U := U) j0 j1 l0 l1 hx hs hl' h m (p + 1)
    have hl := hl' x hx.2.2.1 hx.2.2.2
    have hx2 := hx
    unfold nr at hx2
    have hp := PF_st j0 j1
    have hg := G_st (a := 5 + j) (by omega) (by omega)
    have hr := G_row (a := 50 + (3 * j + x)) (by omega) (by omega)
    have hrv := hl.2.2 p (by omega) (by omega)
    have n140 : (50 + (3 * j + x)) ≠ 140 := by omega
    have e5 : I1 (5 + j) = I (5 + j) := funext fun k => h1 _ k (by omega)
    have er : I1 (50 + (3 * j + x)) = I (50 + (3 * j + x)) := funext fun k => h1 _ k (by omega)
    have hst : stOK I1 (5 + j) := stOK_cg (fun k => h1 _ k (by omega)) hs
    have hs2 := hs
    unfold stOK at hs2
    have htm := fun c => tmv_rng (len := I (5 + j) 1) (ch := c) (p := p) (by omega) (by omega) (by omega)
    have ho := h3 p (by omega) (by omega)
    have fin : ∀ c r t', dif l x = c → p ≤ I 48 (3 * j + x) → r ≤ I1 140 p → r ≤ tmv (I (5 + j) 1) c p + I (50 + (3 * j + x)) p → (r = I1 140 p ∨ r = tmv (I (5 + j) 1) c p + I (50 + (3 * j + x)) p) → Ok RX7 cX7_fillOnward 8 rmX7_fillOnward false none post U (56, [some (.inr (.inr (some 2))), some (.inl j), some (.inl l), some (.inl x), some (.inr (.inr (some (50 + (3 * j + x))))), some (.inl (I 48 (3 * j + x))), some (.inl (p + 1)), t'], [], (N, PF, upI I1 140 p r, L), 0, 0) := fun c r t' hc hq r1 r2 r3 => by
      subst hc
      refine ih _ _ (by omega) (by omega) (fun b k hb => by rw [upI_ne hb]; exact h1 b k hb) (fun q q0 q1 => ?_) (fun q q0 q1 => ?_)
      · by_cases e : q = p
        · subst e; rw [upI_same]; exact ho.add (onS_s hx hq) r1 r2 r3
        · rw [upI_nj e]; exact h2 q q0 (by omega)
      · rw [upI_nj (by omega)]; exact h3 q (by omega) q1
    refine Ok.seg mdX7_fillOnward [17, 56] 50 ?_
    simp only [wp_nil, wp_cons, ↓stp, ↓lI, ↓lL, ↓lR, ↓lIn_0, ↓lIn_1, ↓lIn_2, ↓lIn_3, ↓lLn_0, ↓lLn_1, ↓lLn_2, ↓lLn_3, ↓lRn_0, ↓lRn_1, ↓lRn_2, ↓lRn_3, ↓pI, ↓pL, ↓pR, ↓pA, ↓pN, ↓pV, ↓fp, ↓tsw, ↓oS, ↓spMax, ↓spMin, ↓spAbs, ↓spObj, RI, RLg, b2i_lo, b2i_hi, getL, setL, ltL, killL, isLong, inl, cnd, br, tgt, rcv, rpl, mputI, mputL, mputP, fv, fr, mcat, mcs, entL, entA, rfit, nf_0, nf_1, nf_2, nf_3, nf2_0, nf2_1, b2i_0, b2i_1, RI_b2i, b2i_fit, List.append, List.length, List.replicate, List.cons_append, List.nil_append, List.length_cons, List.length_nil, List.replicate_succ, List.replicate_zero, List.tail_cons, reduceIte, if_true, if_false, ite_true, ite_false, Bool.false_eq_true, true_and, and_true, and_self, false_and, and_false, or_self, or_true, true_or, or_false, false_or, not_true_eq_false, not_false_eq_true, ne_eq, forall_const, implies_true, imp_self, true_implies, false_implies, Nat.reduceAdd, Nat.reduceSub, Nat.reduceMul, Nat.reduceDiv, Nat.reduceMod, Nat.reduceEqDiff, Nat.reduceLT, Nat.reduceLeDiff, Nat.reduceBEq, Nat.add_zero, Nat.zero_add, Nat.le_refl, Nat.not_lt_zero, Nat.succ_eq_add_one, Int.reduceNatCast, Int.cast_ofNat_Int, Int.reduceSub, Int.reduceMul, Int.reduceNeg, Int.reduceLE, Int.reduceLT, Int.reduceToNat, Int.reduceEq, Int.reduceNe, Int.reduceAdd, Option.some.injEq, kX7_fillOnward, rmX7_fillOnward, ↓ofX7_12, ↓ofX7_35, ↓ofX7_41, ↓ofX7_44, ↓ofX7_87, ↓ozX7_139, ↓ocX7_fillOnward_59, ↓spJ7_fill_53178, ↓ocX7_fillOnward_140, ↓ocX7_fillOnward_143, ↓spX3_timeAt, ↓ocX7_fillOnward_114, hp, hg, hr, e5, er, hst, G_1, G_2, G_3, G_4, G_35, G_36, G_37, G_38, G_39, G_40, G_41, G_42, G_43, G_44, G_45, G_46, G_47, G_48, G_49, G_140, G_141, G_142, G_143, G_144, G_145, G_146, G_178, G_179, G_180, G_181, G_182, G_183, G_184, G_189, G_198, G_207, PF_1_0, PF_1_1, PF_1_2, PF_1_3, PF_2_0, PF_2_1, PF_2_3, PF_2_4, PF_2_5, PF_2_6, PF_2_7, PF_2_8, PF_2_9, PF_2_10, PF_2_11, PF_3_0, PF_35_0, PF_35_1, PF_35_2, PF_35_3, PF_40_0, PF_40_1, PF_40_2, PF_44_0, PF_44_1, PF_44_2, PF_145_0, PF_145_1, PF_179_0, PF_179_1, PF_179_2, PF_179_3, PF_179_8, PF_179_9, PF_179_10]
    have ht0 := htm 0
    have ht1 := htm 1
    have hoF := ho.2.1
    have hol : 0 ≤ I1 140 p := by
      rcases ho.1 with e | ⟨l', a, b, c, d⟩
      · omega
      · have z1 := ((hl' l' a.2.2.1 a.2.2.2).2.2 p (by omega) (by omega)).1
        have z2 := (tmv_rng (len := I (5 + j) 1) (ch := dif l l') (p := p) (by omega) (by omega) (by omega)).1
        rw [d]; exact Int.add_nonneg z2 z1
    refine ⟨by omega, by omega, fun q => ?_, fun q => ?_⟩
    · refine h I1 _ _ h1 (fun z z0 z1 => ?_)
      by_cases e : z < p
      · exact h2 z z0 e
      · exact (h3 z (by omega) z1).cg (onS_no (.inr (by omega)))
    · repeat' (first | apply And.intro | intro _)
      all_goals first | omega | exact fin 0 _ _ (if_pos (by assumption)) (by omega) (by assumption) (by assumption) (by assumption) | exact fin 1 _ _ (if_neg (by assumption)) (by omega) (by assumption) (by assumption) (by assumption)

set_option maxHeartbeats 1600000 in
set_option maxRecDepth 100000 in
theorem lpX7_on2 {post : Option MV → MS → Prop} {U : Pt → Prop} {N : Nat} {I L : Int → Int → Int} {j l : Int} (j0 : 0 ≤ j) (j1 : j < 30) (l0 : 0 ≤ l) (l1 : l ≤ 2) (hs : stOK I (5 + j)) (hl' : ∀ l', 0 ≤ l' → l' ≤ 2 → 1 ≤ I 48 (3 * j + l') ∧ I 48 (3 * j + l') ≤ 60 ∧ rowR I j l')
    (h : ∀ I' : Int → Int → Int, (∀ b k, b ≠ 140 → I' b k = I b k) → (∀ q, 1 ≤ q → q ≤ 60 → Lst (onS I j l 3 q) 536870912 (I' 140 q)) → post none (N, PF, I', L)) :
    ∀ (m : Nat) (x : Int) (I1 : Int → Int → Int) (t1 t2 t3 t4 : Option MV), l - 1 ≤ x → 0 ≤ x → x + m = 3 → (∀ b k, b ≠ 140 → I1 b k = I b k) → (∀ q, 1 ≤ q → q ≤ 60 → Lst (onS I j l x q) 536870912 (I1 140 q)) →
    Ok RX7 cX7_fillOnward 8 rmX7_fillOnward false none post U (17, [some (.inr (.inr (some 2))), some (.inl j), some (.inl l), some (.inl x), t1, t2, t3, t4], [], (N, PF, I1, L), 0, 0)
  | 0, x, I1, t1, t2, t3, t4, x1, x0, hm, h1, h2 => by
    refine Ok.seg mdX7_fillOnward [17, 56] 20 ?_
    simp only [wp_nil, wp_cons, ↓stp, ↓lI, ↓lL, ↓lR, ↓lIn_0, ↓lIn_1, ↓lIn_2, ↓lIn_3, ↓lLn_0, ↓lLn_1, ↓lLn_2, ↓lLn_3, ↓lRn_0, ↓lRn_1, ↓lRn_2, ↓lRn_3, ↓pI, ↓pL, ↓pR, ↓pA, ↓pN, ↓pV, ↓fp, ↓tsw, ↓oS, ↓spMax, ↓spMin, ↓spAbs, ↓spObj, RI, RLg, b2i_lo, b2i_hi, getL, setL, ltL, killL, isLong, inl, cnd, br, tgt, rcv, rpl, mputI, mputL, mputP, fv, fr, mcat, mcs, entL, entA, rfit, nf_0, nf_1, nf_2, nf_3, nf2_0, nf2_1, b2i_0, b2i_1, RI_b2i, b2i_fit, List.append, List.length, List.replicate, List.cons_append, List.nil_append, List.length_cons, List.length_nil, List.replicate_succ, List.replicate_zero, List.tail_cons, reduceIte, if_true, if_false, ite_true, ite_false, Bool.false_eq_true, true_and, and_true, and_self, false_and, and_false, or_self, or_true, true_or, or_false, false_or, not_true_eq_false, not_false_eq_true, ne_eq, forall_const, implies_true, imp_self, true_implies, false_implies, Nat.reduceAdd, Nat.reduceSub, Nat.reduceMul, Nat.reduceDiv, Nat.reduceMod, Nat.reduceEqDiff, Nat.reduceLT, Nat.reduceLeDiff, Nat.reduceBEq, Nat.add_zero, Nat.zero_add, Nat.le_refl, Nat.not_lt_zero, Nat.succ_eq_add_one, Int.reduceNatCast, Int.cast_ofNat_Int, Int.reduceSub, Int.reduceMul, Int.reduceNeg, Int.reduceLE, Int.reduceLT, Int.reduceToNat, Int.reduceEq, Int.reduceNe, Int.reduceAdd, Option.some.injEq, kX7_fillOnward, rmX7_fillOnward, ↓ofX7_12, ↓ofX7_35, ↓ofX7_41, ↓ofX7_44, ↓ofX7_87, ↓ozX7_139, ↓ocX7_fillOnward_59, ↓spJ7_fill_53178, ↓ocX7_fillOnward_140, ↓ocX7_fillOnward_143, ↓spX3_timeAt, ↓ocX7_fillOnward_114, G_1, G_2, G_3, G_4, G_35, G_36, G_37, G_38, G_39, G_40, G_41, G_42, G_43, G_44, G_45, G_46, G_47, G_48, G_49, G_140, G_141, G_142, G_143, G_144, G_145, G_146, G_178, G_179, G_180, G_181, G_182, G_183, G_184, G_189, G_198, G_207, PF_1_0, PF_1_1, PF_1_2, PF_1_3, PF_2_0, PF_2_1, PF_2_3, PF_2_4, PF_2_5, PF_2_6, PF_2_7, PF_2_8, PF_2_9, PF_2_10, PF_2_11, PF_3_0, PF_35_0, PF_35_1, PF_35_2, PF_35_3, PF_40_0, PF_40_1, PF_40_2, PF_44_0, PF_44_1, PF_44_2, PF_145_0, PF_145_1, PF_179_0, PF_179_1, PF_179_2, PF_179_3, PF_179_8, PF_179_9, PF_179_10]
    refine ⟨by omega, fun q => ?_, fun q => by omega⟩
    rw [show x = 3 by omega] at h2
    exact h I1 h1 h2
  | m + 1, x, I1, t1, t2, t3, t4, x1, x0, hm, h1, h2 => by
    have ih := lpX7_on2 (U := U) j0 j1 l0 l1 hs hl' h m (x + 1)
    have hp := PF_rest (i := 3 * j + x) (by omega) (by omega)
    have hr := G_row (a := 50 + (3 * j + x)) (by omega) (by omega)
    have hl := hl' x (by omega) (by omega)
    have e48 : I1 48 = I 48 := funext fun k => h1 _ k (by omega)
    refine Ok.seg mdX7_fillOnward [17, 56] 32 ?_
    simp only [wp_nil, wp_cons, ↓stp, ↓lI, ↓lL, ↓lR, ↓lIn_0, ↓lIn_1, ↓lIn_2, ↓lIn_3, ↓lLn_0, ↓lLn_1, ↓lLn_2, ↓lLn_3, ↓lRn_0, ↓lRn_1, ↓lRn_2, ↓lRn_3, ↓pI, ↓pL, ↓pR, ↓pA, ↓pN, ↓pV, ↓fp, ↓tsw, ↓oS, ↓spMax, ↓spMin, ↓spAbs, ↓spObj, RI, RLg, b2i_lo, b2i_hi, getL, setL, ltL, killL, isLong, inl, cnd, br, tgt, rcv, rpl, mputI, mputL, mputP, fv, fr, mcat, mcs, entL, entA, rfit, nf_0, nf_1, nf_2, nf_3, nf2_0, nf2_1, b2i_0, b2i_1, RI_b2i, b2i_fit, List.append, List.length, List.replicate, List.cons_append, List.nil_append, List.length_cons, List.length_nil, List.replicate_succ, List.replicate_zero, List.tail_cons, reduceIte, if_true, if_false, ite_true, ite_false, Bool.false_eq_true, true_and, and_true, and_self, false_and, and_false, or_self, or_true, true_or, or_false, false_or, not_true_eq_false, not_false_eq_true, ne_eq, forall_const, implies_true, imp_self, true_implies, false_implies, Nat.reduceAdd, Nat.reduceSub, Nat.reduceMul, Nat.reduceDiv, Nat.reduceMod, Nat.reduceEqDiff, Nat.reduceLT, Nat.reduceLeDiff, Nat.reduceBEq, Nat.add_zero, Nat.zero_add, Nat.le_refl, Nat.not_lt_zero, Nat.succ_eq_add_one, Int.reduceNatCast, Int.cast_ofNat_Int, Int.reduceSub, Int.reduceMul, Int.reduceNeg, Int.reduceLE, Int.reduceLT, Int.reduceToNat, Int.reduceEq, Int.reduceNe, Int.reduceAdd, Option.some.injEq, kX7_fillOnward, rmX7_fillOnward, ↓ofX7_12, ↓ofX7_35, ↓ofX7_41, ↓ofX7_44, ↓ofX7_87, ↓ozX7_139, ↓ocX7_fillOnward_59, ↓spJ7_fill_53178, ↓ocX7_fillOnward_140, ↓ocX7_fillOnward_143, ↓spX3_timeAt, ↓ocX7_fillOnward_114, hp, hr, e48, G_1, G_2, G_3, G_4, G_35, G_36, G_37, G_38, G_39, G_40, G_41, G_42, G_43, G_44, G_45, G_46, G_47, G_48, G_49, G_140, G_141, G_142, G_143, G_144, G_145, G_146, G_178, G_179, G_180, G_181, G_182, G_183, G_184, G_189, G_198, G_207, PF_1_0, PF_1_1, PF_1_2, PF_1_3, PF_2_0, PF_2_1, PF_2_3, PF_2_4, PF_2_5, PF_2_6, PF_2_7, PF_2_8, PF_2_9, PF_2_10, PF_2_11, PF_3_0, PF_35_0, PF_35_1, PF_35_2, PF_35_3, PF_40_0, PF_40_1, PF_40_2, PF_44_0, PF_44_1, PF_44_2, PF_145_0, PF_145_1, PF_179_0, PF_179_1, PF_179_2, PF_179_3, PF_179_8, PF_179_9, PF_179_10]
    refine ⟨by omega, fun q => by omega, fun q => ⟨by omega, by omega, fun q2 => ?_, fun q2 => ⟨by omega, by omega, by omega, by omega, ?_⟩⟩⟩
    · refine h I1 h1 (fun z z0 z1 => (h2 z z0 z1).cg (fun y => ?_))
      unfold onS nr
      constructor
      · rintro ⟨l', a, b, c, d⟩; exact ⟨l', a, by omega, c, d⟩
      · rintro ⟨l', a, b, c, d⟩; exact ⟨l', a, by omega, c, d⟩
    · have hx : nr l x := ⟨x1, by omega, x0, by omega⟩
      exact lpX7_on1 j0 j1 l0 l1 hx hs hl' (fun I2 p t a b => ih I2 _ _ p t (by omega) (by omega) (by omega) a b) 60 1 I1 t4 (by omega) (by omega) h1 (fun z z0 z1 => by omega) h2
set_option maxRecDepth 100000 in
set_option maxHeartbeats 800000 in
theorem mX7_fillOnward : MOK yX7_fillOnward cX7_fillOnward 8 none rmX7_fillOnward ciX7_fillOnward := by
  refine mok_of (ini := false) (by decide +kernel) (by decide) rfl rfl ?_
  intro σ As K hrc hl h
  obtain ⟨N, P, I, L⟩ := σ
  have h9 := pR_iff.mp h
  clear h
  obtain ⟨a, r, e9, h⟩ := h9
  subst e9
  have h9 := pI_iff.mp h
  clear h
  obtain ⟨j, r, e9, h⟩ := h9
  subst e9
  have h9 := pI_iff.mp h
  clear h
  obtain ⟨l, r, e9, h⟩ := h9
  subst e9
  have h9 := pN_iff.mp h
  clear h
  obtain ⟨e9, h⟩ := h9
  subst e9
  dsimp only at h
  obtain ⟨rfl, rfl, j0, j1, l0, l1, hs, hl, h⟩ := h
  refine ⟨Nat.le_of_ble_eq_true rfl, Ok.seg mdX7_fillOnward [17] 16 ?_⟩
  simp only [wp_nil, wp_cons, ↓stp, ↓lI, ↓lL, ↓lR, ↓lIn_0, ↓lIn_1, ↓lIn_2, ↓lIn_3, ↓lLn_0, ↓lLn_1, ↓lLn_2, ↓lLn_3, ↓lRn_0, ↓lRn_1, ↓lRn_2, ↓lRn_3, ↓pI, ↓pL, ↓pR, ↓pA, ↓pN, ↓pV, ↓fp, ↓tsw, ↓oS, ↓spMax, ↓spMin, ↓spAbs, ↓spObj, RI, RLg, b2i_lo, b2i_hi, getL, setL, ltL, killL, isLong, inl, cnd, br, tgt, rcv, rpl, mputI, mputL, mputP, fv, fr, mcat, mcs, entL, entA, rfit, nf_0, nf_1, nf_2, nf_3, nf2_0, nf2_1, b2i_0, b2i_1, RI_b2i, b2i_fit, List.append, List.length, List.replicate, List.cons_append, List.nil_append, List.length_cons, List.length_nil, List.replicate_succ, List.replicate_zero, List.tail_cons, reduceIte, if_true, if_false, ite_true, ite_false, Bool.false_eq_true, true_and, and_true, and_self, false_and, and_false, or_self, or_true, true_or, or_false, false_or, not_true_eq_false, not_false_eq_true, ne_eq, forall_const, implies_true, imp_self, true_implies, false_implies, Nat.reduceAdd, Nat.reduceSub, Nat.reduceMul, Nat.reduceDiv, Nat.reduceMod, Nat.reduceEqDiff, Nat.reduceLT, Nat.reduceLeDiff, Nat.reduceBEq, Nat.add_zero, Nat.zero_add, Nat.le_refl, Nat.not_lt_zero, Nat.succ_eq_add_one, Int.reduceNatCast, Int.cast_ofNat_Int, Int.reduceSub, Int.reduceMul, Int.reduceNeg, Int.reduceLE, Int.reduceLT, Int.reduceToNat, Int.reduceEq, Int.reduceNe, Int.reduceAdd, Option.some.injEq, kX7_fillOnward, rmX7_fillOnward, ↓ofX7_12, ↓ofX7_35, ↓ofX7_41, ↓ofX7_44, ↓ofX7_87, ↓ozX7_139, ↓ocX7_fillOnward_59, ↓spJ7_fill_53178, ↓ocX7_fillOnward_140, ↓ocX7_fillOnward_143, ↓spX3_timeAt, ↓ocX7_fillOnward_114, G_1, G_2, G_3, G_4, G_35, G_36, G_37, G_38, G_39, G_40, G_41, G_42, G_43, G_44, G_45, G_46, G_47, G_48, G_49, G_140, G_141, G_142, G_143, G_144, G_145, G_146, G_178, G_179, G_180, G_181, G_182, G_183, G_184, G_189, G_198, G_207, PF_1_0, PF_1_1, PF_1_2, PF_1_3, PF_2_0, PF_2_1, PF_2_3, PF_2_4, PF_2_5, PF_2_6, PF_2_7, PF_2_8, PF_2_9, PF_2_10, PF_2_11, PF_3_0, PF_35_0, PF_35_1, PF_35_2, PF_35_3, PF_40_0, PF_40_1, PF_40_2, PF_44_0, PF_44_1, PF_44_2, PF_145_0, PF_145_1, PF_179_0, PF_179_1, PF_179_2, PF_179_3, PF_179_8, PF_179_9, PF_179_10]
  refine ⟨by omega, fun x x1 x2 x3 => ?_⟩
  have hne : ∀ b k, b ≠ 140 → filI I 140 536870912 61 b k = I b k := fun b k hb => if_neg (fun z => hb z.1)
  have c5 : ∀ k, filI I 140 536870912 61 (5 + j) k = I (5 + j) k := fun k => hne _ _ (by omega)
  have c48 : ∀ k, filI I 140 536870912 61 48 k = I 48 k := fun k => hne _ _ (by omega)
  have cr : ∀ l' k, 0 ≤ l' → l' ≤ 2 → filI I 140 536870912 61 (50 + (3 * j + l')) k = I (50 + (3 * j + l')) k := fun l' k _ _ => hne _ _ (by omega)
  have cS : ∀ x q y, onS (filI I 140 536870912 61) j l x q y ↔ onS I j l x q y := fun x q y => by
    unfold onS
    constructor
    · rintro ⟨l', a, b, c, d⟩
      rw [c48] at c; rw [c5, cr l' q a.2.2.1 a.2.2.2] at d
      exact ⟨l', a, b, c, d⟩
    · rintro ⟨l', a, b, c, d⟩
      rw [← c48] at c; rw [← c5, ← cr l' q a.2.2.1 a.2.2.2] at d
      exact ⟨l', a, b, c, d⟩
  refine lpX7_on2 j0 j1 l0 l1 (stOK_cg c5 hs) (fun l' a b => ?_) (fun I' h1 h2 => ⟨trivial, h I' (fun b k hb => (h1 b k hb).trans (hne b k hb)) (fun q q0 q1 => (h2 q q0 q1).cg (fun y => (cS _ _ _).symm))⟩) (3 - x).toNat x _ _ _ _ _ (by omega) (by omega) (by omega) (fun _ _ _ => rfl) (fun q q0 q1 => ?_)
  · rw [c48]
    refine ⟨(hl l' a b).1, (hl l' a b).2.1, fun q q0 q1 => ?_⟩
    rw [cr l' q a b]; exact (hl l' a b).2.2 q q0 q1
  · rw [show filI I 140 536870912 61 140 q = 536870912 from if_pos ⟨rfl, by omega, by omega⟩]
    refine Lst.none (fun y => ?_)
    rintro ⟨l', a, b, c, d⟩
    unfold nr at a
    omega
