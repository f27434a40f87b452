/-! LapBoard: what always holds of it -/
def shOK (I : Int → Int → Int) (b : Int) : Prop := (0 ≤ I b 0 ∧ I b 0 ≤ 4 ∧ I b 0 ≠ 2 ∧ 0 ≤ I (b + 1) 4 ∧ I (b + 1) 4 ≤ 200000) ∧ (0 ≤ I b 1 ∧ I b 1 ≤ 60) ∧ (I b 0 = 1 → stOK I (b + 1)) ∧ ∀ k, 0 ≤ k → k < 60 → -128 ≤ I (b + 3) k ∧ I (b + 3) k ≤ 127
def xOK (I : Int → Int → Int) : Prop := tOK I ∧ carOK I ∧ capOK I ∧ bst I ∧ raceOK I ∧ (∀ k, 0 ≤ k → k ≤ 60 → I 147 k = 0) ∧ ∀ b, shB b → shOK I b
/-- what the calls show of it is unchanged -/
def frQ (I J : Int → Int → Int) : Prop := ∀ b k, 3 ≤ b → ¬ (40 ≤ b ∧ b ≤ 178) → ¬ (182 ≤ b ∧ b ≤ 207) → ¬ (b = 179 ∧ k ≠ 4 ∧ k ≠ 5) → J b k = I b k
theorem frQ.rf {I : Int → Int → Int} : frQ I I := fun _ _ _ _ _ _ => rfl
theorem frQ.c3 {I J : Int → Int → Int} (h : frQ I J) : c3 I J := fun b k b0 b1 => h b k b0 (by omega) (by omega) (by omega)
theorem shOK_cg {I J : Int → Int → Int} {b : Int} (h : ∀ c k, b ≤ c → c ≤ b + 3 → J c k = I c k) (hs : shOK I b) : shOK J b := by
  unfold shOK
  rw [h b 0 (by omega) (by omega), h b 1 (by omega) (by omega), h (b + 1) 4 (by omega) (by omega)]
  exact ⟨hs.1, hs.2.1, fun q => stOK_cg (fun j => h _ j (by omega) (by omega)) (hs.2.2.1 q), fun k a b => by rw [h _ k (by omega) (by omega)]; exact hs.2.2.2 k a b⟩
theorem capOK_ts {I J : Int → Int → Int} (ts : tsame I J) (h1 : J 36 1 = I 36 1) (h2 : J 36 2 = I 36 2) (h144 : ∀ k, J 144 k = I 144 k) (h : capOK I) : capOK J := fun g g0 g1 => by
  rw [h144, h1, h2]
  exact (h g g0 g1).imp id (fun q => lapT_cg ts q)
theorem lpf_ts {I J : Int → Int → Int} (h : tsame I J) (h1 : J 36 1 = I 36 1) (h2 : J 36 2 = I 36 2) (h180 : ∀ k, J 180 k = I 180 k) (h181 : ∀ k, J 181 k = I 181 k) : lpf J = lpf I := funext fun t => funext fun d => by
  unfold lpf
  rw [h1, h2, show J 180 = I 180 from funext h180, show J 181 = I 181 from funext h181]
  congr 1
  funext v
  exact propext (lapT_iff h).symm
theorem raceOK_ts {I J : Int → Int → Int} (ts : tsame I J) (h1 : J 36 1 = I 36 1) (h2 : J 36 2 = I 36 2) (hR : ∀ b k, 179 ≤ b → b ≤ 206 → J b k = I b k) (h : raceOK I) : raceOK J := by
  have e : lpf J = lpf I := lpf_ts ts h1 h2 (fun k => hR _ _ (by omega) (by omega)) (fun k => hR _ _ (by omega) (by omega))
  unfold raceOK raceR mus
  rw [e, show J 179 = I 179 from funext fun k => hR _ _ (by omega) (by omega), show J 180 = I 180 from funext fun k => hR _ _ (by omega) (by omega), show J 181 = I 181 from funext fun k => hR _ _ (by omega) (by omega), show J 182 = I 182 from funext fun k => hR _ _ (by omega) (by omega), show J 183 = I 183 from funext fun k => hR _ _ (by omega) (by omega)]
  exact ⟨h.1, h.2.1, fun t a b => by rw [hR _ _ (by omega) (by omega)]; exact h.2.2 t a b⟩
theorem wayOK_ts {I J : Int → Int → Int} {w : Int} (h : tsame I J) (h36 : ∀ k, J 36 k = I 36 k) (hw : ∀ b k, w < b → b < w + 4 → J b k = I b k) (H : wayOK I w) : wayOK J w := by
  have e36 : J 36 = I 36 := funext h36
  have e38 : J 38 = I 38 := funext h.2.2.1
  have e39 : J 39 = I 39 := funext h.2.2.2
  have e1 : J (w + 1) = I (w + 1) := funext fun j => hw _ j (by omega) (by omega)
  have e2 : J (w + 2) = I (w + 2) := funext fun j => hw _ j (by omega) (by omega)
  unfold wayOK
  rw [e36, e38, e39, e1, e2, h.1]
  refine ⟨H.1.cg (fun i i0 i1 => ?_) (fun _ _ _ => rfl), fun i i0 i1 => ?_⟩
  · unfold lmv; rw [h.2.1 i 0 i0 i1 (by omega) (by omega), h.2.1 i 2 i0 i1 (by omega) (by omega), h.2.1 i 3 i0 i1 (by omega) (by omega)]
  · rw [hw _ i (by omega) (by omega), h.2.1 i 1 i0 i1 (by omega) (by omega)]; exact H.2 i i0 i1
theorem bestOK_ts {I J : Int → Int → Int} (ts : tsame I J) (h36 : ∀ k, J 36 k = I 36 k) (hw : ∀ b k, 40 ≤ b → b ≤ 43 → J b k = I b k) (H : bestOK I) : bestOK J := by
  obtain ⟨B, a, b, c, d⟩ := H
  have e36 : J 36 = I 36 := funext h36
  have e41 : J 41 = I 41 := funext fun j => hw _ j (by omega) (by omega)
  refine ⟨B, ?_, ?_, wayOK_ts ts h36 (fun b k b0 b1 => hw b k (by omega) (by omega)) c, by rw [hw _ _ (by omega) (by omega)]; exact d⟩
  · rw [e36]; exact lapT_cg ts a
  · rw [e36, e41]; exact LexB_ts ts b
/-- with the car, the track, the race and the shelves as they were -/
theorem xOK_q {I J : Int → Int → Int} (h3 : c3 I J) (hR : ∀ b k, 179 ≤ b → J b k = I b k) (h147 : ∀ k, J 147 k = I 147 k) (hcap : capOK J) (hb : bst J) (h : xOK I) : xOK J := by
  obtain ⟨a, b, c, d, e, f, g⟩ := h
  have ts := tsame_c3 h3 a.2.1
  exact ⟨tOK_c3 h3 a, carOK_c3 h3 b, hcap, hb, raceOK_ts ts (h3 _ _ (by omega) (by omega)) (h3 _ _ (by omega) (by omega)) (fun b k b0 _ => hR b k b0) e, fun k k0 k1 => by rw [h147]; exact f k k0 k1, fun b hb => shOK_cg (fun c k c0 _ => hR c k (by obtain ⟨d, d0, d1, rfl⟩ := hb; omega)) (g b hb)⟩
/-- with all laps forgotten -/
theorem xOK_f {I J : Int → Int → Int} (h : xOK I) (ht : tOK J) (hc : carOK J) (h2 : J 2 2 = 0) (h144 : ∀ k, 0 ≤ k → k < 41 → J 144 k = -1) (h6 : J 179 6 = 0) (hR : ∀ b k, 179 ≤ b → ¬ (b = 179 ∧ k = 6) → J b k = I b k) (h147 : ∀ k, J 147 k = I 147 k) : xOK J := by
  obtain ⟨a, b, c, d, e, f, g⟩ := h
  refine ⟨ht, hc, fun g g0 g1 => by rw [h144 _ (by omega) (by omega)]; exact .inl ⟨by omega, by omega⟩, .inl h2, ⟨?_, .inl h6, fun t t0 t1 => by rw [hR _ _ (by omega) (by omega)]; exact e.2.2 t t0 t1⟩, fun k k0 k1 => by rw [h147]; exact f k k0 k1, fun b hb => shOK_cg (fun c k c0 _ => hR c k (by obtain ⟨d, d0, d1, rfl⟩ := hb; omega) (by obtain ⟨d, d0, d1, rfl⟩ := hb; omega)) (g b hb)⟩
  unfold raceR
  rw [hR 179 4 (by omega) (by omega), hR 179 5 (by omega) (by omega)]
  exact ⟨fun t a b => by rw [hR 180 t (by omega) (by omega), hR 181 t (by omega) (by omega)]; exact e.1.1 t a b, e.1.2⟩
/-- bestWay leaves it so -/
theorem xOK_B {I J : Int → Int → Int} (h : xOK I) (hf : frB I J) (hb : bst J) : xOK J :=
  xOK_q hf.c3 (fun b k b0 => hf b k (by omega) (by omega) (by omega)) (fun k => hf _ _ (by omega) (by omega) (by omega)) (capOK_c3 hf.c3 h.1.2.1 (fun k => hf _ _ (by omega) (by omega) (by omega)) h.2.2.1) hb h
theorem frB.q {I J : Int → Int → Int} (h : frB I J) : frQ I J := fun b k b0 b1 b2 b3 => h b k (by omega) (by omega) (by omega)
/-- laps kept leave it so -/
theorem bst_c3 {I J : Int → Int → Int} (h3 : c3 I J) (hn : I 3 1 ≤ 30) (h2 : J 2 2 = I 2 2) (hw : ∀ b k, 40 ≤ b → b ≤ 43 → J b k = I b k) (hb : bst I) : bst J := by
  unfold bst
  rw [h2]
  exact hb.imp id (fun q => ⟨q.1, bestOK_c3 h3 hn hw q.2⟩)
theorem xOK_S {I J : Int → Int → Int} (h : xOK I) (hf : frS I J) (hc : capOK J) : xOK J :=
  xOK_q (fun b k b0 b1 => hf.lo b k b1) (fun b k b0 => hf b k (by omega) (by omega) (by omega) (by omega) (by omega)) (fun k => hf _ _ (by omega) (by omega) (by omega) (by omega) (by omega)) hc (bst_c3 (fun b k b0 b1 => hf.lo b k b1) h.1.2.1 (hf.lo _ _ (by omega)) (fun b k b0 b1 => hf b k (by omega) (by omega) (by omega) (by omega) (by omega)) h.2.2.2.1) h
theorem frS.q {I J : Int → Int → Int} (h : frS I J) : frQ I J := fun b k b0 b1 b2 b3 => h b k (by omega) (by omega) (by omega) (by omega) (by omega)
/-- prepare leaves it so -/
theorem xOK_P {I J : Int → Int → Int} (h : xOK I) (hf : frL I J) (hc : capOK J) (hr : raceOK J) : xOK J := by
  have h3 : c3 I J := fun b k b0 b1 => hf.lo b k b1
  obtain ⟨a, b, c, d, e, f, g⟩ := h
  refine ⟨tOK_c3 h3 a, carOK_c3 h3 b, hc, bst_c3 h3 a.2.1 (hf.lo _ _ (by omega)) (fun b k b0 b1 => hf b k (by omega) (by omega) (by omega) (by omega) (by omega) (by omega) (by omega)) d, hr, fun k k0 k1 => by rw [hf _ _ (by omega) (by omega) (by omega) (by omega) (by omega) (by omega) (by omega)]; exact f k k0 k1, fun b hb => shOK_cg (fun c k c0 _ => ?_) (g b hb)⟩
  obtain ⟨d, d0, d1, rfl⟩ := hb
  exact hf c k (by omega) (by omega) (by omega) (by omega) (by omega) (by omega) (by omega)
theorem frL.q {I J : Int → Int → Int} (h : frL I J) : frQ I J := fun b k b0 b1 b2 b3 => h b k (by omega) (by omega) (by omega) (by omega) (by omega) (by omega) (by omega)
/-- rows beside change alone: 44 .. 47, 148 .. 178 -/
theorem xOK_E {I J : Int → Int → Int} (h : xOK I) (hf : ∀ b k, ¬ (44 ≤ b ∧ b ≤ 47) → ¬ (148 ≤ b ∧ b ≤ 178) → J b k = I b k) : xOK J := by
  have h3 : c3 I J := fun b k b0 b1 => hf b k (by omega) (by omega)
  exact xOK_q h3 (fun b k b0 => hf b k (by omega) (by omega)) (fun k => hf _ _ (by omega) (by omega)) (capOK_c3 h3 h.1.2.1 (fun k => hf _ _ (by omega) (by omega)) h.2.2.1) (bst_c3 h3 h.1.2.1 (hf _ _ (by omega) (by omega)) (fun b k b0 b1 => hf b k (by omega) (by omega)) h.2.2.2.1) h
theorem xOK_W {I J : Int → Int → Int} (h : xOK I) (hf : ∀ b k, b ≠ 48 → b ≠ 140 → b ≠ 141 → ¬ (50 ≤ b ∧ b ≤ 139) → J b k = I b k) : xOK J := by
  have h3 : c3 I J := fun b k b0 b1 => hf b k (by omega) (by omega) (by omega) (by omega)
  exact xOK_q h3 (fun b k b0 => hf b k (by omega) (by omega) (by omega) (by omega)) (fun k => hf _ _ (by omega) (by omega) (by omega) (by omega)) (capOK_c3 h3 h.1.2.1 (fun k => hf _ _ (by omega) (by omega) (by omega) (by omega)) h.2.2.1) (bst_c3 h3 h.1.2.1 (hf _ _ (by omega) (by omega) (by omega) (by omega)) (fun b k b0 b1 => hf b k (by omega) (by omega) (by omega) (by omega)) h.2.2.2.1) h
def spX8_within (As : List MV) (σ : MS) (K : Option MV → MS → Prop) : Prop := pI As fun n r => pI r fun lo r => pI r fun hi r => pN r (RI n ∧ RI lo ∧ RI hi ∧ K (some (.inl (b2i (lo ≤ n ∧ n ≤ hi)))) σ)
def ciX8_within : CI := (3, 10, 0, 0, spX8_within)
def kX8_within (pc : Nat) : List ME := match pc with
  | 0 => [(.iload_n 0, 1, []), (.iload_n 1, 1, []), (.if_icmp .lt 12, 3, [14]), (.iload_n 0, 1, []), (.iload_n 2, 1, []), (.if_icmp .gt 7, 3, [14]), (.iconst 1, 1, []), (.goto 4, 3, [15])]
  | 14 => [(.iconst 0, 1, [])]
  | 15 => [(.ireturn, 1, [])]
  | _ => []
theorem qX8_within : ∀ pc, chk cX8_within pc (kX8_within pc) = true := by
  intro pc
  unfold kX8_within
  split <;> first | decide +kernel | exact chk_nil
abbrev rmX8_within : Room := { frames := 0, cells := 0, slots := 0, locals := 0 }
def aX8_within (_ : Nat) : Option CI := none
theorem aokX8_within : ∀ x ci, aX8_within x = some ci → CalOK RX8 rmX8_within x ci := fun _ _ h => by cases h
theorem mdX8_within : MD RX8 cX8_within rmX8_within kX8_within fX8 aX8_within zX8 uX8 := ⟨fokX8, zokX8, uokX8, aokX8_within, qX8_within⟩
set_option maxRecDepth 100000 in
set_option maxHeartbeats 800000 in
theorem mX8_within : MOK yX8_within cX8_within 3 (some .boolean) rmX8_within ciX8_within := by
  refine mok_of (ini := false) (by decide +kernel) (by decide) rfl rfl ?_
  intro σ As K hrc hl h
  obtain ⟨N, P, I, L⟩ := σ
  have h9 := pI_iff.mp h
  clear h
  obtain ⟨n, r, e9, h⟩ := h9
  subst e9
  have h9 := pI_iff.mp h
  clear h
  obtain ⟨lo, r, e9, h⟩ := h9
  subst e9
  have h9 := pI_iff.mp h
  clear h
  obtain ⟨hi, r, e9, h⟩ := h9
  subst e9
  have h9 := pN_iff.mp h
  clear h
  obtain ⟨e9, h⟩ := h9
  subst e9
  try dsimp only at h
  obtain ⟨hn, hlo, hhi, h⟩ := h
  unfold RI at hn hlo hhi
  have hs := b2i_split (F := fun x => K (some (.inl x)) (N, P, I, L)) h
  refine ⟨Nat.le_of_ble_eq_true rfl, Ok.seg mdX8_within [] 20 ?_⟩
  simp only [wp_nil, wp_cons, ↓stp, ↓lI, ↓lL, ↓lR, ↓lIn_0, ↓lIn_1, ↓lIn_2, ↓lIn_3, ↓lLn_0, ↓lLn_1, ↓lLn_2, ↓lLn_3, ↓lRn_0, ↓lRn_1, ↓lRn_2, ↓lRn_3, ↓pI, ↓pL, ↓pR, ↓pA, ↓pN, ↓pV, ↓fp, ↓tsw, ↓oS, ↓spMax, ↓spMin, ↓spAbs, ↓spObj, RI, RLg, b2i_lo, b2i_hi, getL, setL, ltL, killL, isLong, inl, cnd, br, tgt, rcv, rpl, mputI, mputL, mputP, fv, fr, mcat, mcs, entL, entA, rfit, nf_0, nf_1, nf_2, nf_3, nf2_0, nf2_1, b2i_0, b2i_1, RI_b2i, b2i_fit, List.append, List.length, List.replicate, List.cons_append, List.nil_append, List.length_cons, List.length_nil, List.replicate_succ, List.replicate_zero, List.tail_cons, reduceIte, if_true, if_false, ite_true, ite_false, Bool.false_eq_true, true_and, and_true, and_self, false_and, and_false, or_self, or_true, true_or, or_false, false_or, not_true_eq_false, not_false_eq_true, ne_eq, forall_const, implies_true, imp_self, true_implies, false_implies, Nat.reduceAdd, Nat.reduceSub, Nat.reduceMul, Nat.reduceDiv, Nat.reduceMod, Nat.reduceEqDiff, Nat.reduceLT, Nat.reduceLeDiff, Nat.reduceBEq, Nat.add_zero, Nat.zero_add, Nat.le_refl, Nat.not_lt_zero, Nat.succ_eq_add_one, Int.reduceNatCast, Int.cast_ofNat_Int, Int.reduceSub, Int.reduceMul, Int.reduceNeg, Int.reduceLE, Int.reduceLT, Int.reduceToNat, Int.reduceEq, Int.reduceNe, Int.reduceAdd, Option.some.injEq, kX8_within, rmX8_within]
  exact ⟨by omega, by omega, fun q => hs.1 (by omega), fun q => ⟨by omega, by omega, fun q2 => hs.1 (by omega), fun q2 => hs.2 (by omega)⟩⟩
def setP (w n : Int) : Prop := (w = 0 ∧ -20 ≤ n ∧ n ≤ 20) ∨ (w = 1 ∧ 1 ≤ n ∧ n ≤ 30) ∨ (w = 2 ∧ 1 ≤ n ∧ n ≤ 60) ∨ (w = 3 ∧ 0 ≤ n ∧ n ≤ 100000)
def spX8_settable (As : List MV) (σ : MS) (K : Option MV → MS → Prop) : Prop := pI As fun w r => pI r fun n r => pN r (RI w ∧ RI n ∧ ∀ v, (v = 0 ∨ v = 1) → (v = 1 ↔ setP w n) → K (some (.inl v)) σ)
def ciX8_settable : CI := (2, 10, 0, 0, spX8_settable)
def kX8_settable (pc : Nat) : List ME := match pc with
  | 0 => [(.iload_n 0, 1, []), (.tableswitch 65 0 3 #[31, 40, 48, 56], 31, [66, 32, 41, 49, 57])]
  | 32 => [(.iload_n 1, 1, []), (.bipush (-20), 2, []), (.bipush 20, 2, []), (.invokestatic 37, 3, []), (.ireturn, 1, [])]
  | 41 => [(.iload_n 1, 1, []), (.iconst 1, 1, []), (.bipush 30, 2, []), (.invokestatic 37, 3, []), (.ireturn, 1, [])]
  | 49 => [(.iload_n 1, 1, []), (.iconst 1, 1, []), (.bipush 60, 2, []), (.invokestatic 37, 3, []), (.ireturn, 1, [])]
  | 57 => [(.iload_n 1, 1, []), (.iconst 0, 1, []), (.ldc_w 263, 3, []), (.invokestatic 37, 3, []), (.ireturn, 1, [])]
  | 66 => [(.iconst 0, 1, []), (.ireturn, 1, [])]
  | _ => []
theorem qX8_settable : ∀ pc, chk cX8_settable pc (kX8_settable pc) = true := by
  intro pc
  unfold kX8_settable
  split <;> first | decide +kernel | exact chk_nil
abbrev rmX8_settable : Room := { frames := 1, cells := 0, slots := 0, locals := 22 }
def aX8_settable (x : Nat) : Option CI := match x with
  | 37 => some ciX8_within
  | _ => none
theorem aokX8_settable : ∀ x ci, aX8_settable x = some ci → CalOK RX8 rmX8_settable x ci := by
  intro x ci h
  unfold aX8_settable at h
  split at h
  · cases h; exact cal_S mX8_within rfl (List.forall_mem_cons.mpr ⟨(ws_mem (List.mem_of_getElem? (i := 363) (by decide +kernel)) (by decide +kernel)), List.forall_mem_cons.mpr ⟨(ws_mem (List.mem_of_getElem? (i := 364) (by decide +kernel)) (by decide +kernel)), List.forall_mem_cons.mpr ⟨(ws_mem (List.mem_of_getElem? (i := 53) (by decide +kernel)) (by decide +kernel)), List.forall_mem_cons.mpr ⟨(ws_mem (List.mem_of_getElem? (i := 365) (by decide +kernel)) (by decide +kernel)), fun _ h => absurd h List.not_mem_nil⟩⟩⟩⟩) rfl (by unfold nice; decide +kernel) (by unfold rfits; decide) ⟨rfl, rfl⟩
  · cases h
theorem ocX8_settable_37 (f : Nat → Nat → Nat → Nat → (List MV → MS → (Option MV → MS → Prop) → Prop) → Prop) : oC aX8_settable 37 f = f 3 10 0 0 spX8_within := propext Iff.rfl
theorem mdX8_settable : MD RX8 cX8_settable rmX8_settable kX8_settable fX8 aX8_settable zX8 uX8 := ⟨fokX8, zokX8, uokX8, aokX8_settable, qX8_settable⟩
theorem b2i_v {c d : Prop} [Decidable c] (h : c ↔ d) : (b2i c = 0 ∨ b2i c = 1) ∧ (b2i c = 1 ↔ d) := by
  unfold b2i
  by_cases q : c
  · rw [if_pos q]; exact ⟨.inr rfl, fun _ => h.mp q, fun _ => rfl⟩
  · rw [if_neg q]; exact ⟨.inl rfl, fun z => by omega, fun z => (q (h.mpr z)).elim⟩
set_option maxRecDepth 100000 in
set_option maxHeartbeats 800000 in
theorem mX8_settable : MOK yX8_settable cX8_settable 2 (some .boolean) rmX8_settable ciX8_settable := by
  refine mok_of (ini := false) (by decide +kernel) (by decide) rfl rfl ?_
  intro σ As K hrc hl h
  obtain ⟨N, P, I, L⟩ := σ
  have h9 := pI_iff.mp h
  clear h
  obtain ⟨w, r, e9, h⟩ := h9
  subst e9
  have h9 := pI_iff.mp h
  clear h
  obtain ⟨n, r, e9, h⟩ := h9
  subst e9
  have h9 := pN_iff.mp h
  clear h
  obtain ⟨e9, h⟩ := h9
  subst e9
  try dsimp only at h
  obtain ⟨hw, hn, h⟩ := h
  have h := fun v (p : (v = 0 ∨ v = 1) ∧ (v = 1 ↔ setP w n)) => h v p.1 p.2
  unfold RI at hw hn
  refine ⟨Nat.le_of_ble_eq_true rfl, Ok.seg mdX8_settable [] 20 ?_⟩
  simp only [wp_nil, wp_cons, ↓stp, ↓lI, ↓lL, ↓lR, ↓lIn_0, ↓lIn_1, ↓lIn_2, ↓lIn_3, ↓lLn_0, ↓lLn_1, ↓lLn_2, ↓lLn_3, ↓lRn_0, ↓lRn_1, ↓lRn_2, ↓lRn_3, ↓pI, ↓pL, ↓pR, ↓pA, ↓pN, ↓pV, ↓fp, ↓tsw, ↓oS, ↓spMax, ↓spMin, ↓spAbs, ↓spObj, RI, RLg, b2i_lo, b2i_hi, getL, setL, ltL, killL, isLong, inl, cnd, br, tgt, rcv, rpl, mputI, mputL, mputP, fv, fr, mcat, mcs, entL, entA, rfit, nf_0, nf_1, nf_2, nf_3, nf2_0, nf2_1, b2i_0, b2i_1, RI_b2i, b2i_fit, List.append, List.length, List.replicate, List.cons_append, List.nil_append, List.length_cons, List.length_nil, List.replicate_succ, List.replicate_zero, List.tail_cons, reduceIte, if_true, if_false, ite_true, ite_false, Bool.false_eq_true, true_and, and_true, and_self, false_and, and_false, or_self, or_true, true_or, or_false, false_or, not_true_eq_false, not_false_eq_true, ne_eq, forall_const, implies_true, imp_self, true_implies, false_implies, Nat.reduceAdd, Nat.reduceSub, Nat.reduceMul, Nat.reduceDiv, Nat.reduceMod, Nat.reduceEqDiff, Nat.reduceLT, Nat.reduceLeDiff, Nat.reduceBEq, Nat.add_zero, Nat.zero_add, Nat.le_refl, Nat.not_lt_zero, Nat.succ_eq_add_one, Int.reduceNatCast, Int.cast_ofNat_Int, Int.reduceSub, Int.reduceMul, Int.reduceNeg, Int.reduceLE, Int.reduceLT, Int.reduceToNat, Int.reduceEq, Int.reduceNe, Int.reduceAdd, Option.some.injEq, kX8_settable, rmX8_settable, ↓ozX8_263, ↓ocX8_settable_37, ↓spX8_within]
  refine ⟨by omega, fun q => h 0 ⟨.inl rfl, by unfold setP; omega⟩, fun q => ⟨by omega, by omega, h _ (b2i_v (by unfold setP; omega))⟩, fun q => ⟨by omega, by omega, h _ (b2i_v (by unfold setP; omega))⟩, fun q => ⟨by omega, by omega, h _ (b2i_v (by unfold setP; omega))⟩, fun q => ⟨by omega, by omega, h _ (b2i_v (by unfold setP; omega))⟩⟩
def spX8_forgetLaps (As : List MV) (σ : MS) (K : Option MV → MS → Prop) : Prop := pR As fun a r => pN r (a = 1 ∧ σ.2.1 = PF ∧ ∀ I' : Int → Int → Int, (∀ b k, ¬ (b = 2 ∧ k = 2) → b ≠ 144 → ¬ (b = 179 ∧ k = 6) → I' b k = σ.2.2.1 b k) → I' 2 2 = 0 → (∀ k, 0 ≤ k → k < 41 → I' 144 k = -1) → I' 179 6 = 0 → K none (σ.1, σ.2.1, I', σ.2.2.2))
def ciX8_forgetLaps : CI := (1, 8, 0, 0, spX8_forgetLaps)
def kX8_forgetLaps (pc : Nat) : List ME := match pc with
  | 0 => [(.aload_n 0, 1, []), (.getfield 10, 3, []), (.invokevirtual 264, 3, []), (.aload_n 0, 1, []), (.getfield 26, 3, []), (.iconst 0, 1, []), (.putfield 90, 3, []), (.return_, 1, [])]
  | _ => []
theorem qX8_forgetLaps : ∀ pc, chk cX8_forgetLaps pc (kX8_forgetLaps pc) = true := by
  intro pc
  unfold kX8_forgetLaps
  split <;> first | decide +kernel | exact chk_nil
abbrev rmX8_forgetLaps : Room := { frames := 2, cells := 0, slots := 0, locals := 43 }
def aX8_forgetLaps (x : Nat) : Option CI := match x with
  | 264 => some ciX7_forget
  | _ => none
theorem aokX8_forgetLaps : ∀ x ci, aX8_forgetLaps x = some ci → CalOK RX8 rmX8_forgetLaps x ci := by
  intro x ci h
  unfold aX8_forgetLaps at h
  split at h
  · cases h; exact cal_V mX7_forget (by decide) rfl (List.forall_mem_cons.mpr ⟨(ws_mem (List.mem_of_getElem? (i := 374) (by decide +kernel)) (by decide +kernel)), List.forall_mem_cons.mpr ⟨(ws_mem (List.mem_of_getElem? (i := 375) (by decide +kernel)) (by decide +kernel)), List.forall_mem_cons.mpr ⟨(ws_mem (List.mem_of_getElem? (i := 376) (by decide +kernel)) (by decide +kernel)), List.forall_mem_cons.mpr ⟨(ws_mem (List.mem_of_getElem? (i := 54) (by decide +kernel)) (by decide +kernel)), List.forall_mem_cons.mpr ⟨(ws_mem (List.mem_of_getElem? (i := 377) (by decide +kernel)) (by decide +kernel)), fun _ h => absurd h List.not_mem_nil⟩⟩⟩⟩⟩) rfl (by unfold nice; decide +kernel) (by unfold rfits; decide) ⟨rfl, rfl⟩
  · cases h
theorem ocX8_forgetLaps_264 (f : Nat → Nat → Nat → Nat → (List MV → MS → (Option MV → MS → Prop) → Prop) → Prop) : oC aX8_forgetLaps 264 f = f 1 7 0 0 spX7_forget := propext Iff.rfl
theorem mdX8_forgetLaps : MD RX8 cX8_forgetLaps rmX8_forgetLaps kX8_forgetLaps fX8 aX8_forgetLaps zX8 uX8 := ⟨fokX8, zokX8, uokX8, aokX8_forgetLaps, qX8_forgetLaps⟩
set_option maxRecDepth 100000 in
set_option maxHeartbeats 800000 in
theorem mX8_forgetLaps : MOK yX8_forgetLaps cX8_forgetLaps 1 none rmX8_forgetLaps ciX8_forgetLaps := by
  refine mok_of (ini := false) (by decide +kernel) (by decide) rfl rfl ?_
  intro σ As K hrc hl h
  obtain ⟨N, P, I, L⟩ := σ
  have h9 := pR_iff.mp h
  clear h
  obtain ⟨a, r, e9, h⟩ := h9
  subst e9
  have h9 := pN_iff.mp h
  clear h
  obtain ⟨e9, h⟩ := h9
  subst e9
  dsimp only at h
  obtain ⟨rfl, rfl, h⟩ := h
  refine ⟨Nat.le_of_ble_eq_true rfl, Ok.seg mdX8_forgetLaps [] 20 ?_⟩
  simp only [wp_nil, wp_cons, ↓stp, ↓lI, ↓lL, ↓lR, ↓lIn_0, ↓lIn_1, ↓lIn_2, ↓lIn_3, ↓lLn_0, ↓lLn_1, ↓lLn_2, ↓lLn_3, ↓lRn_0, ↓lRn_1, ↓lRn_2, ↓lRn_3, ↓pI, ↓pL, ↓pR, ↓pA, ↓pN, ↓pV, ↓fp, ↓tsw, ↓oS, ↓spMax, ↓spMin, ↓spAbs, ↓spObj, RI, RLg, b2i_lo, b2i_hi, getL, setL, ltL, killL, isLong, inl, cnd, br, tgt, rcv, rpl, mputI, mputL, mputP, fv, fr, mcat, mcs, entL, entA, rfit, nf_0, nf_1, nf_2, nf_3, nf2_0, nf2_1, b2i_0, b2i_1, RI_b2i, b2i_fit, List.append, List.length, List.replicate, List.cons_append, List.nil_append, List.length_cons, List.length_nil, List.replicate_succ, List.replicate_zero, List.tail_cons, reduceIte, if_true, if_false, ite_true, ite_false, Bool.false_eq_true, true_and, and_true, and_self, false_and, and_false, or_self, or_true, true_or, or_false, false_or, not_true_eq_false, not_false_eq_true, ne_eq, forall_const, implies_true, imp_self, true_implies, false_implies, Nat.reduceAdd, Nat.reduceSub, Nat.reduceMul, Nat.reduceDiv, Nat.reduceMod, Nat.reduceEqDiff, Nat.reduceLT, Nat.reduceLeDiff, Nat.reduceBEq, Nat.add_zero, Nat.zero_add, Nat.le_refl, Nat.not_lt_zero, Nat.succ_eq_add_one, Int.reduceNatCast, Int.cast_ofNat_Int, Int.reduceSub, Int.reduceMul, Int.reduceNeg, Int.reduceLE, Int.reduceLT, Int.reduceToNat, Int.reduceEq, Int.reduceNe, Int.reduceAdd, Option.some.injEq, kX8_forgetLaps, rmX8_forgetLaps, ↓ofX8_10, ↓ofX8_26, ↓ofX8_90, ↓ocX8_forgetLaps_264, ↓spX7_forget, G_1, G_2, G_3, G_4, G_35, G_36, G_37, G_38, G_39, G_40, G_41, G_42, G_43, G_44, G_45, G_46, G_47, G_48, G_49, G_140, G_141, G_142, G_143, G_144, G_145, G_146, G_178, G_179, G_180, G_181, G_182, G_183, G_184, G_189, G_198, G_207, PF_1_0, PF_1_1, PF_1_2, PF_1_3, PF_2_0, PF_2_1, PF_2_3, PF_2_4, PF_2_5, PF_2_6, PF_2_7, PF_2_8, PF_2_9, PF_2_10, PF_2_11, PF_3_0, PF_35_0, PF_35_1, PF_35_2, PF_35_3, PF_40_0, PF_40_1, PF_40_2, PF_44_0, PF_44_1, PF_44_2, PF_145_0, PF_145_1, PF_179_0, PF_179_1, PF_179_2, PF_179_3, PF_179_8, PF_179_9, PF_179_10]
  refine h _ (fun b k b1 b2 b3 => ?_) ?_ (fun k k0 k1 => ?_) upI_same
  · rw [show upI (filI (upI I 2 2 0) 144 (-1) 41) 179 6 0 b k = filI (upI I 2 2 0) 144 (-1) 41 b k from if_neg b3]
    exact (if_neg (fun z => b2 z.1)).trans (if_neg b1)
  · rw [upI_ne (by omega)]; exact (if_neg (fun z => by omega)).trans upI_same
  · rw [upI_ne (by omega)]; exact if_pos ⟨rfl, k0, k1⟩
def spX8_stationRefusal (As : List MV) (σ : MS) (K : Option MV → MS → Prop) : Prop := pR As fun a r => pI r fun d r => pN r (a = 1 ∧ σ.2.1 = PF ∧ RI d ∧ xOK σ.2.2.1 ∧ (¬ (0 ≤ d ∧ d ≤ 7) → K (some (.inl (-1))) σ) ∧ (0 ≤ d ∧ d ≤ 7 → (σ.2.2.1 (208 + 4 * d) 0 = 0 → K (some (.inl (-11))) σ) ∧ (σ.2.2.1 (208 + 4 * d) 0 = 1 → K (some (.inl 0)) σ) ∧ (¬ σ.2.2.1 (208 + 4 * d) 0 = 0 → ¬ σ.2.2.1 (208 + 4 * d) 0 = 1 → K (some (.inl (-12))) σ)))
def ciX8_stationRefusal : CI := (2, 8, 0, 0, spX8_stationRefusal)
def kX8_stationRefusal (pc : Nat) : List ME := match pc with
  | 0 => [(.iload_n 1, 1, []), (.iconst 0, 1, []), (.bipush 7, 2, []), (.invokestatic 37, 3, []), (.ifCond .ne 5, 3, [12]), (.iconst (-1), 1, []), (.ireturn, 1, [])]
  | 12 => [(.aload_n 0, 1, []), (.getfield 32, 3, []), (.iload_n 1, 1, []), (.aaload, 1, []), (.getfield 211, 3, []), (.ifCond .ne 6, 3, [27]), (.bipush (-11), 2, []), (.ireturn, 1, [])]
  | 27 => [(.aload_n 0, 1, []), (.getfield 32, 3, []), (.iload_n 1, 1, []), (.aaload, 1, []), (.getfield 211, 3, []), (.iconst 1, 1, []), (.if_icmp .ne 7, 3, [44]), (.iconst 0, 1, []), (.goto 5, 3, [46])]
  | 44 => [(.bipush (-12), 2, [])]
  | 46 => [(.ireturn, 1, [])]
  | _ => []
theorem qX8_stationRefusal : ∀ pc, chk cX8_stationRefusal pc (kX8_stationRefusal pc) = true := by
  intro pc
  unfold kX8_stationRefusal
  split <;> first | decide +kernel | exact chk_nil
abbrev rmX8_stationRefusal : Room := { frames := 1, cells := 0, slots := 0, locals := 22 }
def aX8_stationRefusal (x : Nat) : Option CI := match x with
  | 37 => some ciX8_within
  | _ => none
theorem aokX8_stationRefusal : ∀ x ci, aX8_stationRefusal x = some ci → CalOK RX8 rmX8_stationRefusal x ci := by
  intro x ci h
  unfold aX8_stationRefusal at h
  split at h
  · cases h; exact cal_S mX8_within rfl (List.forall_mem_cons.mpr ⟨(ws_mem (List.mem_of_getElem? (i := 363) (by decide +kernel)) (by decide +kernel)), List.forall_mem_cons.mpr ⟨(ws_mem (List.mem_of_getElem? (i := 364) (by decide +kernel)) (by decide +kernel)), List.forall_mem_cons.mpr ⟨(ws_mem (List.mem_of_getElem? (i := 53) (by decide +kernel)) (by decide +kernel)), List.forall_mem_cons.mpr ⟨(ws_mem (List.mem_of_getElem? (i := 365) (by decide +kernel)) (by decide +kernel)), fun _ h => absurd h List.not_mem_nil⟩⟩⟩⟩) rfl (by unfold nice; decide +kernel) (by unfold rfits; decide) ⟨rfl, rfl⟩
  · cases h
theorem ocX8_stationRefusal_37 (f : Nat → Nat → Nat → Nat → (List MV → MS → (Option MV → MS → Prop) → Prop) → Prop) : oC aX8_stationRefusal 37 f = f 3 10 0 0 spX8_within := propext Iff.rfl
theorem mdX8_stationRefusal : MD RX8 cX8_stationRefusal rmX8_stationRefusal kX8_stationRefusal fX8 aX8_stationRefusal zX8 uX8 := ⟨fokX8, zokX8, uokX8, aokX8_stationRefusal, qX8_stationRefusal⟩
set_option maxRecDepth 100000 in
set_option maxHeartbeats 800000 in
theorem mX8_stationRefusal : MOK yX8_stationRefusal cX8_stationRefusal 2 (some .int) rmX8_stationRefusal ciX8_stationRefusal := by
  refine mok_of (ini := false) (by decide +kernel) (by decide) rfl rfl ?_
  intro σ As K hrc hl h
  obtain ⟨N, P, I, L⟩ := σ
  have h9 := pR_iff.mp h
  clear h
  obtain ⟨a, r, e9, h⟩ := h9
  subst e9
  have h9 := pI_iff.mp h
  clear h
  obtain ⟨d, r, e9, h⟩ := h9
  subst e9
  have h9 := pN_iff.mp h
  clear h
  obtain ⟨e9, h⟩ := h9
  subst e9
  dsimp only at h
  obtain ⟨rfl, rfl, hd, hx, h1, h2⟩ := h
  unfold RI at hd
  by_cases q : 0 ≤ d ∧ d ≤ 7
  · have hp := PF_shelf (i := d) (by omega) (by omega)
    have hb : shB (208 + 4 * d) := ⟨d, by omega, by omega, rfl⟩
    obtain ⟨g0, _⟩ := shB_rows hb
    obtain ⟨s1, s2, s3, s4⟩ := hx.2.2.2.2.2.2 _ hb
    obtain ⟨a1, a2, a3⟩ := h2 q
    refine ⟨Nat.le_of_ble_eq_true rfl, Ok.seg mdX8_stationRefusal [] 40 ?_⟩
    simp only [wp_nil, wp_cons, ↓stp, ↓lI, ↓lL, ↓lR, ↓lIn_0, ↓lIn_1, ↓lIn_2, ↓lIn_3, ↓lLn_0, ↓lLn_1, ↓lLn_2, ↓lLn_3, ↓lRn_0, ↓lRn_1, ↓lRn_2, ↓lRn_3, ↓pI, ↓pL, ↓pR, ↓pA, ↓pN, ↓pV, ↓fp, ↓tsw, ↓oS, ↓spMax, ↓spMin, ↓spAbs, ↓spObj, RI, RLg, b2i_lo, b2i_hi, getL, setL, ltL, killL, isLong, inl, cnd, br, tgt, rcv, rpl, mputI, mputL, mputP, fv, fr, mcat, mcs, entL, entA, rfit, nf_0, nf_1, nf_2, nf_3, nf2_0, nf2_1, b2i_0, b2i_1, RI_b2i, b2i_fit, List.append, List.length, List.replicate, List.cons_append, List.nil_append, List.length_cons, List.length_nil, List.replicate_succ, List.replicate_zero, List.tail_cons, reduceIte, if_true, if_false, ite_true, ite_false, Bool.false_eq_true, true_and, and_true, and_self, false_and, and_false, or_self, or_true, true_or, or_false, false_or, not_true_eq_false, not_false_eq_true, ne_eq, forall_const, implies_true, imp_self, true_implies, false_implies, Nat.reduceAdd, Nat.reduceSub, Nat.reduceMul, Nat.reduceDiv, Nat.reduceMod, Nat.reduceEqDiff, Nat.reduceLT, Nat.reduceLeDiff, Nat.reduceBEq, Nat.add_zero, Nat.zero_add, Nat.le_refl, Nat.not_lt_zero, Nat.succ_eq_add_one, Int.reduceNatCast, Int.cast_ofNat_Int, Int.reduceSub, Int.reduceMul, Int.reduceNeg, Int.reduceLE, Int.reduceLT, Int.reduceToNat, Int.reduceEq, Int.reduceNe, Int.reduceAdd, Option.some.injEq, kX8_stationRefusal, rmX8_stationRefusal, ↓ofX8_211, ↓ofX8_32, ↓ocX8_stationRefusal_37, ↓spX8_within, hp, g0, q, G_1, G_2, G_3, G_4, G_35, G_36, G_37, G_38, G_39, G_40, G_41, G_42, G_43, G_44, G_45, G_46, G_47, G_48, G_49, G_140, G_141, G_142, G_143, G_144, G_145, G_146, G_178, G_179, G_180, G_181, G_182, G_183, G_184, G_189, G_198, G_207, PF_1_0, PF_1_1, PF_1_2, PF_1_3, PF_2_0, PF_2_1, PF_2_3, PF_2_4, PF_2_5, PF_2_6, PF_2_7, PF_2_8, PF_2_9, PF_2_10, PF_2_11, PF_3_0, PF_35_0, PF_35_1, PF_35_2, PF_35_3, PF_40_0, PF_40_1, PF_40_2, PF_44_0, PF_44_1, PF_44_2, PF_145_0, PF_145_1, PF_179_0, PF_179_1, PF_179_2, PF_179_3, PF_179_8, PF_179_9, PF_179_10]
    refine ⟨by omega, by omega, by omega, fun q1 => ?_, fun q1 => a1 (by omega)⟩
    refine ⟨by omega, by omega, fun q2 => a3 q1 q2, fun q2 => a2 (by omega)⟩
  · refine ⟨Nat.le_of_ble_eq_true rfl, Ok.seg mdX8_stationRefusal [] 40 ?_⟩
    simp only [wp_nil, wp_cons, ↓stp, ↓lI, ↓lL, ↓lR, ↓lIn_0, ↓lIn_1, ↓lIn_2, ↓lIn_3, ↓lLn_0, ↓lLn_1, ↓lLn_2, ↓lLn_3, ↓lRn_0, ↓lRn_1, ↓lRn_2, ↓lRn_3, ↓pI, ↓pL, ↓pR, ↓pA, ↓pN, ↓pV, ↓fp, ↓tsw, ↓oS, ↓spMax, ↓spMin, ↓spAbs, ↓spObj, RI, RLg, b2i_lo, b2i_hi, getL, setL, ltL, killL, isLong, inl, cnd, br, tgt, rcv, rpl, mputI, mputL, mputP, fv, fr, mcat, mcs, entL, entA, rfit, nf_0, nf_1, nf_2, nf_3, nf2_0, nf2_1, b2i_0, b2i_1, RI_b2i, b2i_fit, List.append, List.length, List.replicate, List.cons_append, List.nil_append, List.length_cons, List.length_nil, List.replicate_succ, List.replicate_zero, List.tail_cons, reduceIte, if_true, if_false, ite_true, ite_false, Bool.false_eq_true, true_and, and_true, and_self, false_and, and_false, or_self, or_true, true_or, or_false, false_or, not_true_eq_false, not_false_eq_true, ne_eq, forall_const, implies_true, imp_self, true_implies, false_implies, Nat.reduceAdd, Nat.reduceSub, Nat.reduceMul, Nat.reduceDiv, Nat.reduceMod, Nat.reduceEqDiff, Nat.reduceLT, Nat.reduceLeDiff, Nat.reduceBEq, Nat.add_zero, Nat.zero_add, Nat.le_refl, Nat.not_lt_zero, Nat.succ_eq_add_one, Int.reduceNatCast, Int.cast_ofNat_Int, Int.reduceSub, Int.reduceMul, Int.reduceNeg, Int.reduceLE, Int.reduceLT, Int.reduceToNat, Int.reduceEq, Int.reduceNe, Int.reduceAdd, Option.some.injEq, kX8_stationRefusal, rmX8_stationRefusal, ↓ofX8_211, ↓ofX8_32, ↓ocX8_stationRefusal_37, ↓spX8_within, q, G_1, G_2, G_3, G_4, G_35, G_36, G_37, G_38, G_39, G_40, G_41, G_42, G_43, G_44, G_45, G_46, G_47, G_48, G_49, G_140, G_141, G_142, G_143, G_144, G_145, G_146, G_178, G_179, G_180, G_181, G_182, G_183, G_184, G_189, G_198, G_207, PF_1_0, PF_1_1, PF_1_2, PF_1_3, PF_2_0, PF_2_1, PF_2_3, PF_2_4, PF_2_5, PF_2_6, PF_2_7, PF_2_8, PF_2_9, PF_2_10, PF_2_11, PF_3_0, PF_35_0, PF_35_1, PF_35_2, PF_35_3, PF_40_0, PF_40_1, PF_40_2, PF_44_0, PF_44_1, PF_44_2, PF_145_0, PF_145_1, PF_179_0, PF_179_1, PF_179_2, PF_179_3, PF_179_8, PF_179_9, PF_179_10]
    exact ⟨by omega, h1 q⟩
