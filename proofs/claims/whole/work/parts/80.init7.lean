/-! constructors: Race, LapBoard -/
theorem ST.frsh {a N0 : Int} {P0 : Int → Int → Option Int} {I0 L0 : Int → Int → Int} {N f : Int} {P : Int → Int → Option Int} {I L : Int → Int → Int} (h : ST a N0 P0 I0 L0 N f P I L) (hf : frsh N0 P0 I0 L0) (ha : a < N0) (h0 : N0 ≤ N) : frsh (N + 1) (fun b i => if b = N then none else P b i) (fun b i => if b = N then 0 else I b i) (fun b i => if b = N then 0 else L b i) := fun b k hb => by
  try dsimp only
  rw [if_neg (by omega), if_neg (by omega), if_neg (by omega)]
  obtain ⟨e1, e2, e3⟩ := h.2.2 b k (by omega) (by omega)
  rw [e1, e2, e3]
  exact hf b k (by omega)
theorem PF_179 (k : Int) : PF 179 k = if k = 0 then some 180 else if k = 1 then some 181 else if k = 2 then some 182 else if k = 3 then some 183 else if k = 8 then some 184 else if k = 9 then some 189 else if k = 10 then some 198 else none := by
  unfold PF
  simp
theorem PF_184 (k : Int) : PF 184 k = if 0 ≤ k ∧ k < 4 then some (185 + k) else none := by
  unfold PF
  simp
theorem PF_189 (k : Int) : PF 189 k = if 0 ≤ k ∧ k < 8 then some (190 + k) else none := by
  unfold PF
  simp
theorem PF_198 (k : Int) : PF 198 k = if 0 ≤ k ∧ k < 8 then some (199 + k) else none := by
  unfold PF
  simp
theorem PF_rrow {b : Int} (h : (180 ≤ b ∧ b ≤ 183) ∨ (185 ≤ b ∧ b ≤ 188) ∨ (190 ≤ b ∧ b ≤ 197) ∨ (199 ≤ b ∧ b ≤ 206)) (k : Int) : PF b k = none := by
  unfold PF
  repeat rw [if_neg (by omega)]
theorem G_rrow {a : Int} (h : (185 ≤ a ∧ a ≤ 188) ∨ (190 ≤ a ∧ a ≤ 197) ∨ (199 ≤ a ∧ a ≤ 206)) : G a = (10, 41) :=
  G_rng (fun a => (185 ≤ a ∧ a ≤ 188) ∨ (190 ≤ a ∧ a ≤ 197) ∨ (199 ≤ a ∧ a ≤ 206)) (by decide +kernel) (by omega) (by omega) h
def v1 (N : Int) (I : Int → Int → Int) : Prop := I 179 6 = 0 ∧ ∀ b k, 180 ≤ b → b < N → I b k = 0
theorem v1.step {N N' : Int} {I J : Int → Int → Int} (h : v1 N I) (h0 : 180 ≤ N) (hJ : ∀ b k, b < N → J b k = I b k) (hz : ∀ b k, N ≤ b → b < N' → J b k = 0) : v1 N' J := by
  refine ⟨(hJ _ _ (by omega)).trans h.1, fun b k b0 b1 => ?_⟩
  by_cases q : b < N
  · rw [hJ b k q]; exact h.2 b k b0 q
  · exact hz b k (by omega) b1
def v1s (I : Int → Int → Int) : Prop := I 179 4 = 20000 ∧ I 179 5 = 1
theorem v1s.step {I J : Int → Int → Int} (h : v1s I) (hJ : ∀ k, J 179 k = I 179 k) : v1s J := ⟨(hJ 4).trans h.1, (hJ 5).trans h.2⟩
/-- a new Race -/
def race0 (I : Int → Int → Int) : Prop := I 179 4 = 20000 ∧ I 179 5 = 1 ∧ I 179 6 = 0 ∧ (∀ k, I 180 k = 0) ∧ (∀ k, 0 ≤ k → k < 4 → I 181 k = 5) ∧ (∀ k, ¬ (0 ≤ k ∧ k < 4) → I 181 k = 0) ∧ ∀ b k, 182 ≤ b → b ≤ 206 → I b k = 0
def spX1_init (As : List MV) (σ : MS) (K : Option MV → MS → Prop) : Prop := pR As fun a r => pN r (a = 179 ∧ σ.1 = 180 ∧ frsh 180 σ.2.1 σ.2.2.1 σ.2.2.2 ∧ (∀ k, σ.2.1 a k = none) ∧ (∀ k, σ.2.2.1 a k = 0) ∧ ∀ P' I' L', mkd a 180 207 σ.2.1 P' σ.2.2.1 I' σ.2.2.2 L' → race0 I' → K none (207, P', I', L'))
def ciX1_init : CI := (1, 20, 27, 928, spX1_init)
theorem rcX1_init : ∀ (As : List MV) (σ : MS) (K : Option MV → MS → Prop), ciX1_init.2.2.2.2 As σ K → ∃ a As', As = .inr (.inr (some a)) :: As' := fun _ _ _ h => pR_fst h
def kX1_init (pc : Nat) : List ME := match pc with
  | 0 => [(.aload_n 0, 1, []), (.invokespecial 3, 3, []), (.aload_n 0, 1, []), (.iconst 4, 1, []), (.newarray .int, 2, []), (.putfield 9, 3, [])]
  | 11 => [(.aload_n 0, 1, []), (.iconst 4, 1, []), (.newarray .int, 2, []), (.putfield 15, 3, [])]
  | 18 => [(.aload_n 0, 1, []), (.bipush 40, 2, []), (.newarray .int, 2, []), (.putfield 18, 3, [])]
  | 26 => [(.aload_n 0, 1, []), (.bipush 40, 2, []), (.newarray .int, 2, []), (.putfield 21, 3, [])]
  | 34 => [(.aload_n 0, 1, []), (.sipush 20000, 3, []), (.putfield 24, 3, []), (.aload_n 0, 1, []), (.iconst 1, 1, []), (.putfield 28, 3, [])]
  | 46 => [(.aload_n 0, 1, []), (.iconst 4, 1, []), (.bipush 41, 2, []), (.multianewarray 32 2, 4, []), (.putfield 34, 3, [])]
  | 57 => [(.aload_n 0, 1, []), (.bipush 8, 2, []), (.bipush 41, 2, []), (.multianewarray 32 2, 4, []), (.putfield 37, 3, [])]
  | 69 => [(.aload_n 0, 1, []), (.bipush 8, 2, []), (.bipush 41, 2, []), (.multianewarray 32 2, 4, []), (.putfield 40, 3, [])]
  | 81 => [(.aload_n 0, 1, []), (.getfield 15, 3, []), (.iconst 5, 1, []), (.invokestatic 43, 3, []), (.return_, 1, [])]
  | _ => []
theorem qX1_init : ∀ pc, chk cX1_init pc (kX1_init pc) = true := by
  intro pc
  unfold kX1_init
  split <;> first | decide +kernel | exact chk_nil
abbrev rmX1_init : Room := { frames := 1, cells := 27, slots := 928, locals := 23 }
def aX1_init (x : Nat) : Option CI := match x with
  | 3 => some ciObj
  | 43 => some ciJ7_fill_53178
  | _ => none
theorem aokX1_init : ∀ x ci, aX1_init x = some ci → CalOK RX1 rmX1_init x ci := by
  intro x ci h
  unfold aX1_init at h
  split at h
  · cases h; exact cal_obj (List.forall_mem_cons.mpr ⟨(ws_mem (List.mem_of_getElem? (i := 269) (by decide +kernel)) (by decide +kernel)), List.forall_mem_cons.mpr ⟨(ws_mem (List.mem_of_getElem? (i := 77) (by decide +kernel)) (by decide +kernel)), List.forall_mem_cons.mpr ⟨(ws_mem (List.mem_of_getElem? (i := 78) (by decide +kernel)) (by decide +kernel)), fun _ h => absurd h List.not_mem_nil⟩⟩⟩) (by decide)
  · cases h; exact cal_S mJ7_fill_53178 rfl (List.forall_mem_cons.mpr ⟨(ws_mem (List.mem_of_getElem? (i := 271) (by decide +kernel)) (by decide +kernel)), List.forall_mem_cons.mpr ⟨(ws_mem (List.mem_of_getElem? (i := 208) (by decide +kernel)) (by decide +kernel)), List.forall_mem_cons.mpr ⟨(ws_mem (List.mem_of_getElem? (i := 60) (by decide +kernel)) (by decide +kernel)), List.forall_mem_cons.mpr ⟨(ws_mem (List.mem_of_getElem? (i := 209) (by decide +kernel)) (by decide +kernel)), fun _ h => absurd h List.not_mem_nil⟩⟩⟩⟩) rfl (by unfold nice; decide +kernel) (by unfold rfits; decide) ⟨rfl, rfl⟩
  · cases h
theorem ocX1_init_3 (f : Nat → Nat → Nat → Nat → (List MV → MS → (Option MV → MS → Prop) → Prop) → Prop) : oC aX1_init 3 f = f 1 20 0 0 spObj := propext Iff.rfl
theorem ocX1_init_43 (f : Nat → Nat → Nat → Nat → (List MV → MS → (Option MV → MS → Prop) → Prop) → Prop) : oC aX1_init 43 f = f 2 10 0 0 spJ7_fill_53178 := propext Iff.rfl
theorem mdX1_init : MD RX1 cX1_init rmX1_init kX1_init fX1 aX1_init zX1 uX1 := ⟨fokX1, zokX1, uokX1, aokX1_init, qX1_init⟩
theorem X1_81 {post : Option MV → MS → Prop} {U : Pt → Prop} {P0 : Int → Int → Option Int} {I0 L0 : Int → Int → Int} (H : ∀ P' I' L', mkd 179 180 207 P0 P' I0 I' L0 L' → race0 I' → post none (207, P', I', L')) (hfr : frsh 180 P0 I0 L0) {P : Int → Int → Option Int} {I L : Int → Int → Int} (h : ST 179 180 P0 I0 L0 207 11 P I L) (v : v1 207 I) (w : v1s I) : Ok RX1 cX1_init 1 rmX1_init true none post U (81, [some (.inr (.inr (some 179)))], [], (207, P, I, L), 27, 928) := by
  have p : P 179 1 = some 181 := by rw [h.2.1, if_pos (by omega), PF_179]; rfl
  refine Ok.seg mdX1_init [] 20 ?_
  simp only [wp_nil, wp_cons, ↓stp, ↓lI, ↓lL, ↓lR, ↓lIn_0, ↓lIn_1, ↓lIn_2, ↓lIn_3, ↓lLn_0, ↓lLn_1, ↓lLn_2, ↓lLn_3, ↓lRn_0, ↓lRn_1, ↓lRn_2, ↓lRn_3, ↓pI, ↓pL, ↓pR, ↓pA, ↓pN, ↓pV, ↓fp, ↓tsw, ↓oS, ↓spMax, ↓spMin, ↓spAbs, ↓spObj, RI, RLg, b2i_lo, b2i_hi, getL, setL, ltL, killL, isLong, inl, cnd, br, tgt, rcv, rpl, mputI, mputL, mputP, fv, fr, mcat, mcs, entL, entA, rfit, nf_0, nf_1, nf_2, nf_3, nf2_0, nf2_1, b2i_0, b2i_1, RI_b2i, b2i_fit, List.append, List.length, List.replicate, List.cons_append, List.nil_append, List.length_cons, List.length_nil, List.replicate_succ, List.replicate_zero, List.tail_cons, reduceIte, if_true, if_false, ite_true, ite_false, Bool.false_eq_true, true_and, and_true, and_self, false_and, and_false, or_self, or_true, true_or, or_false, false_or, not_true_eq_false, not_false_eq_true, ne_eq, forall_const, implies_true, imp_self, true_implies, false_implies, Nat.reduceAdd, Nat.reduceSub, Nat.reduceMul, Nat.reduceDiv, Nat.reduceMod, Nat.reduceEqDiff, Nat.reduceLT, Nat.reduceLeDiff, Nat.reduceBEq, Nat.add_zero, Nat.zero_add, Nat.le_refl, Nat.not_lt_zero, Nat.succ_eq_add_one, Int.reduceNatCast, Int.cast_ofNat_Int, Int.reduceSub, Int.reduceMul, Int.reduceNeg, Int.reduceLE, Int.reduceLT, Int.reduceToNat, Int.reduceEq, Int.reduceNe, Int.reduceAdd, Option.some.injEq, kX1_init, rmX1_init, ↓ofX1_15, ↓ofX1_18, ↓ofX1_21, ↓ofX1_24, ↓ofX1_28, ↓ofX1_34, ↓ofX1_37, ↓ofX1_40, ↓ofX1_9, ↓onX1_32, ↓ocX1_init_3, ↓ocX1_init_43, ↓spJ7_fill_53178, p, G_179, G_181]
  refine H _ _ _ (ST.mkd ⟨h.1, h.2.1, fun b k b0 b1 => ?_⟩ (fun k k0 => by rw [PF_179]; repeat rw [if_neg (by omega)])) ⟨?_, ?_, ?_, fun k => ?_, fun k k0 k1 => if_pos ⟨rfl, k0, k1⟩, fun k hk => ?_, fun b k b0 b1 => ?_⟩
  · rw [show filI I 181 5 4 b k = I b k from if_neg (by omega)]; exact h.2.2 b k b0 b1
  · exact (if_neg (by omega)).trans w.1
  · exact (if_neg (by omega)).trans w.2
  · exact (if_neg (by omega)).trans v.1
  · exact (if_neg (by omega)).trans (v.2 _ _ (by omega) (by omega))
  · exact (if_neg (by omega)).trans (v.2 _ _ (by omega) (by omega))
  · exact (if_neg (by omega)).trans (v.2 _ _ (by omega) (by omega))
theorem X1_69 {post : Option MV → MS → Prop} {U : Pt → Prop} {P0 : Int → Int → Option Int} {I0 L0 : Int → Int → Int} (H : ∀ P' I' L', mkd 179 180 207 P0 P' I0 I' L0 L' → race0 I' → post none (207, P', I', L')) (hfr : frsh 180 P0 I0 L0) {P : Int → Int → Option Int} {I L : Int → Int → Int} (h : ST 179 180 P0 I0 L0 198 10 P I L) (v : v1 198 I) (w : v1s I) : Ok RX1 cX1_init 1 rmX1_init true none post U (69, [some (.inr (.inr (some 179)))], [], (198, P, I, L), 18, 592) := by
  refine Ok.seg mdX1_init [81] 20 ?_
  simp only [wp_nil, wp_cons, ↓stp, ↓lI, ↓lL, ↓lR, ↓lIn_0, ↓lIn_1, ↓lIn_2, ↓lIn_3, ↓lLn_0, ↓lLn_1, ↓lLn_2, ↓lLn_3, ↓lRn_0, ↓lRn_1, ↓lRn_2, ↓lRn_3, ↓pI, ↓pL, ↓pR, ↓pA, ↓pN, ↓pV, ↓fp, ↓tsw, ↓oS, ↓spMax, ↓spMin, ↓spAbs, ↓spObj, RI, RLg, b2i_lo, b2i_hi, getL, setL, ltL, killL, isLong, inl, cnd, br, tgt, rcv, rpl, mputI, mputL, mputP, fv, fr, mcat, mcs, entL, entA, rfit, nf_0, nf_1, nf_2, nf_3, nf2_0, nf2_1, b2i_0, b2i_1, RI_b2i, b2i_fit, List.append, List.length, List.replicate, List.cons_append, List.nil_append, List.length_cons, List.length_nil, List.replicate_succ, List.replicate_zero, List.tail_cons, reduceIte, if_true, if_false, ite_true, ite_false, Bool.false_eq_true, true_and, and_true, and_self, false_and, and_false, or_self, or_true, true_or, or_false, false_or, not_true_eq_false, not_false_eq_true, ne_eq, forall_const, implies_true, imp_self, true_implies, false_implies, Nat.reduceAdd, Nat.reduceSub, Nat.reduceMul, Nat.reduceDiv, Nat.reduceMod, Nat.reduceEqDiff, Nat.reduceLT, Nat.reduceLeDiff, Nat.reduceBEq, Nat.add_zero, Nat.zero_add, Nat.le_refl, Nat.not_lt_zero, Nat.succ_eq_add_one, Int.reduceNatCast, Int.cast_ofNat_Int, Int.reduceSub, Int.reduceMul, Int.reduceNeg, Int.reduceLE, Int.reduceLT, Int.reduceToNat, Int.reduceEq, Int.reduceNe, Int.reduceAdd, Option.some.injEq, kX1_init, rmX1_init, ↓ofX1_15, ↓ofX1_18, ↓ofX1_21, ↓ofX1_24, ↓ofX1_28, ↓ofX1_34, ↓ofX1_37, ↓ofX1_40, ↓ofX1_9, ↓onX1_32, ↓ocX1_init_3, ↓ocX1_init_43, ↓spJ7_fill_53178, mnewM, G_179, G_198]
  refine ⟨fun i hi => G_rrow (by omega), X1_81 H hfr (h.mar 10 8 199 hfr (by omega) (by omega) (by omega) (by omega) (by omega) (fun k a b => by omega) (by rw [PF_179]; rfl) (fun b k b0 b1 => PF_rrow (by omega) k) PF_198) (v.step (by omega) (fun b k hb => if_neg (by omega)) (fun b k b0 b1 => if_pos (by omega))) (w.step fun k => if_neg (by omega))⟩
theorem X1_57 {post : Option MV → MS → Prop} {U : Pt → Prop} {P0 : Int → Int → Option Int} {I0 L0 : Int → Int → Int} (H : ∀ P' I' L', mkd 179 180 207 P0 P' I0 I' L0 L' → race0 I' → post none (207, P', I', L')) (hfr : frsh 180 P0 I0 L0) {P : Int → Int → Option Int} {I L : Int → Int → Int} (h : ST 179 180 P0 I0 L0 189 9 P I L) (v : v1 189 I) (w : v1s I) : Ok RX1 cX1_init 1 rmX1_init true none post U (57, [some (.inr (.inr (some 179)))], [], (189, P, I, L), 9, 256) := by
  refine Ok.seg mdX1_init [69] 20 ?_
  simp only [wp_nil, wp_cons, ↓stp, ↓lI, ↓lL, ↓lR, ↓lIn_0, ↓lIn_1, ↓lIn_2, ↓lIn_3, ↓lLn_0, ↓lLn_1, ↓lLn_2, ↓lLn_3, ↓lRn_0, ↓lRn_1, ↓lRn_2, ↓lRn_3, ↓pI, ↓pL, ↓pR, ↓pA, ↓pN, ↓pV, ↓fp, ↓tsw, ↓oS, ↓spMax, ↓spMin, ↓spAbs, ↓spObj, RI, RLg, b2i_lo, b2i_hi, getL, setL, ltL, killL, isLong, inl, cnd, br, tgt, rcv, rpl, mputI, mputL, mputP, fv, fr, mcat, mcs, entL, entA, rfit, nf_0, nf_1, nf_2, nf_3, nf2_0, nf2_1, b2i_0, b2i_1, RI_b2i, b2i_fit, List.append, List.length, List.replicate, List.cons_append, List.nil_append, List.length_cons, List.length_nil, List.replicate_succ, List.replicate_zero, List.tail_cons, reduceIte, if_true, if_false, ite_true, ite_false, Bool.false_eq_true, true_and, and_true, and_self, false_and, and_false, or_self, or_true, true_or, or_false, false_or, not_true_eq_false, not_false_eq_true, ne_eq, forall_const, implies_true, imp_self, true_implies, false_implies, Nat.reduceAdd, Nat.reduceSub, Nat.reduceMul, Nat.reduceDiv, Nat.reduceMod, Nat.reduceEqDiff, Nat.reduceLT, Nat.reduceLeDiff, Nat.reduceBEq, Nat.add_zero, Nat.zero_add, Nat.le_refl, Nat.not_lt_zero, Nat.succ_eq_add_one, Int.reduceNatCast, Int.cast_ofNat_Int, Int.reduceSub, Int.reduceMul, Int.reduceNeg, Int.reduceLE, Int.reduceLT, Int.reduceToNat, Int.reduceEq, Int.reduceNe, Int.reduceAdd, Option.some.injEq, kX1_init, rmX1_init, ↓ofX1_15, ↓ofX1_18, ↓ofX1_21, ↓ofX1_24, ↓ofX1_28, ↓ofX1_34, ↓ofX1_37, ↓ofX1_40, ↓ofX1_9, ↓onX1_32, ↓ocX1_init_3, ↓ocX1_init_43, ↓spJ7_fill_53178, mnewM, G_179, G_189]
  refine ⟨fun i hi => G_rrow (by omega), X1_69 H hfr (h.mar 9 8 190 hfr (by omega) (by omega) (by omega) (by omega) (by omega) (fun k a b => by omega) (by rw [PF_179]; rfl) (fun b k b0 b1 => PF_rrow (by omega) k) PF_189) (v.step (by omega) (fun b k hb => if_neg (by omega)) (fun b k b0 b1 => if_pos (by omega))) (w.step fun k => if_neg (by omega))⟩
theorem X1_46 {post : Option MV → MS → Prop} {U : Pt → Prop} {P0 : Int → Int → Option Int} {I0 L0 : Int → Int → Int} (H : ∀ P' I' L', mkd 179 180 207 P0 P' I0 I' L0 L' → race0 I' → post none (207, P', I', L')) (hfr : frsh 180 P0 I0 L0) {P : Int → Int → Option Int} {I L : Int → Int → Int} (h : ST 179 180 P0 I0 L0 184 4 P I L) (v : v1 184 I) (w : v1s I) : Ok RX1 cX1_init 1 rmX1_init true none post U (46, [some (.inr (.inr (some 179)))], [], (184, P, I, L), 4, 88) := by
  refine Ok.seg mdX1_init [57] 20 ?_
  simp only [wp_nil, wp_cons, ↓stp, ↓lI, ↓lL, ↓lR, ↓lIn_0, ↓lIn_1, ↓lIn_2, ↓lIn_3, ↓lLn_0, ↓lLn_1, ↓lLn_2, ↓lLn_3, ↓lRn_0, ↓lRn_1, ↓lRn_2, ↓lRn_3, ↓pI, ↓pL, ↓pR, ↓pA, ↓pN, ↓pV, ↓fp, ↓tsw, ↓oS, ↓spMax, ↓spMin, ↓spAbs, ↓spObj, RI, RLg, b2i_lo, b2i_hi, getL, setL, ltL, killL, isLong, inl, cnd, br, tgt, rcv, rpl, mputI, mputL, mputP, fv, fr, mcat, mcs, entL, entA, rfit, nf_0, nf_1, nf_2, nf_3, nf2_0, nf2_1, b2i_0, b2i_1, RI_b2i, b2i_fit, List.append, List.length, List.replicate, List.cons_append, List.nil_append, List.length_cons, List.length_nil, List.replicate_succ, List.replicate_zero, List.tail_cons, reduceIte, if_true, if_false, ite_true, ite_false, Bool.false_eq_true, true_and, and_true, and_self, false_and, and_false, or_self, or_true, true_or, or_false, false_or, not_true_eq_false, not_false_eq_true, ne_eq, forall_const, implies_true, imp_self, true_implies, false_implies, Nat.reduceAdd, Nat.reduceSub, Nat.reduceMul, Nat.reduceDiv, Nat.reduceMod, Nat.reduceEqDiff, Nat.reduceLT, Nat.reduceLeDiff, Nat.reduceBEq, Nat.add_zero, Nat.zero_add, Nat.le_refl, Nat.not_lt_zero, Nat.succ_eq_add_one, Int.reduceNatCast, Int.cast_ofNat_Int, Int.reduceSub, Int.reduceMul, Int.reduceNeg, Int.reduceLE, Int.reduceLT, Int.reduceToNat, Int.reduceEq, Int.reduceNe, Int.reduceAdd, Option.some.injEq, kX1_init, rmX1_init, ↓ofX1_15, ↓ofX1_18, ↓ofX1_21, ↓ofX1_24, ↓ofX1_28, ↓ofX1_34, ↓ofX1_37, ↓ofX1_40, ↓ofX1_9, ↓onX1_32, ↓ocX1_init_3, ↓ocX1_init_43, ↓spJ7_fill_53178, mnewM, G_179, G_184]
  refine ⟨fun i hi => G_rrow (by omega), X1_57 H hfr (h.mar 8 4 185 hfr (by omega) (by omega) (by omega) (by omega) (by omega) (fun k a b => by rw [PF_179]; repeat rw [if_neg (by omega)]) (by rw [PF_179]; rfl) (fun b k b0 b1 => PF_rrow (by omega) k) PF_184) (v.step (by omega) (fun b k hb => if_neg (by omega)) (fun b k b0 b1 => if_pos (by omega))) (w.step fun k => if_neg (by omega))⟩
theorem X1_34 {post : Option MV → MS → Prop} {U : Pt → Prop} {P0 : Int → Int → Option Int} {I0 L0 : Int → Int → Int} (H : ∀ P' I' L', mkd 179 180 207 P0 P' I0 I' L0 L' → race0 I' → post none (207, P', I', L')) (hfr : frsh 180 P0 I0 L0) {P : Int → Int → Option Int} {I L : Int → Int → Int} (h : ST 179 180 P0 I0 L0 184 4 P I L) (v : v1 184 I) : Ok RX1 cX1_init 1 rmX1_init true none post U (34, [some (.inr (.inr (some 179)))], [], (184, P, I, L), 4, 88) := by
  refine Ok.seg mdX1_init [46] 20 ?_
  simp only [wp_nil, wp_cons, ↓stp, ↓lI, ↓lL, ↓lR, ↓lIn_0, ↓lIn_1, ↓lIn_2, ↓lIn_3, ↓lLn_0, ↓lLn_1, ↓lLn_2, ↓lLn_3, ↓lRn_0, ↓lRn_1, ↓lRn_2, ↓lRn_3, ↓pI, ↓pL, ↓pR, ↓pA, ↓pN, ↓pV, ↓fp, ↓tsw, ↓oS, ↓spMax, ↓spMin, ↓spAbs, ↓spObj, RI, RLg, b2i_lo, b2i_hi, getL, setL, ltL, killL, isLong, inl, cnd, br, tgt, rcv, rpl, mputI, mputL, mputP, fv, fr, mcat, mcs, entL, entA, rfit, nf_0, nf_1, nf_2, nf_3, nf2_0, nf2_1, b2i_0, b2i_1, RI_b2i, b2i_fit, List.append, List.length, List.replicate, List.cons_append, List.nil_append, List.length_cons, List.length_nil, List.replicate_succ, List.replicate_zero, List.tail_cons, reduceIte, if_true, if_false, ite_true, ite_false, Bool.false_eq_true, true_and, and_true, and_self, false_and, and_false, or_self, or_true, true_or, or_false, false_or, not_true_eq_false, not_false_eq_true, ne_eq, forall_const, implies_true, imp_self, true_implies, false_implies, Nat.reduceAdd, Nat.reduceSub, Nat.reduceMul, Nat.reduceDiv, Nat.reduceMod, Nat.reduceEqDiff, Nat.reduceLT, Nat.reduceLeDiff, Nat.reduceBEq, Nat.add_zero, Nat.zero_add, Nat.le_refl, Nat.not_lt_zero, Nat.succ_eq_add_one, Int.reduceNatCast, Int.cast_ofNat_Int, Int.reduceSub, Int.reduceMul, Int.reduceNeg, Int.reduceLE, Int.reduceLT, Int.reduceToNat, Int.reduceEq, Int.reduceNe, Int.reduceAdd, Option.some.injEq, kX1_init, rmX1_init, ↓ofX1_15, ↓ofX1_18, ↓ofX1_21, ↓ofX1_24, ↓ofX1_28, ↓ofX1_34, ↓ofX1_37, ↓ofX1_40, ↓ofX1_9, ↓onX1_32, ↓ocX1_init_3, ↓ocX1_init_43, ↓spJ7_fill_53178, G_179]
  refine X1_46 H hfr ⟨h.1, h.2.1, fun b k b0 b1 => ?_⟩ ⟨(upI_nj (by omega)).trans ((upI_nj (by omega)).trans v.1), fun b k b0 b1 => (upI_ne (by omega)).trans ((upI_ne (by omega)).trans (v.2 b k b0 b1))⟩ ⟨(upI_nj (by omega)).trans upI_same, upI_same⟩
  rw [upI_ne b1, upI_ne b1]
  exact h.2.2 b k b0 b1
theorem X1_26 {post : Option MV → MS → Prop} {U : Pt → Prop} {P0 : Int → Int → Option Int} {I0 L0 : Int → Int → Int} (H : ∀ P' I' L', mkd 179 180 207 P0 P' I0 I' L0 L' → race0 I' → post none (207, P', I', L')) (hfr : frsh 180 P0 I0 L0) {P : Int → Int → Option Int} {I L : Int → Int → Int} (h : ST 179 180 P0 I0 L0 183 3 P I L) (v : v1 183 I) : Ok RX1 cX1_init 1 rmX1_init true none post U (26, [some (.inr (.inr (some 179)))], [], (183, P, I, L), 3, 48) := by
  refine Ok.seg mdX1_init [34] 20 ?_
  simp only [wp_nil, wp_cons, ↓stp, ↓lI, ↓lL, ↓lR, ↓lIn_0, ↓lIn_1, ↓lIn_2, ↓lIn_3, ↓lLn_0, ↓lLn_1, ↓lLn_2, ↓lLn_3, ↓lRn_0, ↓lRn_1, ↓lRn_2, ↓lRn_3, ↓pI, ↓pL, ↓pR, ↓pA, ↓pN, ↓pV, ↓fp, ↓tsw, ↓oS, ↓spMax, ↓spMin, ↓spAbs, ↓spObj, RI, RLg, b2i_lo, b2i_hi, getL, setL, ltL, killL, isLong, inl, cnd, br, tgt, rcv, rpl, mputI, mputL, mputP, fv, fr, mcat, mcs, entL, entA, rfit, nf_0, nf_1, nf_2, nf_3, nf2_0, nf2_1, b2i_0, b2i_1, RI_b2i, b2i_fit, List.append, List.length, List.replicate, List.cons_append, List.nil_append, List.length_cons, List.length_nil, List.replicate_succ, List.replicate_zero, List.tail_cons, reduceIte, if_true, if_false, ite_true, ite_false, Bool.false_eq_true, true_and, and_true, and_self, false_and, and_false, or_self, or_true, true_or, or_false, false_or, not_true_eq_false, not_false_eq_true, ne_eq, forall_const, implies_true, imp_self, true_implies, false_implies, Nat.reduceAdd, Nat.reduceSub, Nat.reduceMul, Nat.reduceDiv, Nat.reduceMod, Nat.reduceEqDiff, Nat.reduceLT, Nat.reduceLeDiff, Nat.reduceBEq, Nat.add_zero, Nat.zero_add, Nat.le_refl, Nat.not_lt_zero, Nat.succ_eq_add_one, Int.reduceNatCast, Int.cast_ofNat_Int, Int.reduceSub, Int.reduceMul, Int.reduceNeg, Int.reduceLE, Int.reduceLT, Int.reduceToNat, Int.reduceEq, Int.reduceNe, Int.reduceAdd, Option.some.injEq, kX1_init, rmX1_init, ↓ofX1_15, ↓ofX1_18, ↓ofX1_21, ↓ofX1_24, ↓ofX1_28, ↓ofX1_34, ↓ofX1_37, ↓ofX1_40, ↓ofX1_9, ↓onX1_32, ↓ocX1_init_3, ↓ocX1_init_43, ↓spJ7_fill_53178, mnew, G_179, G_183]
  refine ⟨by decide, rfl, X1_34 H hfr (h.arr 3 (by omega) (by omega) (by omega) (fun k a b => by omega) (by rw [PF_179]; rfl) (PF_rrow (by omega))) (v.step (by omega) (fun b k hb => if_neg (by omega)) (fun b k b0 b1 => if_pos (by omega)))⟩
theorem X1_18 {post : Option MV → MS → Prop} {U : Pt → Prop} {P0 : Int → Int → Option Int} {I0 L0 : Int → Int → Int} (H : ∀ P' I' L', mkd 179 180 207 P0 P' I0 I' L0 L' → race0 I' → post none (207, P', I', L')) (hfr : frsh 180 P0 I0 L0) {P : Int → Int → Option Int} {I L : Int → Int → Int} (h : ST 179 180 P0 I0 L0 182 2 P I L) (v : v1 182 I) : Ok RX1 cX1_init 1 rmX1_init true none post U (18, [some (.inr (.inr (some 179)))], [], (182, P, I, L), 2, 8) := by
  refine Ok.seg mdX1_init [26] 20 ?_
  simp only [wp_nil, wp_cons, ↓stp, ↓lI, ↓lL, ↓lR, ↓lIn_0, ↓lIn_1, ↓lIn_2, ↓lIn_3, ↓lLn_0, ↓lLn_1, ↓lLn_2, ↓lLn_3, ↓lRn_0, ↓lRn_1, ↓lRn_2, ↓lRn_3, ↓pI, ↓pL, ↓pR, ↓pA, ↓pN, ↓pV, ↓fp, ↓tsw, ↓oS, ↓spMax, ↓spMin, ↓spAbs, ↓spObj, RI, RLg, b2i_lo, b2i_hi, getL, setL, ltL, killL, isLong, inl, cnd, br, tgt, rcv, rpl, mputI, mputL, mputP, fv, fr, mcat, mcs, entL, entA, rfit, nf_0, nf_1, nf_2, nf_3, nf2_0, nf2_1, b2i_0, b2i_1, RI_b2i, b2i_fit, List.append, List.length, List.replicate, List.cons_append, List.nil_append, List.length_cons, List.length_nil, List.replicate_succ, List.replicate_zero, List.tail_cons, reduceIte, if_true, if_false, ite_true, ite_false, Bool.false_eq_true, true_and, and_true, and_self, false_and, and_false, or_self, or_true, true_or, or_false, false_or, not_true_eq_false, not_false_eq_true, ne_eq, forall_const, implies_true, imp_self, true_implies, false_implies, Nat.reduceAdd, Nat.reduceSub, Nat.reduceMul, Nat.reduceDiv, Nat.reduceMod, Nat.reduceEqDiff, Nat.reduceLT, Nat.reduceLeDiff, Nat.reduceBEq, Nat.add_zero, Nat.zero_add, Nat.le_refl, Nat.not_lt_zero, Nat.succ_eq_add_one, Int.reduceNatCast, Int.cast_ofNat_Int, Int.reduceSub, Int.reduceMul, Int.reduceNeg, Int.reduceLE, Int.reduceLT, Int.reduceToNat, Int.reduceEq, Int.reduceNe, Int.reduceAdd, Option.some.injEq, kX1_init, rmX1_init, ↓ofX1_15, ↓ofX1_18, ↓ofX1_21, ↓ofX1_24, ↓ofX1_28, ↓ofX1_34, ↓ofX1_37, ↓ofX1_40, ↓ofX1_9, ↓onX1_32, ↓ocX1_init_3, ↓ocX1_init_43, ↓spJ7_fill_53178, mnew, G_179, G_182]
  refine ⟨by decide, rfl, X1_26 H hfr (h.arr 2 (by omega) (by omega) (by omega) (fun k a b => by omega) (by rw [PF_179]; rfl) (PF_rrow (by omega))) (v.step (by omega) (fun b k hb => if_neg (by omega)) (fun b k b0 b1 => if_pos (by omega)))⟩
theorem X1_11 {post : Option MV → MS → Prop} {U : Pt → Prop} {P0 : Int → Int → Option Int} {I0 L0 : Int → Int → Int} (H : ∀ P' I' L', mkd 179 180 207 P0 P' I0 I' L0 L' → race0 I' → post none (207, P', I', L')) (hfr : frsh 180 P0 I0 L0) {P : Int → Int → Option Int} {I L : Int → Int → Int} (h : ST 179 180 P0 I0 L0 181 1 P I L) (v : v1 181 I) : Ok RX1 cX1_init 1 rmX1_init true none post U (11, [some (.inr (.inr (some 179)))], [], (181, P, I, L), 1, 4) := by
  refine Ok.seg mdX1_init [18] 20 ?_
  simp only [wp_nil, wp_cons, ↓stp, ↓lI, ↓lL, ↓lR, ↓lIn_0, ↓lIn_1, ↓lIn_2, ↓lIn_3, ↓lLn_0, ↓lLn_1, ↓lLn_2, ↓lLn_3, ↓lRn_0, ↓lRn_1, ↓lRn_2, ↓lRn_3, ↓pI, ↓pL, ↓pR, ↓pA, ↓pN, ↓pV, ↓fp, ↓tsw, ↓oS, ↓spMax, ↓spMin, ↓spAbs, ↓spObj, RI, RLg, b2i_lo, b2i_hi, getL, setL, ltL, killL, isLong, inl, cnd, br, tgt, rcv, rpl, mputI, mputL, mputP, fv, fr, mcat, mcs, entL, entA, rfit, nf_0, nf_1, nf_2, nf_3, nf2_0, nf2_1, b2i_0, b2i_1, RI_b2i, b2i_fit, List.append, List.length, List.replicate, List.cons_append, List.nil_append, List.length_cons, List.length_nil, List.replicate_succ, List.replicate_zero, List.tail_cons, reduceIte, if_true, if_false, ite_true, ite_false, Bool.false_eq_true, true_and, and_true, and_self, false_and, and_false, or_self, or_true, true_or, or_false, false_or, not_true_eq_false, not_false_eq_true, ne_eq, forall_const, implies_true, imp_self, true_implies, false_implies, Nat.reduceAdd, Nat.reduceSub, Nat.reduceMul, Nat.reduceDiv, Nat.reduceMod, Nat.reduceEqDiff, Nat.reduceLT, Nat.reduceLeDiff, Nat.reduceBEq, Nat.add_zero, Nat.zero_add, Nat.le_refl, Nat.not_lt_zero, Nat.succ_eq_add_one, Int.reduceNatCast, Int.cast_ofNat_Int, Int.reduceSub, Int.reduceMul, Int.reduceNeg, Int.reduceLE, Int.reduceLT, Int.reduceToNat, Int.reduceEq, Int.reduceNe, Int.reduceAdd, Option.some.injEq, kX1_init, rmX1_init, ↓ofX1_15, ↓ofX1_18, ↓ofX1_21, ↓ofX1_24, ↓ofX1_28, ↓ofX1_34, ↓ofX1_37, ↓ofX1_40, ↓ofX1_9, ↓onX1_32, ↓ocX1_init_3, ↓ocX1_init_43, ↓spJ7_fill_53178, mnew, G_179, G_181]
  refine ⟨by decide, rfl, X1_18 H hfr (h.arr 1 (by omega) (by omega) (by omega) (fun k a b => by omega) (by rw [PF_179]; rfl) (PF_rrow (by omega))) (v.step (by omega) (fun b k hb => if_neg (by omega)) (fun b k b0 b1 => if_pos (by omega)))⟩
set_option maxRecDepth 100000 in
set_option maxHeartbeats 800000 in
theorem mX1_init : MOK yX1_init cX1_init 1 none rmX1_init ciX1_init := by
  refine mok_of (ini := true) (by decide +kernel) (by decide) rfl rfl ?_
  intro σ As K hrc hl h
  obtain ⟨N, P, I, L⟩ := σ
  have h9 := pR_iff.mp h
  clear h
  obtain ⟨a, r, e9, h⟩ := h9
  subst e9
  have h9 := pN_iff.mp h
  clear h
  obtain ⟨e9, h⟩ := h9
  subst e9
  try dsimp only at h
  obtain ⟨rfl, rfl, hf, hp, hi, h⟩ := h
  refine ⟨Nat.le_of_ble_eq_true rfl, Ok.seg mdX1_init [11] 20 ?_⟩
  simp only [wp_nil, wp_cons, ↓stp, ↓lI, ↓lL, ↓lR, ↓lIn_0, ↓lIn_1, ↓lIn_2, ↓lIn_3, ↓lLn_0, ↓lLn_1, ↓lLn_2, ↓lLn_3, ↓lRn_0, ↓lRn_1, ↓lRn_2, ↓lRn_3, ↓pI, ↓pL, ↓pR, ↓pA, ↓pN, ↓pV, ↓fp, ↓tsw, ↓oS, ↓spMax, ↓spMin, ↓spAbs, ↓spObj, RI, RLg, b2i_lo, b2i_hi, getL, setL, ltL, killL, isLong, inl, cnd, br, tgt, rcv, rpl, mputI, mputL, mputP, fv, fr, mcat, mcs, entL, entA, rfit, nf_0, nf_1, nf_2, nf_3, nf2_0, nf2_1, b2i_0, b2i_1, RI_b2i, b2i_fit, List.append, List.length, List.replicate, List.cons_append, List.nil_append, List.length_cons, List.length_nil, List.replicate_succ, List.replicate_zero, List.tail_cons, reduceIte, if_true, if_false, ite_true, ite_false, Bool.false_eq_true, true_and, and_true, and_self, false_and, and_false, or_self, or_true, true_or, or_false, false_or, not_true_eq_false, not_false_eq_true, ne_eq, forall_const, implies_true, imp_self, true_implies, false_implies, Nat.reduceAdd, Nat.reduceSub, Nat.reduceMul, Nat.reduceDiv, Nat.reduceMod, Nat.reduceEqDiff, Nat.reduceLT, Nat.reduceLeDiff, Nat.reduceBEq, Nat.add_zero, Nat.zero_add, Nat.le_refl, Nat.not_lt_zero, Nat.succ_eq_add_one, Int.reduceNatCast, Int.cast_ofNat_Int, Int.reduceSub, Int.reduceMul, Int.reduceNeg, Int.reduceLE, Int.reduceLT, Int.reduceToNat, Int.reduceEq, Int.reduceNe, Int.reduceAdd, Option.some.injEq, kX1_init, rmX1_init, ↓ofX1_15, ↓ofX1_18, ↓ofX1_21, ↓ofX1_24, ↓ofX1_28, ↓ofX1_34, ↓ofX1_37, ↓ofX1_40, ↓ofX1_9, ↓onX1_32, ↓ocX1_init_3, ↓ocX1_init_43, ↓spJ7_fill_53178, mnew, G_179, G_180]
  refine ⟨by decide, rfl, X1_11 (post := fun r σ' => rfit none r ∧ K r σ') (fun P1 I1 L1 a b => ⟨trivial, h P1 I1 L1 a b⟩) hf (ST.arr (a := 179) (N0 := 180) (N := 180) (P0 := P) (I0 := I) (L0 := L) (f := 0) (P := P) (I := I) (L := L) 0 ⟨fun b k b0 b1 => by omega, fun k => ?_, fun b k _ _ => ⟨rfl, rfl, rfl⟩⟩ (by omega) (by omega) (by omega) (fun k a b => by omega) (by rw [PF_179]; rfl) (PF_rrow (by omega))) ⟨(if_neg (by omega)).trans (hi 6), fun b k b0 b1 => if_pos (by omega)⟩⟩
  rw [hp]
  split
  · rw [PF_179]; repeat rw [if_neg (by omega)]
  · rfl
theorem PF_1 (k : Int) : PF 1 k = if k = 0 then some 2 else if k = 1 then some 145 else if k = 2 then some 179 else if k = 3 then some 207 else none := by
  unfold PF
  simp
theorem PF_207 (k : Int) : PF 207 k = if 0 ≤ k ∧ k < 8 then some (208 + 4 * k) else none := by
  unfold PF
  simp
theorem race0_cg {I J : Int → Int → Int} (h : ∀ b k, 179 ≤ b → b ≤ 206 → J b k = I b k) (hc : race0 I) : race0 J :=
  ⟨(h _ _ (by omega) (by omega)).trans hc.1, (h _ _ (by omega) (by omega)).trans hc.2.1, (h _ _ (by omega) (by omega)).trans hc.2.2.1, fun k => (h _ _ (by omega) (by omega)).trans (hc.2.2.2.1 k), fun k k0 k1 => (h _ _ (by omega) (by omega)).trans (hc.2.2.2.2.1 k k0 k1), fun k hk => (h _ _ (by omega) (by omega)).trans (hc.2.2.2.2.2.1 k hk), fun b k b0 b1 => (h _ _ (by omega) (by omega)).trans (hc.2.2.2.2.2.2 b k b0 b1)⟩
theorem way0_cg {I J : Int → Int → Int} (h : ∀ b k, 2 ≤ b → b ≤ 144 → J b k = I b k) (hc : way0 I) : way0 J :=
  ⟨fun b k b0 b1 => (h _ _ (by omega) (by omega)).trans (hc.1 b k b0 b1), car0_cg (fun b k b0 b1 => h b k (by omega) (by omega)) hc.2.1, fun b k b0 b1 => (h _ _ (by omega) (by omega)).trans (hc.2.2.1 b k b0 b1), fun k k0 k1 => (h _ _ (by omega) (by omega)).trans (hc.2.2.2 k k0 k1)⟩
/-- a new board -/
def x0 (I : Int → Int → Int) : Prop := way0 I ∧ (∀ b k, 145 ≤ b → b ≤ 178 → I b k = 0) ∧ race0 I ∧ ∀ b k, 208 ≤ b → b ≤ 239 → I b k = 0
def spX8_init (As : List MV) (σ : MS) (K : Option MV → MS → Prop) : Prop := pR As fun a r => pN r (a = 1 ∧ σ.1 = 2 ∧ frsh 2 σ.2.1 σ.2.2.1 σ.2.2.2 ∧ (∀ k, σ.2.1 a k = none) ∧ ∀ P' I' L', mkd a 2 240 σ.2.1 P' σ.2.2.1 I' σ.2.2.2 L' → x0 I' → K none (240, P', I', L'))
def ciX8_init : CI := (1, 20, 238, 10361, spX8_init)
theorem rcX8_init : ∀ (As : List MV) (σ : MS) (K : Option MV → MS → Prop), ciX8_init.2.2.2.2 As σ K → ∃ a As', As = .inr (.inr (some a)) :: As' := fun _ _ _ h => pR_fst h
def kX8_init (pc : Nat) : List ME := match pc with
  | 0 => [(.aload_n 0, 1, []), (.invokespecial 1, 3, []), (.aload_n 0, 1, []), (.new 7, 3, []), (.dup, 1, []), (.invokespecial 9, 3, []), (.putfield 10, 3, [])]
  | 15 => [(.aload_n 0, 1, []), (.new 16, 3, []), (.dup, 1, []), (.invokespecial 18, 3, []), (.putfield 19, 3, [])]
  | 26 => [(.aload_n 0, 1, []), (.new 23, 3, []), (.dup, 1, []), (.invokespecial 25, 3, []), (.putfield 26, 3, [])]
  | 37 => [(.aload_n 0, 1, []), (.bipush 8, 2, []), (.anewarray 30, 3, []), (.putfield 32, 3, []), (.iconst 0, 1, []), (.istore_n 1, 1, [])]
  | 48 => [(.iload_n 1, 1, []), (.bipush 8, 2, []), (.if_icmp .ge 22, 3, [73]), (.aload_n 0, 1, []), (.getfield 32, 3, []), (.iload_n 1, 1, []), (.new 30, 3, []), (.dup, 1, []), (.invokespecial 36, 3, []), (.aastore, 1, []), (.iinc 1 1, 3, []), (.goto (-22), 3, [48])]
  | 73 => [(.return_, 1, [])]
  | _ => []
theorem qX8_init : ∀ pc, chk cX8_init pc (kX8_init pc) = true := by
  intro pc
  unfold kX8_init
  split <;> first | decide +kernel | exact chk_nil
abbrev rmX8_init : Room := { frames := 5, cells := 238, slots := 10361, locals := 107 }
def aX8_init (x : Nat) : Option CI := match x with
  | 1 => some ciObj
  | 9 => some ciX7_init
  | 18 => some ciX4_init
  | 25 => some ciX1_init
  | 36 => some ciX2_init
  | _ => none
theorem aokX8_init : ∀ x ci, aX8_init x = some ci → CalOK RX8 rmX8_init x ci := by
  intro x ci h
  unfold aX8_init at h
  split at h
  · cases h; exact cal_obj (List.forall_mem_cons.mpr ⟨(ws_mem (List.mem_of_getElem? (i := 76) (by decide +kernel)) (by decide +kernel)), List.forall_mem_cons.mpr ⟨(ws_mem (List.mem_of_getElem? (i := 77) (by decide +kernel)) (by decide +kernel)), List.forall_mem_cons.mpr ⟨(ws_mem (List.mem_of_getElem? (i := 78) (by decide +kernel)) (by decide +kernel)), fun _ h => absurd h List.not_mem_nil⟩⟩⟩) (by decide)
  · cases h; exact cal_I mX7_init (by decide) rfl (List.forall_mem_cons.mpr ⟨(ws_mem (List.mem_of_getElem? (i := 81) (by decide +kernel)) (by decide +kernel)), List.forall_mem_cons.mpr ⟨(ws_mem (List.mem_of_getElem? (i := 82) (by decide +kernel)) (by decide +kernel)), List.forall_mem_cons.mpr ⟨(ws_mem (List.mem_of_getElem? (i := 54) (by decide +kernel)) (by decide +kernel)), List.forall_mem_cons.mpr ⟨(ws_mem (List.mem_of_getElem? (i := 83) (by decide +kernel)) (by decide +kernel)), fun _ h => absurd h List.not_mem_nil⟩⟩⟩⟩) rfl (by unfold nice; decide +kernel) (by unfold rfits; decide) ⟨rfl, rfl⟩ rcX7_init
  · cases h; exact cal_I mX4_init (by decide) rfl (List.forall_mem_cons.mpr ⟨(ws_mem (List.mem_of_getElem? (i := 252) (by decide +kernel)) (by decide +kernel)), List.forall_mem_cons.mpr ⟨(ws_mem (List.mem_of_getElem? (i := 253) (by decide +kernel)) (by decide +kernel)), List.forall_mem_cons.mpr ⟨(ws_mem (List.mem_of_getElem? (i := 61) (by decide +kernel)) (by decide +kernel)), List.forall_mem_cons.mpr ⟨(ws_mem (List.mem_of_getElem? (i := 254) (by decide +kernel)) (by decide +kernel)), fun _ h => absurd h List.not_mem_nil⟩⟩⟩⟩) rfl (by unfold nice; decide +kernel) (by unfold rfits; decide) ⟨rfl, rfl⟩ rcX4_init
  · cases h; exact cal_I mX1_init (by decide) rfl (List.forall_mem_cons.mpr ⟨(ws_mem (List.mem_of_getElem? (i := 266) (by decide +kernel)) (by decide +kernel)), List.forall_mem_cons.mpr ⟨(ws_mem (List.mem_of_getElem? (i := 267) (by decide +kernel)) (by decide +kernel)), List.forall_mem_cons.mpr ⟨(ws_mem (List.mem_of_getElem? (i := 62) (by decide +kernel)) (by decide +kernel)), List.forall_mem_cons.mpr ⟨(ws_mem (List.mem_of_getElem? (i := 268) (by decide +kernel)) (by decide +kernel)), fun _ h => absurd h List.not_mem_nil⟩⟩⟩⟩) rfl (by unfold nice; decide +kernel) (by unfold rfits; decide) ⟨rfl, rfl⟩ rcX1_init
  · cases h; exact cal_I mX2_init (by decide) rfl (List.forall_mem_cons.mpr ⟨(ws_mem (List.mem_of_getElem? (i := 320) (by decide +kernel)) (by decide +kernel)), List.forall_mem_cons.mpr ⟨(ws_mem (List.mem_of_getElem? (i := 321) (by decide +kernel)) (by decide +kernel)), List.forall_mem_cons.mpr ⟨(ws_mem (List.mem_of_getElem? (i := 63) (by decide +kernel)) (by decide +kernel)), List.forall_mem_cons.mpr ⟨(ws_mem (List.mem_of_getElem? (i := 322) (by decide +kernel)) (by decide +kernel)), fun _ h => absurd h List.not_mem_nil⟩⟩⟩⟩) rfl (by unfold nice; decide +kernel) (by unfold rfits; decide) ⟨rfl, rfl⟩ rcX2_init
  · cases h
theorem ocX8_init_1 (f : Nat → Nat → Nat → Nat → (List MV → MS → (Option MV → MS → Prop) → Prop) → Prop) : oC aX8_init 1 f = f 1 20 0 0 spObj := propext Iff.rfl
theorem ocX8_init_9 (f : Nat → Nat → Nat → Nat → (List MV → MS → (Option MV → MS → Prop) → Prop) → Prop) : oC aX8_init 9 f = f 1 20 142 6407 spX7_init := propext Iff.rfl
theorem ocX8_init_18 (f : Nat → Nat → Nat → Nat → (List MV → MS → (Option MV → MS → Prop) → Prop) → Prop) : oC aX8_init 18 f = f 1 20 33 1952 spX4_init := propext Iff.rfl
theorem ocX8_init_25 (f : Nat → Nat → Nat → Nat → (List MV → MS → (Option MV → MS → Prop) → Prop) → Prop) : oC aX8_init 25 f = f 1 20 27 928 spX1_init := propext Iff.rfl
theorem ocX8_init_36 (f : Nat → Nat → Nat → Nat → (List MV → MS → (Option MV → MS → Prop) → Prop) → Prop) : oC aX8_init 36 f = f 1 20 3 125 spX2_init := propext Iff.rfl
theorem mdX8_init : MD RX8 cX8_init rmX8_init kX8_init fX8 aX8_init zX8 uX8 := ⟨fokX8, zokX8, uokX8, aokX8_init, qX8_init⟩
theorem lpX8_i {post : Option MV → MS → Prop} {U : Pt → Prop} {P0 : Int → Int → Option Int} {I0 L0 : Int → Int → Int} (p3 : P0 1 3 = some 207)
    (H : ∀ P' I' L', ST 207 208 P0 I0 L0 240 8 P' I' L' → (∀ b k, 208 ≤ b → b ≤ 239 → I' b k = 0) → post none (240, P', I', L')) :
    ∀ (m i : Nat) (P : Int → Int → Option Int) (I L : Int → Int → Int), i + m = 8 → ST 207 208 P0 I0 L0 (208 + 4 * (i : Int)) i P I L → (∀ b k, 208 ≤ b → b < 208 + 4 * (i : Int) → I b k = 0) →
    Ok RX8 cX8_init 2 rmX8_init true none post U (48, [some (.inr (.inr (some 1))), some (.inl i)], [], (208 + 4 * i, P, I, L), 206 + 4 * i, 9321 + 130 * i)
  | 0, i, P, I, L, hi, h1, h3 => by
    have e : i = 8 := by omega
    subst e
    refine Ok.seg mdX8_init [48] 12 ?_
    simp only [wp_nil, wp_cons, ↓stp, ↓lI, ↓lL, ↓lR, ↓lIn_0, ↓lIn_1, ↓lIn_2, ↓lIn_3, ↓lLn_0, ↓lLn_1, ↓lLn_2, ↓lLn_3, ↓lRn_0, ↓lRn_1, ↓lRn_2, ↓lRn_3, ↓pI, ↓pL, ↓pR, ↓pA, ↓pN, ↓pV, ↓fp, ↓tsw, ↓oS, ↓spMax, ↓spMin, ↓spAbs, ↓spObj, RI, RLg, b2i_lo, b2i_hi, getL, setL, ltL, killL, isLong, inl, cnd, br, tgt, rcv, rpl, mputI, mputL, mputP, fv, fr, mcat, mcs, entL, entA, rfit, nf_0, nf_1, nf_2, nf_3, nf2_0, nf2_1, b2i_0, b2i_1, RI_b2i, b2i_fit, List.append, List.length, List.replicate, List.cons_append, List.nil_append, List.length_cons, List.length_nil, List.replicate_succ, List.replicate_zero, List.tail_cons, reduceIte, if_true, if_false, ite_true, ite_false, Bool.false_eq_true, true_and, and_true, and_self, false_and, and_false, or_self, or_true, true_or, or_false, false_or, not_true_eq_false, not_false_eq_true, ne_eq, forall_const, implies_true, imp_self, true_implies, false_implies, Nat.reduceAdd, Nat.reduceSub, Nat.reduceMul, Nat.reduceDiv, Nat.reduceMod, Nat.reduceEqDiff, Nat.reduceLT, Nat.reduceLeDiff, Nat.reduceBEq, Nat.add_zero, Nat.zero_add, Nat.le_refl, Nat.not_lt_zero, Nat.succ_eq_add_one, Int.reduceNatCast, Int.cast_ofNat_Int, Int.reduceSub, Int.reduceMul, Int.reduceNeg, Int.reduceLE, Int.reduceLT, Int.reduceToNat, Int.reduceEq, Int.reduceNe, Int.reduceAdd, Option.some.injEq, kX8_init, rmX8_init, ↓ofX8_10, ↓ofX8_19, ↓ofX8_26, ↓ofX8_32, ↓onX8_100030, ↓onX8_16, ↓onX8_23, ↓onX8_30, ↓onX8_7, ↓ocX8_init_1, ↓ocX8_init_9, ↓spX7_init, ↓ocX8_init_18, ↓spX4_init, ↓ocX8_init_25, ↓spX1_init, ↓ocX8_init_36, ↓spX2_init]
    exact H P I L h1 (fun b k b0 b1 => h3 b k b0 (by omega))
  | m + 1, i, P, I, L, hi, h1, h3 => by
    have ih := fun P I L => lpX8_i (post := post) (U := U) p3 H m (i + 1) P I L (by omega)
    rw [show ((i + 1 : Nat) : Int) = (i : Int) + 1 by omega, show 208 + 4 * (i + 1) = 208 + 4 * i + 1 + 3 by omega, show 206 + 4 * (i + 1) = 206 + 4 * i + 1 + 3 by omega, show 9321 + 130 * (i + 1) = 9321 + 130 * i + 5 + 125 by omega] at ih
    have eP : P 1 3 = some 207 := by rw [(h1.2.2 1 3 (by omega) (by omega)).1]; exact p3
    have hs : shB ((208 + 4 * i : Nat) : Int) := ⟨i, by omega, by omega, by omega⟩
    have eG := (shB_rows hs).1
    have en : nfs 2 = 5 := rfl
    have pr := fun k => PF_207 k
    have ec : ((208 + 4 * i : Nat) : Int) = 208 + 4 * (i : Int) := by omega
    refine Ok.seg mdX8_init [48] 40 ?_
    simp only [wp_nil, wp_cons, ↓stp, ↓lI, ↓lL, ↓lR, ↓lIn_0, ↓lIn_1, ↓lIn_2, ↓lIn_3, ↓lLn_0, ↓lLn_1, ↓lLn_2, ↓lLn_3, ↓lRn_0, ↓lRn_1, ↓lRn_2, ↓lRn_3, ↓pI, ↓pL, ↓pR, ↓pA, ↓pN, ↓pV, ↓fp, ↓tsw, ↓oS, ↓spMax, ↓spMin, ↓spAbs, ↓spObj, RI, RLg, b2i_lo, b2i_hi, getL, setL, ltL, killL, isLong, inl, cnd, br, tgt, rcv, rpl, mputI, mputL, mputP, fv, fr, mcat, mcs, entL, entA, rfit, nf_0, nf_1, nf_2, nf_3, nf2_0, nf2_1, b2i_0, b2i_1, RI_b2i, b2i_fit, List.append, List.length, List.replicate, List.cons_append, List.nil_append, List.length_cons, List.length_nil, List.replicate_succ, List.replicate_zero, List.tail_cons, reduceIte, if_true, if_false, ite_true, ite_false, Bool.false_eq_true, true_and, and_true, and_self, false_and, and_false, or_self, or_true, true_or, or_false, false_or, not_true_eq_false, not_false_eq_true, ne_eq, forall_const, implies_true, imp_self, true_implies, false_implies, Nat.reduceAdd, Nat.reduceSub, Nat.reduceMul, Nat.reduceDiv, Nat.reduceMod, Nat.reduceEqDiff, Nat.reduceLT, Nat.reduceLeDiff, Nat.reduceBEq, Nat.add_zero, Nat.zero_add, Nat.le_refl, Nat.not_lt_zero, Nat.succ_eq_add_one, Int.reduceNatCast, Int.cast_ofNat_Int, Int.reduceSub, Int.reduceMul, Int.reduceNeg, Int.reduceLE, Int.reduceLT, Int.reduceToNat, Int.reduceEq, Int.reduceNe, Int.reduceAdd, Option.some.injEq, kX8_init, rmX8_init, ↓ofX8_10, ↓ofX8_19, ↓ofX8_26, ↓ofX8_32, ↓onX8_100030, ↓onX8_16, ↓onX8_23, ↓onX8_30, ↓onX8_7, ↓ocX8_init_1, ↓ocX8_init_9, ↓spX7_init, ↓ocX8_init_18, ↓spX4_init, ↓ocX8_init_25, ↓spX1_init, ↓ocX8_init_36, ↓spX2_init, mnew, eP, eG, en, G_1, G_207]
    refine ⟨by omega, fun q => by omega, fun _ => ⟨by omega, by omega, by omega, by omega, hs, by omega, fun P' I' L' hm hz => ⟨by omega, by omega, ?_⟩⟩⟩
    rw [ec] at hm hz ⊢
    refine ih _ _ _ ?_ (fun b k b0 b1 => ?_)
    · have := h1.obj (N' := 208 + 4 * (i : Int) + 4) i (by omega) (by omega) (by omega) (by omega) (fun k a b => by omega) (by rw [PF_207, if_pos (by omega)]) hm
      rw [show 208 + 4 * ((i : Int) + 1) = 208 + 4 * (i : Int) + 4 by omega]
      exact this
    · by_cases q : 208 + 4 * (i : Int) ≤ b
      · exact hz b k q (by omega)
      · rw [hm.2.2.1 b k (by omega) (by omega)]
        exact (if_neg (by omega)).trans (h3 b k b0 (by omega))
theorem X8_37 {post : Option MV → MS → Prop} {U : Pt → Prop} {P0 : Int → Int → Option Int} {I0 L0 : Int → Int → Int} (H : ∀ P' I' L', mkd 1 2 240 P0 P' I0 I' L0 L' → x0 I' → post none (240, P', I', L')) (hfr : frsh 2 P0 I0 L0) {P : Int → Int → Option Int} {I L : Int → Int → Int} (h : ST 1 2 P0 I0 L0 207 3 P I L) (vw : way0 I) (vs : ∀ b k, 145 ≤ b → b ≤ 178 → I b k = 0) (vr : race0 I) : Ok RX8 cX8_init 2 rmX8_init true none post U (37, [some (.inr (.inr (some 1))), none], [], (207, P, I, L), 205, 9313) := by
  have p3 : upP (fun b i => if b = 207 then none else P b i) 1 3 (some 207) 1 3 = some 207 := upP_same
  refine Ok.seg mdX8_init [48] 20 ?_
  simp only [wp_nil, wp_cons, ↓stp, ↓lI, ↓lL, ↓lR, ↓lIn_0, ↓lIn_1, ↓lIn_2, ↓lIn_3, ↓lLn_0, ↓lLn_1, ↓lLn_2, ↓lLn_3, ↓lRn_0, ↓lRn_1, ↓lRn_2, ↓lRn_3, ↓pI, ↓pL, ↓pR, ↓pA, ↓pN, ↓pV, ↓fp, ↓tsw, ↓oS, ↓spMax, ↓spMin, ↓spAbs, ↓spObj, RI, RLg, b2i_lo, b2i_hi, getL, setL, ltL, killL, isLong, inl, cnd, br, tgt, rcv, rpl, mputI, mputL, mputP, fv, fr, mcat, mcs, entL, entA, rfit, nf_0, nf_1, nf_2, nf_3, nf2_0, nf2_1, b2i_0, b2i_1, RI_b2i, b2i_fit, List.append, List.length, List.replicate, List.cons_append, List.nil_append, List.length_cons, List.length_nil, List.replicate_succ, List.replicate_zero, List.tail_cons, reduceIte, if_true, if_false, ite_true, ite_false, Bool.false_eq_true, true_and, and_true, and_self, false_and, and_false, or_self, or_true, true_or, or_false, false_or, not_true_eq_false, not_false_eq_true, ne_eq, forall_const, implies_true, imp_self, true_implies, false_implies, Nat.reduceAdd, Nat.reduceSub, Nat.reduceMul, Nat.reduceDiv, Nat.reduceMod, Nat.reduceEqDiff, Nat.reduceLT, Nat.reduceLeDiff, Nat.reduceBEq, Nat.add_zero, Nat.zero_add, Nat.le_refl, Nat.not_lt_zero, Nat.succ_eq_add_one, Int.reduceNatCast, Int.cast_ofNat_Int, Int.reduceSub, Int.reduceMul, Int.reduceNeg, Int.reduceLE, Int.reduceLT, Int.reduceToNat, Int.reduceEq, Int.reduceNe, Int.reduceAdd, Option.some.injEq, kX8_init, rmX8_init, ↓ofX8_10, ↓ofX8_19, ↓ofX8_26, ↓ofX8_32, ↓onX8_100030, ↓onX8_16, ↓onX8_23, ↓onX8_30, ↓onX8_7, ↓ocX8_init_1, ↓ocX8_init_9, ↓spX7_init, ↓ocX8_init_18, ↓spX4_init, ↓ocX8_init_25, ↓spX1_init, ↓ocX8_init_36, ↓spX2_init, mnew, G_1, G_207]
  refine lpX8_i p3 (fun P' I' L' h2 hz => H P' I' L' ⟨fun b k hb => ?_, fun b k b0 b1 => ?_, fun b k b0 b1 => ?_, fun b k b0 b1 => ?_⟩ ⟨way0_cg (fun b k b0 b1 => ?_) vw, fun b k b0 b1 => ?_, race0_cg (fun b k b0 b1 => ?_) vr, hz⟩) 8 0 _ _ _ (by omega) ⟨fun b k b0 b1 => by omega, fun k => ?_, fun b k _ _ => ⟨rfl, rfl, rfl⟩⟩ (fun b k b0 b1 => by omega)
  · by_cases q : 208 ≤ b
    · exact h2.1 b k q (by omega)
    · by_cases q2 : b = 207
      · subst q2
        rw [h2.2.1]
        split
        · rfl
        · rw [PF_207, if_neg (by omega)]
      · rw [(h2.2.2 b k (by omega) q2).1]
        by_cases q3 : b = 1 ∧ k = 3
        · rw [q3.1, q3.2, upP_same, PF_1]; rfl
        · rw [show upP (fun b i => if b = 207 then none else P b i) 1 3 (some 207) b k = if b = 207 then none else P b k from if_neg q3, if_neg q2]
          by_cases q4 : b = 1
          · subst q4
            rw [h.2.1]
            split
            · rfl
            · rw [PF_1]; repeat rw [if_neg (by omega)]
          · exact h.1 b k (by omega) (by omega)
  · rw [(h2.2.2 b k (by omega) (by omega)).1, upP_nb b1]
    exact (if_neg (by omega)).trans (h.2.2 b k (by omega) b1).1
  · rw [(h2.2.2 b k (by omega) (by omega)).2.1]
    exact (if_neg (by omega)).trans (h.2.2 b k (by omega) b1).2.1
  · rw [(h2.2.2 b k (by omega) (by omega)).2.2]
    exact (if_neg (by omega)).trans (h.2.2 b k (by omega) b1).2.2
  · rw [(h2.2.2 b k (by omega) (by omega)).2.1]; exact if_neg (by omega)
  · rw [(h2.2.2 b k (by omega) (by omega)).2.1]; exact (if_neg (by omega)).trans (vs b k b0 b1)
  · rw [(h2.2.2 b k (by omega) (by omega)).2.1]; exact if_neg (by omega)
  · rw [upP_nb (by omega)]
    try dsimp only
    rw [if_pos rfl]
    split
    · rw [PF_207, if_neg (by omega)]
    · rfl
theorem X8_26 {post : Option MV → MS → Prop} {U : Pt → Prop} {P0 : Int → Int → Option Int} {I0 L0 : Int → Int → Int} (H : ∀ P' I' L', mkd 1 2 240 P0 P' I0 I' L0 L' → x0 I' → post none (240, P', I', L')) (hfr : frsh 2 P0 I0 L0) {P : Int → Int → Option Int} {I L : Int → Int → Int} (h : ST 1 2 P0 I0 L0 179 2 P I L) (vw : way0 I) (vs : ∀ b k, 145 ≤ b → b ≤ 178 → I b k = 0) : Ok RX8 cX8_init 2 rmX8_init true none post U (26, [some (.inr (.inr (some 1))), none], [], (179, P, I, L), 177, 8373) := by
  refine Ok.seg mdX8_init [37] 20 ?_
  simp only [wp_nil, wp_cons, ↓stp, ↓lI, ↓lL, ↓lR, ↓lIn_0, ↓lIn_1, ↓lIn_2, ↓lIn_3, ↓lLn_0, ↓lLn_1, ↓lLn_2, ↓lLn_3, ↓lRn_0, ↓lRn_1, ↓lRn_2, ↓lRn_3, ↓pI, ↓pL, ↓pR, ↓pA, ↓pN, ↓pV, ↓fp, ↓tsw, ↓oS, ↓spMax, ↓spMin, ↓spAbs, ↓spObj, RI, RLg, b2i_lo, b2i_hi, getL, setL, ltL, killL, isLong, inl, cnd, br, tgt, rcv, rpl, mputI, mputL, mputP, fv, fr, mcat, mcs, entL, entA, rfit, nf_0, nf_1, nf_2, nf_3, nf2_0, nf2_1, b2i_0, b2i_1, RI_b2i, b2i_fit, List.append, List.length, List.replicate, List.cons_append, List.nil_append, List.length_cons, List.length_nil, List.replicate_succ, List.replicate_zero, List.tail_cons, reduceIte, if_true, if_false, ite_true, ite_false, Bool.false_eq_true, true_and, and_true, and_self, false_and, and_false, or_self, or_true, true_or, or_false, false_or, not_true_eq_false, not_false_eq_true, ne_eq, forall_const, implies_true, imp_self, true_implies, false_implies, Nat.reduceAdd, Nat.reduceSub, Nat.reduceMul, Nat.reduceDiv, Nat.reduceMod, Nat.reduceEqDiff, Nat.reduceLT, Nat.reduceLeDiff, Nat.reduceBEq, Nat.add_zero, Nat.zero_add, Nat.le_refl, Nat.not_lt_zero, Nat.succ_eq_add_one, Int.reduceNatCast, Int.cast_ofNat_Int, Int.reduceSub, Int.reduceMul, Int.reduceNeg, Int.reduceLE, Int.reduceLT, Int.reduceToNat, Int.reduceEq, Int.reduceNe, Int.reduceAdd, Option.some.injEq, kX8_init, rmX8_init, ↓ofX8_10, ↓ofX8_19, ↓ofX8_26, ↓ofX8_32, ↓onX8_100030, ↓onX8_16, ↓onX8_23, ↓onX8_30, ↓onX8_7, ↓ocX8_init_1, ↓ocX8_init_9, ↓spX7_init, ↓ocX8_init_18, ↓spX4_init, ↓ocX8_init_25, ↓spX1_init, ↓ocX8_init_36, ↓spX2_init, mnew, nfs_1, G_1, G_179]
  refine ⟨h.frsh hfr (by omega) (by omega), fun P' I' L' hm hz => X8_37 H hfr (h.obj 2 (by omega) (by omega) (by omega) (by omega) (fun k a b => by omega) (by rw [PF_1]; rfl) hm) (way0_cg (fun b k b0 b1 => ?_) vw) (fun b k b0 b1 => ?_) hz⟩
  · exact (hm.2.2.1 b k (by omega) (by omega)).trans (if_neg (by omega))
  · exact (hm.2.2.1 b k (by omega) (by omega)).trans ((if_neg (by omega)).trans (vs b k b0 b1))
theorem X8_15 {post : Option MV → MS → Prop} {U : Pt → Prop} {P0 : Int → Int → Option Int} {I0 L0 : Int → Int → Int} (H : ∀ P' I' L', mkd 1 2 240 P0 P' I0 I' L0 L' → x0 I' → post none (240, P', I', L')) (hfr : frsh 2 P0 I0 L0) {P : Int → Int → Option Int} {I L : Int → Int → Int} (h : ST 1 2 P0 I0 L0 145 1 P I L) (vw : way0 I) : Ok RX8 cX8_init 2 rmX8_init true none post U (15, [some (.inr (.inr (some 1))), none], [], (145, P, I, L), 143, 6419) := by
  refine Ok.seg mdX8_init [26] 20 ?_
  simp only [wp_nil, wp_cons, ↓stp, ↓lI, ↓lL, ↓lR, ↓lIn_0, ↓lIn_1, ↓lIn_2, ↓lIn_3, ↓lLn_0, ↓lLn_1, ↓lLn_2, ↓lLn_3, ↓lRn_0, ↓lRn_1, ↓lRn_2, ↓lRn_3, ↓pI, ↓pL, ↓pR, ↓pA, ↓pN, ↓pV, ↓fp, ↓tsw, ↓oS, ↓spMax, ↓spMin, ↓spAbs, ↓spObj, RI, RLg, b2i_lo, b2i_hi, getL, setL, ltL, killL, isLong, inl, cnd, br, tgt, rcv, rpl, mputI, mputL, mputP, fv, fr, mcat, mcs, entL, entA, rfit, nf_0, nf_1, nf_2, nf_3, nf2_0, nf2_1, b2i_0, b2i_1, RI_b2i, b2i_fit, List.append, List.length, List.replicate, List.cons_append, List.nil_append, List.length_cons, List.length_nil, List.replicate_succ, List.replicate_zero, List.tail_cons, reduceIte, if_true, if_false, ite_true, ite_false, Bool.false_eq_true, true_and, and_true, and_self, false_and, and_false, or_self, or_true, true_or, or_false, false_or, not_true_eq_false, not_false_eq_true, ne_eq, forall_const, implies_true, imp_self, true_implies, false_implies, Nat.reduceAdd, Nat.reduceSub, Nat.reduceMul, Nat.reduceDiv, Nat.reduceMod, Nat.reduceEqDiff, Nat.reduceLT, Nat.reduceLeDiff, Nat.reduceBEq, Nat.add_zero, Nat.zero_add, Nat.le_refl, Nat.not_lt_zero, Nat.succ_eq_add_one, Int.reduceNatCast, Int.cast_ofNat_Int, Int.reduceSub, Int.reduceMul, Int.reduceNeg, Int.reduceLE, Int.reduceLT, Int.reduceToNat, Int.reduceEq, Int.reduceNe, Int.reduceAdd, Option.some.injEq, kX8_init, rmX8_init, ↓ofX8_10, ↓ofX8_19, ↓ofX8_26, ↓ofX8_32, ↓onX8_100030, ↓onX8_16, ↓onX8_23, ↓onX8_30, ↓onX8_7, ↓ocX8_init_1, ↓ocX8_init_9, ↓spX7_init, ↓ocX8_init_18, ↓spX4_init, ↓ocX8_init_25, ↓spX1_init, ↓ocX8_init_36, ↓spX2_init, mnew, nfs_4, G_1, G_145]
  refine ⟨h.frsh hfr (by omega) (by omega), fun P' I' L' hm hz => X8_26 H hfr (h.obj 1 (by omega) (by omega) (by omega) (by omega) (fun k a b => by omega) (by rw [PF_1]; rfl) hm) (way0_cg (fun b k b0 b1 => ?_) vw) hz⟩
  exact (hm.2.2.1 b k (by omega) (by omega)).trans (if_neg (by omega))
set_option maxRecDepth 100000 in
set_option maxHeartbeats 800000 in
theorem mX8_init : MOK yX8_init cX8_init 2 none rmX8_init ciX8_init := by
  refine mok_of (ini := true) (by decide +kernel) (by decide) rfl rfl ?_
  intro σ As K hrc hl h
  obtain ⟨N, P, I, L⟩ := σ
  have h9 := pR_iff.mp h
  clear h
  obtain ⟨a, r, e9, h⟩ := h9
  subst e9
  have h9 := pN_iff.mp h
  clear h
  obtain ⟨e9, h⟩ := h9
  subst e9
  try dsimp only at h
  obtain ⟨rfl, rfl, hf, hp, h⟩ := h
  have h0 : ST 1 2 P I L 2 0 P I L := ⟨fun b k b0 b1 => by omega, fun k => by
    rw [hp]
    split
    · rw [PF_1]; repeat rw [if_neg (by omega)]
    · rfl, fun b k _ _ => ⟨rfl, rfl, rfl⟩⟩
  refine ⟨Nat.le_of_ble_eq_true rfl, Ok.seg mdX8_init [15] 20 ?_⟩
  simp only [wp_nil, wp_cons, ↓stp, ↓lI, ↓lL, ↓lR, ↓lIn_0, ↓lIn_1, ↓lIn_2, ↓lIn_3, ↓lLn_0, ↓lLn_1, ↓lLn_2, ↓lLn_3, ↓lRn_0, ↓lRn_1, ↓lRn_2, ↓lRn_3, ↓pI, ↓pL, ↓pR, ↓pA, ↓pN, ↓pV, ↓fp, ↓tsw, ↓oS, ↓spMax, ↓spMin, ↓spAbs, ↓spObj, RI, RLg, b2i_lo, b2i_hi, getL, setL, ltL, killL, isLong, inl, cnd, br, tgt, rcv, rpl, mputI, mputL, mputP, fv, fr, mcat, mcs, entL, entA, rfit, nf_0, nf_1, nf_2, nf_3, nf2_0, nf2_1, b2i_0, b2i_1, RI_b2i, b2i_fit, List.append, List.length, List.replicate, List.cons_append, List.nil_append, List.length_cons, List.length_nil, List.replicate_succ, List.replicate_zero, List.tail_cons, reduceIte, if_true, if_false, ite_true, ite_false, Bool.false_eq_true, true_and, and_true, and_self, false_and, and_false, or_self, or_true, true_or, or_false, false_or, not_true_eq_false, not_false_eq_true, ne_eq, forall_const, implies_true, imp_self, true_implies, false_implies, Nat.reduceAdd, Nat.reduceSub, Nat.reduceMul, Nat.reduceDiv, Nat.reduceMod, Nat.reduceEqDiff, Nat.reduceLT, Nat.reduceLeDiff, Nat.reduceBEq, Nat.add_zero, Nat.zero_add, Nat.le_refl, Nat.not_lt_zero, Nat.succ_eq_add_one, Int.reduceNatCast, Int.cast_ofNat_Int, Int.reduceSub, Int.reduceMul, Int.reduceNeg, Int.reduceLE, Int.reduceLT, Int.reduceToNat, Int.reduceEq, Int.reduceNe, Int.reduceAdd, Option.some.injEq, kX8_init, rmX8_init, ↓ofX8_10, ↓ofX8_19, ↓ofX8_26, ↓ofX8_32, ↓onX8_100030, ↓onX8_16, ↓onX8_23, ↓onX8_30, ↓onX8_7, ↓ocX8_init_1, ↓ocX8_init_9, ↓spX7_init, ↓ocX8_init_18, ↓spX4_init, ↓ocX8_init_25, ↓spX1_init, ↓ocX8_init_36, ↓spX2_init, mnew, nfs_7, G_1, G_2]
  refine ⟨h0.frsh hf (by omega) (by omega), fun P' I' L' hm hz => X8_15 (post := fun r σ' => rfit none r ∧ K r σ') (fun P1 I1 L1 a b => ⟨trivial, h P1 I1 L1 a b⟩) hf (h0.obj 0 (by omega) (by omega) (by omega) (by omega) (fun k a b => by omega) (by rw [PF_1]; rfl) hm) hz⟩
