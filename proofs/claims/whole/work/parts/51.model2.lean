/-! LapBoardModel: station, undo, base, gear, isSet, change, set, limitOf, limit, reachOf, reach, shift -/
def frM2 (I J : Int → Int → Int) : Prop := ∀ b k, b < 240 ∨ 271 < b → J b k = I b k
theorem stM {I : Int → Int → Int} {i : Int} (ht : tOK (VM I)) (i0 : 0 ≤ i) (i1 : i < I 240 1) : 0 ≤ I 241 i ∧ I 241 i ≤ 3 ∧ 1 ≤ I 242 i ∧ I 242 i ≤ 99 ∧ 1 ≤ I 243 i ∧ I 243 i ≤ 60 ∧ 0 ≤ I 244 i ∧ I 244 i ≤ 2 ∧ 0 ≤ I 245 i ∧ I 245 i ≤ 200000 := by
  have a := ht.2.2 i i0 i1
  have b := ht.2.1
  rw [VM_31] at b
  obtain ⟨e0, e1, e2, e3, e4⟩ := VM_st (I := I) i0 (by omega)
  unfold stOK at a
  rw [e0, e1, e2, e3, e4] at a
  exact a
theorem nM {I L : Int → Int → Int} (h : mOK I L) : (0 ≤ I 240 1 ∧ I 240 1 ≤ 30) ∧ (-20 ≤ I 240 2 ∧ I 240 2 ≤ 20) ∧ (1 ≤ I 240 3 ∧ I 240 3 ≤ 30) ∧ (1 ≤ I 240 4 ∧ I 240 4 ≤ 60) ∧ (0 ≤ I 240 5 ∧ I 240 5 ≤ 100000) ∧ (I 240 25 = 0 ∨ I 240 25 = 1) := by
  obtain ⟨a, b, c, d, e⟩ := h
  have b2 := b.2
  unfold nOK at b2
  rw [VM_36_0, VM_36_1, VM_36_2] at b2
  have c1 := c.2.1
  have c2 := c.2.2
  rw [VM_179_4] at c1
  rw [VM_179_5] at c2
  have a1 := a.1
  have a2 := a.2.1
  rw [VM_31] at a1 a2
  omega
/-- with all laps forgotten -/
theorem mOK_f {I J L L' : Int → Int → Int} (h : mOK I L) (ht : tOK (VM J)) (hc : carOK (VM J)) (hr : raceR (VM J)) (h248 : ∀ k, 0 ≤ k → k < 41 → J 248 k = 0) (hs : ∀ b k, 264 ≤ b → b ≤ 270 → J b k = I b k) : mOK J L' :=
  ⟨ht, hc, hr, fun g g0 g1 => .inl (h248 _ (by omega) (by omega)), fun d d0 d1 => msh_cg hs (h.2.2.2.2 d d0 d1)⟩
theorem raceR_V {I J : Int → Int → Int} (h5 : J 240 5 = I 240 5) (h25 : J 240 25 = I 240 25) (h : ∀ b k, 258 ≤ b → b ≤ 259 → J b k = I b k) (hr : raceR (VM I)) : raceR (VM J) := by
  unfold raceR at hr ⊢
  rw [VM_179_4, VM_179_5, VM_180, VM_181] at hr ⊢
  rw [h5, h25, show J 258 = I 258 from funext fun k => h _ _ (by omega) (by omega), show J 259 = I 259 from funext fun k => h _ _ (by omega) (by omega)]
  exact hr
theorem carOK_V {I J : Int → Int → Int} (h2 : J 240 2 = I 240 2) (h3 : J 240 3 = I 240 3) (h4 : J 240 4 = I 240 4) (h : ∀ b k, 246 ≤ b → b ≤ 247 → J b k = I b k) (hr : carOK (VM I)) : carOK (VM J) := by
  unfold carOK nOK at hr ⊢
  rw [VM_36_0, VM_36_1, VM_36_2, VM_37, VM_38, VM_39] at hr ⊢
  rw [h2, h3, h4, show J 246 = I 246 from funext fun k => h _ _ (by omega) (by omega), show J 247 = I 247 from funext fun k => h _ _ (by omega) (by omega)]
  exact hr
theorem tOK_V {J : Int → Int → Int} (h0 : 0 ≤ J 240 1) (h1 : J 240 1 ≤ 30) (h : ∀ i, 0 ≤ i → i < J 240 1 → 0 ≤ J 241 i ∧ J 241 i ≤ 3 ∧ 1 ≤ J 242 i ∧ J 242 i ≤ 99 ∧ 1 ≤ J 243 i ∧ J 243 i ≤ 60 ∧ 0 ≤ J 244 i ∧ J 244 i ≤ 2 ∧ 0 ≤ J 245 i ∧ J 245 i ≤ 200000) : tOK (VM J) := by
  refine ⟨h0, h1, fun i i0 i1 => ?_⟩
  rw [VM_31] at i1
  obtain ⟨e0, e1, e2, e3, e4⟩ := VM_st (I := J) i0 (by omega)
  unfold stOK
  rw [e0, e1, e2, e3, e4]
  exact h i i0 i1
def spX9_station (As : List MV) (σ : MS) (K : Option MV → MS → Prop) : Prop := pR As fun a r => pI r fun t r => pI r fun n r => pI r fun b r => pN r (a = 240 ∧ σ.2.1 = PF ∧ RI t ∧ RI n ∧ RI b ∧ mOK σ.2.2.1 σ.2.2.2 ∧ (badS t n b → K (some (.inl (-1))) σ) ∧ (¬ badS t n b → σ.2.2.1 240 1 = 30 → K (some (.inl (-2))) σ) ∧ (¬ badS t n b → σ.2.2.1 240 1 < 30 →
  ∀ I' : Int → Int → Int, (∀ c k, ¬ (c = 240 ∧ k = 1) → ¬ (241 ≤ c ∧ c ≤ 245 ∧ k = σ.2.2.1 240 1) → c ≠ 248 → I' c k = σ.2.2.1 c k) → mOK I' σ.2.2.2 → I' 241 (σ.2.2.1 240 1) = t / 10 → I' 242 (σ.2.2.1 240 1) = n → I' 243 (σ.2.2.1 240 1) = b → I' 244 (σ.2.2.1 240 1) = t % 10 → I' 245 (σ.2.2.1 240 1) = 0 → I' 240 1 = σ.2.2.1 240 1 + 1 → K (some (.inl (σ.2.2.1 240 1))) (σ.1, σ.2.1, I', σ.2.2.2)))
def ciX9_station : CI := (4, 9, 0, 0, spX9_station)
def kX9_station (pc : Nat) : List ME := match pc with
  | 0 => [(.iload_n 1, 1, []), (.ifCond .lt 41, 3, [42]), (.iload_n 1, 1, []), (.bipush 10, 2, []), (.idiv, 1, []), (.iconst 3, 1, []), (.if_icmp .gt 33, 3, [42]), (.iload_n 1, 1, []), (.bipush 10, 2, []), (.irem, 1, []), (.iconst 2, 1, []), (.if_icmp .gt 25, 3, [42]), (.aload_n 0, 1, []), (.iload_n 2, 1, []), (.iconst 1, 1, []), (.bipush 99, 2, []), (.invokevirtual 128, 3, []), (.ifCond .eq 14, 3, [42]), (.aload_n 0, 1, []), (.iload_n 3, 1, []), (.iconst 1, 1, []), (.bipush 60, 2, []), (.invokevirtual 128, 3, []), (.ifCond .ne 5, 3, [44])]
  | 42 => [(.iconst (-1), 1, []), (.ireturn, 1, [])]
  | 44 => [(.aload_n 0, 1, []), (.getfield 13, 3, []), (.bipush 30, 2, []), (.if_icmp .ne 6, 3, [56]), (.bipush (-2), 2, []), (.ireturn, 1, [])]
  | 56 => [(.aload_n 0, 1, []), (.getfield 28, 3, []), (.aload_n 0, 1, []), (.getfield 13, 3, []), (.iload_n 1, 1, []), (.bipush 10, 2, []), (.idiv, 1, []), (.iastore, 1, []), (.aload_n 0, 1, []), (.getfield 38, 3, []), (.aload_n 0, 1, []), (.getfield 13, 3, []), (.iload_n 1, 1, []), (.bipush 10, 2, []), (.irem, 1, []), (.iastore, 1, []), (.aload_n 0, 1, []), (.getfield 32, 3, []), (.aload_n 0, 1, []), (.getfield 13, 3, []), (.iload_n 2, 1, []), (.iastore, 1, []), (.aload_n 0, 1, []), (.getfield 35, 3, []), (.aload_n 0, 1, []), (.getfield 13, 3, []), (.iload_n 3, 1, []), (.iastore, 1, []), (.aload_n 0, 1, []), (.getfield 41, 3, []), (.aload_n 0, 1, []), (.getfield 13, 3, []), (.iconst 0, 1, []), (.iastore, 1, []), (.aload_n 0, 1, []), (.dup, 1, []), (.getfield 13, 3, []), (.iconst 1, 1, []), (.iadd, 1, []), (.putfield 13, 3, []), (.aload_n 0, 1, []), (.invokevirtual 132, 3, []), (.aload_n 0, 1, []), (.getfield 13, 3, []), (.iconst 1, 1, []), (.isub, 1, []), (.ireturn, 1, [])]
  | _ => []
theorem qX9_station : ∀ pc, chk cX9_station pc (kX9_station pc) = true := by
  intro pc
  unfold kX9_station
  split <;> first | decide +kernel | exact chk_nil
abbrev rmX9_station : Room := { frames := 1, cells := 0, slots := 0, locals := 23 }
def aX9_station (x : Nat) : Option CI := match x with
  | 128 => some ciX9_in
  | 132 => some ciX9_changed
  | _ => none
theorem aokX9_station : ∀ x ci, aX9_station x = some ci → CalOK RX9 rmX9_station x ci := by
  intro x ci h
  unfold aX9_station at h
  split at h
  · cases h; exact cal_V mX9_in (by decide) rfl (List.forall_mem_cons.mpr ⟨(ws_mem (List.mem_of_getElem? (i := 979) (by decide +kernel)) (by decide +kernel)), List.forall_mem_cons.mpr ⟨(ws_mem (List.mem_of_getElem? (i := 981) (by decide +kernel)) (by decide +kernel)), List.forall_mem_cons.mpr ⟨(ws_mem (List.mem_of_getElem? (i := 20) (by decide +kernel)) (by decide +kernel)), List.forall_mem_cons.mpr ⟨(ws_mem (List.mem_of_getElem? (i := 64) (by decide +kernel)) (by decide +kernel)), List.forall_mem_cons.mpr ⟨(ws_mem (List.mem_of_getElem? (i := 982) (by decide +kernel)) (by decide +kernel)), fun _ h => absurd h List.not_mem_nil⟩⟩⟩⟩⟩) rfl (by unfold nice; decide +kernel) (by unfold rfits; decide) ⟨rfl, rfl⟩
  · cases h; exact cal_V mX9_changed (by decide) rfl (List.forall_mem_cons.mpr ⟨(ws_mem (List.mem_of_getElem? (i := 983) (by decide +kernel)) (by decide +kernel)), List.forall_mem_cons.mpr ⟨(ws_mem (List.mem_of_getElem? (i := 985) (by decide +kernel)) (by decide +kernel)), List.forall_mem_cons.mpr ⟨(ws_mem (List.mem_of_getElem? (i := 21) (by decide +kernel)) (by decide +kernel)), List.forall_mem_cons.mpr ⟨(ws_mem (List.mem_of_getElem? (i := 64) (by decide +kernel)) (by decide +kernel)), List.forall_mem_cons.mpr ⟨(ws_mem (List.mem_of_getElem? (i := 986) (by decide +kernel)) (by decide +kernel)), fun _ h => absurd h List.not_mem_nil⟩⟩⟩⟩⟩) rfl (by unfold nice; decide +kernel) (by unfold rfits; decide) ⟨rfl, rfl⟩
  · cases h
theorem ocX9_station_128 (f : Nat → Nat → Nat → Nat → (List MV → MS → (Option MV → MS → Prop) → Prop) → Prop) : oC aX9_station 128 f = f 4 9 0 0 spX9_in := propext Iff.rfl
theorem ocX9_station_132 (f : Nat → Nat → Nat → Nat → (List MV → MS → (Option MV → MS → Prop) → Prop) → Prop) : oC aX9_station 132 f = f 1 9 0 0 spX9_changed := propext Iff.rfl
theorem mdX9_station : MD RX9 cX9_station rmX9_station kX9_station fX9 aX9_station zX9 uX9 := ⟨fokX9, zokX9, uokX9, aokX9_station, qX9_station⟩
set_option maxRecDepth 100000 in
set_option maxHeartbeats 800000 in
theorem mX9_station : MOK yX9_station cX9_station 4 (some .int) rmX9_station ciX9_station := by
  refine mok_of (ini := false) (by decide +kernel) (by decide) rfl rfl ?_
  intro σ As K hrc hl h
  obtain ⟨N, P, I, L⟩ := σ
  have h9 := pR_iff.mp h
  clear h
  obtain ⟨a, r, e9, h⟩ := h9
  subst e9
  have h9 := pI_iff.mp h
  clear h
  obtain ⟨t, r, e9, h⟩ := h9
  subst e9
  have h9 := pI_iff.mp h
  clear h
  obtain ⟨n, r, e9, h⟩ := h9
  subst e9
  have h9 := pI_iff.mp h
  clear h
  obtain ⟨b, r, e9, h⟩ := h9
  subst e9
  have h9 := pN_iff.mp h
  clear h
  obtain ⟨e9, h⟩ := h9
  subst e9
  try dsimp only at h
  obtain ⟨rfl, rfl, ht, hn, hb, hx, h1, h2, h3⟩ := h
  unfold RI at ht hn hb
  have hN := nM hx
  have y1 := hN.1
  have hx' := hx
  obtain ⟨x1, x2, x3, x4, x5⟩ := hx'
  have ed : 0 ≤ t → t.tdiv 10 = t / 10 := fun z => Int.tdiv_eq_ediv_of_nonneg z
  have em : 0 ≤ t → t.tmod 10 = t % 10 := fun z => Int.tmod_eq_emod_of_nonneg z
  have bad : badS t n b → K (some (.inl (-1))) (N, PF, I, L) := h1
  refine ⟨Nat.le_of_ble_eq_true rfl, Ok.seg mdX9_station [] 120 ?_⟩
  simp only [wp_nil, wp_cons, ↓stp, ↓lI, ↓lL, ↓lR, ↓lIn_0, ↓lIn_1, ↓lIn_2, ↓lIn_3, ↓lLn_0, ↓lLn_1, ↓lLn_2, ↓lLn_3, ↓lRn_0, ↓lRn_1, ↓lRn_2, ↓lRn_3, ↓pI, ↓pL, ↓pR, ↓pA, ↓pN, ↓pV, ↓fp, ↓tsw, ↓oS, ↓spMax, ↓spMin, ↓spAbs, ↓spObj, RI, RLg, b2i_lo, b2i_hi, getL, setL, ltL, killL, isLong, inl, cnd, br, tgt, rcv, rpl, mputI, mputL, mputP, fv, fr, mcat, mcs, entL, entA, rfit, nf_0, nf_1, nf_2, nf_3, nf2_0, nf2_1, b2i_0, b2i_1, RI_b2i, b2i_fit, List.append, List.length, List.replicate, List.cons_append, List.nil_append, List.length_cons, List.length_nil, List.replicate_succ, List.replicate_zero, List.tail_cons, reduceIte, if_true, if_false, ite_true, ite_false, Bool.false_eq_true, true_and, and_true, and_self, false_and, and_false, or_self, or_true, true_or, or_false, false_or, not_true_eq_false, not_false_eq_true, ne_eq, forall_const, implies_true, imp_self, true_implies, false_implies, Nat.reduceAdd, Nat.reduceSub, Nat.reduceMul, Nat.reduceDiv, Nat.reduceMod, Nat.reduceEqDiff, Nat.reduceLT, Nat.reduceLeDiff, Nat.reduceBEq, Nat.add_zero, Nat.zero_add, Nat.le_refl, Nat.not_lt_zero, Nat.succ_eq_add_one, Int.reduceNatCast, Int.cast_ofNat_Int, Int.reduceSub, Int.reduceMul, Int.reduceNeg, Int.reduceLE, Int.reduceLT, Int.reduceToNat, Int.reduceEq, Int.reduceNe, Int.reduceAdd, Option.some.injEq, kX9_station, rmX9_station, ↓ofX9_13, ↓ofX9_28, ↓ofX9_32, ↓ofX9_35, ↓ofX9_38, ↓ofX9_41, ↓ocX9_station_128, ↓spX9_in, ↓ocX9_station_132, ↓spX9_changed, upI_ne, G_240, G_241, G_242, G_243, G_244, G_245, G_246, G_247, G_248, G_249, G_250, G_251, G_252, G_253, G_254, G_255, G_256, G_257, G_258, G_259, G_260, G_261, G_262, G_263, G_264, G_265, G_266, G_267, G_268, G_269, G_270, G_271, G_272, PF_240_6, PF_240_7, PF_240_8, PF_240_9, PF_240_10, PF_240_11, PF_240_12, PF_240_13, PF_240_14, PF_240_15, PF_240_16, PF_240_17, PF_240_18, PF_240_19, PF_240_20, PF_240_21, PF_240_22, PF_240_23, PF_240_24, PF_240_26, PF_240_27, PF_240_28, PF_240_29, PF_240_30, PF_240_31, PF_240_32, PF_240_33, PF_240_34, PF_240_35, PF_240_36, PF_240_37]
  refine ⟨by omega, fun q => bad (by unfold badS; omega), fun q => ?_⟩
  rw [ed (by omega), em (by omega)]
  refine ⟨by omega, by omega, fun q1 => bad (by unfold badS; omega), fun q1 => ⟨by omega, by omega, fun q2 => bad (by unfold badS; omega), fun q2 => ⟨by omega, fun q3 => bad (by unfold badS; omega), fun q3 => ⟨by omega, fun q4 => ⟨by omega, fun q5 => ?_, fun q5 => h2 (by unfold badS; omega) (by omega)⟩, fun q4 => bad (by unfold badS; omega)⟩⟩⟩⟩
  refine ⟨by omega, by omega, by omega, by omega, by omega, by omega, by omega, by omega, by omega, by omega, by omega, by omega, ?_⟩
  have eJ : ∀ c k, filI (upI (upI (upI (upI (upI (upI I 241 (I 240 1) (t / 10)) 244 (I 240 1) (t % 10)) 242 (I 240 1) n) 243 (I 240 1) b) 245 (I 240 1) 0) 240 1 (I 240 1 + 1)) 248 0 41 c k = (if c = 248 ∧ 0 ≤ k ∧ k < 41 then 0 else if c = 240 ∧ k = 1 then I 240 1 + 1 else if c = 245 ∧ k = I 240 1 then 0 else if c = 243 ∧ k = I 240 1 then b else if c = 242 ∧ k = I 240 1 then n else if c = 244 ∧ k = I 240 1 then t % 10 else if c = 241 ∧ k = I 240 1 then t / 10 else I c k) := fun _ _ => rfl
  revert eJ
  generalize filI (upI (upI (upI (upI (upI (upI I 241 (I 240 1) (t / 10)) 244 (I 240 1) (t % 10)) 242 (I 240 1) n) 243 (I 240 1) b) 245 (I 240 1) 0) 240 1 (I 240 1 + 1)) 248 0 41 = J
  intro eJ
  have e1 : J 240 1 = I 240 1 + 1 := by rw [eJ, if_neg (by omega), if_pos (by omega)]
  have fr : ∀ c k, ¬ (c = 240 ∧ k = 1) → ¬ (241 ≤ c ∧ c ≤ 245 ∧ k = I 240 1) → c ≠ 248 → J c k = I c k := fun c k a b d => by
    rw [eJ, if_neg (by omega), if_neg (by omega), if_neg (by omega), if_neg (by omega), if_neg (by omega), if_neg (by omega), if_neg (by omega)]
  have a1 : J 241 (I 240 1) = t / 10 := by rw [eJ, if_neg (by omega), if_neg (by omega), if_neg (by omega), if_neg (by omega), if_neg (by omega), if_neg (by omega), if_pos ⟨rfl, rfl⟩]
  have a2 : J 242 (I 240 1) = n := by rw [eJ, if_neg (by omega), if_neg (by omega), if_neg (by omega), if_neg (by omega), if_pos ⟨rfl, rfl⟩]
  have a3 : J 243 (I 240 1) = b := by rw [eJ, if_neg (by omega), if_neg (by omega), if_neg (by omega), if_pos ⟨rfl, rfl⟩]
  have a4 : J 244 (I 240 1) = t % 10 := by rw [eJ, if_neg (by omega), if_neg (by omega), if_neg (by omega), if_neg (by omega), if_neg (by omega), if_pos ⟨rfl, rfl⟩]
  have a5 : J 245 (I 240 1) = 0 := by rw [eJ, if_neg (by omega), if_neg (by omega), if_pos ⟨rfl, rfl⟩]
  rw [e1, show I 240 1 + 1 - 1 = I 240 1 by omega]
  refine h3 (by unfold badS; omega) (by omega) J fr (mOK_f hx (tOK_V (by omega) (by omega) (fun i i0 i1 => ?_)) (carOK_V (fr _ _ (by omega) (by omega) (by omega)) (fr _ _ (by omega) (by omega) (by omega)) (fr _ _ (by omega) (by omega) (by omega)) (fun b k _ _ => fr _ _ (by omega) (by omega) (by omega)) x2) (raceR_V (fr _ _ (by omega) (by omega) (by omega)) (fr _ _ (by omega) (by omega) (by omega)) (fun b k _ _ => fr _ _ (by omega) (by omega) (by omega)) x3) (fun k k0 k1 => by rw [eJ, if_pos ⟨rfl, k0, k1⟩]) (fun b k _ _ => fr _ _ (by omega) (by omega) (by omega))) a1 a2 a3 a4 a5 e1
  by_cases z : i = I 240 1
  · subst z; rw [a1, a2, a3, a4, a5]; omega
  · rw [fr 241 i (by omega) (by omega) (by omega), fr 242 i (by omega) (by omega) (by omega), fr 243 i (by omega) (by omega) (by omega), fr 244 i (by omega) (by omega) (by omega), fr 245 i (by omega) (by omega) (by omega)]
    exact stM x1 i0 (by omega)
def spX9_undo (As : List MV) (σ : MS) (K : Option MV → MS → Prop) : Prop := pR As fun a r => pN r (a = 240 ∧ σ.2.1 = PF ∧ mOK σ.2.2.1 σ.2.2.2 ∧ (σ.2.2.1 240 1 = 0 → K (some (.inl (-3))) σ) ∧ (0 < σ.2.2.1 240 1 →
  ∀ I' : Int → Int → Int, (∀ c k, ¬ (c = 240 ∧ k = 1) → c ≠ 248 → I' c k = σ.2.2.1 c k) → mOK I' σ.2.2.2 → I' 240 1 = σ.2.2.1 240 1 - 1 → K (some (.inl (σ.2.2.1 240 1 - 1))) (σ.1, σ.2.1, I', σ.2.2.2)))
def ciX9_undo : CI := (1, 9, 0, 0, spX9_undo)
def kX9_undo (pc : Nat) : List ME := match pc with
  | 0 => [(.aload_n 0, 1, []), (.getfield 13, 3, []), (.ifCond .ne 6, 3, [10]), (.bipush (-3), 2, []), (.ireturn, 1, [])]
  | 10 => [(.aload_n 0, 1, []), (.dup, 1, []), (.getfield 13, 3, []), (.iconst 1, 1, []), (.isub, 1, []), (.putfield 13, 3, []), (.aload_n 0, 1, []), (.invokevirtual 132, 3, []), (.aload_n 0, 1, []), (.getfield 13, 3, []), (.ireturn, 1, [])]
  | _ => []
theorem qX9_undo : ∀ pc, chk cX9_undo pc (kX9_undo pc) = true := by
  intro pc
  unfold kX9_undo
  split <;> first | decide +kernel | exact chk_nil
abbrev rmX9_undo : Room := { frames := 1, cells := 0, slots := 0, locals := 21 }
def aX9_undo (x : Nat) : Option CI := match x with
  | 132 => some ciX9_changed
  | _ => none
theorem aokX9_undo : ∀ x ci, aX9_undo x = some ci → CalOK RX9 rmX9_undo x ci := by
  intro x ci h
  unfold aX9_undo at h
  split at h
  · cases h; exact cal_V mX9_changed (by decide) rfl (List.forall_mem_cons.mpr ⟨(ws_mem (List.mem_of_getElem? (i := 983) (by decide +kernel)) (by decide +kernel)), List.forall_mem_cons.mpr ⟨(ws_mem (List.mem_of_getElem? (i := 985) (by decide +kernel)) (by decide +kernel)), List.forall_mem_cons.mpr ⟨(ws_mem (List.mem_of_getElem? (i := 21) (by decide +kernel)) (by decide +kernel)), List.forall_mem_cons.mpr ⟨(ws_mem (List.mem_of_getElem? (i := 64) (by decide +kernel)) (by decide +kernel)), List.forall_mem_cons.mpr ⟨(ws_mem (List.mem_of_getElem? (i := 986) (by decide +kernel)) (by decide +kernel)), fun _ h => absurd h List.not_mem_nil⟩⟩⟩⟩⟩) rfl (by unfold nice; decide +kernel) (by unfold rfits; decide) ⟨rfl, rfl⟩
  · cases h
theorem ocX9_undo_132 (f : Nat → Nat → Nat → Nat → (List MV → MS → (Option MV → MS → Prop) → Prop) → Prop) : oC aX9_undo 132 f = f 1 9 0 0 spX9_changed := propext Iff.rfl
theorem mdX9_undo : MD RX9 cX9_undo rmX9_undo kX9_undo fX9 aX9_undo zX9 uX9 := ⟨fokX9, zokX9, uokX9, aokX9_undo, qX9_undo⟩
set_option maxRecDepth 100000 in
set_option maxHeartbeats 800000 in
theorem mX9_undo : MOK yX9_undo cX9_undo 1 (some .int) rmX9_undo ciX9_undo := by
  refine mok_of (ini := false) (by decide +kernel) (by decide) rfl rfl ?_
  intro σ As K hrc hl h
  obtain ⟨N, P, I, L⟩ := σ
  have h9 := pR_iff.mp h
  clear h
  obtain ⟨a, r, e9, h⟩ := h9
  subst e9
  have h9 := pN_iff.mp h
  clear h
  obtain ⟨e9, h⟩ := h9
  subst e9
  try dsimp only at h
  obtain ⟨rfl, rfl, hx, h1, h2⟩ := h
  have hN := nM hx
  have y1 := hN.1
  have hx' := hx
  obtain ⟨x1, x2, x3, x4, x5⟩ := hx'
  refine ⟨Nat.le_of_ble_eq_true rfl, Ok.seg mdX9_undo [] 60 ?_⟩
  simp only [wp_nil, wp_cons, ↓stp, ↓lI, ↓lL, ↓lR, ↓lIn_0, ↓lIn_1, ↓lIn_2, ↓lIn_3, ↓lLn_0, ↓lLn_1, ↓lLn_2, ↓lLn_3, ↓lRn_0, ↓lRn_1, ↓lRn_2, ↓lRn_3, ↓pI, ↓pL, ↓pR, ↓pA, ↓pN, ↓pV, ↓fp, ↓tsw, ↓oS, ↓spMax, ↓spMin, ↓spAbs, ↓spObj, RI, RLg, b2i_lo, b2i_hi, getL, setL, ltL, killL, isLong, inl, cnd, br, tgt, rcv, rpl, mputI, mputL, mputP, fv, fr, mcat, mcs, entL, entA, rfit, nf_0, nf_1, nf_2, nf_3, nf2_0, nf2_1, b2i_0, b2i_1, RI_b2i, b2i_fit, List.append, List.length, List.replicate, List.cons_append, List.nil_append, List.length_cons, List.length_nil, List.replicate_succ, List.replicate_zero, List.tail_cons, reduceIte, if_true, if_false, ite_true, ite_false, Bool.false_eq_true, true_and, and_true, and_self, false_and, and_false, or_self, or_true, true_or, or_false, false_or, not_true_eq_false, not_false_eq_true, ne_eq, forall_const, implies_true, imp_self, true_implies, false_implies, Nat.reduceAdd, Nat.reduceSub, Nat.reduceMul, Nat.reduceDiv, Nat.reduceMod, Nat.reduceEqDiff, Nat.reduceLT, Nat.reduceLeDiff, Nat.reduceBEq, Nat.add_zero, Nat.zero_add, Nat.le_refl, Nat.not_lt_zero, Nat.succ_eq_add_one, Int.reduceNatCast, Int.cast_ofNat_Int, Int.reduceSub, Int.reduceMul, Int.reduceNeg, Int.reduceLE, Int.reduceLT, Int.reduceToNat, Int.reduceEq, Int.reduceNe, Int.reduceAdd, Option.some.injEq, kX9_undo, rmX9_undo, ↓ofX9_13, ↓ocX9_undo_132, ↓spX9_changed, upI_ne, G_240, G_241, G_242, G_243, G_244, G_245, G_246, G_247, G_248, G_249, G_250, G_251, G_252, G_253, G_254, G_255, G_256, G_257, G_258, G_259, G_260, G_261, G_262, G_263, G_264, G_265, G_266, G_267, G_268, G_269, G_270, G_271, G_272, PF_240_6, PF_240_7, PF_240_8, PF_240_9, PF_240_10, PF_240_11, PF_240_12, PF_240_13, PF_240_14, PF_240_15, PF_240_16, PF_240_17, PF_240_18, PF_240_19, PF_240_20, PF_240_21, PF_240_22, PF_240_23, PF_240_24, PF_240_26, PF_240_27, PF_240_28, PF_240_29, PF_240_30, PF_240_31, PF_240_32, PF_240_33, PF_240_34, PF_240_35, PF_240_36, PF_240_37]
  refine ⟨by omega, fun q => ?_, fun q => h1 (by omega)⟩
  have e1 : filI (upI I 240 1 (I 240 1 - 1)) 248 0 41 240 1 = I 240 1 - 1 := (fil_o (by omega)).trans upI_same
  have fr : ∀ c k, ¬ (c = 240 ∧ k = 1) → c ≠ 248 → filI (upI I 240 1 (I 240 1 - 1)) 248 0 41 c k = I c k := fun c k a b => (fil_o b).trans (if_neg a)
  rw [e1]
  exact h2 (by omega) _ fr (mOK_f hx (tOK_V (by omega) (by omega) (fun i i0 i1 => by
    rw [fr 241 i (by omega) (by omega), fr 242 i (by omega) (by omega), fr 243 i (by omega) (by omega), fr 244 i (by omega) (by omega), fr 245 i (by omega) (by omega)]
    exact stM x1 i0 (by omega))) (carOK_V (fr _ _ (by omega) (by omega)) (fr _ _ (by omega) (by omega)) (fr _ _ (by omega) (by omega)) (fun b k _ _ => fr _ _ (by omega) (by omega)) x2) (raceR_V (fr _ _ (by omega) (by omega)) (fr _ _ (by omega) (by omega)) (fun b k _ _ => fr _ _ (by omega) (by omega)) x3) (fun k k0 k1 => fil_i k0 k1) (fun b k _ _ => fr _ _ (by omega) (by omega))) e1
def spX9_base (As : List MV) (σ : MS) (K : Option MV → MS → Prop) : Prop := pR As fun a r => pI r fun s r => pI r fun b r => pN r (a = 240 ∧ σ.2.1 = PF ∧ RI s ∧ RI b ∧ mOK σ.2.2.1 σ.2.2.2 ∧ (¬ (0 ≤ s ∧ s < σ.2.2.1 240 1 ∧ 1 ≤ b ∧ b ≤ 60) → K (some (.inl (-1))) σ) ∧ (0 ≤ s ∧ s < σ.2.2.1 240 1 ∧ 1 ≤ b ∧ b ≤ 60 →
  ∀ I' : Int → Int → Int, (∀ c k, ¬ (c = 243 ∧ k = s) → c ≠ 248 → I' c k = σ.2.2.1 c k) → mOK I' σ.2.2.2 → I' 243 s = b → K (some (.inl (σ.2.2.1 243 s))) (σ.1, σ.2.1, I', σ.2.2.2)))
def ciX9_base : CI := (3, 9, 0, 0, spX9_base)
def kX9_base (pc : Nat) : List ME := match pc with
  | 0 => [(.aload_n 0, 1, []), (.iload_n 1, 1, []), (.invokevirtual 135, 3, []), (.ifCond .eq 14, 3, [19]), (.aload_n 0, 1, []), (.iload_n 2, 1, []), (.iconst 1, 1, []), (.bipush 60, 2, []), (.invokevirtual 128, 3, []), (.ifCond .ne 5, 3, [21])]
  | 19 => [(.iconst (-1), 1, []), (.ireturn, 1, [])]
  | 21 => [(.aload_n 0, 1, []), (.getfield 35, 3, []), (.iload_n 1, 1, []), (.iaload, 1, []), (.istore_n 3, 1, []), (.aload_n 0, 1, []), (.getfield 35, 3, []), (.iload_n 1, 1, []), (.iload_n 2, 1, []), (.iastore, 1, []), (.aload_n 0, 1, []), (.invokevirtual 132, 3, []), (.iload_n 3, 1, []), (.ireturn, 1, [])]
  | _ => []
theorem qX9_base : ∀ pc, chk cX9_base pc (kX9_base pc) = true := by
  intro pc
  unfold kX9_base
  split <;> first | decide +kernel | exact chk_nil
abbrev rmX9_base : Room := { frames := 2, cells := 0, slots := 0, locals := 44 }
def aX9_base (x : Nat) : Option CI := match x with
  | 135 => some ciX9_isStation
  | 128 => some ciX9_in
  | 132 => some ciX9_changed
  | _ => none
theorem aokX9_base : ∀ x ci, aX9_base x = some ci → CalOK RX9 rmX9_base x ci := by
  intro x ci h
  unfold aX9_base at h
  split at h
  · cases h; exact cal_V mX9_isStation (by decide) rfl (List.forall_mem_cons.mpr ⟨(ws_mem (List.mem_of_getElem? (i := 995) (by decide +kernel)) (by decide +kernel)), List.forall_mem_cons.mpr ⟨(ws_mem (List.mem_of_getElem? (i := 997) (by decide +kernel)) (by decide +kernel)), List.forall_mem_cons.mpr ⟨(ws_mem (List.mem_of_getElem? (i := 22) (by decide +kernel)) (by decide +kernel)), List.forall_mem_cons.mpr ⟨(ws_mem (List.mem_of_getElem? (i := 64) (by decide +kernel)) (by decide +kernel)), List.forall_mem_cons.mpr ⟨(ws_mem (List.mem_of_getElem? (i := 998) (by decide +kernel)) (by decide +kernel)), fun _ h => absurd h List.not_mem_nil⟩⟩⟩⟩⟩) rfl (by unfold nice; decide +kernel) (by unfold rfits; decide) ⟨rfl, rfl⟩
  · cases h; exact cal_V mX9_in (by decide) rfl (List.forall_mem_cons.mpr ⟨(ws_mem (List.mem_of_getElem? (i := 979) (by decide +kernel)) (by decide +kernel)), List.forall_mem_cons.mpr ⟨(ws_mem (List.mem_of_getElem? (i := 981) (by decide +kernel)) (by decide +kernel)), List.forall_mem_cons.mpr ⟨(ws_mem (List.mem_of_getElem? (i := 20) (by decide +kernel)) (by decide +kernel)), List.forall_mem_cons.mpr ⟨(ws_mem (List.mem_of_getElem? (i := 64) (by decide +kernel)) (by decide +kernel)), List.forall_mem_cons.mpr ⟨(ws_mem (List.mem_of_getElem? (i := 982) (by decide +kernel)) (by decide +kernel)), fun _ h => absurd h List.not_mem_nil⟩⟩⟩⟩⟩) rfl (by unfold nice; decide +kernel) (by unfold rfits; decide) ⟨rfl, rfl⟩
  · cases h; exact cal_V mX9_changed (by decide) rfl (List.forall_mem_cons.mpr ⟨(ws_mem (List.mem_of_getElem? (i := 983) (by decide +kernel)) (by decide +kernel)), List.forall_mem_cons.mpr ⟨(ws_mem (List.mem_of_getElem? (i := 985) (by decide +kernel)) (by decide +kernel)), List.forall_mem_cons.mpr ⟨(ws_mem (List.mem_of_getElem? (i := 21) (by decide +kernel)) (by decide +kernel)), List.forall_mem_cons.mpr ⟨(ws_mem (List.mem_of_getElem? (i := 64) (by decide +kernel)) (by decide +kernel)), List.forall_mem_cons.mpr ⟨(ws_mem (List.mem_of_getElem? (i := 986) (by decide +kernel)) (by decide +kernel)), fun _ h => absurd h List.not_mem_nil⟩⟩⟩⟩⟩) rfl (by unfold nice; decide +kernel) (by unfold rfits; decide) ⟨rfl, rfl⟩
  · cases h
theorem ocX9_base_135 (f : Nat → Nat → Nat → Nat → (List MV → MS → (Option MV → MS → Prop) → Prop) → Prop) : oC aX9_base 135 f = f 2 9 0 0 spX9_isStation := propext Iff.rfl
theorem ocX9_base_128 (f : Nat → Nat → Nat → Nat → (List MV → MS → (Option MV → MS → Prop) → Prop) → Prop) : oC aX9_base 128 f = f 4 9 0 0 spX9_in := propext Iff.rfl
theorem ocX9_base_132 (f : Nat → Nat → Nat → Nat → (List MV → MS → (Option MV → MS → Prop) → Prop) → Prop) : oC aX9_base 132 f = f 1 9 0 0 spX9_changed := propext Iff.rfl
theorem mdX9_base : MD RX9 cX9_base rmX9_base kX9_base fX9 aX9_base zX9 uX9 := ⟨fokX9, zokX9, uokX9, aokX9_base, qX9_base⟩
set_option maxRecDepth 100000 in
set_option maxHeartbeats 800000 in
theorem mX9_base : MOK yX9_base cX9_base 4 (some .int) rmX9_base ciX9_base := by
  refine mok_of (ini := false) (by decide +kernel) (by decide) rfl rfl ?_
  intro σ As K hrc hl h
  obtain ⟨N, P, I, L⟩ := σ
  have h9 := pR_iff.mp h
  clear h
  obtain ⟨a, r, e9, h⟩ := h9
  subst e9
  have h9 := pI_iff.mp h
  clear h
  obtain ⟨s, r, e9, h⟩ := h9
  subst e9
  have h9 := pI_iff.mp h
  clear h
  obtain ⟨b, r, e9, h⟩ := h9
  subst e9
  have h9 := pN_iff.mp h
  clear h
  obtain ⟨e9, h⟩ := h9
  subst e9
  try dsimp only at h
  obtain ⟨rfl, rfl, hs, hb, hx, h1, h2⟩ := h
  unfold RI at hs hb
  have hN := nM hx
  have y1 := hN.1
  have hx' := hx
  obtain ⟨x1, x2, x3, x4, x5⟩ := hx'
  refine ⟨Nat.le_of_ble_eq_true rfl, Ok.seg mdX9_base [] 60 ?_⟩
  simp only [wp_nil, wp_cons, ↓stp, ↓lI, ↓lL, ↓lR, ↓lIn_0, ↓lIn_1, ↓lIn_2, ↓lIn_3, ↓lLn_0, ↓lLn_1, ↓lLn_2, ↓lLn_3, ↓lRn_0, ↓lRn_1, ↓lRn_2, ↓lRn_3, ↓pI, ↓pL, ↓pR, ↓pA, ↓pN, ↓pV, ↓fp, ↓tsw, ↓oS, ↓spMax, ↓spMin, ↓spAbs, ↓spObj, RI, RLg, b2i_lo, b2i_hi, getL, setL, ltL, killL, isLong, inl, cnd, br, tgt, rcv, rpl, mputI, mputL, mputP, fv, fr, mcat, mcs, entL, entA, rfit, nf_0, nf_1, nf_2, nf_3, nf2_0, nf2_1, b2i_0, b2i_1, RI_b2i, b2i_fit, List.append, List.length, List.replicate, List.cons_append, List.nil_append, List.length_cons, List.length_nil, List.replicate_succ, List.replicate_zero, List.tail_cons, reduceIte, if_true, if_false, ite_true, ite_false, Bool.false_eq_true, true_and, and_true, and_self, false_and, and_false, or_self, or_true, true_or, or_false, false_or, not_true_eq_false, not_false_eq_true, ne_eq, forall_const, implies_true, imp_self, true_implies, false_implies, Nat.reduceAdd, Nat.reduceSub, Nat.reduceMul, Nat.reduceDiv, Nat.reduceMod, Nat.reduceEqDiff, Nat.reduceLT, Nat.reduceLeDiff, Nat.reduceBEq, Nat.add_zero, Nat.zero_add, Nat.le_refl, Nat.not_lt_zero, Nat.succ_eq_add_one, Int.reduceNatCast, Int.cast_ofNat_Int, Int.reduceSub, Int.reduceMul, Int.reduceNeg, Int.reduceLE, Int.reduceLT, Int.reduceToNat, Int.reduceEq, Int.reduceNe, Int.reduceAdd, Option.some.injEq, kX9_base, rmX9_base, ↓ofX9_35, ↓ocX9_base_135, ↓spX9_isStation, ↓ocX9_base_128, ↓spX9_in, ↓ocX9_base_132, ↓spX9_changed, upI_ne, y1.1, y1.2, G_240, G_241, G_242, G_243, G_244, G_245, G_246, G_247, G_248, G_249, G_250, G_251, G_252, G_253, G_254, G_255, G_256, G_257, G_258, G_259, G_260, G_261, G_262, G_263, G_264, G_265, G_266, G_267, G_268, G_269, G_270, G_271, G_272, PF_240_6, PF_240_7, PF_240_8, PF_240_9, PF_240_10, PF_240_11, PF_240_12, PF_240_13, PF_240_14, PF_240_15, PF_240_16, PF_240_17, PF_240_18, PF_240_19, PF_240_20, PF_240_21, PF_240_22, PF_240_23, PF_240_24, PF_240_26, PF_240_27, PF_240_28, PF_240_29, PF_240_30, PF_240_31, PF_240_32, PF_240_33, PF_240_34, PF_240_35, PF_240_36, PF_240_37]
  refine ⟨by omega, fun q => h1 (by omega), fun q => ⟨by omega, fun q2 => ⟨by omega, by omega, by omega, by omega, ?_⟩, fun q2 => h1 (by omega)⟩⟩
  have fr : ∀ c k, ¬ (c = 243 ∧ k = s) → c ≠ 248 → filI (upI I 243 s b) 248 0 41 c k = I c k := fun c k a b => (fil_o b).trans (if_neg a)
  have e1 : filI (upI I 243 s b) 248 0 41 243 s = b := (fil_o (by omega)).trans upI_same
  have e240 : filI (upI I 243 s b) 248 0 41 240 1 = I 240 1 := fr _ _ (by omega) (by omega)
  refine h2 (by omega) _ fr (mOK_f hx (tOK_V (by omega) (by omega) (fun i i0 i1 => ?_)) (carOK_V (fr _ _ (by omega) (by omega)) (fr _ _ (by omega) (by omega)) (fr _ _ (by omega) (by omega)) (fun b k _ _ => fr _ _ (by omega) (by omega)) x2) (raceR_V (fr _ _ (by omega) (by omega)) (fr _ _ (by omega) (by omega)) (fun b k _ _ => fr _ _ (by omega) (by omega)) x3) (fun k k0 k1 => fil_i k0 k1) (fun b k _ _ => fr _ _ (by omega) (by omega))) e1
  have hst := stM x1 i0 (by omega)
  rw [fr 241 i (by omega) (by omega), fr 242 i (by omega) (by omega), fr 244 i (by omega) (by omega), fr 245 i (by omega) (by omega)]
  by_cases z : i = s
  · subst z; rw [e1]; omega
  · rw [fr 243 i (by omega) (by omega)]; exact hst
def spX9_gear (As : List MV) (σ : MS) (K : Option MV → MS → Prop) : Prop := pR As fun a r => pI r fun g r => pI r fun t r => pI r fun q r => pN r (a = 240 ∧ σ.2.1 = PF ∧ RI g ∧ RI t ∧ RI q ∧ mOK σ.2.2.1 σ.2.2.2 ∧ (¬ (1 ≤ g ∧ g ≤ 6 ∧ 1 ≤ t ∧ t ≤ 60 ∧ 1 ≤ q ∧ q ≤ 20) → K (some (.inl (-1))) σ) ∧ (1 ≤ g ∧ g ≤ 6 ∧ 1 ≤ t ∧ t ≤ 60 ∧ 1 ≤ q ∧ q ≤ 20 →
  ∀ (I' : Int → Int → Int) (v : Int), (∀ c k, c ≠ 246 → c ≠ 247 → c ≠ 248 → I' c k = σ.2.2.1 c k) → mOK I' σ.2.2.2 → (∀ j, I' 246 j = if j = g then t else σ.2.2.1 246 j) → (∀ j, I' 247 j = if j = g then q else σ.2.2.1 247 j) → (v = if σ.2.2.1 246 g = t ∧ σ.2.2.1 247 g = q then 0 else 1) → K (some (.inl v)) (σ.1, σ.2.1, I', σ.2.2.2)))
def ciX9_gear : CI := (4, 9, 0, 0, spX9_gear)
def kX9_gear (pc : Nat) : List ME := match pc with
  | 0 => [(.aload_n 0, 1, []), (.iload_n 1, 1, []), (.iconst 1, 1, []), (.bipush 6, 2, []), (.invokevirtual 128, 3, []), (.ifCond .eq 25, 3, [33]), (.aload_n 0, 1, []), (.iload_n 2, 1, []), (.iconst 1, 1, []), (.bipush 60, 2, []), (.invokevirtual 128, 3, []), (.ifCond .eq 14, 3, [33]), (.aload_n 0, 1, []), (.iload_n 3, 1, []), (.iconst 1, 1, []), (.bipush 20, 2, []), (.invokevirtual 128, 3, []), (.ifCond .ne 5, 3, [35])]
  | 33 => [(.iconst (-1), 1, []), (.ireturn, 1, [])]
  | 35 => [(.aload_n 0, 1, []), (.getfield 44, 3, []), (.iload_n 1, 1, []), (.iaload, 1, []), (.iload_n 2, 1, []), (.if_icmp .ne 17, 3, [59]), (.aload_n 0, 1, []), (.getfield 47, 3, []), (.iload_n 1, 1, []), (.iaload, 1, []), (.iload_n 3, 1, []), (.if_icmp .ne 7, 3, [59]), (.iconst 0, 1, []), (.goto 4, 3, [60])]
  | 59 => [(.iconst 1, 1, [])]
  | 60 => [(.istore 4, 2, []), (.aload_n 0, 1, []), (.getfield 44, 3, []), (.iload_n 1, 1, []), (.iload_n 2, 1, []), (.iastore, 1, []), (.aload_n 0, 1, []), (.getfield 47, 3, []), (.iload_n 1, 1, []), (.iload_n 3, 1, []), (.iastore, 1, []), (.aload_n 0, 1, []), (.invokevirtual 132, 3, []), (.iload 4, 2, []), (.ireturn, 1, [])]
  | _ => []
theorem qX9_gear : ∀ pc, chk cX9_gear pc (kX9_gear pc) = true := by
  intro pc
  unfold kX9_gear
  split <;> first | decide +kernel | exact chk_nil
abbrev rmX9_gear : Room := { frames := 1, cells := 0, slots := 0, locals := 23 }
def aX9_gear (x : Nat) : Option CI := match x with
  | 128 => some ciX9_in
  | 132 => some ciX9_changed
  | _ => none
theorem aokX9_gear : ∀ x ci, aX9_gear x = some ci → CalOK RX9 rmX9_gear x ci := by
  intro x ci h
  unfold aX9_gear at h
  split at h
  · cases h; exact cal_V mX9_in (by decide) rfl (List.forall_mem_cons.mpr ⟨(ws_mem (List.mem_of_getElem? (i := 979) (by decide +kernel)) (by decide +kernel)), List.forall_mem_cons.mpr ⟨(ws_mem (List.mem_of_getElem? (i := 981) (by decide +kernel)) (by decide +kernel)), List.forall_mem_cons.mpr ⟨(ws_mem (List.mem_of_getElem? (i := 20) (by decide +kernel)) (by decide +kernel)), List.forall_mem_cons.mpr ⟨(ws_mem (List.mem_of_getElem? (i := 64) (by decide +kernel)) (by decide +kernel)), List.forall_mem_cons.mpr ⟨(ws_mem (List.mem_of_getElem? (i := 982) (by decide +kernel)) (by decide +kernel)), fun _ h => absurd h List.not_mem_nil⟩⟩⟩⟩⟩) rfl (by unfold nice; decide +kernel) (by unfold rfits; decide) ⟨rfl, rfl⟩
  · cases h; exact cal_V mX9_changed (by decide) rfl (List.forall_mem_cons.mpr ⟨(ws_mem (List.mem_of_getElem? (i := 983) (by decide +kernel)) (by decide +kernel)), List.forall_mem_cons.mpr ⟨(ws_mem (List.mem_of_getElem? (i := 985) (by decide +kernel)) (by decide +kernel)), List.forall_mem_cons.mpr ⟨(ws_mem (List.mem_of_getElem? (i := 21) (by decide +kernel)) (by decide +kernel)), List.forall_mem_cons.mpr ⟨(ws_mem (List.mem_of_getElem? (i := 64) (by decide +kernel)) (by decide +kernel)), List.forall_mem_cons.mpr ⟨(ws_mem (List.mem_of_getElem? (i := 986) (by decide +kernel)) (by decide +kernel)), fun _ h => absurd h List.not_mem_nil⟩⟩⟩⟩⟩) rfl (by unfold nice; decide +kernel) (by unfold rfits; decide) ⟨rfl, rfl⟩
  · cases h
theorem ocX9_gear_128 (f : Nat → Nat → Nat → Nat → (List MV → MS → (Option MV → MS → Prop) → Prop) → Prop) : oC aX9_gear 128 f = f 4 9 0 0 spX9_in := propext Iff.rfl
theorem ocX9_gear_132 (f : Nat → Nat → Nat → Nat → (List MV → MS → (Option MV → MS → Prop) → Prop) → Prop) : oC aX9_gear 132 f = f 1 9 0 0 spX9_changed := propext Iff.rfl
theorem mdX9_gear : MD RX9 cX9_gear rmX9_gear kX9_gear fX9 aX9_gear zX9 uX9 := ⟨fokX9, zokX9, uokX9, aokX9_gear, qX9_gear⟩
set_option maxRecDepth 100000 in
set_option maxHeartbeats 800000 in
theorem mX9_gear : MOK yX9_gear cX9_gear 5 (some .int) rmX9_gear ciX9_gear := by
  refine mok_of (ini := false) (by decide +kernel) (by decide) rfl rfl ?_
  intro σ As K hrc hl h
  obtain ⟨N, P, I, L⟩ := σ
  have h9 := pR_iff.mp h
  clear h
  obtain ⟨a, r, e9, h⟩ := h9
  subst e9
  have h9 := pI_iff.mp h
  clear h
  obtain ⟨g, r, e9, h⟩ := h9
  subst e9
  have h9 := pI_iff.mp h
  clear h
  obtain ⟨t, r, e9, h⟩ := h9
  subst e9
  have h9 := pI_iff.mp h
  clear h
  obtain ⟨q, r, e9, h⟩ := h9
  subst e9
  have h9 := pN_iff.mp h
  clear h
  obtain ⟨e9, h⟩ := h9
  subst e9
  try dsimp only at h
  obtain ⟨rfl, rfl, hg, ht, hq, hx, h1, h2⟩ := h
  unfold RI at hg ht hq
  have hN := nM hx
  have y1 := hN.1
  have hx' := hx
  obtain ⟨x1, x2, x3, x4, x5⟩ := hx'
  have hgo := x2.1.1
  rw [VM_38, VM_39] at hgo
  refine ⟨Nat.le_of_ble_eq_true rfl, Ok.seg mdX9_gear [] 80 ?_⟩
  simp only [wp_nil, wp_cons, ↓stp, ↓lI, ↓lL, ↓lR, ↓lIn_0, ↓lIn_1, ↓lIn_2, ↓lIn_3, ↓lLn_0, ↓lLn_1, ↓lLn_2, ↓lLn_3, ↓lRn_0, ↓lRn_1, ↓lRn_2, ↓lRn_3, ↓pI, ↓pL, ↓pR, ↓pA, ↓pN, ↓pV, ↓fp, ↓tsw, ↓oS, ↓spMax, ↓spMin, ↓spAbs, ↓spObj, RI, RLg, b2i_lo, b2i_hi, getL, setL, ltL, killL, isLong, inl, cnd, br, tgt, rcv, rpl, mputI, mputL, mputP, fv, fr, mcat, mcs, entL, entA, rfit, nf_0, nf_1, nf_2, nf_3, nf2_0, nf2_1, b2i_0, b2i_1, RI_b2i, b2i_fit, List.append, List.length, List.replicate, List.cons_append, List.nil_append, List.length_cons, List.length_nil, List.replicate_succ, List.replicate_zero, List.tail_cons, reduceIte, if_true, if_false, ite_true, ite_false, Bool.false_eq_true, true_and, and_true, and_self, false_and, and_false, or_self, or_true, true_or, or_false, false_or, not_true_eq_false, not_false_eq_true, ne_eq, forall_const, implies_true, imp_self, true_implies, false_implies, Nat.reduceAdd, Nat.reduceSub, Nat.reduceMul, Nat.reduceDiv, Nat.reduceMod, Nat.reduceEqDiff, Nat.reduceLT, Nat.reduceLeDiff, Nat.reduceBEq, Nat.add_zero, Nat.zero_add, Nat.le_refl, Nat.not_lt_zero, Nat.succ_eq_add_one, Int.reduceNatCast, Int.cast_ofNat_Int, Int.reduceSub, Int.reduceMul, Int.reduceNeg, Int.reduceLE, Int.reduceLT, Int.reduceToNat, Int.reduceEq, Int.reduceNe, Int.reduceAdd, Option.some.injEq, kX9_gear, rmX9_gear, ↓ofX9_44, ↓ofX9_47, ↓ocX9_gear_128, ↓spX9_in, ↓ocX9_gear_132, ↓spX9_changed, upI_ne, G_240, G_241, G_242, G_243, G_244, G_245, G_246, G_247, G_248, G_249, G_250, G_251, G_252, G_253, G_254, G_255, G_256, G_257, G_258, G_259, G_260, G_261, G_262, G_263, G_264, G_265, G_266, G_267, G_268, G_269, G_270, G_271, G_272, PF_240_6, PF_240_7, PF_240_8, PF_240_9, PF_240_10, PF_240_11, PF_240_12, PF_240_13, PF_240_14, PF_240_15, PF_240_16, PF_240_17, PF_240_18, PF_240_19, PF_240_20, PF_240_21, PF_240_22, PF_240_23, PF_240_24, PF_240_26, PF_240_27, PF_240_28, PF_240_29, PF_240_30, PF_240_31, PF_240_32, PF_240_33, PF_240_34, PF_240_35, PF_240_36, PF_240_37]
  refine ⟨by omega, fun q1 => h1 (by omega), fun q1 => ⟨by omega, fun q2 => h1 (by omega), fun q2 => ⟨by omega, fun q3 => ?_, fun q3 => h1 (by omega)⟩⟩⟩
  have hgg := hgo g (by omega) (by omega)
  have fr : ∀ c k, c ≠ 246 → c ≠ 247 → c ≠ 248 → filI (upI (upI I 246 g t) 247 g q) 248 0 41 c k = I c k := fun c k a b d => (fil_o d).trans ((upI_ne b).trans (upI_ne a))
  have e6 : ∀ j, filI (upI (upI I 246 g t) 247 g q) 248 0 41 246 j = if j = g then t else I 246 j := fun j => by
    rw [fil_o (by omega), upI_ne (by omega)]
    by_cases z : j = g
    · rw [z, upI_same, if_pos rfl]
    · rw [upI_nj z, if_neg z]
  have e7 : ∀ j, filI (upI (upI I 246 g t) 247 g q) 248 0 41 247 j = if j = g then q else I 247 j := fun j => by
    rw [fil_o (by omega)]
    by_cases z : j = g
    · rw [z, upI_same, if_pos rfl]
    · rw [upI_nj z, if_neg z, upI_ne (by omega)]
  have e240 : filI (upI (upI I 246 g t) 247 g q) 248 0 41 240 1 = I 240 1 := fr _ _ (by omega) (by omega) (by omega)
  have hm : mOK (filI (upI (upI I 246 g t) 247 g q) 248 0 41) L := by
    refine mOK_f hx (tOK_V (by omega) (by omega) (fun i i0 i1 => ?_)) ⟨⟨fun i i0 i1 => ?_, fun p _ _ => rfl⟩, ?_⟩ (raceR_V (fr _ _ (by omega) (by omega) (by omega)) (fr _ _ (by omega) (by omega) (by omega)) (fun b k _ _ => fr _ _ (by omega) (by omega) (by omega)) x3) (fun k k0 k1 => fil_i k0 k1) (fun b k _ _ => fr _ _ (by omega) (by omega) (by omega))
    · rw [fr 241 i (by omega) (by omega) (by omega), fr 242 i (by omega) (by omega) (by omega), fr 243 i (by omega) (by omega) (by omega), fr 244 i (by omega) (by omega) (by omega), fr 245 i (by omega) (by omega) (by omega)]
      exact stM x1 i0 (by omega)
    · rw [VM_38, VM_39, e6, e7]
      by_cases z : i = g
      · rw [if_pos z, if_pos z]; omega
      · rw [if_neg z, if_neg z]; exact hgo i i0 i1
    · have := x2.2
      unfold nOK at this ⊢
      rw [VM_36_0, VM_36_1, VM_36_2] at this ⊢
      rw [fr 240 2 (by omega) (by omega) (by omega), fr 240 3 (by omega) (by omega) (by omega), fr 240 4 (by omega) (by omega) (by omega)]
      exact this
  have go := fun v => h2 (by omega) (filI (upI (upI I 246 g t) 247 g q) 248 0 41) v fr hm e6 e7
  refine ⟨by omega, by omega, by omega, by omega, fun z => ?_, fun z => ⟨by omega, by omega, by omega, by omega, fun z2 => ?_, fun z2 => ?_⟩⟩
  · repeat refine ⟨by omega, ?_⟩
    exact go 1 (by rw [if_neg (fun y => z y.1)])
  · repeat refine ⟨by omega, ?_⟩
    exact go 1 (by rw [if_neg (fun y => z2 y.2)])
  · repeat refine ⟨by omega, ?_⟩
    exact go 0 (by rw [if_pos ⟨by omega, by omega⟩])
def spX9_isSet (As : List MV) (σ : MS) (K : Option MV → MS → Prop) : Prop := pR As fun a r => pI r fun w r => pI r fun n r => pN r (a = 240 ∧ RI w ∧ RI n ∧ ∀ v, (v = 0 ∨ v = 1) → (v = 1 ↔ setP w n) → K (some (.inl v)) σ)
def ciX9_isSet : CI := (3, 9, 0, 0, spX9_isSet)
def kX9_isSet (pc : Nat) : List ME := match pc with
  | 0 => [(.iload_n 1, 1, []), (.ifCond .ne 15, 3, [16]), (.aload_n 0, 1, []), (.iload_n 2, 1, []), (.bipush (-20), 2, []), (.bipush 20, 2, []), (.invokevirtual 128, 3, []), (.goto 56, 3, [69])]
  | 16 => [(.iload_n 1, 1, []), (.iconst 1, 1, []), (.if_icmp .ne 14, 3, [32]), (.aload_n 0, 1, []), (.iload_n 2, 1, []), (.iconst 1, 1, []), (.bipush 30, 2, []), (.invokevirtual 128, 3, []), (.goto 40, 3, [69])]
  | 32 => [(.iload_n 1, 1, []), (.iconst 2, 1, []), (.if_icmp .ne 14, 3, [48]), (.aload_n 0, 1, []), (.iload_n 2, 1, []), (.iconst 1, 1, []), (.bipush 60, 2, []), (.invokevirtual 128, 3, []), (.goto 24, 3, [69])]
  | 48 => [(.iload_n 1, 1, []), (.iconst 3, 1, []), (.if_icmp .ne 18, 3, [68]), (.aload_n 0, 1, []), (.iload_n 2, 1, []), (.iconst 0, 1, []), (.ldc 139, 2, []), (.invokevirtual 128, 3, []), (.ifCond .eq 7, 3, [68]), (.iconst 1, 1, []), (.goto 4, 3, [69])]
  | 68 => [(.iconst 0, 1, [])]
  | 69 => [(.ireturn, 1, [])]
  | _ => []
theorem qX9_isSet : ∀ pc, chk cX9_isSet pc (kX9_isSet pc) = true := by
  intro pc
  unfold kX9_isSet
  split <;> first | decide +kernel | exact chk_nil
abbrev rmX9_isSet : Room := { frames := 1, cells := 0, slots := 0, locals := 23 }
def aX9_isSet (x : Nat) : Option CI := match x with
  | 128 => some ciX9_in
  | _ => none
theorem aokX9_isSet : ∀ x ci, aX9_isSet x = some ci → CalOK RX9 rmX9_isSet x ci := by
  intro x ci h
  unfold aX9_isSet at h
  split at h
  · cases h; exact cal_V mX9_in (by decide) rfl (List.forall_mem_cons.mpr ⟨(ws_mem (List.mem_of_getElem? (i := 979) (by decide +kernel)) (by decide +kernel)), List.forall_mem_cons.mpr ⟨(ws_mem (List.mem_of_getElem? (i := 981) (by decide +kernel)) (by decide +kernel)), List.forall_mem_cons.mpr ⟨(ws_mem (List.mem_of_getElem? (i := 20) (by decide +kernel)) (by decide +kernel)), List.forall_mem_cons.mpr ⟨(ws_mem (List.mem_of_getElem? (i := 64) (by decide +kernel)) (by decide +kernel)), List.forall_mem_cons.mpr ⟨(ws_mem (List.mem_of_getElem? (i := 982) (by decide +kernel)) (by decide +kernel)), fun _ h => absurd h List.not_mem_nil⟩⟩⟩⟩⟩) rfl (by unfold nice; decide +kernel) (by unfold rfits; decide) ⟨rfl, rfl⟩
  · cases h
theorem ocX9_isSet_128 (f : Nat → Nat → Nat → Nat → (List MV → MS → (Option MV → MS → Prop) → Prop) → Prop) : oC aX9_isSet 128 f = f 4 9 0 0 spX9_in := propext Iff.rfl
theorem mdX9_isSet : MD RX9 cX9_isSet rmX9_isSet kX9_isSet fX9 aX9_isSet zX9 uX9 := ⟨fokX9, zokX9, uokX9, aokX9_isSet, qX9_isSet⟩
set_option maxRecDepth 100000 in
set_option maxHeartbeats 800000 in
theorem mX9_isSet : MOK yX9_isSet cX9_isSet 3 (some .boolean) rmX9_isSet ciX9_isSet := by
  refine mok_of (ini := false) (by decide +kernel) (by decide) rfl rfl ?_
  intro σ As K hrc hl h
  obtain ⟨N, P, I, L⟩ := σ
  have h9 := pR_iff.mp h
  clear h
  obtain ⟨a, r, e9, h⟩ := h9
  subst e9
  have h9 := pI_iff.mp h
  clear h
  obtain ⟨w, r, e9, h⟩ := h9
  subst e9
  have h9 := pI_iff.mp h
  clear h
  obtain ⟨n, r, e9, h⟩ := h9
  subst e9
  have h9 := pN_iff.mp h
  clear h
  obtain ⟨e9, h⟩ := h9
  subst e9
  try dsimp only at h
  obtain ⟨rfl, hw, hn, h⟩ := h
  have h := fun v (p : (v = 0 ∨ v = 1) ∧ (v = 1 ↔ setP w n)) => h v p.1 p.2
  unfold RI at hw hn
  refine ⟨Nat.le_of_ble_eq_true rfl, Ok.seg mdX9_isSet [] 30 ?_⟩
  simp only [wp_nil, wp_cons, ↓stp, ↓lI, ↓lL, ↓lR, ↓lIn_0, ↓lIn_1, ↓lIn_2, ↓lIn_3, ↓lLn_0, ↓lLn_1, ↓lLn_2, ↓lLn_3, ↓lRn_0, ↓lRn_1, ↓lRn_2, ↓lRn_3, ↓pI, ↓pL, ↓pR, ↓pA, ↓pN, ↓pV, ↓fp, ↓tsw, ↓oS, ↓spMax, ↓spMin, ↓spAbs, ↓spObj, RI, RLg, b2i_lo, b2i_hi, getL, setL, ltL, killL, isLong, inl, cnd, br, tgt, rcv, rpl, mputI, mputL, mputP, fv, fr, mcat, mcs, entL, entA, rfit, nf_0, nf_1, nf_2, nf_3, nf2_0, nf2_1, b2i_0, b2i_1, RI_b2i, b2i_fit, List.append, List.length, List.replicate, List.cons_append, List.nil_append, List.length_cons, List.length_nil, List.replicate_succ, List.replicate_zero, List.tail_cons, reduceIte, if_true, if_false, ite_true, ite_false, Bool.false_eq_true, true_and, and_true, and_self, false_and, and_false, or_self, or_true, true_or, or_false, false_or, not_true_eq_false, not_false_eq_true, ne_eq, forall_const, implies_true, imp_self, true_implies, false_implies, Nat.reduceAdd, Nat.reduceSub, Nat.reduceMul, Nat.reduceDiv, Nat.reduceMod, Nat.reduceEqDiff, Nat.reduceLT, Nat.reduceLeDiff, Nat.reduceBEq, Nat.add_zero, Nat.zero_add, Nat.le_refl, Nat.not_lt_zero, Nat.succ_eq_add_one, Int.reduceNatCast, Int.cast_ofNat_Int, Int.reduceSub, Int.reduceMul, Int.reduceNeg, Int.reduceLE, Int.reduceLT, Int.reduceToNat, Int.reduceEq, Int.reduceNe, Int.reduceAdd, Option.some.injEq, kX9_isSet, rmX9_isSet, ↓ozX9_139, ↓ocX9_isSet_128, ↓spX9_in, G_240, G_241, G_242, G_243, G_244, G_245, G_246, G_247, G_248, G_249, G_250, G_251, G_252, G_253, G_254, G_255, G_256, G_257, G_258, G_259, G_260, G_261, G_262, G_263, G_264, G_265, G_266, G_267, G_268, G_269, G_270, G_271, G_272, PF_240_6, PF_240_7, PF_240_8, PF_240_9, PF_240_10, PF_240_11, PF_240_12, PF_240_13, PF_240_14, PF_240_15, PF_240_16, PF_240_17, PF_240_18, PF_240_19, PF_240_20, PF_240_21, PF_240_22, PF_240_23, PF_240_24, PF_240_26, PF_240_27, PF_240_28, PF_240_29, PF_240_30, PF_240_31, PF_240_32, PF_240_33, PF_240_34, PF_240_35, PF_240_36, PF_240_37]
  refine ⟨by omega, fun q => ⟨by omega, fun q1 => ⟨by omega, fun q2 => ⟨by omega, fun q3 => h 0 ⟨.inl rfl, by unfold setP; omega⟩, fun q3 => ⟨by omega, fun q4 => h 0 ⟨.inl rfl, by unfold setP; omega⟩, fun q4 => h 1 ⟨.inr rfl, by unfold setP; omega⟩⟩⟩, fun q2 => ⟨by omega, by omega, h _ (b2i_v (by unfold setP; omega))⟩⟩, fun q1 => ⟨by omega, by omega, h _ (b2i_v (by unfold setP; omega))⟩⟩, fun q => ⟨by omega, by omega, h _ (b2i_v (by unfold setP; omega))⟩⟩
def spX9_limitOf (As : List MV) (σ : MS) (K : Option MV → MS → Prop) : Prop := pR As fun a r => pI r fun i r => pI r fun l r => pI r fun g r => pN r (a = 240 ∧ σ.2.1 = PF ∧ 0 ≤ i ∧ i < σ.2.2.1 240 1 ∧ 0 ≤ l ∧ l ≤ 2 ∧ -20 ≤ g ∧ g ≤ 20 ∧ tOK (VM σ.2.2.1) ∧ K (some (.inl (lmv (VM σ.2.2.1) g i l))) σ)
def ciX9_limitOf : CI := (4, 9, 0, 0, spX9_limitOf)
def kX9_limitOf (pc : Nat) : List ME := match pc with
  | 0 => [(.iload_n 2, 1, []), (.aload_n 0, 1, []), (.getfield 38, 3, []), (.iload_n 1, 1, []), (.iaload, 1, []), (.if_icmp .le 14, 3, [21]), (.iload_n 2, 1, []), (.aload_n 0, 1, []), (.getfield 38, 3, []), (.iload_n 1, 1, []), (.iaload, 1, []), (.isub, 1, []), (.goto 11, 3, [29])]
  | 21 => [(.aload_n 0, 1, []), (.getfield 38, 3, []), (.iload_n 1, 1, []), (.iaload, 1, []), (.iload_n 2, 1, []), (.isub, 1, [])]
  | 29 => [(.istore 4, 2, []), (.aload_n 0, 1, []), (.getfield 28, 3, []), (.iload_n 1, 1, []), (.iaload, 1, []), (.ifCond .ne 8, 3, [45]), (.bipush 60, 2, []), (.goto 51, 3, [93])]
  | 45 => [(.aload_n 0, 1, []), (.getfield 28, 3, []), (.iload_n 1, 1, []), (.iaload, 1, []), (.iconst 3, 1, []), (.if_icmp .ne 12, 3, [64]), (.aload_n 0, 1, []), (.getfield 35, 3, []), (.iload_n 1, 1, []), (.iaload, 1, []), (.goto 32, 3, [93])]
  | 64 => [(.aload_n 0, 1, []), (.getfield 35, 3, []), (.iload_n 1, 1, []), (.iaload, 1, []), (.iload_n 3, 1, []), (.iadd, 1, []), (.iconst 3, 1, []), (.iload 4, 2, []), (.imul, 1, []), (.isub, 1, []), (.aload_n 0, 1, []), (.getfield 28, 3, []), (.iload_n 1, 1, []), (.iaload, 1, []), (.iconst 2, 1, []), (.if_icmp .ne 7, 3, [91]), (.iconst 4, 1, []), (.goto 4, 3, [92])]
  | 91 => [(.iconst 0, 1, [])]
  | 92 => [(.isub, 1, [])]
  | 93 => [(.istore 5, 2, []), (.iload 5, 2, []), (.iconst 1, 1, []), (.if_icmp .ge 7, 3, [105]), (.iconst 1, 1, []), (.goto 17, 3, [119])]
  | 105 => [(.iload 5, 2, []), (.bipush 60, 2, []), (.if_icmp .le 8, 3, [117]), (.bipush 60, 2, []), (.goto 5, 3, [119])]
  | 117 => [(.iload 5, 2, [])]
  | 119 => [(.ireturn, 1, [])]
  | _ => []
theorem qX9_limitOf : ∀ pc, chk cX9_limitOf pc (kX9_limitOf pc) = true := by
  intro pc
  unfold kX9_limitOf
  split <;> first | decide +kernel | exact chk_nil
abbrev rmX9_limitOf : Room := { frames := 0, cells := 0, slots := 0, locals := 0 }
def aX9_limitOf (_ : Nat) : Option CI := none
theorem aokX9_limitOf : ∀ x ci, aX9_limitOf x = some ci → CalOK RX9 rmX9_limitOf x ci := fun _ _ h => by cases h
theorem mdX9_limitOf : MD RX9 cX9_limitOf rmX9_limitOf kX9_limitOf fX9 aX9_limitOf zX9 uX9 := ⟨fokX9, zokX9, uokX9, aokX9_limitOf, qX9_limitOf⟩
theorem lpX9_lm3 {post : Option MV → MS → Prop} {U : Pt → Prop} {N : Nat} {I L : Int → Int → Int} {i l g far v : Int} (hv : -1000 ≤ v ∧ v ≤ 1000) (h : post (some (.inl (clp v))) (N, PF, I, L)) : Ok RX9 cX9_limitOf 6 rmX9_limitOf false none post U (93, [some (.inr (.inr (some 240))), some (.inl i), some (.inl l), some (.inl g), some (.inl far), none], [.inl v], (N, PF, I, L), 0, 0) := by
  refine Ok.seg mdX9_limitOf [29] 20 ?_
  simp only [wp_nil, wp_cons, ↓stp, ↓lI, ↓lL, ↓lR, ↓lIn_0, ↓lIn_1, ↓lIn_2, ↓lIn_3, ↓lLn_0, ↓lLn_1, ↓lLn_2, ↓lLn_3, ↓lRn_0, ↓lRn_1, ↓lRn_2, ↓lRn_3, ↓pI, ↓pL, ↓pR, ↓pA, ↓pN, ↓pV, ↓fp, ↓tsw, ↓oS, ↓spMax, ↓spMin, ↓spAbs, ↓spObj, RI, RLg, b2i_lo, b2i_hi, getL, setL, ltL, killL, isLong, inl, cnd, br, tgt, rcv, rpl, mputI, mputL, mputP, fv, fr, mcat, mcs, entL, entA, rfit, nf_0, nf_1, nf_2, nf_3, nf2_0, nf2_1, b2i_0, b2i_1, RI_b2i, b2i_fit, List.append, List.length, List.replicate, List.cons_append, List.nil_append, List.length_cons, List.length_nil, List.replicate_succ, List.replicate_zero, List.tail_cons, reduceIte, if_true, if_false, ite_true, ite_false, Bool.false_eq_true, true_and, and_true, and_self, false_and, and_false, or_self, or_true, true_or, or_false, false_or, not_true_eq_false, not_false_eq_true, ne_eq, forall_const, implies_true, imp_self, true_implies, false_implies, Nat.reduceAdd, Nat.reduceSub, Nat.reduceMul, Nat.reduceDiv, Nat.reduceMod, Nat.reduceEqDiff, Nat.reduceLT, Nat.reduceLeDiff, Nat.reduceBEq, Nat.add_zero, Nat.zero_add, Nat.le_refl, Nat.not_lt_zero, Nat.succ_eq_add_one, Int.reduceNatCast, Int.cast_ofNat_Int, Int.reduceSub, Int.reduceMul, Int.reduceNeg, Int.reduceLE, Int.reduceLT, Int.reduceToNat, Int.reduceEq, Int.reduceNe, Int.reduceAdd, Option.some.injEq, kX9_limitOf, rmX9_limitOf, ↓ofX9_28, ↓ofX9_35, ↓ofX9_38, G_240, G_241, G_242, G_243, G_244, G_245, G_246, G_247, G_248, G_249, G_250, G_251, G_252, G_253, G_254, G_255, G_256, G_257, G_258, G_259, G_260, G_261, G_262, G_263, G_264, G_265, G_266, G_267, G_268, G_269, G_270, G_271, G_272, PF_240_6, PF_240_7, PF_240_8, PF_240_9, PF_240_10, PF_240_11, PF_240_12, PF_240_13, PF_240_14, PF_240_15, PF_240_16, PF_240_17, PF_240_18, PF_240_19, PF_240_20, PF_240_21, PF_240_22, PF_240_23, PF_240_24, PF_240_26, PF_240_27, PF_240_28, PF_240_29, PF_240_30, PF_240_31, PF_240_32, PF_240_33, PF_240_34, PF_240_35, PF_240_36, PF_240_37]
  unfold clp at h
  refine ⟨by omega, fun q => ⟨by omega, fun q2 => ?_, fun q2 => ?_⟩, fun q => ?_⟩
  · rwa [if_neg (by omega), if_neg (by omega)] at h
  · rwa [if_neg (by omega), if_pos (by omega)] at h
  · rwa [if_pos (by omega)] at h
theorem lpX9_lm2 {post : Option MV → MS → Prop} {U : Pt → Prop} {N : Nat} {I L : Int → Int → Int} {i l g far : Int} (hi : 0 ≤ i ∧ i < 30) (hk : 0 ≤ I 241 i ∧ I 241 i ≤ 3) (hb : 1 ≤ I 243 i ∧ I 243 i ≤ 60) (hg : -20 ≤ g ∧ g ≤ 20) (hf : 0 ≤ far ∧ far ≤ 10)
    (h : ∀ v, -1000 ≤ v → v ≤ 1000 → v = (if I 241 i = 0 then 60 else I 243 i) + (if I 241 i = 1 ∨ I 241 i = 2 then g - 3 * far else 0) - (if I 241 i = 2 then 4 else 0) → Ok RX9 cX9_limitOf 6 rmX9_limitOf false none post U (93, [some (.inr (.inr (some 240))), some (.inl i), some (.inl l), some (.inl g), some (.inl far), none], [.inl v], (N, PF, I, L), 0, 0)) : Ok RX9 cX9_limitOf 6 rmX9_limitOf false none post U (29, [some (.inr (.inr (some 240))), some (.inl i), some (.inl l), some (.inl g), none, none], [.inl far], (N, PF, I, L), 0, 0) := by
  refine Ok.seg mdX9_limitOf [93] 40 ?_
  simp only [wp_nil, wp_cons, ↓stp, ↓lI, ↓lL, ↓lR, ↓lIn_0, ↓lIn_1, ↓lIn_2, ↓lIn_3, ↓lLn_0, ↓lLn_1, ↓lLn_2, ↓lLn_3, ↓lRn_0, ↓lRn_1, ↓lRn_2, ↓lRn_3, ↓pI, ↓pL, ↓pR, ↓pA, ↓pN, ↓pV, ↓fp, ↓tsw, ↓oS, ↓spMax, ↓spMin, ↓spAbs, ↓spObj, RI, RLg, b2i_lo, b2i_hi, getL, setL, ltL, killL, isLong, inl, cnd, br, tgt, rcv, rpl, mputI, mputL, mputP, fv, fr, mcat, mcs, entL, entA, rfit, nf_0, nf_1, nf_2, nf_3, nf2_0, nf2_1, b2i_0, b2i_1, RI_b2i, b2i_fit, List.append, List.length, List.replicate, List.cons_append, List.nil_append, List.length_cons, List.length_nil, List.replicate_succ, List.replicate_zero, List.tail_cons, reduceIte, if_true, if_false, ite_true, ite_false, Bool.false_eq_true, true_and, and_true, and_self, false_and, and_false, or_self, or_true, true_or, or_false, false_or, not_true_eq_false, not_false_eq_true, ne_eq, forall_const, implies_true, imp_self, true_implies, false_implies, Nat.reduceAdd, Nat.reduceSub, Nat.reduceMul, Nat.reduceDiv, Nat.reduceMod, Nat.reduceEqDiff, Nat.reduceLT, Nat.reduceLeDiff, Nat.reduceBEq, Nat.add_zero, Nat.zero_add, Nat.le_refl, Nat.not_lt_zero, Nat.succ_eq_add_one, Int.reduceNatCast, Int.cast_ofNat_Int, Int.reduceSub, Int.reduceMul, Int.reduceNeg, Int.reduceLE, Int.reduceLT, Int.reduceToNat, Int.reduceEq, Int.reduceNe, Int.reduceAdd, Option.some.injEq, kX9_limitOf, rmX9_limitOf, ↓ofX9_28, ↓ofX9_35, ↓ofX9_38, hi.1, hi.2, G_240, G_241, G_242, G_243, G_244, G_245, G_246, G_247, G_248, G_249, G_250, G_251, G_252, G_253, G_254, G_255, G_256, G_257, G_258, G_259, G_260, G_261, G_262, G_263, G_264, G_265, G_266, G_267, G_268, G_269, G_270, G_271, G_272, PF_240_6, PF_240_7, PF_240_8, PF_240_9, PF_240_10, PF_240_11, PF_240_12, PF_240_13, PF_240_14, PF_240_15, PF_240_16, PF_240_17, PF_240_18, PF_240_19, PF_240_20, PF_240_21, PF_240_22, PF_240_23, PF_240_24, PF_240_26, PF_240_27, PF_240_28, PF_240_29, PF_240_30, PF_240_31, PF_240_32, PF_240_33, PF_240_34, PF_240_35, PF_240_36, PF_240_37]
  refine ⟨by omega, fun q => ⟨by omega, fun q2 => ⟨by omega, fun q3 => ?_, fun q3 => ?_⟩, fun q2 => ?_⟩, fun q => ?_⟩
  · exact h _ (by omega) (by omega) (by rw [if_neg q, if_pos (by omega), if_neg q3]; omega)
  · exact h _ (by omega) (by omega) (by rw [if_neg q, if_pos (by omega), if_pos (by omega)]; omega)
  · exact h _ (by omega) (by omega) (by rw [if_neg q, if_neg (by omega), if_neg (by omega)]; omega)
  · exact h _ (by omega) (by omega) (by rw [if_pos (by omega), if_neg (by omega), if_neg (by omega)]; omega)
set_option maxRecDepth 100000 in
set_option maxHeartbeats 800000 in
theorem mX9_limitOf : MOK yX9_limitOf cX9_limitOf 6 (some .int) rmX9_limitOf ciX9_limitOf := by
  refine mok_of (ini := false) (by decide +kernel) (by decide) rfl rfl ?_
  intro σ As K hrc hl h
  obtain ⟨N, P, I, L⟩ := σ
  have h9 := pR_iff.mp h
  clear h
  obtain ⟨a, r, e9, h⟩ := h9
  subst e9
  have h9 := pI_iff.mp h
  clear h
  obtain ⟨i, r, e9, h⟩ := h9
  subst e9
  have h9 := pI_iff.mp h
  clear h
  obtain ⟨l, r, e9, h⟩ := h9
  subst e9
  have h9 := pI_iff.mp h
  clear h
  obtain ⟨g, r, e9, h⟩ := h9
  subst e9
  have h9 := pN_iff.mp h
  clear h
  obtain ⟨e9, h⟩ := h9
  subst e9
  try dsimp only at h
  obtain ⟨rfl, rfl, i0, i1, l0, l1, g0, g1, ht, h⟩ := h
  have hst := stM ht i0 i1
  have y2 : I 240 1 ≤ 30 := ht.2.1
  obtain ⟨e0, e1, e2, e3, e4⟩ := VM_st (I := I) i0 (by omega)
  unfold lmv lim at h
  rw [e0, e2, e3] at h
  have go : ∀ far, far = (if 0 ≤ l - I 244 i then l - I 244 i else I 244 i - l) → 0 ≤ far → far ≤ 10 → Ok RX9 cX9_limitOf 6 rmX9_limitOf false none (fun r σ' => rfit (some .int) r ∧ K r σ') (fun _ => False) (29, [some (.inr (.inr (some 240))), some (.inl i), some (.inl l), some (.inl g), none, none], [.inl far], (N, PF, I, L), 0, 0) := fun far hf f0 f1 =>
    lpX9_lm2 (by omega) (by omega) (by omega) (by omega) ⟨f0, f1⟩ (fun v v0 v1 hv => lpX9_lm3 ⟨v0, v1⟩ ⟨trivial, by rw [hv, hf]; exact h⟩)
  refine ⟨Nat.le_of_ble_eq_true rfl, Ok.seg mdX9_limitOf [29] 20 ?_⟩
  simp only [wp_nil, wp_cons, ↓stp, ↓lI, ↓lL, ↓lR, ↓lIn_0, ↓lIn_1, ↓lIn_2, ↓lIn_3, ↓lLn_0, ↓lLn_1, ↓lLn_2, ↓lLn_3, ↓lRn_0, ↓lRn_1, ↓lRn_2, ↓lRn_3, ↓pI, ↓pL, ↓pR, ↓pA, ↓pN, ↓pV, ↓fp, ↓tsw, ↓oS, ↓spMax, ↓spMin, ↓spAbs, ↓spObj, RI, RLg, b2i_lo, b2i_hi, getL, setL, ltL, killL, isLong, inl, cnd, br, tgt, rcv, rpl, mputI, mputL, mputP, fv, fr, mcat, mcs, entL, entA, rfit, nf_0, nf_1, nf_2, nf_3, nf2_0, nf2_1, b2i_0, b2i_1, RI_b2i, b2i_fit, List.append, List.length, List.replicate, List.cons_append, List.nil_append, List.length_cons, List.length_nil, List.replicate_succ, List.replicate_zero, List.tail_cons, reduceIte, if_true, if_false, ite_true, ite_false, Bool.false_eq_true, true_and, and_true, and_self, false_and, and_false, or_self, or_true, true_or, or_false, false_or, not_true_eq_false, not_false_eq_true, ne_eq, forall_const, implies_true, imp_self, true_implies, false_implies, Nat.reduceAdd, Nat.reduceSub, Nat.reduceMul, Nat.reduceDiv, Nat.reduceMod, Nat.reduceEqDiff, Nat.reduceLT, Nat.reduceLeDiff, Nat.reduceBEq, Nat.add_zero, Nat.zero_add, Nat.le_refl, Nat.not_lt_zero, Nat.succ_eq_add_one, Int.reduceNatCast, Int.cast_ofNat_Int, Int.reduceSub, Int.reduceMul, Int.reduceNeg, Int.reduceLE, Int.reduceLT, Int.reduceToNat, Int.reduceEq, Int.reduceNe, Int.reduceAdd, Option.some.injEq, kX9_limitOf, rmX9_limitOf, ↓ofX9_28, ↓ofX9_35, ↓ofX9_38, G_240, G_241, G_242, G_243, G_244, G_245, G_246, G_247, G_248, G_249, G_250, G_251, G_252, G_253, G_254, G_255, G_256, G_257, G_258, G_259, G_260, G_261, G_262, G_263, G_264, G_265, G_266, G_267, G_268, G_269, G_270, G_271, G_272, PF_240_6, PF_240_7, PF_240_8, PF_240_9, PF_240_10, PF_240_11, PF_240_12, PF_240_13, PF_240_14, PF_240_15, PF_240_16, PF_240_17, PF_240_18, PF_240_19, PF_240_20, PF_240_21, PF_240_22, PF_240_23, PF_240_24, PF_240_26, PF_240_27, PF_240_28, PF_240_29, PF_240_30, PF_240_31, PF_240_32, PF_240_33, PF_240_34, PF_240_35, PF_240_36, PF_240_37]
  have i2 : i < 30 := by omega
  refine ⟨i0, i2, by omega, by omega, fun q => ⟨i0, i2, go _ ?_ (by omega) (by omega)⟩, fun q => ⟨i0, i2, go _ ?_ (by omega) (by omega)⟩⟩
  · by_cases z : l = I 244 i
    · rw [if_pos (by omega)]; omega
    · rw [if_neg (by omega)]
  · rw [if_pos (by omega)]
def spX9_limit (As : List MV) (σ : MS) (K : Option MV → MS → Prop) : Prop := pR As fun a r => pI r fun s r => pI r fun l r => pN r (a = 240 ∧ σ.2.1 = PF ∧ RI s ∧ RI l ∧ mOK σ.2.2.1 σ.2.2.2 ∧ (¬ (0 ≤ s ∧ s < σ.2.2.1 240 1 ∧ 0 ≤ l ∧ l ≤ 2) → K (some (.inl (-1))) σ) ∧ (0 ≤ s ∧ s < σ.2.2.1 240 1 ∧ 0 ≤ l ∧ l ≤ 2 → K (some (.inl (lmv (VM σ.2.2.1) (σ.2.2.1 240 2) s l))) σ))
def ciX9_limit : CI := (3, 9, 0, 0, spX9_limit)
def kX9_limit (pc : Nat) : List ME := match pc with
  | 0 => [(.aload_n 0, 1, []), (.iload_n 1, 1, []), (.invokevirtual 135, 3, []), (.ifCond .eq 26, 3, [31]), (.aload_n 0, 1, []), (.iload_n 2, 1, []), (.iconst 0, 1, []), (.iconst 2, 1, []), (.invokevirtual 128, 3, []), (.ifCond .eq 16, 3, [31]), (.aload_n 0, 1, []), (.iload_n 1, 1, []), (.iload_n 2, 1, []), (.aload_n 0, 1, []), (.getfield 16, 3, []), (.invokevirtual 148, 3, []), (.goto 4, 3, [32])]
  | 31 => [(.iconst (-1), 1, [])]
  | 32 => [(.ireturn, 1, [])]
  | _ => []
theorem qX9_limit : ∀ pc, chk cX9_limit pc (kX9_limit pc) = true := by
  intro pc
  unfold kX9_limit
  split <;> first | decide +kernel | exact chk_nil
abbrev rmX9_limit : Room := { frames := 2, cells := 0, slots := 0, locals := 44 }
def aX9_limit (x : Nat) : Option CI := match x with
  | 135 => some ciX9_isStation
  | 128 => some ciX9_in
  | 148 => some ciX9_limitOf
  | _ => none
theorem aokX9_limit : ∀ x ci, aX9_limit x = some ci → CalOK RX9 rmX9_limit x ci := by
  intro x ci h
  unfold aX9_limit at h
  split at h
  · cases h; exact cal_V mX9_isStation (by decide) rfl (List.forall_mem_cons.mpr ⟨(ws_mem (List.mem_of_getElem? (i := 995) (by decide +kernel)) (by decide +kernel)), List.forall_mem_cons.mpr ⟨(ws_mem (List.mem_of_getElem? (i := 997) (by decide +kernel)) (by decide +kernel)), List.forall_mem_cons.mpr ⟨(ws_mem (List.mem_of_getElem? (i := 22) (by decide +kernel)) (by decide +kernel)), List.forall_mem_cons.mpr ⟨(ws_mem (List.mem_of_getElem? (i := 64) (by decide +kernel)) (by decide +kernel)), List.forall_mem_cons.mpr ⟨(ws_mem (List.mem_of_getElem? (i := 998) (by decide +kernel)) (by decide +kernel)), fun _ h => absurd h List.not_mem_nil⟩⟩⟩⟩⟩) rfl (by unfold nice; decide +kernel) (by unfold rfits; decide) ⟨rfl, rfl⟩
  · cases h; exact cal_V mX9_in (by decide) rfl (List.forall_mem_cons.mpr ⟨(ws_mem (List.mem_of_getElem? (i := 979) (by decide +kernel)) (by decide +kernel)), List.forall_mem_cons.mpr ⟨(ws_mem (List.mem_of_getElem? (i := 981) (by decide +kernel)) (by decide +kernel)), List.forall_mem_cons.mpr ⟨(ws_mem (List.mem_of_getElem? (i := 20) (by decide +kernel)) (by decide +kernel)), List.forall_mem_cons.mpr ⟨(ws_mem (List.mem_of_getElem? (i := 64) (by decide +kernel)) (by decide +kernel)), List.forall_mem_cons.mpr ⟨(ws_mem (List.mem_of_getElem? (i := 982) (by decide +kernel)) (by decide +kernel)), fun _ h => absurd h List.not_mem_nil⟩⟩⟩⟩⟩) rfl (by unfold nice; decide +kernel) (by unfold rfits; decide) ⟨rfl, rfl⟩
  · cases h; exact cal_V mX9_limitOf (by decide) rfl (List.forall_mem_cons.mpr ⟨(ws_mem (List.mem_of_getElem? (i := 1020) (by decide +kernel)) (by decide +kernel)), List.forall_mem_cons.mpr ⟨(ws_mem (List.mem_of_getElem? (i := 1022) (by decide +kernel)) (by decide +kernel)), List.forall_mem_cons.mpr ⟨(ws_mem (List.mem_of_getElem? (i := 25) (by decide +kernel)) (by decide +kernel)), List.forall_mem_cons.mpr ⟨(ws_mem (List.mem_of_getElem? (i := 64) (by decide +kernel)) (by decide +kernel)), List.forall_mem_cons.mpr ⟨(ws_mem (List.mem_of_getElem? (i := 1023) (by decide +kernel)) (by decide +kernel)), fun _ h => absurd h List.not_mem_nil⟩⟩⟩⟩⟩) rfl (by unfold nice; decide +kernel) (by unfold rfits; decide) ⟨rfl, rfl⟩
  · cases h
theorem ocX9_limit_135 (f : Nat → Nat → Nat → Nat → (List MV → MS → (Option MV → MS → Prop) → Prop) → Prop) : oC aX9_limit 135 f = f 2 9 0 0 spX9_isStation := propext Iff.rfl
theorem ocX9_limit_128 (f : Nat → Nat → Nat → Nat → (List MV → MS → (Option MV → MS → Prop) → Prop) → Prop) : oC aX9_limit 128 f = f 4 9 0 0 spX9_in := propext Iff.rfl
theorem ocX9_limit_148 (f : Nat → Nat → Nat → Nat → (List MV → MS → (Option MV → MS → Prop) → Prop) → Prop) : oC aX9_limit 148 f = f 4 9 0 0 spX9_limitOf := propext Iff.rfl
theorem mdX9_limit : MD RX9 cX9_limit rmX9_limit kX9_limit fX9 aX9_limit zX9 uX9 := ⟨fokX9, zokX9, uokX9, aokX9_limit, qX9_limit⟩
set_option maxRecDepth 100000 in
set_option maxHeartbeats 800000 in
theorem mX9_limit : MOK yX9_limit cX9_limit 3 (some .int) rmX9_limit ciX9_limit := by
  refine mok_of (ini := false) (by decide +kernel) (by decide) rfl rfl ?_
  intro σ As K hrc hl h
  obtain ⟨N, P, I, L⟩ := σ
  have h9 := pR_iff.mp h
  clear h
  obtain ⟨a, r, e9, h⟩ := h9
  subst e9
  have h9 := pI_iff.mp h
  clear h
  obtain ⟨s, r, e9, h⟩ := h9
  subst e9
  have h9 := pI_iff.mp h
  clear h
  obtain ⟨l, r, e9, h⟩ := h9
  subst e9
  have h9 := pN_iff.mp h
  clear h
  obtain ⟨e9, h⟩ := h9
  subst e9
  try dsimp only at h
  obtain ⟨rfl, rfl, hs, hl2, hx, h1, h2⟩ := h
  unfold RI at hs hl2
  have hN := nM hx
  have y1 := hN.1
  have hN2 := hN.2.1
  have hx1 := hx.1
  refine ⟨Nat.le_of_ble_eq_true rfl, Ok.seg mdX9_limit [] 60 ?_⟩
  simp only [wp_nil, wp_cons, ↓stp, ↓lI, ↓lL, ↓lR, ↓lIn_0, ↓lIn_1, ↓lIn_2, ↓lIn_3, ↓lLn_0, ↓lLn_1, ↓lLn_2, ↓lLn_3, ↓lRn_0, ↓lRn_1, ↓lRn_2, ↓lRn_3, ↓pI, ↓pL, ↓pR, ↓pA, ↓pN, ↓pV, ↓fp, ↓tsw, ↓oS, ↓spMax, ↓spMin, ↓spAbs, ↓spObj, RI, RLg, b2i_lo, b2i_hi, getL, setL, ltL, killL, isLong, inl, cnd, br, tgt, rcv, rpl, mputI, mputL, mputP, fv, fr, mcat, mcs, entL, entA, rfit, nf_0, nf_1, nf_2, nf_3, nf2_0, nf2_1, b2i_0, b2i_1, RI_b2i, b2i_fit, List.append, List.length, List.replicate, List.cons_append, List.nil_append, List.length_cons, List.length_nil, List.replicate_succ, List.replicate_zero, List.tail_cons, reduceIte, if_true, if_false, ite_true, ite_false, Bool.false_eq_true, true_and, and_true, and_self, false_and, and_false, or_self, or_true, true_or, or_false, false_or, not_true_eq_false, not_false_eq_true, ne_eq, forall_const, implies_true, imp_self, true_implies, false_implies, Nat.reduceAdd, Nat.reduceSub, Nat.reduceMul, Nat.reduceDiv, Nat.reduceMod, Nat.reduceEqDiff, Nat.reduceLT, Nat.reduceLeDiff, Nat.reduceBEq, Nat.add_zero, Nat.zero_add, Nat.le_refl, Nat.not_lt_zero, Nat.succ_eq_add_one, Int.reduceNatCast, Int.cast_ofNat_Int, Int.reduceSub, Int.reduceMul, Int.reduceNeg, Int.reduceLE, Int.reduceLT, Int.reduceToNat, Int.reduceEq, Int.reduceNe, Int.reduceAdd, Option.some.injEq, kX9_limit, rmX9_limit, ↓ofX9_16, ↓ocX9_limit_135, ↓spX9_isStation, ↓ocX9_limit_128, ↓spX9_in, ↓ocX9_limit_148, ↓spX9_limitOf, y1.1, y1.2, hx1, G_240, G_241, G_242, G_243, G_244, G_245, G_246, G_247, G_248, G_249, G_250, G_251, G_252, G_253, G_254, G_255, G_256, G_257, G_258, G_259, G_260, G_261, G_262, G_263, G_264, G_265, G_266, G_267, G_268, G_269, G_270, G_271, G_272, PF_240_6, PF_240_7, PF_240_8, PF_240_9, PF_240_10, PF_240_11, PF_240_12, PF_240_13, PF_240_14, PF_240_15, PF_240_16, PF_240_17, PF_240_18, PF_240_19, PF_240_20, PF_240_21, PF_240_22, PF_240_23, PF_240_24, PF_240_26, PF_240_27, PF_240_28, PF_240_29, PF_240_30, PF_240_31, PF_240_32, PF_240_33, PF_240_34, PF_240_35, PF_240_36, PF_240_37]
  refine ⟨by omega, fun q => h1 (by omega), fun q => ⟨by omega, fun q2 => h1 (by omega), fun q2 => ⟨by omega, by omega, by omega, by omega, by omega, by omega, h2 (by omega)⟩⟩⟩
def spX9_reachOf (As : List MV) (σ : MS) (K : Option MV → MS → Prop) : Prop := pR As fun a r => pI r fun p r => pN r (a = 240 ∧ σ.2.1 = PF ∧ 1 ≤ p ∧ p ≤ 60 ∧ gOK (σ.2.2.1 246) (σ.2.2.1 247) ∧ K (some (.inl (rch (σ.2.2.1 246) (σ.2.2.1 247) p))) σ)
def ciX9_reachOf : CI := (2, 9, 0, 0, spX9_reachOf)
def kX9_reachOf (pc : Nat) : List ME := match pc with
  | 0 => [(.iload_n 1, 1, []), (.istore_n 2, 1, []), (.iconst 1, 1, []), (.istore_n 3, 1, [])]
  | 4 => [(.iload_n 3, 1, []), (.bipush 7, 2, []), (.if_icmp .ge 71, 3, [78]), (.aload_n 0, 1, []), (.getfield 44, 3, []), (.iload_n 3, 1, []), (.iaload, 1, []), (.iload_n 1, 1, []), (.if_icmp .gt 6, 3, [23]), (.goto 52, 3, [72])]
  | 23 => [(.iload_n 1, 1, []), (.aload_n 0, 1, []), (.getfield 47, 3, []), (.iload_n 3, 1, []), (.iaload, 1, []), (.iadd, 1, []), (.aload_n 0, 1, []), (.getfield 44, 3, []), (.iload_n 3, 1, []), (.iaload, 1, []), (.if_icmp .ge 14, 3, [51]), (.iload_n 1, 1, []), (.aload_n 0, 1, []), (.getfield 47, 3, []), (.iload_n 3, 1, []), (.iaload, 1, []), (.iadd, 1, []), (.goto 9, 3, [57])]
  | 51 => [(.aload_n 0, 1, []), (.getfield 44, 3, []), (.iload_n 3, 1, []), (.iaload, 1, [])]
  | 57 => [(.istore 4, 2, []), (.iload 4, 2, []), (.iload_n 2, 1, []), (.if_icmp .le 8, 3, [70]), (.iload 4, 2, []), (.goto 4, 3, [71])]
  | 70 => [(.iload_n 2, 1, [])]
  | 71 => [(.istore_n 2, 1, [])]
  | 72 => [(.iinc 3 1, 3, []), (.goto (-71), 3, [4])]
  | 78 => [(.iload_n 2, 1, []), (.ireturn, 1, [])]
  | _ => []
theorem qX9_reachOf : ∀ pc, chk cX9_reachOf pc (kX9_reachOf pc) = true := by
  intro pc
  unfold kX9_reachOf
  split <;> first | decide +kernel | exact chk_nil
abbrev rmX9_reachOf : Room := { frames := 0, cells := 0, slots := 0, locals := 0 }
def aX9_reachOf (_ : Nat) : Option CI := none
theorem aokX9_reachOf : ∀ x ci, aX9_reachOf x = some ci → CalOK RX9 rmX9_reachOf x ci := fun _ _ h => by cases h
theorem mdX9_reachOf : MD RX9 cX9_reachOf rmX9_reachOf kX9_reachOf fX9 aX9_reachOf zX9 uX9 := ⟨fokX9, zokX9, uokX9, aokX9_reachOf, qX9_reachOf⟩
set_option maxHeartbeats 1600000 in
set_option maxRecDepth 100000 in
theorem lpX9_r1 {post : Option MV → MS → Prop} {U : Pt → Prop} {N : Nat} {I L : Int → Int → Int} {p : Int} (p0 : 1 ≤ p) (p1 : p ≤ 60) (hg : gOK (I 246) (I 247)) (h : post (some (.inl (rch (I 246) (I 247) p))) (N, PF, I, L)) :
    ∀ (m g : Nat) (t4 : Option MV), g + m = 6 → Ok RX9 cX9_reachOf 5 rmX9_reachOf false none post U (4, [some (.inr (.inr (some 240))), some (.inl p), some (.inl (rcm (I 246) (I 247) p g)), some (.inl ((g : Int) + 1)), t4], [], (N, PF, I, L), 0, 0)
  | 0, g, t4, hm => by
    refine Ok.seg mdX9_reachOf [4] 10 ?_
    simp only [wp_nil, wp_cons, ↓stp, ↓lI, ↓lL, ↓lR, ↓lIn_0, ↓lIn_1, ↓lIn_2, ↓lIn_3, ↓lLn_0, ↓lLn_1, ↓lLn_2, ↓lLn_3, ↓lRn_0, ↓lRn_1, ↓lRn_2, ↓lRn_3, ↓pI, ↓pL, ↓pR, ↓pA, ↓pN, ↓pV, ↓fp, ↓tsw, ↓oS, ↓spMax, ↓spMin, ↓spAbs, ↓spObj, RI, RLg, b2i_lo, b2i_hi, getL, setL, ltL, killL, isLong, inl, cnd, br, tgt, rcv, rpl, mputI, mputL, mputP, fv, fr, mcat, mcs, entL, entA, rfit, nf_0, nf_1, nf_2, nf_3, nf2_0, nf2_1, b2i_0, b2i_1, RI_b2i, b2i_fit, List.append, List.length, List.replicate, List.cons_append, List.nil_append, List.length_cons, List.length_nil, List.replicate_succ, List.replicate_zero, List.tail_cons, reduceIte, if_true, if_false, ite_true, ite_false, Bool.false_eq_true, true_and, and_true, and_self, false_and, and_false, or_self, or_true, true_or, or_false, false_or, not_true_eq_false, not_false_eq_true, ne_eq, forall_const, implies_true, imp_self, true_implies, false_implies, Nat.reduceAdd, Nat.reduceSub, Nat.reduceMul, Nat.reduceDiv, Nat.reduceMod, Nat.reduceEqDiff, Nat.reduceLT, Nat.reduceLeDiff, Nat.reduceBEq, Nat.add_zero, Nat.zero_add, Nat.le_refl, Nat.not_lt_zero, Nat.succ_eq_add_one, Int.reduceNatCast, Int.cast_ofNat_Int, Int.reduceSub, Int.reduceMul, Int.reduceNeg, Int.reduceLE, Int.reduceLT, Int.reduceToNat, Int.reduceEq, Int.reduceNe, Int.reduceAdd, Option.some.injEq, kX9_reachOf, rmX9_reachOf, ↓ofX9_44, ↓ofX9_47, G_240, G_241, G_242, G_243, G_244, G_245, G_246, G_247, G_248, G_249, G_250, G_251, G_252, G_253, G_254, G_255, G_256, G_257, G_258, G_259, G_260, G_261, G_262, G_263, G_264, G_265, G_266, G_267, G_268, G_269, G_270, G_271, G_272, PF_240_6, PF_240_7, PF_240_8, PF_240_9, PF_240_10, PF_240_11, PF_240_12, PF_240_13, PF_240_14, PF_240_15, PF_240_16, PF_240_17, PF_240_18, PF_240_19, PF_240_20, PF_240_21, PF_240_22, PF_240_23, PF_240_24, PF_240_26, PF_240_27, PF_240_28, PF_240_29, PF_240_30, PF_240_31, PF_240_32, PF_240_33, PF_240_34, PF_240_35, PF_240_36, PF_240_37]
    rw [show g = 6 by omega]
    exact ⟨by omega, fun _ => h, fun q => by omega⟩
  | m + 1, g, t4, hm => by
    have ih := fun t => lpX9_r1 (U := U) (post := post) (N := N) (L := L) p0 p1 hg h m (g + 1) t (by omega)
    have hgg := hg ((g : Int) + 1) (by omega) (by omega)
    have hr := rcm_rng (p := p) hg p1 g (by omega)
    have hp := pul_rng (p := p) hgg.2.1 hgg.2.2.1 p1
    have eu : rcm (I 246) (I 247) p (g + 1) = if rcm (I 246) (I 247) p g < pul (I 246 ((g : Int) + 1)) (I 247 ((g : Int) + 1)) p then pul (I 246 ((g : Int) + 1)) (I 247 ((g : Int) + 1)) p else rcm (I 246) (I 247) p g := rfl
    rw [show ((g + 1 : Nat) : Int) + 1 = (g : Int) + 1 + 1 by omega, eu] at ih
    have tail : ∀ v, v = pul (I 246 ((g : Int) + 1)) (I 247 ((g : Int) + 1)) p → (rcm (I 246) (I 247) p g < v → Ok RX9 cX9_reachOf 5 rmX9_reachOf false none post U (4, [some (.inr (.inr (some 240))), some (.inl p), some (.inl v), some (.inl ((g : Int) + 1 + 1)), some (.inl v)], [], (N, PF, I, L), 0, 0)) ∧ (¬ rcm (I 246) (I 247) p g < v → Ok RX9 cX9_reachOf 5 rmX9_reachOf false none post U (4, [some (.inr (.inr (some 240))), some (.inl p), some (.inl (rcm (I 246) (I 247) p g)), some (.inl ((g : Int) + 1 + 1)), some (.inl v)], [], (N, PF, I, L), 0, 0)) := fun v hv => by
      rw [← hv] at ih
      exact ⟨fun q => by have := ih (some (.inl v)); rwa [if_pos q] at this, fun q => by have := ih (some (.inl v)); rwa [if_neg q] at this⟩
    have skip : ¬ p < I 246 ((g : Int) + 1) → Ok RX9 cX9_reachOf 5 rmX9_reachOf false none post U (4, [some (.inr (.inr (some 240))), some (.inl p), some (.inl (rcm (I 246) (I 247) p g)), some (.inl ((g : Int) + 1 + 1)), t4], [], (N, PF, I, L), 0, 0) := fun q => by
      have := ih t4
      have e : pul (I 246 ((g : Int) + 1)) (I 247 ((g : Int) + 1)) p = p := if_neg q
      rwa [e, if_neg (by omega)] at this
    have e1 : p < I 246 ((g : Int) + 1) → p + I 247 ((g : Int) + 1) < I 246 ((g : Int) + 1) → p + I 247 ((g : Int) + 1) = pul (I 246 ((g : Int) + 1)) (I 247 ((g : Int) + 1)) p := fun a b => by unfold pul; rw [if_pos a, if_pos b]
    have e2 : p < I 246 ((g : Int) + 1) → ¬ p + I 247 ((g : Int) + 1) < I 246 ((g : Int) + 1) → I 246 ((g : Int) + 1) = pul (I 246 ((g : Int) + 1)) (I 247 ((g : Int) + 1)) p := fun a b => by unfold pul; rw [if_pos a, if_neg b]
    refine Ok.seg mdX9_reachOf [4] 60 ?_
    simp only [wp_nil, wp_cons, ↓stp, ↓lI, ↓lL, ↓lR, ↓lIn_0, ↓lIn_1, ↓lIn_2, ↓lIn_3, ↓lLn_0, ↓lLn_1, ↓lLn_2, ↓lLn_3, ↓lRn_0, ↓lRn_1, ↓lRn_2, ↓lRn_3, ↓pI, ↓pL, ↓pR, ↓pA, ↓pN, ↓pV, ↓fp, ↓tsw, ↓oS, ↓spMax, ↓spMin, ↓spAbs, ↓spObj, RI, RLg, b2i_lo, b2i_hi, getL, setL, ltL, killL, isLong, inl, cnd, br, tgt, rcv, rpl, mputI, mputL, mputP, fv, fr, mcat, mcs, entL, entA, rfit, nf_0, nf_1, nf_2, nf_3, nf2_0, nf2_1, b2i_0, b2i_1, RI_b2i, b2i_fit, List.append, List.length, List.replicate, List.cons_append, List.nil_append, List.length_cons, List.length_nil, List.replicate_succ, List.replicate_zero, List.tail_cons, reduceIte, if_true, if_false, ite_true, ite_false, Bool.false_eq_true, true_and, and_true, and_self, false_and, and_false, or_self, or_true, true_or, or_false, false_or, not_true_eq_false, not_false_eq_true, ne_eq, forall_const, implies_true, imp_self, true_implies, false_implies, Nat.reduceAdd, Nat.reduceSub, Nat.reduceMul, Nat.reduceDiv, Nat.reduceMod, Nat.reduceEqDiff, Nat.reduceLT, Nat.reduceLeDiff, Nat.reduceBEq, Nat.add_zero, Nat.zero_add, Nat.le_refl, Nat.not_lt_zero, Nat.succ_eq_add_one, Int.reduceNatCast, Int.cast_ofNat_Int, Int.reduceSub, Int.reduceMul, Int.reduceNeg, Int.reduceLE, Int.reduceLT, Int.reduceToNat, Int.reduceEq, Int.reduceNe, Int.reduceAdd, Option.some.injEq, kX9_reachOf, rmX9_reachOf, ↓ofX9_44, ↓ofX9_47, G_240, G_241, G_242, G_243, G_244, G_245, G_246, G_247, G_248, G_249, G_250, G_251, G_252, G_253, G_254, G_255, G_256, G_257, G_258, G_259, G_260, G_261, G_262, G_263, G_264, G_265, G_266, G_267, G_268, G_269, G_270, G_271, G_272, PF_240_6, PF_240_7, PF_240_8, PF_240_9, PF_240_10, PF_240_11, PF_240_12, PF_240_13, PF_240_14, PF_240_15, PF_240_16, PF_240_17, PF_240_18, PF_240_19, PF_240_20, PF_240_21, PF_240_22, PF_240_23, PF_240_24, PF_240_26, PF_240_27, PF_240_28, PF_240_29, PF_240_30, PF_240_31, PF_240_32, PF_240_33, PF_240_34, PF_240_35, PF_240_36, PF_240_37]
    refine ⟨by omega, fun q => by omega, fun q => ⟨by omega, by omega, by omega, by omega, fun q2 => ⟨by omega, by omega, by omega, by omega, by omega, by omega, fun q3 => ?_, fun q3 => ?_⟩, skip⟩⟩
    · have t := tail _ (e2 q2 (by omega))
      exact ⟨by omega, by omega, by omega, by omega, fun q4 => t.2 (by omega), fun q4 => t.1 (by omega)⟩
    · have t := tail _ (e1 q2 (by omega))
      exact ⟨by omega, by omega, by omega, by omega, fun q4 => t.2 (by omega), fun q4 => t.1 (by omega)⟩
set_option maxRecDepth 100000 in
set_option maxHeartbeats 800000 in
theorem mX9_reachOf : MOK yX9_reachOf cX9_reachOf 5 (some .int) rmX9_reachOf ciX9_reachOf := by
  refine mok_of (ini := false) (by decide +kernel) (by decide) rfl rfl ?_
  intro σ As K hrc hl h
  obtain ⟨N, P, I, L⟩ := σ
  have h9 := pR_iff.mp h
  clear h
  obtain ⟨a, r, e9, h⟩ := h9
  subst e9
  have h9 := pI_iff.mp h
  clear h
  obtain ⟨p, r, e9, h⟩ := h9
  subst e9
  have h9 := pN_iff.mp h
  clear h
  obtain ⟨e9, h⟩ := h9
  subst e9
  try dsimp only at h
  obtain ⟨rfl, rfl, p0, p1, hg, h⟩ := h
  refine ⟨Nat.le_of_ble_eq_true rfl, Ok.seg mdX9_reachOf [4] 10 ?_⟩
  simp only [wp_nil, wp_cons, ↓stp, ↓lI, ↓lL, ↓lR, ↓lIn_0, ↓lIn_1, ↓lIn_2, ↓lIn_3, ↓lLn_0, ↓lLn_1, ↓lLn_2, ↓lLn_3, ↓lRn_0, ↓lRn_1, ↓lRn_2, ↓lRn_3, ↓pI, ↓pL, ↓pR, ↓pA, ↓pN, ↓pV, ↓fp, ↓tsw, ↓oS, ↓spMax, ↓spMin, ↓spAbs, ↓spObj, RI, RLg, b2i_lo, b2i_hi, getL, setL, ltL, killL, isLong, inl, cnd, br, tgt, rcv, rpl, mputI, mputL, mputP, fv, fr, mcat, mcs, entL, entA, rfit, nf_0, nf_1, nf_2, nf_3, nf2_0, nf2_1, b2i_0, b2i_1, RI_b2i, b2i_fit, List.append, List.length, List.replicate, List.cons_append, List.nil_append, List.length_cons, List.length_nil, List.replicate_succ, List.replicate_zero, List.tail_cons, reduceIte, if_true, if_false, ite_true, ite_false, Bool.false_eq_true, true_and, and_true, and_self, false_and, and_false, or_self, or_true, true_or, or_false, false_or, not_true_eq_false, not_false_eq_true, ne_eq, forall_const, implies_true, imp_self, true_implies, false_implies, Nat.reduceAdd, Nat.reduceSub, Nat.reduceMul, Nat.reduceDiv, Nat.reduceMod, Nat.reduceEqDiff, Nat.reduceLT, Nat.reduceLeDiff, Nat.reduceBEq, Nat.add_zero, Nat.zero_add, Nat.le_refl, Nat.not_lt_zero, Nat.succ_eq_add_one, Int.reduceNatCast, Int.cast_ofNat_Int, Int.reduceSub, Int.reduceMul, Int.reduceNeg, Int.reduceLE, Int.reduceLT, Int.reduceToNat, Int.reduceEq, Int.reduceNe, Int.reduceAdd, Option.some.injEq, kX9_reachOf, rmX9_reachOf, ↓ofX9_44, ↓ofX9_47, G_240, G_241, G_242, G_243, G_244, G_245, G_246, G_247, G_248, G_249, G_250, G_251, G_252, G_253, G_254, G_255, G_256, G_257, G_258, G_259, G_260, G_261, G_262, G_263, G_264, G_265, G_266, G_267, G_268, G_269, G_270, G_271, G_272, PF_240_6, PF_240_7, PF_240_8, PF_240_9, PF_240_10, PF_240_11, PF_240_12, PF_240_13, PF_240_14, PF_240_15, PF_240_16, PF_240_17, PF_240_18, PF_240_19, PF_240_20, PF_240_21, PF_240_22, PF_240_23, PF_240_24, PF_240_26, PF_240_27, PF_240_28, PF_240_29, PF_240_30, PF_240_31, PF_240_32, PF_240_33, PF_240_34, PF_240_35, PF_240_36, PF_240_37]
  exact lpX9_r1 (post := fun r σ' => rfit (some .int) r ∧ K r σ') p0 p1 hg ⟨trivial, h⟩ 6 0 none (by omega)
def spX9_reach (As : List MV) (σ : MS) (K : Option MV → MS → Prop) : Prop := pR As fun a r => pI r fun p r => pN r (a = 240 ∧ σ.2.1 = PF ∧ RI p ∧ mOK σ.2.2.1 σ.2.2.2 ∧ (¬ (1 ≤ p ∧ p ≤ 60) → K (some (.inl (-1))) σ) ∧ (1 ≤ p ∧ p ≤ 60 → K (some (.inl (rch (σ.2.2.1 246) (σ.2.2.1 247) p))) σ))
def ciX9_reach : CI := (2, 9, 0, 0, spX9_reach)
def kX9_reach (pc : Nat) : List ME := match pc with
  | 0 => [(.aload_n 0, 1, []), (.iload_n 1, 1, []), (.iconst 1, 1, []), (.bipush 60, 2, []), (.invokevirtual 128, 3, []), (.ifCond .eq 11, 3, [19]), (.aload_n 0, 1, []), (.iload_n 1, 1, []), (.invokevirtual 152, 3, []), (.goto 4, 3, [20])]
  | 19 => [(.iconst (-1), 1, [])]
  | 20 => [(.ireturn, 1, [])]
  | _ => []
theorem qX9_reach : ∀ pc, chk cX9_reach pc (kX9_reach pc) = true := by
  intro pc
  unfold kX9_reach
  split <;> first | decide +kernel | exact chk_nil
abbrev rmX9_reach : Room := { frames := 1, cells := 0, slots := 0, locals := 24 }
def aX9_reach (x : Nat) : Option CI := match x with
  | 128 => some ciX9_in
  | 152 => some ciX9_reachOf
  | _ => none
theorem aokX9_reach : ∀ x ci, aX9_reach x = some ci → CalOK RX9 rmX9_reach x ci := by
  intro x ci h
  unfold aX9_reach at h
  split at h
  · cases h; exact cal_V mX9_in (by decide) rfl (List.forall_mem_cons.mpr ⟨(ws_mem (List.mem_of_getElem? (i := 979) (by decide +kernel)) (by decide +kernel)), List.forall_mem_cons.mpr ⟨(ws_mem (List.mem_of_getElem? (i := 981) (by decide +kernel)) (by decide +kernel)), List.forall_mem_cons.mpr ⟨(ws_mem (List.mem_of_getElem? (i := 20) (by decide +kernel)) (by decide +kernel)), List.forall_mem_cons.mpr ⟨(ws_mem (List.mem_of_getElem? (i := 64) (by decide +kernel)) (by decide +kernel)), List.forall_mem_cons.mpr ⟨(ws_mem (List.mem_of_getElem? (i := 982) (by decide +kernel)) (by decide +kernel)), fun _ h => absurd h List.not_mem_nil⟩⟩⟩⟩⟩) rfl (by unfold nice; decide +kernel) (by unfold rfits; decide) ⟨rfl, rfl⟩
  · cases h; exact cal_V mX9_reachOf (by decide) rfl (List.forall_mem_cons.mpr ⟨(ws_mem (List.mem_of_getElem? (i := 1028) (by decide +kernel)) (by decide +kernel)), List.forall_mem_cons.mpr ⟨(ws_mem (List.mem_of_getElem? (i := 1030) (by decide +kernel)) (by decide +kernel)), List.forall_mem_cons.mpr ⟨(ws_mem (List.mem_of_getElem? (i := 26) (by decide +kernel)) (by decide +kernel)), List.forall_mem_cons.mpr ⟨(ws_mem (List.mem_of_getElem? (i := 64) (by decide +kernel)) (by decide +kernel)), List.forall_mem_cons.mpr ⟨(ws_mem (List.mem_of_getElem? (i := 1031) (by decide +kernel)) (by decide +kernel)), fun _ h => absurd h List.not_mem_nil⟩⟩⟩⟩⟩) rfl (by unfold nice; decide +kernel) (by unfold rfits; decide) ⟨rfl, rfl⟩
  · cases h
theorem ocX9_reach_128 (f : Nat → Nat → Nat → Nat → (List MV → MS → (Option MV → MS → Prop) → Prop) → Prop) : oC aX9_reach 128 f = f 4 9 0 0 spX9_in := propext Iff.rfl
theorem ocX9_reach_152 (f : Nat → Nat → Nat → Nat → (List MV → MS → (Option MV → MS → Prop) → Prop) → Prop) : oC aX9_reach 152 f = f 2 9 0 0 spX9_reachOf := propext Iff.rfl
theorem mdX9_reach : MD RX9 cX9_reach rmX9_reach kX9_reach fX9 aX9_reach zX9 uX9 := ⟨fokX9, zokX9, uokX9, aokX9_reach, qX9_reach⟩
set_option maxRecDepth 100000 in
set_option maxHeartbeats 800000 in
theorem mX9_reach : MOK yX9_reach cX9_reach 2 (some .int) rmX9_reach ciX9_reach := by
  refine mok_of (ini := false) (by decide +kernel) (by decide) rfl rfl ?_
  intro σ As K hrc hl h
  obtain ⟨N, P, I, L⟩ := σ
  have h9 := pR_iff.mp h
  clear h
  obtain ⟨a, r, e9, h⟩ := h9
  subst e9
  have h9 := pI_iff.mp h
  clear h
  obtain ⟨p, r, e9, h⟩ := h9
  subst e9
  have h9 := pN_iff.mp h
  clear h
  obtain ⟨e9, h⟩ := h9
  subst e9
  try dsimp only at h
  obtain ⟨rfl, rfl, hp, hx, h1, h2⟩ := h
  unfold RI at hp
  have hg : gOK (I 246) (I 247) := hx.2.1.1.1
  refine ⟨Nat.le_of_ble_eq_true rfl, Ok.seg mdX9_reach [] 60 ?_⟩
  simp only [wp_nil, wp_cons, ↓stp, ↓lI, ↓lL, ↓lR, ↓lIn_0, ↓lIn_1, ↓lIn_2, ↓lIn_3, ↓lLn_0, ↓lLn_1, ↓lLn_2, ↓lLn_3, ↓lRn_0, ↓lRn_1, ↓lRn_2, ↓lRn_3, ↓pI, ↓pL, ↓pR, ↓pA, ↓pN, ↓pV, ↓fp, ↓tsw, ↓oS, ↓spMax, ↓spMin, ↓spAbs, ↓spObj, RI, RLg, b2i_lo, b2i_hi, getL, setL, ltL, killL, isLong, inl, cnd, br, tgt, rcv, rpl, mputI, mputL, mputP, fv, fr, mcat, mcs, entL, entA, rfit, nf_0, nf_1, nf_2, nf_3, nf2_0, nf2_1, b2i_0, b2i_1, RI_b2i, b2i_fit, List.append, List.length, List.replicate, List.cons_append, List.nil_append, List.length_cons, List.length_nil, List.replicate_succ, List.replicate_zero, List.tail_cons, reduceIte, if_true, if_false, ite_true, ite_false, Bool.false_eq_true, true_and, and_true, and_self, false_and, and_false, or_self, or_true, true_or, or_false, false_or, not_true_eq_false, not_false_eq_true, ne_eq, forall_const, implies_true, imp_self, true_implies, false_implies, Nat.reduceAdd, Nat.reduceSub, Nat.reduceMul, Nat.reduceDiv, Nat.reduceMod, Nat.reduceEqDiff, Nat.reduceLT, Nat.reduceLeDiff, Nat.reduceBEq, Nat.add_zero, Nat.zero_add, Nat.le_refl, Nat.not_lt_zero, Nat.succ_eq_add_one, Int.reduceNatCast, Int.cast_ofNat_Int, Int.reduceSub, Int.reduceMul, Int.reduceNeg, Int.reduceLE, Int.reduceLT, Int.reduceToNat, Int.reduceEq, Int.reduceNe, Int.reduceAdd, Option.some.injEq, kX9_reach, rmX9_reach, ↓ocX9_reach_128, ↓spX9_in, ↓ocX9_reach_152, ↓spX9_reachOf, hg, G_240, G_241, G_242, G_243, G_244, G_245, G_246, G_247, G_248, G_249, G_250, G_251, G_252, G_253, G_254, G_255, G_256, G_257, G_258, G_259, G_260, G_261, G_262, G_263, G_264, G_265, G_266, G_267, G_268, G_269, G_270, G_271, G_272, PF_240_6, PF_240_7, PF_240_8, PF_240_9, PF_240_10, PF_240_11, PF_240_12, PF_240_13, PF_240_14, PF_240_15, PF_240_16, PF_240_17, PF_240_18, PF_240_19, PF_240_20, PF_240_21, PF_240_22, PF_240_23, PF_240_24, PF_240_26, PF_240_27, PF_240_28, PF_240_29, PF_240_30, PF_240_31, PF_240_32, PF_240_33, PF_240_34, PF_240_35, PF_240_36, PF_240_37]
  exact ⟨by omega, fun q => h1 (by omega), fun q => ⟨by omega, by omega, h2 (by omega)⟩⟩
def spX9_shift (As : List MV) (σ : MS) (K : Option MV → MS → Prop) : Prop := pR As fun a r => pI r fun p r => pN r (a = 240 ∧ σ.2.1 = PF ∧ RI p ∧ mOK σ.2.2.1 σ.2.2.2 ∧ (¬ (1 ≤ p ∧ p ≤ 60) → K (some (.inl (-1))) σ) ∧ (1 ≤ p ∧ p ≤ 60 → K (some (.inl (gear (σ.2.2.1 246) (σ.2.2.1 247) p))) σ))
def ciX9_shift : CI := (2, 9, 0, 0, spX9_shift)
def kX9_shift (pc : Nat) : List ME := match pc with
  | 0 => [(.aload_n 0, 1, []), (.iload_n 1, 1, []), (.iconst 1, 1, []), (.bipush 60, 2, []), (.invokevirtual 128, 3, []), (.ifCond .ne 5, 3, [13]), (.iconst (-1), 1, []), (.ireturn, 1, [])]
  | 13 => [(.aload_n 0, 1, []), (.iload_n 1, 1, []), (.invokevirtual 152, 3, []), (.istore_n 2, 1, []), (.iload_n 2, 1, []), (.iload_n 1, 1, []), (.if_icmp .ne 5, 3, [26]), (.iconst 0, 1, []), (.ireturn, 1, [])]
  | 26 => [(.iconst 1, 1, []), (.istore_n 3, 1, [])]
  | 28 => [(.iload_n 3, 1, []), (.bipush 7, 2, []), (.if_icmp .ge 59, 3, [90]), (.aload_n 0, 1, []), (.getfield 44, 3, []), (.iload_n 3, 1, []), (.iaload, 1, []), (.iload_n 1, 1, []), (.if_icmp .le 43, 3, [84]), (.iload_n 1, 1, []), (.aload_n 0, 1, []), (.getfield 47, 3, []), (.iload_n 3, 1, []), (.iaload, 1, []), (.iadd, 1, []), (.aload_n 0, 1, []), (.getfield 44, 3, []), (.iload_n 3, 1, []), (.iaload, 1, []), (.if_icmp .ge 14, 3, [72]), (.iload_n 1, 1, []), (.aload_n 0, 1, []), (.getfield 47, 3, []), (.iload_n 3, 1, []), (.iaload, 1, []), (.iadd, 1, []), (.goto 9, 3, [78])]
  | 72 => [(.aload_n 0, 1, []), (.getfield 44, 3, []), (.iload_n 3, 1, []), (.iaload, 1, [])]
  | 78 => [(.iload_n 2, 1, []), (.if_icmp .ne 5, 3, [84]), (.iload_n 3, 1, []), (.ireturn, 1, [])]
  | 84 => [(.iinc 3 1, 3, []), (.goto (-59), 3, [28])]
  | 90 => [(.iconst 0, 1, []), (.ireturn, 1, [])]
  | _ => []
theorem qX9_shift : ∀ pc, chk cX9_shift pc (kX9_shift pc) = true := by
  intro pc
  unfold kX9_shift
  split <;> first | decide +kernel | exact chk_nil
abbrev rmX9_shift : Room := { frames := 1, cells := 0, slots := 0, locals := 24 }
def aX9_shift (x : Nat) : Option CI := match x with
  | 128 => some ciX9_in
  | 152 => some ciX9_reachOf
  | _ => none
theorem aokX9_shift : ∀ x ci, aX9_shift x = some ci → CalOK RX9 rmX9_shift x ci := by
  intro x ci h
  unfold aX9_shift at h
  split at h
  · cases h; exact cal_V mX9_in (by decide) rfl (List.forall_mem_cons.mpr ⟨(ws_mem (List.mem_of_getElem? (i := 979) (by decide +kernel)) (by decide +kernel)), List.forall_mem_cons.mpr ⟨(ws_mem (List.mem_of_getElem? (i := 981) (by decide +kernel)) (by decide +kernel)), List.forall_mem_cons.mpr ⟨(ws_mem (List.mem_of_getElem? (i := 20) (by decide +kernel)) (by decide +kernel)), List.forall_mem_cons.mpr ⟨(ws_mem (List.mem_of_getElem? (i := 64) (by decide +kernel)) (by decide +kernel)), List.forall_mem_cons.mpr ⟨(ws_mem (List.mem_of_getElem? (i := 982) (by decide +kernel)) (by decide +kernel)), fun _ h => absurd h List.not_mem_nil⟩⟩⟩⟩⟩) rfl (by unfold nice; decide +kernel) (by unfold rfits; decide) ⟨rfl, rfl⟩
  · cases h; exact cal_V mX9_reachOf (by decide) rfl (List.forall_mem_cons.mpr ⟨(ws_mem (List.mem_of_getElem? (i := 1028) (by decide +kernel)) (by decide +kernel)), List.forall_mem_cons.mpr ⟨(ws_mem (List.mem_of_getElem? (i := 1030) (by decide +kernel)) (by decide +kernel)), List.forall_mem_cons.mpr ⟨(ws_mem (List.mem_of_getElem? (i := 26) (by decide +kernel)) (by decide +kernel)), List.forall_mem_cons.mpr ⟨(ws_mem (List.mem_of_getElem? (i := 64) (by decide +kernel)) (by decide +kernel)), List.forall_mem_cons.mpr ⟨(ws_mem (List.mem_of_getElem? (i := 1031) (by decide +kernel)) (by decide +kernel)), fun _ h => absurd h List.not_mem_nil⟩⟩⟩⟩⟩) rfl (by unfold nice; decide +kernel) (by unfold rfits; decide) ⟨rfl, rfl⟩
  · cases h
theorem ocX9_shift_128 (f : Nat → Nat → Nat → Nat → (List MV → MS → (Option MV → MS → Prop) → Prop) → Prop) : oC aX9_shift 128 f = f 4 9 0 0 spX9_in := propext Iff.rfl
theorem ocX9_shift_152 (f : Nat → Nat → Nat → Nat → (List MV → MS → (Option MV → MS → Prop) → Prop) → Prop) : oC aX9_shift 152 f = f 2 9 0 0 spX9_reachOf := propext Iff.rfl
theorem mdX9_shift : MD RX9 cX9_shift rmX9_shift kX9_shift fX9 aX9_shift zX9 uX9 := ⟨fokX9, zokX9, uokX9, aokX9_shift, qX9_shift⟩
set_option maxHeartbeats 1600000 in
set_option maxRecDepth 100000 in
theorem lpX9_g1 {post : Option MV → MS → Prop} {U : Pt → Prop} {N : Nat} {I L : Int → Int → Int} {p to : Int} (p0 : 1 ≤ p) (p1 : p ≤ 60) (hg : gOK (I 246) (I 247)) (ht : p < to ∧ to ≤ 60) (h : post (some (.inl (gfr (I 246) (I 247) p to 6 1))) (N, PF, I, L)) :
    ∀ (m : Nat) (g : Int), g + m = 7 → 1 ≤ g → gfr (I 246) (I 247) p to m g = gfr (I 246) (I 247) p to 6 1 → Ok RX9 cX9_shift 4 rmX9_shift false none post U (28, [some (.inr (.inr (some 240))), some (.inl p), some (.inl to), some (.inl g)], [], (N, PF, I, L), 0, 0)
  | 0, g, hm, g0, e => by
    refine Ok.seg mdX9_shift [28] 10 ?_
    simp only [wp_nil, wp_cons, ↓stp, ↓lI, ↓lL, ↓lR, ↓lIn_0, ↓lIn_1, ↓lIn_2, ↓lIn_3, ↓lLn_0, ↓lLn_1, ↓lLn_2, ↓lLn_3, ↓lRn_0, ↓lRn_1, ↓lRn_2, ↓lRn_3, ↓pI, ↓pL, ↓pR, ↓pA, ↓pN, ↓pV, ↓fp, ↓tsw, ↓oS, ↓spMax, ↓spMin, ↓spAbs, ↓spObj, RI, RLg, b2i_lo, b2i_hi, getL, setL, ltL, killL, isLong, inl, cnd, br, tgt, rcv, rpl, mputI, mputL, mputP, fv, fr, mcat, mcs, entL, entA, rfit, nf_0, nf_1, nf_2, nf_3, nf2_0, nf2_1, b2i_0, b2i_1, RI_b2i, b2i_fit, List.append, List.length, List.replicate, List.cons_append, List.nil_append, List.length_cons, List.length_nil, List.replicate_succ, List.replicate_zero, List.tail_cons, reduceIte, if_true, if_false, ite_true, ite_false, Bool.false_eq_true, true_and, and_true, and_self, false_and, and_false, or_self, or_true, true_or, or_false, false_or, not_true_eq_false, not_false_eq_true, ne_eq, forall_const, implies_true, imp_self, true_implies, false_implies, Nat.reduceAdd, Nat.reduceSub, Nat.reduceMul, Nat.reduceDiv, Nat.reduceMod, Nat.reduceEqDiff, Nat.reduceLT, Nat.reduceLeDiff, Nat.reduceBEq, Nat.add_zero, Nat.zero_add, Nat.le_refl, Nat.not_lt_zero, Nat.succ_eq_add_one, Int.reduceNatCast, Int.cast_ofNat_Int, Int.reduceSub, Int.reduceMul, Int.reduceNeg, Int.reduceLE, Int.reduceLT, Int.reduceToNat, Int.reduceEq, Int.reduceNe, Int.reduceAdd, Option.some.injEq, kX9_shift, rmX9_shift, ↓ofX9_44, ↓ofX9_47, ↓ocX9_shift_128, ↓spX9_in, ↓ocX9_shift_152, ↓spX9_reachOf, G_240, G_241, G_242, G_243, G_244, G_245, G_246, G_247, G_248, G_249, G_250, G_251, G_252, G_253, G_254, G_255, G_256, G_257, G_258, G_259, G_260, G_261, G_262, G_263, G_264, G_265, G_266, G_267, G_268, G_269, G_270, G_271, G_272, PF_240_6, PF_240_7, PF_240_8, PF_240_9, PF_240_10, PF_240_11, PF_240_12, PF_240_13, PF_240_14, PF_240_15, PF_240_16, PF_240_17, PF_240_18, PF_240_19, PF_240_20, PF_240_21, PF_240_22, PF_240_23, PF_240_24, PF_240_26, PF_240_27, PF_240_28, PF_240_29, PF_240_30, PF_240_31, PF_240_32, PF_240_33, PF_240_34, PF_240_35, PF_240_36, PF_240_37]
    rw [← e] at h
    exact ⟨by omega, fun _ => h, fun q => by omega⟩
  | m + 1, g, hm, g0, e => by
    have ih := lpX9_g1 (U := U) (post := post) (N := N) (L := L) p0 p1 hg ht h m (g + 1) (by omega) (by omega)
    have hgg := hg g (by omega) (by omega)
    have eu : gfr (I 246) (I 247) p to (m + 1) g = if pul (I 246 g) (I 247 g) p = to then g else gfr (I 246) (I 247) p to m (g + 1) := rfl
    rw [eu] at e
    have no : ¬ pul (I 246 g) (I 247 g) p = to → Ok RX9 cX9_shift 4 rmX9_shift false none post U (28, [some (.inr (.inr (some 240))), some (.inl p), some (.inl to), some (.inl (g + 1))], [], (N, PF, I, L), 0, 0) := fun q => ih (by rwa [if_neg q] at e)
    have yes : pul (I 246 g) (I 247 g) p = to → post (some (.inl g)) (N, PF, I, L) := fun q => by rw [if_pos q] at e; rw [e]; exact h
    have e0 : ¬ p < I 246 g → pul (I 246 g) (I 247 g) p = p := fun a => by unfold pul; rw [if_neg a]
    have e1 : p < I 246 g → p + I 247 g < I 246 g → pul (I 246 g) (I 247 g) p = p + I 247 g := fun a b => by unfold pul; rw [if_pos a, if_pos b]
    have e2 : p < I 246 g → ¬ p + I 247 g < I 246 g → pul (I 246 g) (I 247 g) p = I 246 g := fun a b => by unfold pul; rw [if_pos a, if_neg b]
    refine Ok.seg mdX9_shift [28] 60 ?_
    simp only [wp_nil, wp_cons, ↓stp, ↓lI, ↓lL, ↓lR, ↓lIn_0, ↓lIn_1, ↓lIn_2, ↓lIn_3, ↓lLn_0, ↓lLn_1, ↓lLn_2, ↓lLn_3, ↓lRn_0, ↓lRn_1, ↓lRn_2, ↓lRn_3, ↓pI, ↓pL, ↓pR, ↓pA, ↓pN, ↓pV, ↓fp, ↓tsw, ↓oS, ↓spMax, ↓spMin, ↓spAbs, ↓spObj, RI, RLg, b2i_lo, b2i_hi, getL, setL, ltL, killL, isLong, inl, cnd, br, tgt, rcv, rpl, mputI, mputL, mputP, fv, fr, mcat, mcs, entL, entA, rfit, nf_0, nf_1, nf_2, nf_3, nf2_0, nf2_1, b2i_0, b2i_1, RI_b2i, b2i_fit, List.append, List.length, List.replicate, List.cons_append, List.nil_append, List.length_cons, List.length_nil, List.replicate_succ, List.replicate_zero, List.tail_cons, reduceIte, if_true, if_false, ite_true, ite_false, Bool.false_eq_true, true_and, and_true, and_self, false_and, and_false, or_self, or_true, true_or, or_false, false_or, not_true_eq_false, not_false_eq_true, ne_eq, forall_const, implies_true, imp_self, true_implies, false_implies, Nat.reduceAdd, Nat.reduceSub, Nat.reduceMul, Nat.reduceDiv, Nat.reduceMod, Nat.reduceEqDiff, Nat.reduceLT, Nat.reduceLeDiff, Nat.reduceBEq, Nat.add_zero, Nat.zero_add, Nat.le_refl, Nat.not_lt_zero, Nat.succ_eq_add_one, Int.reduceNatCast, Int.cast_ofNat_Int, Int.reduceSub, Int.reduceMul, Int.reduceNeg, Int.reduceLE, Int.reduceLT, Int.reduceToNat, Int.reduceEq, Int.reduceNe, Int.reduceAdd, Option.some.injEq, kX9_shift, rmX9_shift, ↓ofX9_44, ↓ofX9_47, ↓ocX9_shift_128, ↓spX9_in, ↓ocX9_shift_152, ↓spX9_reachOf, G_240, G_241, G_242, G_243, G_244, G_245, G_246, G_247, G_248, G_249, G_250, G_251, G_252, G_253, G_254, G_255, G_256, G_257, G_258, G_259, G_260, G_261, G_262, G_263, G_264, G_265, G_266, G_267, G_268, G_269, G_270, G_271, G_272, PF_240_6, PF_240_7, PF_240_8, PF_240_9, PF_240_10, PF_240_11, PF_240_12, PF_240_13, PF_240_14, PF_240_15, PF_240_16, PF_240_17, PF_240_18, PF_240_19, PF_240_20, PF_240_21, PF_240_22, PF_240_23, PF_240_24, PF_240_26, PF_240_27, PF_240_28, PF_240_29, PF_240_30, PF_240_31, PF_240_32, PF_240_33, PF_240_34, PF_240_35, PF_240_36, PF_240_37]
    refine ⟨by omega, fun q => by omega, fun q => ⟨by omega, by omega, by omega, by omega, fun q2 => no (by rw [e0 (by omega)]; omega), fun q2 => ⟨by omega, by omega, by omega, by omega, by omega, by omega, fun q3 => ?_, fun q3 => ?_⟩⟩⟩
    · have t := e2 (by omega) (by omega)
      exact ⟨by omega, by omega, by omega, by omega, fun q4 => no (by omega), fun q4 => yes (by omega)⟩
    · have t := e1 (by omega) (by omega)
      exact ⟨by omega, by omega, by omega, by omega, fun q4 => no (by omega), fun q4 => yes (by omega)⟩
set_option maxRecDepth 100000 in
set_option maxHeartbeats 800000 in
theorem mX9_shift : MOK yX9_shift cX9_shift 4 (some .int) rmX9_shift ciX9_shift := by
  refine mok_of (ini := false) (by decide +kernel) (by decide) rfl rfl ?_
  intro σ As K hrc hl h
  obtain ⟨N, P, I, L⟩ := σ
  have h9 := pR_iff.mp h
  clear h
  obtain ⟨a, r, e9, h⟩ := h9
  subst e9
  have h9 := pI_iff.mp h
  clear h
  obtain ⟨p, r, e9, h⟩ := h9
  subst e9
  have h9 := pN_iff.mp h
  clear h
  obtain ⟨e9, h⟩ := h9
  subst e9
  try dsimp only at h
  obtain ⟨rfl, rfl, hp, hx, h1, h2⟩ := h
  unfold RI at hp
  have hg : gOK (I 246) (I 247) := hx.2.1.1.1
  by_cases q : 1 ≤ p ∧ p ≤ 60
  · have hr := rch_rng (p := p) hg q.2
    have h3 := h2 q
    unfold gear at h3
    refine ⟨Nat.le_of_ble_eq_true rfl, Ok.seg mdX9_shift [28] 60 ?_⟩
    simp only [wp_nil, wp_cons, ↓stp, ↓lI, ↓lL, ↓lR, ↓lIn_0, ↓lIn_1, ↓lIn_2, ↓lIn_3, ↓lLn_0, ↓lLn_1, ↓lLn_2, ↓lLn_3, ↓lRn_0, ↓lRn_1, ↓lRn_2, ↓lRn_3, ↓pI, ↓pL, ↓pR, ↓pA, ↓pN, ↓pV, ↓fp, ↓tsw, ↓oS, ↓spMax, ↓spMin, ↓spAbs, ↓spObj, RI, RLg, b2i_lo, b2i_hi, getL, setL, ltL, killL, isLong, inl, cnd, br, tgt, rcv, rpl, mputI, mputL, mputP, fv, fr, mcat, mcs, entL, entA, rfit, nf_0, nf_1, nf_2, nf_3, nf2_0, nf2_1, b2i_0, b2i_1, RI_b2i, b2i_fit, List.append, List.length, List.replicate, List.cons_append, List.nil_append, List.length_cons, List.length_nil, List.replicate_succ, List.replicate_zero, List.tail_cons, reduceIte, if_true, if_false, ite_true, ite_false, Bool.false_eq_true, true_and, and_true, and_self, false_and, and_false, or_self, or_true, true_or, or_false, false_or, not_true_eq_false, not_false_eq_true, ne_eq, forall_const, implies_true, imp_self, true_implies, false_implies, Nat.reduceAdd, Nat.reduceSub, Nat.reduceMul, Nat.reduceDiv, Nat.reduceMod, Nat.reduceEqDiff, Nat.reduceLT, Nat.reduceLeDiff, Nat.reduceBEq, Nat.add_zero, Nat.zero_add, Nat.le_refl, Nat.not_lt_zero, Nat.succ_eq_add_one, Int.reduceNatCast, Int.cast_ofNat_Int, Int.reduceSub, Int.reduceMul, Int.reduceNeg, Int.reduceLE, Int.reduceLT, Int.reduceToNat, Int.reduceEq, Int.reduceNe, Int.reduceAdd, Option.some.injEq, kX9_shift, rmX9_shift, ↓ofX9_44, ↓ofX9_47, ↓ocX9_shift_128, ↓spX9_in, ↓ocX9_shift_152, ↓spX9_reachOf, hg, q, G_240, G_241, G_242, G_243, G_244, G_245, G_246, G_247, G_248, G_249, G_250, G_251, G_252, G_253, G_254, G_255, G_256, G_257, G_258, G_259, G_260, G_261, G_262, G_263, G_264, G_265, G_266, G_267, G_268, G_269, G_270, G_271, G_272, PF_240_6, PF_240_7, PF_240_8, PF_240_9, PF_240_10, PF_240_11, PF_240_12, PF_240_13, PF_240_14, PF_240_15, PF_240_16, PF_240_17, PF_240_18, PF_240_19, PF_240_20, PF_240_21, PF_240_22, PF_240_23, PF_240_24, PF_240_26, PF_240_27, PF_240_28, PF_240_29, PF_240_30, PF_240_31, PF_240_32, PF_240_33, PF_240_34, PF_240_35, PF_240_36, PF_240_37]
    refine ⟨by omega, by omega, by omega, fun z => ?_, fun z => ?_⟩
    · rw [if_neg z] at h3
      exact lpX9_g1 (post := fun r σ' => rfit (some .int) r ∧ K r σ') q.1 q.2 hg (by omega) ⟨trivial, h3⟩ 6 1 (by omega) (by omega) rfl
    · rw [if_pos (by omega)] at h3
      exact h3
  · refine ⟨Nat.le_of_ble_eq_true rfl, Ok.seg mdX9_shift [28] 60 ?_⟩
    simp only [wp_nil, wp_cons, ↓stp, ↓lI, ↓lL, ↓lR, ↓lIn_0, ↓lIn_1, ↓lIn_2, ↓lIn_3, ↓lLn_0, ↓lLn_1, ↓lLn_2, ↓lLn_3, ↓lRn_0, ↓lRn_1, ↓lRn_2, ↓lRn_3, ↓pI, ↓pL, ↓pR, ↓pA, ↓pN, ↓pV, ↓fp, ↓tsw, ↓oS, ↓spMax, ↓spMin, ↓spAbs, ↓spObj, RI, RLg, b2i_lo, b2i_hi, getL, setL, ltL, killL, isLong, inl, cnd, br, tgt, rcv, rpl, mputI, mputL, mputP, fv, fr, mcat, mcs, entL, entA, rfit, nf_0, nf_1, nf_2, nf_3, nf2_0, nf2_1, b2i_0, b2i_1, RI_b2i, b2i_fit, List.append, List.length, List.replicate, List.cons_append, List.nil_append, List.length_cons, List.length_nil, List.replicate_succ, List.replicate_zero, List.tail_cons, reduceIte, if_true, if_false, ite_true, ite_false, Bool.false_eq_true, true_and, and_true, and_self, false_and, and_false, or_self, or_true, true_or, or_false, false_or, not_true_eq_false, not_false_eq_true, ne_eq, forall_const, implies_true, imp_self, true_implies, false_implies, Nat.reduceAdd, Nat.reduceSub, Nat.reduceMul, Nat.reduceDiv, Nat.reduceMod, Nat.reduceEqDiff, Nat.reduceLT, Nat.reduceLeDiff, Nat.reduceBEq, Nat.add_zero, Nat.zero_add, Nat.le_refl, Nat.not_lt_zero, Nat.succ_eq_add_one, Int.reduceNatCast, Int.cast_ofNat_Int, Int.reduceSub, Int.reduceMul, Int.reduceNeg, Int.reduceLE, Int.reduceLT, Int.reduceToNat, Int.reduceEq, Int.reduceNe, Int.reduceAdd, Option.some.injEq, kX9_shift, rmX9_shift, ↓ofX9_44, ↓ofX9_47, ↓ocX9_shift_128, ↓spX9_in, ↓ocX9_shift_152, ↓spX9_reachOf, hg, q, G_240, G_241, G_242, G_243, G_244, G_245, G_246, G_247, G_248, G_249, G_250, G_251, G_252, G_253, G_254, G_255, G_256, G_257, G_258, G_259, G_260, G_261, G_262, G_263, G_264, G_265, G_266, G_267, G_268, G_269, G_270, G_271, G_272, PF_240_6, PF_240_7, PF_240_8, PF_240_9, PF_240_10, PF_240_11, PF_240_12, PF_240_13, PF_240_14, PF_240_15, PF_240_16, PF_240_17, PF_240_18, PF_240_19, PF_240_20, PF_240_21, PF_240_22, PF_240_23, PF_240_24, PF_240_26, PF_240_27, PF_240_28, PF_240_29, PF_240_30, PF_240_31, PF_240_32, PF_240_33, PF_240_34, PF_240_35, PF_240_36, PF_240_37]
    exact ⟨by omega, h1 q⟩
