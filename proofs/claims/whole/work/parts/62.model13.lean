/-! LapBoardModel: tyre, two, lapOn, on, spot, behind -/
/-- the race's numbers changed -/
theorem mOK_R {I J L : Int → Int → Int} (h : mOK I L) (hf : ∀ c k, c ≠ 258 → c ≠ 259 → ¬ (c = 240 ∧ k = 25) → J c k = I c k) (hr : raceR (VM J)) : mOK J L := by
  obtain ⟨x1, x2, x3, x4, x5⟩ := h
  have y2 : I 240 1 ≤ 30 := x1.2.1
  have ts := ts_V (I := I) (J := J) (hf _ _ (by omega) (by omega) (by omega)) y2 (fun b k _ _ => hf _ _ (by omega) (by omega) (by omega))
  have e1 : J 240 1 = I 240 1 := hf _ _ (by omega) (by omega) (by omega)
  refine ⟨tOK_V (by rw [e1]; exact x1.1) (by omega) (fun i i0 i1 => ?_), carOK_V (hf _ _ (by omega) (by omega) (by omega)) (hf _ _ (by omega) (by omega) (by omega)) (hf _ _ (by omega) (by omega) (by omega)) (fun b k _ _ => hf _ _ (by omega) (by omega) (by omega)) x2, hr, knoOK_cg ts (hf _ _ (by omega) (by omega) (by omega)) (hf _ _ (by omega) (by omega) (by omega)) (fun k => hf _ _ (by omega) (by omega) (by omega)) x4, fun d d0 d1 => msh_cg (fun b k _ _ => hf _ _ (by omega) (by omega) (by omega)) (x5 d d0 d1)⟩
  rw [hf 241 i (by omega) (by omega) (by omega), hf 242 i (by omega) (by omega) (by omega), hf 243 i (by omega) (by omega) (by omega), hf 244 i (by omega) (by omega) (by omega), hf 245 i (by omega) (by omega) (by omega)]
  exact stM x1 i0 (by omega)
theorem tyM {I L : Int → Int → Int} (h : mOK I L) {t : Int} (t0 : 0 ≤ t) (t1 : t ≤ 3) : -20 ≤ I 258 t ∧ I 258 t ≤ 20 ∧ 1 ≤ I 259 t ∧ I 259 t ≤ 20 := h.2.2.1.1 t t0 t1
def spX9_tyre (As : List MV) (σ : MS) (K : Option MV → MS → Prop) : Prop := pR As fun a r => pI r fun t r => pI r fun g r => pI r fun n r => pN r (a = 240 ∧ σ.2.1 = PF ∧ RI t ∧ RI g ∧ RI n ∧ mOK σ.2.2.1 σ.2.2.2 ∧ (¬ (0 ≤ t ∧ t ≤ 3 ∧ -20 ≤ g ∧ g ≤ 20 ∧ 1 ≤ n ∧ n ≤ 20) → K (some (.inl (-1))) σ) ∧ (0 ≤ t ∧ t ≤ 3 ∧ -20 ≤ g ∧ g ≤ 20 ∧ 1 ≤ n ∧ n ≤ 20 →
  ∀ (I' : Int → Int → Int) (v : Int), (∀ c k, ¬ (c = 258 ∧ k = t) → ¬ (c = 259 ∧ k = t) → I' c k = σ.2.2.1 c k) → mOK I' σ.2.2.2 → I' 258 t = g → I' 259 t = n → (v = if σ.2.2.1 258 t = g ∧ σ.2.2.1 259 t = n then 0 else 1) → K (some (.inl v)) (σ.1, σ.2.1, I', σ.2.2.2)))
def ciX9_tyre : CI := (4, 9, 0, 0, spX9_tyre)
def kX9_tyre (pc : Nat) : List ME := match pc with
  | 0 => [(.aload_n 0, 1, []), (.iload_n 1, 1, []), (.iconst 0, 1, []), (.iconst 3, 1, []), (.invokevirtual 128, 3, []), (.ifCond .eq 26, 3, [33]), (.aload_n 0, 1, []), (.iload_n 2, 1, []), (.bipush (-20), 2, []), (.bipush 20, 2, []), (.invokevirtual 128, 3, []), (.ifCond .eq 14, 3, [33]), (.aload_n 0, 1, []), (.iload_n 3, 1, []), (.iconst 1, 1, []), (.bipush 20, 2, []), (.invokevirtual 128, 3, []), (.ifCond .ne 5, 3, [35])]
  | 33 => [(.iconst (-1), 1, []), (.ireturn, 1, [])]
  | 35 => [(.aload_n 0, 1, []), (.getfield 82, 3, []), (.iload_n 1, 1, []), (.iaload, 1, []), (.iload_n 2, 1, []), (.if_icmp .ne 17, 3, [59]), (.aload_n 0, 1, []), (.getfield 85, 3, []), (.iload_n 1, 1, []), (.iaload, 1, []), (.iload_n 3, 1, []), (.if_icmp .ne 7, 3, [59]), (.iconst 0, 1, []), (.goto 4, 3, [60])]
  | 59 => [(.iconst 1, 1, [])]
  | 60 => [(.istore 4, 2, []), (.aload_n 0, 1, []), (.getfield 82, 3, []), (.iload_n 1, 1, []), (.iload_n 2, 1, []), (.iastore, 1, []), (.aload_n 0, 1, []), (.getfield 85, 3, []), (.iload_n 1, 1, []), (.iload_n 3, 1, []), (.iastore, 1, []), (.iload 4, 2, []), (.ireturn, 1, [])]
  | _ => []
theorem qX9_tyre : ∀ pc, chk cX9_tyre pc (kX9_tyre pc) = true := by
  intro pc
  unfold kX9_tyre
  split <;> first | decide +kernel | exact chk_nil
abbrev rmX9_tyre : Room := { frames := 1, cells := 0, slots := 0, locals := 23 }
def aX9_tyre (x : Nat) : Option CI := match x with
  | 128 => some ciX9_in
  | _ => none
theorem aokX9_tyre : ∀ x ci, aX9_tyre x = some ci → CalOK RX9 rmX9_tyre x ci := by
  intro x ci h
  unfold aX9_tyre at h
  split at h
  · cases h; exact cal_V mX9_in (by decide) rfl (List.forall_mem_cons.mpr ⟨(ws_mem (List.mem_of_getElem? (i := 979) (by decide +kernel)) (by decide +kernel)), List.forall_mem_cons.mpr ⟨(ws_mem (List.mem_of_getElem? (i := 981) (by decide +kernel)) (by decide +kernel)), List.forall_mem_cons.mpr ⟨(ws_mem (List.mem_of_getElem? (i := 20) (by decide +kernel)) (by decide +kernel)), List.forall_mem_cons.mpr ⟨(ws_mem (List.mem_of_getElem? (i := 64) (by decide +kernel)) (by decide +kernel)), List.forall_mem_cons.mpr ⟨(ws_mem (List.mem_of_getElem? (i := 982) (by decide +kernel)) (by decide +kernel)), fun _ h => absurd h List.not_mem_nil⟩⟩⟩⟩⟩) rfl (by unfold nice; decide +kernel) (by unfold rfits; decide) ⟨rfl, rfl⟩
  · cases h
theorem ocX9_tyre_128 (f : Nat → Nat → Nat → Nat → (List MV → MS → (Option MV → MS → Prop) → Prop) → Prop) : oC aX9_tyre 128 f = f 4 9 0 0 spX9_in := propext Iff.rfl
theorem mdX9_tyre : MD RX9 cX9_tyre rmX9_tyre kX9_tyre fX9 aX9_tyre zX9 uX9 := ⟨fokX9, zokX9, uokX9, aokX9_tyre, qX9_tyre⟩
set_option maxRecDepth 100000 in
set_option maxHeartbeats 800000 in
theorem mX9_tyre : MOK yX9_tyre cX9_tyre 5 (some .int) rmX9_tyre ciX9_tyre := by
  refine mok_of (ini := false) (by decide +kernel) (by decide) rfl rfl ?_
  intro σ As K hrc hl h
  obtain ⟨N, P, I, L⟩ := σ
  have h9 := pR_iff.mp h
  clear h
  obtain ⟨a, r, e9, h⟩ := h9
  subst e9
  have h9 := pI_iff.mp h
  clear h
  obtain ⟨t, r, e9, h⟩ := h9
  subst e9
  have h9 := pI_iff.mp h
  clear h
  obtain ⟨g, r, e9, h⟩ := h9
  subst e9
  have h9 := pI_iff.mp h
  clear h
  obtain ⟨n, r, e9, h⟩ := h9
  subst e9
  have h9 := pN_iff.mp h
  clear h
  obtain ⟨e9, h⟩ := h9
  subst e9
  try dsimp only at h
  obtain ⟨rfl, rfl, ht, hg, hn, hx, h1, h2⟩ := h
  unfold RI at ht hg hn
  refine ⟨Nat.le_of_ble_eq_true rfl, Ok.seg mdX9_tyre [] 80 ?_⟩
  simp only [wp_nil, wp_cons, ↓stp, ↓lI, ↓lL, ↓lR, ↓lIn_0, ↓lIn_1, ↓lIn_2, ↓lIn_3, ↓lLn_0, ↓lLn_1, ↓lLn_2, ↓lLn_3, ↓lRn_0, ↓lRn_1, ↓lRn_2, ↓lRn_3, ↓pI, ↓pL, ↓pR, ↓pA, ↓pN, ↓pV, ↓fp, ↓tsw, ↓oS, ↓spMax, ↓spMin, ↓spAbs, ↓spObj, RI, RLg, b2i_lo, b2i_hi, getL, setL, ltL, killL, isLong, inl, cnd, br, tgt, rcv, rpl, mputI, mputL, mputP, fv, fr, mcat, mcs, entL, entA, rfit, nf_0, nf_1, nf_2, nf_3, nf2_0, nf2_1, b2i_0, b2i_1, RI_b2i, b2i_fit, List.append, List.length, List.replicate, List.cons_append, List.nil_append, List.length_cons, List.length_nil, List.replicate_succ, List.replicate_zero, List.tail_cons, reduceIte, if_true, if_false, ite_true, ite_false, Bool.false_eq_true, true_and, and_true, and_self, false_and, and_false, or_self, or_true, true_or, or_false, false_or, not_true_eq_false, not_false_eq_true, ne_eq, forall_const, implies_true, imp_self, true_implies, false_implies, Nat.reduceAdd, Nat.reduceSub, Nat.reduceMul, Nat.reduceDiv, Nat.reduceMod, Nat.reduceEqDiff, Nat.reduceLT, Nat.reduceLeDiff, Nat.reduceBEq, Nat.add_zero, Nat.zero_add, Nat.le_refl, Nat.not_lt_zero, Nat.succ_eq_add_one, Int.reduceNatCast, Int.cast_ofNat_Int, Int.reduceSub, Int.reduceMul, Int.reduceNeg, Int.reduceLE, Int.reduceLT, Int.reduceToNat, Int.reduceEq, Int.reduceNe, Int.reduceAdd, Option.some.injEq, kX9_tyre, rmX9_tyre, ↓ofX9_82, ↓ofX9_85, ↓ocX9_tyre_128, ↓spX9_in, G_240, G_241, G_242, G_243, G_244, G_245, G_246, G_247, G_248, G_249, G_250, G_251, G_252, G_253, G_254, G_255, G_256, G_257, G_258, G_259, G_260, G_261, G_262, G_263, G_264, G_265, G_266, G_267, G_268, G_269, G_270, G_271, G_272, PF_240_6, PF_240_7, PF_240_8, PF_240_9, PF_240_10, PF_240_11, PF_240_12, PF_240_13, PF_240_14, PF_240_15, PF_240_16, PF_240_17, PF_240_18, PF_240_19, PF_240_20, PF_240_21, PF_240_22, PF_240_23, PF_240_24, PF_240_26, PF_240_27, PF_240_28, PF_240_29, PF_240_30, PF_240_31, PF_240_32, PF_240_33, PF_240_34, PF_240_35, PF_240_36, PF_240_37]
  refine ⟨by omega, fun q1 => h1 (by omega), fun q1 => ⟨by omega, fun q2 => h1 (by omega), fun q2 => ⟨by omega, fun q3 => ?_, fun q3 => h1 (by omega)⟩⟩⟩
  have hy := tyM hx (t := t) (by omega) (by omega)
  have fr : ∀ c k, ¬ (c = 258 ∧ k = t) → ¬ (c = 259 ∧ k = t) → upI (upI I 258 t g) 259 t n c k = I c k := fun c k a b => (if_neg b).trans (if_neg a)
  have e8 : upI (upI I 258 t g) 259 t n 258 t = g := (upI_ne (by omega)).trans upI_same
  have e9 : upI (upI I 258 t g) 259 t n 259 t = n := upI_same
  have hm : mOK (upI (upI I 258 t g) 259 t n) L := by
    refine mOK_R hx (fun c k a b _ => fr c k (by omega) (by omega)) ?_
    have hr := hx.2.2.1
    unfold raceR at hr ⊢
    rw [VM_179_4, VM_179_5, VM_180, VM_181] at hr ⊢
    rw [fr 240 5 (by omega) (by omega), fr 240 25 (by omega) (by omega)]
    refine ⟨fun t' a b => ?_, hr.2⟩
    by_cases z : t' = t
    · rw [z, e8, e9]; omega
    · rw [fr 258 t' (by omega) (by omega), fr 259 t' (by omega) (by omega)]; exact hr.1 t' a b
  have go := fun v => h2 (by omega) (upI (upI I 258 t g) 259 t n) v fr hm e8 e9
  refine ⟨by omega, by omega, by omega, by omega, fun z => ?_, fun z => ⟨by omega, by omega, by omega, by omega, fun z2 => ?_, fun z2 => ?_⟩⟩
  · repeat refine ⟨by omega, ?_⟩
    exact go 1 (by rw [if_neg (fun y => z y.1)])
  · repeat refine ⟨by omega, ?_⟩
    exact go 1 (by rw [if_neg (fun y => z2 y.2)])
  · repeat refine ⟨by omega, ?_⟩
    exact go 0 (by rw [if_pos ⟨by omega, by omega⟩])
def spX9_two (As : List MV) (σ : MS) (K : Option MV → MS → Prop) : Prop := pR As fun a r => pI r fun w r => pN r (a = 240 ∧ σ.2.1 = PF ∧ (w = 0 ∨ w = 1) ∧ mOK σ.2.2.1 σ.2.2.2 ∧ ∀ I' : Int → Int → Int, (∀ c k, ¬ (c = 240 ∧ k = 25) → I' c k = σ.2.2.1 c k) → mOK I' σ.2.2.2 → I' 240 25 = w → K (some (.inl (σ.2.2.1 240 25))) (σ.1, σ.2.1, I', σ.2.2.2))
def ciX9_two : CI := (2, 9, 0, 0, spX9_two)
def kX9_two (pc : Nat) : List ME := match pc with
  | 0 => [(.aload_n 0, 1, []), (.getfield 88, 3, []), (.istore_n 2, 1, []), (.aload_n 0, 1, []), (.iload_n 1, 1, []), (.putfield 88, 3, []), (.iload_n 2, 1, []), (.ireturn, 1, [])]
  | _ => []
theorem qX9_two : ∀ pc, chk cX9_two pc (kX9_two pc) = true := by
  intro pc
  unfold kX9_two
  split <;> first | decide +kernel | exact chk_nil
abbrev rmX9_two : Room := { frames := 0, cells := 0, slots := 0, locals := 0 }
def aX9_two (_ : Nat) : Option CI := none
theorem aokX9_two : ∀ x ci, aX9_two x = some ci → CalOK RX9 rmX9_two x ci := fun _ _ h => by cases h
theorem mdX9_two : MD RX9 cX9_two rmX9_two kX9_two fX9 aX9_two zX9 uX9 := ⟨fokX9, zokX9, uokX9, aokX9_two, qX9_two⟩
set_option maxRecDepth 100000 in
set_option maxHeartbeats 800000 in
theorem mX9_two : MOK yX9_two cX9_two 3 (some .boolean) rmX9_two ciX9_two := by
  refine mok_of (ini := false) (by decide +kernel) (by decide) rfl rfl ?_
  intro σ As K hrc hl h
  obtain ⟨N, P, I, L⟩ := σ
  have h9 := pR_iff.mp h
  clear h
  obtain ⟨a, r, e9, h⟩ := h9
  subst e9
  have h9 := pI_iff.mp h
  clear h
  obtain ⟨w, r, e9, h⟩ := h9
  subst e9
  have h9 := pN_iff.mp h
  clear h
  obtain ⟨e9, h⟩ := h9
  subst e9
  try dsimp only at h
  obtain ⟨rfl, rfl, hw, hx, h⟩ := h
  have hb := (nM hx).2.2.2.2.2
  have ff : ∀ c k, ¬ (c = 240 ∧ k = 25) → upI I 240 25 w c k = I c k := fun c k a => if_neg a
  refine ⟨Nat.le_of_ble_eq_true rfl, Ok.seg mdX9_two [] 20 ?_⟩
  simp only [wp_nil, wp_cons, ↓stp, ↓lI, ↓lL, ↓lR, ↓lIn_0, ↓lIn_1, ↓lIn_2, ↓lIn_3, ↓lLn_0, ↓lLn_1, ↓lLn_2, ↓lLn_3, ↓lRn_0, ↓lRn_1, ↓lRn_2, ↓lRn_3, ↓pI, ↓pL, ↓pR, ↓pA, ↓pN, ↓pV, ↓fp, ↓tsw, ↓oS, ↓spMax, ↓spMin, ↓spAbs, ↓spObj, RI, RLg, b2i_lo, b2i_hi, getL, setL, ltL, killL, isLong, inl, cnd, br, tgt, rcv, rpl, mputI, mputL, mputP, fv, fr, mcat, mcs, entL, entA, rfit, nf_0, nf_1, nf_2, nf_3, nf2_0, nf2_1, b2i_0, b2i_1, RI_b2i, b2i_fit, List.append, List.length, List.replicate, List.cons_append, List.nil_append, List.length_cons, List.length_nil, List.replicate_succ, List.replicate_zero, List.tail_cons, reduceIte, if_true, if_false, ite_true, ite_false, Bool.false_eq_true, true_and, and_true, and_self, false_and, and_false, or_self, or_true, true_or, or_false, false_or, not_true_eq_false, not_false_eq_true, ne_eq, forall_const, implies_true, imp_self, true_implies, false_implies, Nat.reduceAdd, Nat.reduceSub, Nat.reduceMul, Nat.reduceDiv, Nat.reduceMod, Nat.reduceEqDiff, Nat.reduceLT, Nat.reduceLeDiff, Nat.reduceBEq, Nat.add_zero, Nat.zero_add, Nat.le_refl, Nat.not_lt_zero, Nat.succ_eq_add_one, Int.reduceNatCast, Int.cast_ofNat_Int, Int.reduceSub, Int.reduceMul, Int.reduceNeg, Int.reduceLE, Int.reduceLT, Int.reduceToNat, Int.reduceEq, Int.reduceNe, Int.reduceAdd, Option.some.injEq, kX9_two, rmX9_two, ↓ofX9_88, hw, hb, G_240, G_241, G_242, G_243, G_244, G_245, G_246, G_247, G_248, G_249, G_250, G_251, G_252, G_253, G_254, G_255, G_256, G_257, G_258, G_259, G_260, G_261, G_262, G_263, G_264, G_265, G_266, G_267, G_268, G_269, G_270, G_271, G_272, PF_240_6, PF_240_7, PF_240_8, PF_240_9, PF_240_10, PF_240_11, PF_240_12, PF_240_13, PF_240_14, PF_240_15, PF_240_16, PF_240_17, PF_240_18, PF_240_19, PF_240_20, PF_240_21, PF_240_22, PF_240_23, PF_240_24, PF_240_26, PF_240_27, PF_240_28, PF_240_29, PF_240_30, PF_240_31, PF_240_32, PF_240_33, PF_240_34, PF_240_35, PF_240_36, PF_240_37]
  refine h _ ff (mOK_R hx (fun c k _ _ b => ff c k b) ?_) upI_same
  have hr := hx.2.2.1
  unfold raceR at hr ⊢
  rw [VM_179_4, VM_179_5, VM_180, VM_181] at hr ⊢
  rw [ff 240 5 (by omega), show upI I 240 25 w 258 = I 258 from funext fun k => ff _ _ (by omega), show upI I 240 25 w 259 = I 259 from funext fun k => ff _ _ (by omega), upI_same]
  exact ⟨hr.1, hr.2.1, hw⟩
def frK (I J : Int → Int → Int) : Prop := ∀ b k, b ≠ 248 → b ≠ 253 → b ≠ 254 → J b k = I b k
def frKL (L M : Int → Int → Int) : Prop := ∀ b k, b ≠ 249 → b ≠ 252 → M b k = L b k
theorem frK.W {I J : Int → Int → Int} (h : frK I J) : frW I J := fun b k b0 b1 b2 b3 => h b k (by omega) (by omega) (by omega)
theorem frKL.W {I J : Int → Int → Int} (h : frKL I J) : frWL I J := fun b k b0 => h b k (by omega) (by omega)
theorem frK.tr {I J M : Int → Int → Int} (h : frK I J) (h' : frK J M) : frK I M := fun b k a b' c => (h' b k a b' c).trans (h b k a b' c)
theorem frKL.tr {I J M : Int → Int → Int} (h : frKL I J) (h' : frKL J M) : frKL I M := fun b k a b' => (h' b k a b').trans (h b k a b')
theorem mlp_rng {I L : Int → Int → Int} (h : mOK I L) (t d : Int) : 0 ≤ lpf (VM I) t d ∧ lpf (VM I) t d ≤ 3030000 := lapT_rng h.1 (lpf_T h.1 h.2.1 t d)
def spX9_lapOn (As : List MV) (σ : MS) (K : Option MV → MS → Prop) : Prop := pR As fun a r => pI r fun t r => pI r fun d r => pN r (a = 240 ∧ σ.2.1 = PF ∧ mOK σ.2.2.1 σ.2.2.2 ∧ 0 ≤ t ∧ t ≤ 3 ∧ 0 ≤ d ∧ d ≤ 39 ∧ ∀ (I' L' : Int → Int → Int), frK σ.2.2.1 I' → frKL σ.2.2.2 L' → mOK I' L' → VM I' = VM σ.2.2.1 → K (some (.inr (.inl (lpf (VM σ.2.2.1) t d)))) (σ.1, σ.2.1, I', L'))
def ciX9_lapOn : CI := (3, 9, 0, 0, spX9_lapOn)
def kX9_lapOn (pc : Nat) : List ME := match pc with
  | 0 => [(.aload_n 0, 1, []), (.getfield 82, 3, []), (.iload_n 1, 1, []), (.iaload, 1, []), (.iload_n 2, 1, []), (.aload_n 0, 1, []), (.getfield 85, 3, []), (.iload_n 1, 1, []), (.iaload, 1, []), (.idiv, 1, []), (.isub, 1, []), (.istore_n 3, 1, []), (.aload_n 0, 1, []), (.iload_n 3, 1, []), (.bipush (-20), 2, []), (.if_icmp .ge 8, 3, [28]), (.bipush (-20), 2, []), (.goto 4, 3, [29])]
  | 28 => [(.iload_n 3, 1, [])]
  | 29 => [(.invokevirtual 207, 3, []), (.lreturn, 1, [])]
  | _ => []
theorem qX9_lapOn : ∀ pc, chk cX9_lapOn pc (kX9_lapOn pc) = true := by
  intro pc
  unfold kX9_lapOn
  split <;> first | decide +kernel | exact chk_nil
abbrev rmX9_lapOn : Room := { frames := 4, cells := 0, slots := 0, locals := 105 }
def aX9_lapOn (x : Nat) : Option CI := match x with
  | 207 => some ciX9_lapBy
  | _ => none
theorem aokX9_lapOn : ∀ x ci, aX9_lapOn x = some ci → CalOK RX9 rmX9_lapOn x ci := by
  intro x ci h
  unfold aX9_lapOn at h
  split at h
  · cases h; exact cal_V mX9_lapBy (by decide) rfl (List.forall_mem_cons.mpr ⟨(ws_mem (List.mem_of_getElem? (i := 1109) (by decide +kernel)) (by decide +kernel)), List.forall_mem_cons.mpr ⟨(ws_mem (List.mem_of_getElem? (i := 1111) (by decide +kernel)) (by decide +kernel)), List.forall_mem_cons.mpr ⟨(ws_mem (List.mem_of_getElem? (i := 41) (by decide +kernel)) (by decide +kernel)), List.forall_mem_cons.mpr ⟨(ws_mem (List.mem_of_getElem? (i := 64) (by decide +kernel)) (by decide +kernel)), List.forall_mem_cons.mpr ⟨(ws_mem (List.mem_of_getElem? (i := 1112) (by decide +kernel)) (by decide +kernel)), fun _ h => absurd h List.not_mem_nil⟩⟩⟩⟩⟩) rfl (by unfold nice; decide +kernel) (by unfold rfits; decide) ⟨rfl, rfl⟩
  · cases h
theorem ocX9_lapOn_207 (f : Nat → Nat → Nat → Nat → (List MV → MS → (Option MV → MS → Prop) → Prop) → Prop) : oC aX9_lapOn 207 f = f 2 9 0 0 spX9_lapBy := propext Iff.rfl
theorem mdX9_lapOn : MD RX9 cX9_lapOn rmX9_lapOn kX9_lapOn fX9 aX9_lapOn zX9 uX9 := ⟨fokX9, zokX9, uokX9, aokX9_lapOn, qX9_lapOn⟩
set_option maxRecDepth 100000 in
set_option maxHeartbeats 800000 in
theorem mX9_lapOn : MOK yX9_lapOn cX9_lapOn 4 (some .long) rmX9_lapOn ciX9_lapOn := by
  refine mok_of (ini := false) (by decide +kernel) (by decide) rfl rfl ?_
  intro σ As K hrc hl h
  obtain ⟨N, P, I, L⟩ := σ
  have h9 := pR_iff.mp h
  clear h
  obtain ⟨a, r, e9, h⟩ := h9
  subst e9
  have h9 := pI_iff.mp h
  clear h
  obtain ⟨t, r, e9, h⟩ := h9
  subst e9
  have h9 := pI_iff.mp h
  clear h
  obtain ⟨d, r, e9, h⟩ := h9
  subst e9
  have h9 := pN_iff.mp h
  clear h
  obtain ⟨e9, h⟩ := h9
  subst e9
  try dsimp only at h
  obtain ⟨rfl, rfl, hx, t0, t1, d0, d1, h⟩ := h
  have hy := tyM hx t0 t1
  have hq := tdv_rng d0 hy.2.2.1
  have x1 := hx.1
  have x2 := hx.2.1
  have x4 := hx.2.2.2.1
  have fin : ∀ g, g = grpv (I 258) (I 259) t d → ∀ (J M : Int → Int → Int) (v : Int), (∀ b k, ¬ b = 248 → ¬ b = 253 → ¬ b = 254 → J b k = I b k) → (∀ b k, ¬ b = 249 → ¬ b = 252 → M b k = L b k) → knoOK J M → lapT (VM I) g (I 240 3) (I 240 4) v → K (some (.inr (.inl v))) (N, PF, J, M) := fun g hg J M v k1 k2 k3 k4 => by
    obtain ⟨a, b⟩ := mOK_k hx k1 k3
    have e : lpf (VM I) t d = v := lpf_of (by rw [VM_180, VM_181, VM_36_1, VM_36_2, ← hg]; exact k4)
    rw [← e]
    exact h J M k1 k2 a b.V
  refine ⟨Nat.le_of_ble_eq_true rfl, Ok.seg mdX9_lapOn [] 40 ?_⟩
  simp only [wp_nil, wp_cons, ↓stp, ↓lI, ↓lL, ↓lR, ↓lIn_0, ↓lIn_1, ↓lIn_2, ↓lIn_3, ↓lLn_0, ↓lLn_1, ↓lLn_2, ↓lLn_3, ↓lRn_0, ↓lRn_1, ↓lRn_2, ↓lRn_3, ↓pI, ↓pL, ↓pR, ↓pA, ↓pN, ↓pV, ↓fp, ↓tsw, ↓oS, ↓spMax, ↓spMin, ↓spAbs, ↓spObj, RI, RLg, b2i_lo, b2i_hi, getL, setL, ltL, killL, isLong, inl, cnd, br, tgt, rcv, rpl, mputI, mputL, mputP, fv, fr, mcat, mcs, entL, entA, rfit, nf_0, nf_1, nf_2, nf_3, nf2_0, nf2_1, b2i_0, b2i_1, RI_b2i, b2i_fit, List.append, List.length, List.replicate, List.cons_append, List.nil_append, List.length_cons, List.length_nil, List.replicate_succ, List.replicate_zero, List.tail_cons, reduceIte, if_true, if_false, ite_true, ite_false, Bool.false_eq_true, true_and, and_true, and_self, false_and, and_false, or_self, or_true, true_or, or_false, false_or, not_true_eq_false, not_false_eq_true, ne_eq, forall_const, implies_true, imp_self, true_implies, false_implies, Nat.reduceAdd, Nat.reduceSub, Nat.reduceMul, Nat.reduceDiv, Nat.reduceMod, Nat.reduceEqDiff, Nat.reduceLT, Nat.reduceLeDiff, Nat.reduceBEq, Nat.add_zero, Nat.zero_add, Nat.le_refl, Nat.not_lt_zero, Nat.succ_eq_add_one, Int.reduceNatCast, Int.cast_ofNat_Int, Int.reduceSub, Int.reduceMul, Int.reduceNeg, Int.reduceLE, Int.reduceLT, Int.reduceToNat, Int.reduceEq, Int.reduceNe, Int.reduceAdd, Option.some.injEq, kX9_lapOn, rmX9_lapOn, ↓ofX9_82, ↓ofX9_85, ↓ocX9_lapOn_207, ↓spX9_lapBy, x1, x2, x4, G_240, G_241, G_242, G_243, G_244, G_245, G_246, G_247, G_248, G_249, G_250, G_251, G_252, G_253, G_254, G_255, G_256, G_257, G_258, G_259, G_260, G_261, G_262, G_263, G_264, G_265, G_266, G_267, G_268, G_269, G_270, G_271, G_272, PF_240_6, PF_240_7, PF_240_8, PF_240_9, PF_240_10, PF_240_11, PF_240_12, PF_240_13, PF_240_14, PF_240_15, PF_240_16, PF_240_17, PF_240_18, PF_240_19, PF_240_20, PF_240_21, PF_240_22, PF_240_23, PF_240_24, PF_240_26, PF_240_27, PF_240_28, PF_240_29, PF_240_30, PF_240_31, PF_240_32, PF_240_33, PF_240_34, PF_240_35, PF_240_36, PF_240_37]
  refine ⟨by omega, by omega, by omega, by omega, by omega, by omega, by omega, by omega, fun z => ?_, fun z => ?_⟩
  · exact ⟨by omega, by omega, fin _ (by unfold grpv; rw [if_neg (by omega)])⟩
  · exact fin _ (by unfold grpv; rw [if_pos (by omega)])
def spX9_on (As : List MV) (σ : MS) (K : Option MV → MS → Prop) : Prop := pR As fun a r => pI r fun t r => pI r fun d r => pN r (a = 240 ∧ σ.2.1 = PF ∧ RI t ∧ RI d ∧ mOK σ.2.2.1 σ.2.2.2 ∧ (¬ (0 ≤ t ∧ t ≤ 3 ∧ 0 ≤ d ∧ d ≤ 39) → ∀ I' : Int → Int → Int, frW σ.2.2.1 I' → mOK I' σ.2.2.2 → I' 240 0 = 1 → K (some (.inr (.inl 0))) (σ.1, σ.2.1, I', σ.2.2.2)) ∧ (0 ≤ t ∧ t ≤ 3 ∧ 0 ≤ d ∧ d ≤ 39 → ∀ (I' L' : Int → Int → Int), frW σ.2.2.1 I' → frWL σ.2.2.2 L' → mOK I' L' → I' 240 0 = 0 → K (some (.inr (.inl (lpf (VM σ.2.2.1) t d)))) (σ.1, σ.2.1, I', L')))
def ciX9_on : CI := (3, 9, 0, 0, spX9_on)
def kX9_on (pc : Nat) : List ME := match pc with
  | 0 => [(.aload_n 0, 1, []), (.aload_n 0, 1, []), (.iload_n 1, 1, []), (.iconst 0, 1, []), (.iconst 3, 1, []), (.invokevirtual 128, 3, []), (.ifCond .eq 18, 3, [26]), (.aload_n 0, 1, []), (.iload_n 2, 1, []), (.iconst 0, 1, []), (.bipush 39, 2, []), (.invokevirtual 128, 3, []), (.ifCond .eq 7, 3, [26]), (.iconst 0, 1, []), (.goto 4, 3, [27])]
  | 26 => [(.iconst 1, 1, [])]
  | 27 => [(.putfield 7, 3, []), (.aload_n 0, 1, []), (.getfield 7, 3, []), (.ifCond .le 7, 3, [41]), (.lconst 0, 1, []), (.goto 9, 3, [47])]
  | 41 => [(.aload_n 0, 1, []), (.iload_n 1, 1, []), (.iload_n 2, 1, []), (.invokevirtual 217, 3, [])]
  | 47 => [(.lreturn, 1, [])]
  | _ => []
theorem qX9_on : ∀ pc, chk cX9_on pc (kX9_on pc) = true := by
  intro pc
  unfold kX9_on
  split <;> first | decide +kernel | exact chk_nil
abbrev rmX9_on : Room := { frames := 5, cells := 0, slots := 0, locals := 128 }
def aX9_on (x : Nat) : Option CI := match x with
  | 128 => some ciX9_in
  | 217 => some ciX9_lapOn
  | _ => none
theorem aokX9_on : ∀ x ci, aX9_on x = some ci → CalOK RX9 rmX9_on x ci := by
  intro x ci h
  unfold aX9_on at h
  split at h
  · cases h; exact cal_V mX9_in (by decide) rfl (List.forall_mem_cons.mpr ⟨(ws_mem (List.mem_of_getElem? (i := 979) (by decide +kernel)) (by decide +kernel)), List.forall_mem_cons.mpr ⟨(ws_mem (List.mem_of_getElem? (i := 981) (by decide +kernel)) (by decide +kernel)), List.forall_mem_cons.mpr ⟨(ws_mem (List.mem_of_getElem? (i := 20) (by decide +kernel)) (by decide +kernel)), List.forall_mem_cons.mpr ⟨(ws_mem (List.mem_of_getElem? (i := 64) (by decide +kernel)) (by decide +kernel)), List.forall_mem_cons.mpr ⟨(ws_mem (List.mem_of_getElem? (i := 982) (by decide +kernel)) (by decide +kernel)), fun _ h => absurd h List.not_mem_nil⟩⟩⟩⟩⟩) rfl (by unfold nice; decide +kernel) (by unfold rfits; decide) ⟨rfl, rfl⟩
  · cases h; exact cal_V mX9_lapOn (by decide) rfl (List.forall_mem_cons.mpr ⟨(ws_mem (List.mem_of_getElem? (i := 1162) (by decide +kernel)) (by decide +kernel)), List.forall_mem_cons.mpr ⟨(ws_mem (List.mem_of_getElem? (i := 1164) (by decide +kernel)) (by decide +kernel)), List.forall_mem_cons.mpr ⟨(ws_mem (List.mem_of_getElem? (i := 44) (by decide +kernel)) (by decide +kernel)), List.forall_mem_cons.mpr ⟨(ws_mem (List.mem_of_getElem? (i := 64) (by decide +kernel)) (by decide +kernel)), List.forall_mem_cons.mpr ⟨(ws_mem (List.mem_of_getElem? (i := 1165) (by decide +kernel)) (by decide +kernel)), fun _ h => absurd h List.not_mem_nil⟩⟩⟩⟩⟩) rfl (by unfold nice; decide +kernel) (by unfold rfits; decide) ⟨rfl, rfl⟩
  · cases h
theorem ocX9_on_128 (f : Nat → Nat → Nat → Nat → (List MV → MS → (Option MV → MS → Prop) → Prop) → Prop) : oC aX9_on 128 f = f 4 9 0 0 spX9_in := propext Iff.rfl
theorem ocX9_on_217 (f : Nat → Nat → Nat → Nat → (List MV → MS → (Option MV → MS → Prop) → Prop) → Prop) : oC aX9_on 217 f = f 3 9 0 0 spX9_lapOn := propext Iff.rfl
theorem mdX9_on : MD RX9 cX9_on rmX9_on kX9_on fX9 aX9_on zX9 uX9 := ⟨fokX9, zokX9, uokX9, aokX9_on, qX9_on⟩
set_option maxRecDepth 100000 in
set_option maxHeartbeats 800000 in
theorem mX9_on : MOK yX9_on cX9_on 3 (some .long) rmX9_on ciX9_on := by
  refine mok_of (ini := false) (by decide +kernel) (by decide) rfl rfl ?_
  intro σ As K hrc hl h
  obtain ⟨N, P, I, L⟩ := σ
  have h9 := pR_iff.mp h
  clear h
  obtain ⟨a, r, e9, h⟩ := h9
  subst e9
  have h9 := pI_iff.mp h
  clear h
  obtain ⟨t, r, e9, h⟩ := h9
  subst e9
  have h9 := pI_iff.mp h
  clear h
  obtain ⟨d, r, e9, h⟩ := h9
  subst e9
  have h9 := pN_iff.mp h
  clear h
  obtain ⟨e9, h⟩ := h9
  subst e9
  try dsimp only at h
  obtain ⟨rfl, rfl, ht, hd, hx, h1, h2⟩ := h
  unfold RI at ht hd
  have fu : ∀ v, frW I (upI I 240 0 v) := fun v b k b0 b1 b2 b3 => if_neg b3
  have mu : ∀ v, mOK (upI I 240 0 v) L := fun v => mOK_w hx (fu v) (fun k => upI_ne (by omega)) (fun _ => rfl)
  have bad : ¬ (0 ≤ t ∧ t ≤ 3 ∧ 0 ≤ d ∧ d ≤ 39) → Ok RX9 cX9_on 3 rmX9_on false none (fun r σ' => rfit (some .long) r ∧ K r σ') (fun _ => False) (27, [some (.inr (.inr (some 240))), some (.inl t), some (.inl d)], [.inl 1, .inr (.inr (some 240))], (N, PF, I, L), 0, 0) := fun q => by
    refine Ok.seg mdX9_on [] 20 ?_
    simp only [wp_nil, wp_cons, ↓stp, ↓lI, ↓lL, ↓lR, ↓lIn_0, ↓lIn_1, ↓lIn_2, ↓lIn_3, ↓lLn_0, ↓lLn_1, ↓lLn_2, ↓lLn_3, ↓lRn_0, ↓lRn_1, ↓lRn_2, ↓lRn_3, ↓pI, ↓pL, ↓pR, ↓pA, ↓pN, ↓pV, ↓fp, ↓tsw, ↓oS, ↓spMax, ↓spMin, ↓spAbs, ↓spObj, RI, RLg, b2i_lo, b2i_hi, getL, setL, ltL, killL, isLong, inl, cnd, br, tgt, rcv, rpl, mputI, mputL, mputP, fv, fr, mcat, mcs, entL, entA, rfit, nf_0, nf_1, nf_2, nf_3, nf2_0, nf2_1, b2i_0, b2i_1, RI_b2i, b2i_fit, List.append, List.length, List.replicate, List.cons_append, List.nil_append, List.length_cons, List.length_nil, List.replicate_succ, List.replicate_zero, List.tail_cons, reduceIte, if_true, if_false, ite_true, ite_false, Bool.false_eq_true, true_and, and_true, and_self, false_and, and_false, or_self, or_true, true_or, or_false, false_or, not_true_eq_false, not_false_eq_true, ne_eq, forall_const, implies_true, imp_self, true_implies, false_implies, Nat.reduceAdd, Nat.reduceSub, Nat.reduceMul, Nat.reduceDiv, Nat.reduceMod, Nat.reduceEqDiff, Nat.reduceLT, Nat.reduceLeDiff, Nat.reduceBEq, Nat.add_zero, Nat.zero_add, Nat.le_refl, Nat.not_lt_zero, Nat.succ_eq_add_one, Int.reduceNatCast, Int.cast_ofNat_Int, Int.reduceSub, Int.reduceMul, Int.reduceNeg, Int.reduceLE, Int.reduceLT, Int.reduceToNat, Int.reduceEq, Int.reduceNe, Int.reduceAdd, Option.some.injEq, kX9_on, rmX9_on, ↓ofX9_7, ↓ocX9_on_128, ↓spX9_in, ↓ocX9_on_217, ↓spX9_lapOn, upI_same, G_240, G_241, G_242, G_243, G_244, G_245, G_246, G_247, G_248, G_249, G_250, G_251, G_252, G_253, G_254, G_255, G_256, G_257, G_258, G_259, G_260, G_261, G_262, G_263, G_264, G_265, G_266, G_267, G_268, G_269, G_270, G_271, G_272, PF_240_6, PF_240_7, PF_240_8, PF_240_9, PF_240_10, PF_240_11, PF_240_12, PF_240_13, PF_240_14, PF_240_15, PF_240_16, PF_240_17, PF_240_18, PF_240_19, PF_240_20, PF_240_21, PF_240_22, PF_240_23, PF_240_24, PF_240_26, PF_240_27, PF_240_28, PF_240_29, PF_240_30, PF_240_31, PF_240_32, PF_240_33, PF_240_34, PF_240_35, PF_240_36, PF_240_37]
    exact h1 q _ (fu 1) (mu 1) upI_same
  have good : (0 ≤ t ∧ t ≤ 3 ∧ 0 ≤ d ∧ d ≤ 39) → Ok RX9 cX9_on 3 rmX9_on false none (fun r σ' => rfit (some .long) r ∧ K r σ') (fun _ => False) (27, [some (.inr (.inr (some 240))), some (.inl t), some (.inl d)], [.inl 0, .inr (.inr (some 240))], (N, PF, I, L), 0, 0) := fun q => by
    have m0 := mu 0
    refine Ok.seg mdX9_on [] 60 ?_
    simp only [wp_nil, wp_cons, ↓stp, ↓lI, ↓lL, ↓lR, ↓lIn_0, ↓lIn_1, ↓lIn_2, ↓lIn_3, ↓lLn_0, ↓lLn_1, ↓lLn_2, ↓lLn_3, ↓lRn_0, ↓lRn_1, ↓lRn_2, ↓lRn_3, ↓pI, ↓pL, ↓pR, ↓pA, ↓pN, ↓pV, ↓fp, ↓tsw, ↓oS, ↓spMax, ↓spMin, ↓spAbs, ↓spObj, RI, RLg, b2i_lo, b2i_hi, getL, setL, ltL, killL, isLong, inl, cnd, br, tgt, rcv, rpl, mputI, mputL, mputP, fv, fr, mcat, mcs, entL, entA, rfit, nf_0, nf_1, nf_2, nf_3, nf2_0, nf2_1, b2i_0, b2i_1, RI_b2i, b2i_fit, List.append, List.length, List.replicate, List.cons_append, List.nil_append, List.length_cons, List.length_nil, List.replicate_succ, List.replicate_zero, List.tail_cons, reduceIte, if_true, if_false, ite_true, ite_false, Bool.false_eq_true, true_and, and_true, and_self, false_and, and_false, or_self, or_true, true_or, or_false, false_or, not_true_eq_false, not_false_eq_true, ne_eq, forall_const, implies_true, imp_self, true_implies, false_implies, Nat.reduceAdd, Nat.reduceSub, Nat.reduceMul, Nat.reduceDiv, Nat.reduceMod, Nat.reduceEqDiff, Nat.reduceLT, Nat.reduceLeDiff, Nat.reduceBEq, Nat.add_zero, Nat.zero_add, Nat.le_refl, Nat.not_lt_zero, Nat.succ_eq_add_one, Int.reduceNatCast, Int.cast_ofNat_Int, Int.reduceSub, Int.reduceMul, Int.reduceNeg, Int.reduceLE, Int.reduceLT, Int.reduceToNat, Int.reduceEq, Int.reduceNe, Int.reduceAdd, Option.some.injEq, kX9_on, rmX9_on, ↓ofX9_7, ↓ocX9_on_128, ↓spX9_in, ↓ocX9_on_217, ↓spX9_lapOn, upI_same, m0, G_240, G_241, G_242, G_243, G_244, G_245, G_246, G_247, G_248, G_249, G_250, G_251, G_252, G_253, G_254, G_255, G_256, G_257, G_258, G_259, G_260, G_261, G_262, G_263, G_264, G_265, G_266, G_267, G_268, G_269, G_270, G_271, G_272, PF_240_6, PF_240_7, PF_240_8, PF_240_9, PF_240_10, PF_240_11, PF_240_12, PF_240_13, PF_240_14, PF_240_15, PF_240_16, PF_240_17, PF_240_18, PF_240_19, PF_240_20, PF_240_21, PF_240_22, PF_240_23, PF_240_24, PF_240_26, PF_240_27, PF_240_28, PF_240_29, PF_240_30, PF_240_31, PF_240_32, PF_240_33, PF_240_34, PF_240_35, PF_240_36, PF_240_37]
    refine ⟨q.1, q.2.1, q.2.2.1, q.2.2.2, fun J M k1 k2 k3 k4 => ?_⟩
    rw [(fu 0).V]
    exact h2 q J M ((fu 0).tr k1.W) k2.W k3 ((k1 _ _ (by omega) (by omega) (by omega)).trans upI_same)
  refine ⟨Nat.le_of_ble_eq_true rfl, Ok.seg mdX9_on [27] 30 ?_⟩
  simp only [wp_nil, wp_cons, ↓stp, ↓lI, ↓lL, ↓lR, ↓lIn_0, ↓lIn_1, ↓lIn_2, ↓lIn_3, ↓lLn_0, ↓lLn_1, ↓lLn_2, ↓lLn_3, ↓lRn_0, ↓lRn_1, ↓lRn_2, ↓lRn_3, ↓pI, ↓pL, ↓pR, ↓pA, ↓pN, ↓pV, ↓fp, ↓tsw, ↓oS, ↓spMax, ↓spMin, ↓spAbs, ↓spObj, RI, RLg, b2i_lo, b2i_hi, getL, setL, ltL, killL, isLong, inl, cnd, br, tgt, rcv, rpl, mputI, mputL, mputP, fv, fr, mcat, mcs, entL, entA, rfit, nf_0, nf_1, nf_2, nf_3, nf2_0, nf2_1, b2i_0, b2i_1, RI_b2i, b2i_fit, List.append, List.length, List.replicate, List.cons_append, List.nil_append, List.length_cons, List.length_nil, List.replicate_succ, List.replicate_zero, List.tail_cons, reduceIte, if_true, if_false, ite_true, ite_false, Bool.false_eq_true, true_and, and_true, and_self, false_and, and_false, or_self, or_true, true_or, or_false, false_or, not_true_eq_false, not_false_eq_true, ne_eq, forall_const, implies_true, imp_self, true_implies, false_implies, Nat.reduceAdd, Nat.reduceSub, Nat.reduceMul, Nat.reduceDiv, Nat.reduceMod, Nat.reduceEqDiff, Nat.reduceLT, Nat.reduceLeDiff, Nat.reduceBEq, Nat.add_zero, Nat.zero_add, Nat.le_refl, Nat.not_lt_zero, Nat.succ_eq_add_one, Int.reduceNatCast, Int.cast_ofNat_Int, Int.reduceSub, Int.reduceMul, Int.reduceNeg, Int.reduceLE, Int.reduceLT, Int.reduceToNat, Int.reduceEq, Int.reduceNe, Int.reduceAdd, Option.some.injEq, kX9_on, rmX9_on, ↓ofX9_7, ↓ocX9_on_128, ↓spX9_in, ↓ocX9_on_217, ↓spX9_lapOn, G_240, G_241, G_242, G_243, G_244, G_245, G_246, G_247, G_248, G_249, G_250, G_251, G_252, G_253, G_254, G_255, G_256, G_257, G_258, G_259, G_260, G_261, G_262, G_263, G_264, G_265, G_266, G_267, G_268, G_269, G_270, G_271, G_272, PF_240_6, PF_240_7, PF_240_8, PF_240_9, PF_240_10, PF_240_11, PF_240_12, PF_240_13, PF_240_14, PF_240_15, PF_240_16, PF_240_17, PF_240_18, PF_240_19, PF_240_20, PF_240_21, PF_240_22, PF_240_23, PF_240_24, PF_240_26, PF_240_27, PF_240_28, PF_240_29, PF_240_30, PF_240_31, PF_240_32, PF_240_33, PF_240_34, PF_240_35, PF_240_36, PF_240_37]
  exact ⟨by omega, fun q => bad (by omega), fun q => ⟨by omega, fun q2 => bad (by omega), fun q2 => good (by omega)⟩⟩
def spt (l t d w : Int) : Int := ((l * 4 + t) * 40 + d) * 2 + w
def spX9_spot (As : List MV) (σ : MS) (K : Option MV → MS → Prop) : Prop := pR As fun a r => pI r fun l r => pI r fun t r => pI r fun d r => pI r fun w r => pN r (K (some (.inl (spt l t d w))) σ)
def ciX9_spot : CI := (5, 9, 0, 0, spX9_spot)
def kX9_spot (pc : Nat) : List ME := match pc with
  | 0 => [(.iload_n 1, 1, []), (.iconst 4, 1, []), (.imul, 1, []), (.iload_n 2, 1, []), (.iadd, 1, []), (.bipush 40, 2, []), (.imul, 1, []), (.iload_n 3, 1, []), (.iadd, 1, []), (.iconst 2, 1, []), (.imul, 1, []), (.iload 4, 2, []), (.iadd, 1, []), (.ireturn, 1, [])]
  | _ => []
theorem qX9_spot : ∀ pc, chk cX9_spot pc (kX9_spot pc) = true := by
  intro pc
  unfold kX9_spot
  split <;> first | decide +kernel | exact chk_nil
abbrev rmX9_spot : Room := { frames := 0, cells := 0, slots := 0, locals := 0 }
def aX9_spot (_ : Nat) : Option CI := none
theorem aokX9_spot : ∀ x ci, aX9_spot x = some ci → CalOK RX9 rmX9_spot x ci := fun _ _ h => by cases h
theorem mdX9_spot : MD RX9 cX9_spot rmX9_spot kX9_spot fX9 aX9_spot zX9 uX9 := ⟨fokX9, zokX9, uokX9, aokX9_spot, qX9_spot⟩
set_option maxRecDepth 100000 in
set_option maxHeartbeats 800000 in
theorem mX9_spot : MOK yX9_spot cX9_spot 5 (some .int) rmX9_spot ciX9_spot := by
  refine mok_of (ini := false) (by decide +kernel) (by decide) rfl rfl ?_
  intro σ As K hrc hl h
  obtain ⟨N, P, I, L⟩ := σ
  have h9 := pR_iff.mp h
  clear h
  obtain ⟨a, r, e9, h⟩ := h9
  subst e9
  have h9 := pI_iff.mp h
  clear h
  obtain ⟨l, r, e9, h⟩ := h9
  subst e9
  have h9 := pI_iff.mp h
  clear h
  obtain ⟨t, r, e9, h⟩ := h9
  subst e9
  have h9 := pI_iff.mp h
  clear h
  obtain ⟨d, r, e9, h⟩ := h9
  subst e9
  have h9 := pI_iff.mp h
  clear h
  obtain ⟨w, r, e9, h⟩ := h9
  subst e9
  have h9 := pN_iff.mp h
  clear h
  obtain ⟨e9, h⟩ := h9
  subst e9
  try dsimp only at h
  refine ⟨Nat.le_of_ble_eq_true rfl, Ok.seg mdX9_spot [] 20 ?_⟩
  simp only [wp_nil, wp_cons, ↓stp, ↓lI, ↓lL, ↓lR, ↓lIn_0, ↓lIn_1, ↓lIn_2, ↓lIn_3, ↓lLn_0, ↓lLn_1, ↓lLn_2, ↓lLn_3, ↓lRn_0, ↓lRn_1, ↓lRn_2, ↓lRn_3, ↓pI, ↓pL, ↓pR, ↓pA, ↓pN, ↓pV, ↓fp, ↓tsw, ↓oS, ↓spMax, ↓spMin, ↓spAbs, ↓spObj, RI, RLg, b2i_lo, b2i_hi, getL, setL, ltL, killL, isLong, inl, cnd, br, tgt, rcv, rpl, mputI, mputL, mputP, fv, fr, mcat, mcs, entL, entA, rfit, nf_0, nf_1, nf_2, nf_3, nf2_0, nf2_1, b2i_0, b2i_1, RI_b2i, b2i_fit, List.append, List.length, List.replicate, List.cons_append, List.nil_append, List.length_cons, List.length_nil, List.replicate_succ, List.replicate_zero, List.tail_cons, reduceIte, if_true, if_false, ite_true, ite_false, Bool.false_eq_true, true_and, and_true, and_self, false_and, and_false, or_self, or_true, true_or, or_false, false_or, not_true_eq_false, not_false_eq_true, ne_eq, forall_const, implies_true, imp_self, true_implies, false_implies, Nat.reduceAdd, Nat.reduceSub, Nat.reduceMul, Nat.reduceDiv, Nat.reduceMod, Nat.reduceEqDiff, Nat.reduceLT, Nat.reduceLeDiff, Nat.reduceBEq, Nat.add_zero, Nat.zero_add, Nat.le_refl, Nat.not_lt_zero, Nat.succ_eq_add_one, Int.reduceNatCast, Int.cast_ofNat_Int, Int.reduceSub, Int.reduceMul, Int.reduceNeg, Int.reduceLE, Int.reduceLT, Int.reduceToNat, Int.reduceEq, Int.reduceNe, Int.reduceAdd, Option.some.injEq, kX9_spot, rmX9_spot]
  exact h
/-- what may follow a lap, by going on (-1) or by a tyre -/
noncomputable def behV (I L : Int → Int → Int) (l t d w n : Int) : Int := if n < 0 then lpf (VM I) t (d + 1) + L 260 (spt (l + 1) t (d + 1) w) else I 240 5 + lpf (VM I) n 0 + L 260 (spt (l + 1) n 0 (tw w t n))
def lefR (L : Int → Int → Int) (l : Int) : Prop := ∀ t d w, 0 ≤ t → t ≤ 3 → 0 ≤ d → d ≤ l → (w = 0 ∨ w = 1) → 0 ≤ L 260 (spt l t d w) ∧ L 260 (spt l t d w) ≤ 1000000000000
def spX9_behind (As : List MV) (σ : MS) (K : Option MV → MS → Prop) : Prop := pR As fun a r => pI r fun l r => pI r fun t r => pI r fun d r => pI r fun w r => pI r fun n r => pN r (a = 240 ∧ σ.2.1 = PF ∧ mOK σ.2.2.1 σ.2.2.2 ∧ 0 ≤ l ∧ l ≤ 38 ∧ 0 ≤ t ∧ t ≤ 3 ∧ 0 ≤ d ∧ d ≤ l ∧ (w = 0 ∨ w = 1) ∧ -1 ≤ n ∧ n ≤ 3 ∧ ∀ (I' L' : Int → Int → Int), frK σ.2.2.1 I' → frKL σ.2.2.2 L' → mOK I' L' → VM I' = VM σ.2.2.1 → K (some (.inr (.inl (behV σ.2.2.1 σ.2.2.2 l t d w n)))) (σ.1, σ.2.1, I', L'))
def ciX9_behind : CI := (6, 9, 0, 0, spX9_behind)
def kX9_behind (pc : Nat) : List ME := match pc with
  | 0 => [(.iload 5, 2, []), (.ifCond .ge 31, 3, [33]), (.aload_n 0, 1, []), (.iload_n 2, 1, []), (.iload_n 3, 1, []), (.iconst 1, 1, []), (.iadd, 1, []), (.invokevirtual 217, 3, []), (.aload_n 0, 1, []), (.getfield 92, 3, []), (.aload_n 0, 1, []), (.iload_n 1, 1, []), (.iconst 1, 1, []), (.iadd, 1, []), (.iload_n 2, 1, []), (.iload_n 3, 1, []), (.iconst 1, 1, []), (.iadd, 1, []), (.iload 4, 2, []), (.invokevirtual 221, 3, []), (.laload, 1, []), (.ladd, 1, []), (.lreturn, 1, [])]
  | 33 => [(.aload_n 0, 1, []), (.getfield 25, 3, []), (.i2l, 1, []), (.aload_n 0, 1, []), (.iload 5, 2, []), (.iconst 0, 1, []), (.invokevirtual 217, 3, []), (.ladd, 1, []), (.aload_n 0, 1, []), (.getfield 92, 3, []), (.aload_n 0, 1, []), (.iload_n 1, 1, []), (.iconst 1, 1, []), (.iadd, 1, []), (.iload 5, 2, []), (.iconst 0, 1, []), (.iload 5, 2, []), (.iload_n 2, 1, []), (.if_icmp .eq 7, 3, [67]), (.iconst 1, 1, []), (.goto 5, 3, [69])]
  | 67 => [(.iload 4, 2, [])]
  | 69 => [(.invokevirtual 221, 3, []), (.laload, 1, []), (.ladd, 1, []), (.lreturn, 1, [])]
  | _ => []
theorem qX9_behind : ∀ pc, chk cX9_behind pc (kX9_behind pc) = true := by
  intro pc
  unfold kX9_behind
  split <;> first | decide +kernel | exact chk_nil
abbrev rmX9_behind : Room := { frames := 5, cells := 0, slots := 0, locals := 128 }
def aX9_behind (x : Nat) : Option CI := match x with
  | 217 => some ciX9_lapOn
  | 221 => some ciX9_spot
  | _ => none
theorem aokX9_behind : ∀ x ci, aX9_behind x = some ci → CalOK RX9 rmX9_behind x ci := by
  intro x ci h
  unfold aX9_behind at h
  split at h
  · cases h; exact cal_V mX9_lapOn (by decide) rfl (List.forall_mem_cons.mpr ⟨(ws_mem (List.mem_of_getElem? (i := 1162) (by decide +kernel)) (by decide +kernel)), List.forall_mem_cons.mpr ⟨(ws_mem (List.mem_of_getElem? (i := 1164) (by decide +kernel)) (by decide +kernel)), List.forall_mem_cons.mpr ⟨(ws_mem (List.mem_of_getElem? (i := 44) (by decide +kernel)) (by decide +kernel)), List.forall_mem_cons.mpr ⟨(ws_mem (List.mem_of_getElem? (i := 64) (by decide +kernel)) (by decide +kernel)), List.forall_mem_cons.mpr ⟨(ws_mem (List.mem_of_getElem? (i := 1165) (by decide +kernel)) (by decide +kernel)), fun _ h => absurd h List.not_mem_nil⟩⟩⟩⟩⟩) rfl (by unfold nice; decide +kernel) (by unfold rfits; decide) ⟨rfl, rfl⟩
  · cases h; exact cal_V mX9_spot (by decide) rfl (List.forall_mem_cons.mpr ⟨(ws_mem (List.mem_of_getElem? (i := 1182) (by decide +kernel)) (by decide +kernel)), List.forall_mem_cons.mpr ⟨(ws_mem (List.mem_of_getElem? (i := 1184) (by decide +kernel)) (by decide +kernel)), List.forall_mem_cons.mpr ⟨(ws_mem (List.mem_of_getElem? (i := 48) (by decide +kernel)) (by decide +kernel)), List.forall_mem_cons.mpr ⟨(ws_mem (List.mem_of_getElem? (i := 64) (by decide +kernel)) (by decide +kernel)), List.forall_mem_cons.mpr ⟨(ws_mem (List.mem_of_getElem? (i := 1185) (by decide +kernel)) (by decide +kernel)), fun _ h => absurd h List.not_mem_nil⟩⟩⟩⟩⟩) rfl (by unfold nice; decide +kernel) (by unfold rfits; decide) ⟨rfl, rfl⟩
  · cases h
theorem ocX9_behind_217 (f : Nat → Nat → Nat → Nat → (List MV → MS → (Option MV → MS → Prop) → Prop) → Prop) : oC aX9_behind 217 f = f 3 9 0 0 spX9_lapOn := propext Iff.rfl
theorem ocX9_behind_221 (f : Nat → Nat → Nat → Nat → (List MV → MS → (Option MV → MS → Prop) → Prop) → Prop) : oC aX9_behind 221 f = f 5 9 0 0 spX9_spot := propext Iff.rfl
theorem mdX9_behind : MD RX9 cX9_behind rmX9_behind kX9_behind fX9 aX9_behind zX9 uX9 := ⟨fokX9, zokX9, uokX9, aokX9_behind, qX9_behind⟩
theorem spt_rng {l t d w : Int} (l0 : 0 ≤ l) (l1 : l ≤ 39) (t0 : 0 ≤ t) (t1 : t ≤ 3) (d0 : 0 ≤ d) (d1 : d ≤ 39) (hw : w = 0 ∨ w = 1) : 0 ≤ spt l t d w ∧ spt l t d w < 13120 := by
  unfold spt; omega
set_option maxRecDepth 100000 in
set_option maxHeartbeats 800000 in
theorem mX9_behind : MOK yX9_behind cX9_behind 6 (some .long) rmX9_behind ciX9_behind := by
  refine mok_of (ini := false) (by decide +kernel) (by decide) rfl rfl ?_
  intro σ As K hrc hl h
  obtain ⟨N, P, I, L⟩ := σ
  have h9 := pR_iff.mp h
  clear h
  obtain ⟨a, r, e9, h⟩ := h9
  subst e9
  have h9 := pI_iff.mp h
  clear h
  obtain ⟨l, r, e9, h⟩ := h9
  subst e9
  have h9 := pI_iff.mp h
  clear h
  obtain ⟨t, r, e9, h⟩ := h9
  subst e9
  have h9 := pI_iff.mp h
  clear h
  obtain ⟨d, r, e9, h⟩ := h9
  subst e9
  have h9 := pI_iff.mp h
  clear h
  obtain ⟨w, r, e9, h⟩ := h9
  subst e9
  have h9 := pI_iff.mp h
  clear h
  obtain ⟨n, r, e9, h⟩ := h9
  subst e9
  have h9 := pN_iff.mp h
  clear h
  obtain ⟨e9, h⟩ := h9
  subst e9
  try dsimp only at h
  obtain ⟨rfl, rfl, hx, l0, l1, t0, t1, d0, d1, hw, n0, n1, h⟩ := h
  have hN := nM hx
  unfold behV at h
  by_cases q : n < 0
  · have s := spt_rng (l := l + 1) (t := t) (d := d + 1) (w := w) (by omega) (by omega) t0 t1 (by omega) (by omega) hw
    refine ⟨Nat.le_of_ble_eq_true rfl, Ok.seg mdX9_behind [] 40 ?_⟩
    simp only [wp_nil, wp_cons, ↓stp, ↓lI, ↓lL, ↓lR, ↓lIn_0, ↓lIn_1, ↓lIn_2, ↓lIn_3, ↓lLn_0, ↓lLn_1, ↓lLn_2, ↓lLn_3, ↓lRn_0, ↓lRn_1, ↓lRn_2, ↓lRn_3, ↓pI, ↓pL, ↓pR, ↓pA, ↓pN, ↓pV, ↓fp, ↓tsw, ↓oS, ↓spMax, ↓spMin, ↓spAbs, ↓spObj, RI, RLg, b2i_lo, b2i_hi, getL, setL, ltL, killL, isLong, inl, cnd, br, tgt, rcv, rpl, mputI, mputL, mputP, fv, fr, mcat, mcs, entL, entA, rfit, nf_0, nf_1, nf_2, nf_3, nf2_0, nf2_1, b2i_0, b2i_1, RI_b2i, b2i_fit, List.append, List.length, List.replicate, List.cons_append, List.nil_append, List.length_cons, List.length_nil, List.replicate_succ, List.replicate_zero, List.tail_cons, reduceIte, if_true, if_false, ite_true, ite_false, Bool.false_eq_true, true_and, and_true, and_self, false_and, and_false, or_self, or_true, true_or, or_false, false_or, not_true_eq_false, not_false_eq_true, ne_eq, forall_const, implies_true, imp_self, true_implies, false_implies, Nat.reduceAdd, Nat.reduceSub, Nat.reduceMul, Nat.reduceDiv, Nat.reduceMod, Nat.reduceEqDiff, Nat.reduceLT, Nat.reduceLeDiff, Nat.reduceBEq, Nat.add_zero, Nat.zero_add, Nat.le_refl, Nat.not_lt_zero, Nat.succ_eq_add_one, Int.reduceNatCast, Int.cast_ofNat_Int, Int.reduceSub, Int.reduceMul, Int.reduceNeg, Int.reduceLE, Int.reduceLT, Int.reduceToNat, Int.reduceEq, Int.reduceNe, Int.reduceAdd, Option.some.injEq, kX9_behind, rmX9_behind, ↓ofX9_25, ↓ofX9_92, ↓ocX9_behind_217, ↓spX9_lapOn, ↓ocX9_behind_221, ↓spX9_spot, hx, G_240, G_241, G_242, G_243, G_244, G_245, G_246, G_247, G_248, G_249, G_250, G_251, G_252, G_253, G_254, G_255, G_256, G_257, G_258, G_259, G_260, G_261, G_262, G_263, G_264, G_265, G_266, G_267, G_268, G_269, G_270, G_271, G_272, PF_240_6, PF_240_7, PF_240_8, PF_240_9, PF_240_10, PF_240_11, PF_240_12, PF_240_13, PF_240_14, PF_240_15, PF_240_16, PF_240_17, PF_240_18, PF_240_19, PF_240_20, PF_240_21, PF_240_22, PF_240_23, PF_240_24, PF_240_26, PF_240_27, PF_240_28, PF_240_29, PF_240_30, PF_240_31, PF_240_32, PF_240_33, PF_240_34, PF_240_35, PF_240_36, PF_240_37]
    refine ⟨by omega, fun z => by omega, fun _ => ⟨t0, t1, by omega, by omega, fun J M k1 k2 k3 k4 => ⟨s.1, s.2, ?_⟩⟩⟩
    have := h J M k1 k2 k3 k4
    rw [if_pos q] at this
    rw [k2 260 _ (by omega) (by omega)]
    exact this
  · have s := spt_rng (l := l + 1) (t := n) (d := 0) (w := tw w t n) (by omega) (by omega) (by omega) n1 (by omega) (by omega) (tw_01 _ _ _)
    refine ⟨Nat.le_of_ble_eq_true rfl, Ok.seg mdX9_behind [] 60 ?_⟩
    simp only [wp_nil, wp_cons, ↓stp, ↓lI, ↓lL, ↓lR, ↓lIn_0, ↓lIn_1, ↓lIn_2, ↓lIn_3, ↓lLn_0, ↓lLn_1, ↓lLn_2, ↓lLn_3, ↓lRn_0, ↓lRn_1, ↓lRn_2, ↓lRn_3, ↓pI, ↓pL, ↓pR, ↓pA, ↓pN, ↓pV, ↓fp, ↓tsw, ↓oS, ↓spMax, ↓spMin, ↓spAbs, ↓spObj, RI, RLg, b2i_lo, b2i_hi, getL, setL, ltL, killL, isLong, inl, cnd, br, tgt, rcv, rpl, mputI, mputL, mputP, fv, fr, mcat, mcs, entL, entA, rfit, nf_0, nf_1, nf_2, nf_3, nf2_0, nf2_1, b2i_0, b2i_1, RI_b2i, b2i_fit, List.append, List.length, List.replicate, List.cons_append, List.nil_append, List.length_cons, List.length_nil, List.replicate_succ, List.replicate_zero, List.tail_cons, reduceIte, if_true, if_false, ite_true, ite_false, Bool.false_eq_true, true_and, and_true, and_self, false_and, and_false, or_self, or_true, true_or, or_false, false_or, not_true_eq_false, not_false_eq_true, ne_eq, forall_const, implies_true, imp_self, true_implies, false_implies, Nat.reduceAdd, Nat.reduceSub, Nat.reduceMul, Nat.reduceDiv, Nat.reduceMod, Nat.reduceEqDiff, Nat.reduceLT, Nat.reduceLeDiff, Nat.reduceBEq, Nat.add_zero, Nat.zero_add, Nat.le_refl, Nat.not_lt_zero, Nat.succ_eq_add_one, Int.reduceNatCast, Int.cast_ofNat_Int, Int.reduceSub, Int.reduceMul, Int.reduceNeg, Int.reduceLE, Int.reduceLT, Int.reduceToNat, Int.reduceEq, Int.reduceNe, Int.reduceAdd, Option.some.injEq, kX9_behind, rmX9_behind, ↓ofX9_25, ↓ofX9_92, ↓ocX9_behind_217, ↓spX9_lapOn, ↓ocX9_behind_221, ↓spX9_spot, hx, G_240, G_241, G_242, G_243, G_244, G_245, G_246, G_247, G_248, G_249, G_250, G_251, G_252, G_253, G_254, G_255, G_256, G_257, G_258, G_259, G_260, G_261, G_262, G_263, G_264, G_265, G_266, G_267, G_268, G_269, G_270, G_271, G_272, PF_240_6, PF_240_7, PF_240_8, PF_240_9, PF_240_10, PF_240_11, PF_240_12, PF_240_13, PF_240_14, PF_240_15, PF_240_16, PF_240_17, PF_240_18, PF_240_19, PF_240_20, PF_240_21, PF_240_22, PF_240_23, PF_240_24, PF_240_26, PF_240_27, PF_240_28, PF_240_29, PF_240_30, PF_240_31, PF_240_32, PF_240_33, PF_240_34, PF_240_35, PF_240_36, PF_240_37]
    refine ⟨by omega, fun _ => ⟨by omega, by omega, n1, fun J M k1 k2 k3 k4 => ?_⟩, fun z => by omega⟩
    have := h J M k1 k2 k3 k4
    rw [if_neg q, ← k2 260 _ (by omega) (by omega)] at this
    refine ⟨by omega, by omega, fun z => ?_, fun z => ?_⟩
    · have e : tw w t n = w := by unfold tw; split <;> omega
      rw [e] at this s
      exact ⟨s.1, s.2, this⟩
    · have e : tw w t n = 1 := by unfold tw; rw [if_pos (.inr z)]
      rw [e] at this s
      exact ⟨s.1, s.2, this⟩
