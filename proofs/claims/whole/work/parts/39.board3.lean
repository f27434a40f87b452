/-! LapBoard: gear, set, limit, reach, shift, quickest, best, lap, wants -/
def spX8_gear (As : List MV) (σ : MS) (K : Option MV → MS → Prop) : Prop := pR As fun a r => pI r fun g r => pI r fun t r => pI r fun q r => pN r (a = 1 ∧ σ.2.1 = PF ∧ RI g ∧ RI t ∧ RI q ∧ xOK σ.2.2.1 ∧ (¬ (1 ≤ g ∧ g ≤ 6 ∧ 1 ≤ t ∧ t ≤ 60 ∧ 1 ≤ q ∧ q ≤ 20) → K (some (.inl (-1))) σ) ∧ (1 ≤ g ∧ g ≤ 6 ∧ 1 ≤ t ∧ t ≤ 60 ∧ 1 ≤ q ∧ q ≤ 20 →
  ((σ.2.2.1 38 g = t ∧ σ.2.2.1 39 g = q) → K (some (.inl 0)) σ) ∧ (¬ (σ.2.2.1 38 g = t ∧ σ.2.2.1 39 g = q) → ∀ I' : Int → Int → Int, (∀ c k, 3 ≤ c → ¬ (40 ≤ c ∧ c ≤ 178) → ¬ (182 ≤ c ∧ c ≤ 207) → ¬ (c = 179 ∧ k ≠ 4 ∧ k ≠ 5) → c ≠ 37 → c ≠ 38 → c ≠ 39 → I' c k = σ.2.2.1 c k) → xOK I' → (∀ j, I' 38 j = if j = g then t else σ.2.2.1 38 j) → (∀ j, I' 39 j = if j = g then q else σ.2.2.1 39 j) → K (some (.inl 1)) (σ.1, σ.2.1, I', σ.2.2.2))))
def ciX8_gear : CI := (4, 8, 0, 0, spX8_gear)
def kX8_gear (pc : Nat) : List ME := match pc with
  | 0 => [(.iload_n 1, 1, []), (.iconst 1, 1, []), (.bipush 6, 2, []), (.invokestatic 37, 3, []), (.ifCond .eq 23, 3, [30]), (.iload_n 2, 1, []), (.iconst 1, 1, []), (.bipush 60, 2, []), (.invokestatic 37, 3, []), (.ifCond .eq 13, 3, [30]), (.iload_n 3, 1, []), (.iconst 1, 1, []), (.bipush 20, 2, []), (.invokestatic 37, 3, []), (.ifCond .ne 5, 3, [32])]
  | 30 => [(.iconst (-1), 1, []), (.ireturn, 1, [])]
  | 32 => [(.aload_n 0, 1, []), (.getfield 10, 3, []), (.getfield 74, 3, []), (.iload_n 1, 1, []), (.iload_n 2, 1, []), (.iload_n 3, 1, []), (.invokevirtual 78, 3, []), (.ifCond .ne 5, 3, [50]), (.iconst 0, 1, []), (.ireturn, 1, [])]
  | 50 => [(.aload_n 0, 1, []), (.invokevirtual 55, 3, []), (.iconst 1, 1, []), (.ireturn, 1, [])]
  | _ => []
theorem qX8_gear : ∀ pc, chk cX8_gear pc (kX8_gear pc) = true := by
  intro pc
  unfold kX8_gear
  split <;> first | decide +kernel | exact chk_nil
abbrev rmX8_gear : Room := { frames := 4, cells := 0, slots := 0, locals := 89 }
def aX8_gear (x : Nat) : Option CI := match x with
  | 37 => some ciX8_within
  | 78 => some ciX0_changeGear
  | 55 => some ciX8_forgetLaps
  | _ => none
theorem aokX8_gear : ∀ x ci, aX8_gear x = some ci → CalOK RX8 rmX8_gear x ci := by
  intro x ci h
  unfold aX8_gear at h
  split at h
  · cases h; exact cal_S mX8_within rfl (List.forall_mem_cons.mpr ⟨(ws_mem (List.mem_of_getElem? (i := 363) (by decide +kernel)) (by decide +kernel)), List.forall_mem_cons.mpr ⟨(ws_mem (List.mem_of_getElem? (i := 364) (by decide +kernel)) (by decide +kernel)), List.forall_mem_cons.mpr ⟨(ws_mem (List.mem_of_getElem? (i := 53) (by decide +kernel)) (by decide +kernel)), List.forall_mem_cons.mpr ⟨(ws_mem (List.mem_of_getElem? (i := 365) (by decide +kernel)) (by decide +kernel)), fun _ h => absurd h List.not_mem_nil⟩⟩⟩⟩) rfl (by unfold nice; decide +kernel) (by unfold rfits; decide) ⟨rfl, rfl⟩
  · cases h; exact cal_V mX0_changeGear (by decide) rfl (List.forall_mem_cons.mpr ⟨(ws_mem (List.mem_of_getElem? (i := 398) (by decide +kernel)) (by decide +kernel)), List.forall_mem_cons.mpr ⟨(ws_mem (List.mem_of_getElem? (i := 399) (by decide +kernel)) (by decide +kernel)), List.forall_mem_cons.mpr ⟨(ws_mem (List.mem_of_getElem? (i := 400) (by decide +kernel)) (by decide +kernel)), List.forall_mem_cons.mpr ⟨(ws_mem (List.mem_of_getElem? (i := 57) (by decide +kernel)) (by decide +kernel)), List.forall_mem_cons.mpr ⟨(ws_mem (List.mem_of_getElem? (i := 401) (by decide +kernel)) (by decide +kernel)), fun _ h => absurd h List.not_mem_nil⟩⟩⟩⟩⟩) rfl (by unfold nice; decide +kernel) (by unfold rfits; decide) ⟨rfl, rfl⟩
  · cases h; exact cal_V mX8_forgetLaps (by decide) rfl (List.forall_mem_cons.mpr ⟨(ws_mem (List.mem_of_getElem? (i := 370) (by decide +kernel)) (by decide +kernel)), List.forall_mem_cons.mpr ⟨(ws_mem (List.mem_of_getElem? (i := 372) (by decide +kernel)) (by decide +kernel)), List.forall_mem_cons.mpr ⟨(ws_mem (List.mem_of_getElem? (i := 2) (by decide +kernel)) (by decide +kernel)), List.forall_mem_cons.mpr ⟨(ws_mem (List.mem_of_getElem? (i := 53) (by decide +kernel)) (by decide +kernel)), List.forall_mem_cons.mpr ⟨(ws_mem (List.mem_of_getElem? (i := 373) (by decide +kernel)) (by decide +kernel)), fun _ h => absurd h List.not_mem_nil⟩⟩⟩⟩⟩) rfl (by unfold nice; decide +kernel) (by unfold rfits; decide) ⟨rfl, rfl⟩
  · cases h
theorem ocX8_gear_37 (f : Nat → Nat → Nat → Nat → (List MV → MS → (Option MV → MS → Prop) → Prop) → Prop) : oC aX8_gear 37 f = f 3 10 0 0 spX8_within := propext Iff.rfl
theorem ocX8_gear_78 (f : Nat → Nat → Nat → Nat → (List MV → MS → (Option MV → MS → Prop) → Prop) → Prop) : oC aX8_gear 78 f = f 4 0 0 0 spX0_changeGear := propext Iff.rfl
theorem ocX8_gear_55 (f : Nat → Nat → Nat → Nat → (List MV → MS → (Option MV → MS → Prop) → Prop) → Prop) : oC aX8_gear 55 f = f 1 8 0 0 spX8_forgetLaps := propext Iff.rfl
theorem mdX8_gear : MD RX8 cX8_gear rmX8_gear kX8_gear fX8 aX8_gear zX8 uX8 := ⟨fokX8, zokX8, uokX8, aokX8_gear, qX8_gear⟩
set_option maxRecDepth 100000 in
set_option maxHeartbeats 800000 in
theorem mX8_gear : MOK yX8_gear cX8_gear 4 (some .int) rmX8_gear ciX8_gear := by
  refine mok_of (ini := false) (by decide +kernel) (by decide) rfl rfl ?_
  intro σ As K hrc hl h
  obtain ⟨N, P, I, L⟩ := σ
  have h9 := pR_iff.mp h
  clear h
  obtain ⟨a, r, e9, h⟩ := h9
  subst e9
  have h9 := pI_iff.mp h
  clear h
  obtain ⟨g, r, e9, h⟩ := h9
  subst e9
  have h9 := pI_iff.mp h
  clear h
  obtain ⟨t, r, e9, h⟩ := h9
  subst e9
  have h9 := pI_iff.mp h
  clear h
  obtain ⟨q, r, e9, h⟩ := h9
  subst e9
  have h9 := pN_iff.mp h
  clear h
  obtain ⟨e9, h⟩ := h9
  subst e9
  dsimp only at h
  obtain ⟨rfl, rfl, hg, ht, hq, hx, h1, h2⟩ := h
  unfold RI at hg ht hq
  have hx' := hx
  obtain ⟨x1, x2, x3, x4, x5, x6, x7⟩ := hx'
  have y1 := x1.1
  have y2 := x1.2.1
  have hcar := x2.1
  have hcp : cP PF := ⟨PF_35_0, PF_35_1, PF_35_2, PF_35_3⟩
  refine ⟨Nat.le_of_ble_eq_true rfl, Ok.seg mdX8_gear [] 60 ?_⟩
  simp only [wp_nil, wp_cons, ↓stp, ↓lI, ↓lL, ↓lR, ↓lIn_0, ↓lIn_1, ↓lIn_2, ↓lIn_3, ↓lLn_0, ↓lLn_1, ↓lLn_2, ↓lLn_3, ↓lRn_0, ↓lRn_1, ↓lRn_2, ↓lRn_3, ↓pI, ↓pL, ↓pR, ↓pA, ↓pN, ↓pV, ↓fp, ↓tsw, ↓oS, ↓spMax, ↓spMin, ↓spAbs, ↓spObj, RI, RLg, b2i_lo, b2i_hi, getL, setL, ltL, killL, isLong, inl, cnd, br, tgt, rcv, rpl, mputI, mputL, mputP, fv, fr, mcat, mcs, entL, entA, rfit, nf_0, nf_1, nf_2, nf_3, nf2_0, nf2_1, b2i_0, b2i_1, RI_b2i, b2i_fit, List.append, List.length, List.replicate, List.cons_append, List.nil_append, List.length_cons, List.length_nil, List.replicate_succ, List.replicate_zero, List.tail_cons, reduceIte, if_true, if_false, ite_true, ite_false, Bool.false_eq_true, true_and, and_true, and_self, false_and, and_false, or_self, or_true, true_or, or_false, false_or, not_true_eq_false, not_false_eq_true, ne_eq, forall_const, implies_true, imp_self, true_implies, false_implies, Nat.reduceAdd, Nat.reduceSub, Nat.reduceMul, Nat.reduceDiv, Nat.reduceMod, Nat.reduceEqDiff, Nat.reduceLT, Nat.reduceLeDiff, Nat.reduceBEq, Nat.add_zero, Nat.zero_add, Nat.le_refl, Nat.not_lt_zero, Nat.succ_eq_add_one, Int.reduceNatCast, Int.cast_ofNat_Int, Int.reduceSub, Int.reduceMul, Int.reduceNeg, Int.reduceLE, Int.reduceLT, Int.reduceToNat, Int.reduceEq, Int.reduceNe, Int.reduceAdd, Option.some.injEq, kX8_gear, rmX8_gear, ↓ofX8_10, ↓ofX8_74, ↓ocX8_gear_37, ↓spX8_within, ↓ocX8_gear_78, ↓spX0_changeGear, ↓ocX8_gear_55, ↓spX8_forgetLaps, hcar, hcp, G_1, G_2, G_3, G_4, G_35, G_36, G_37, G_38, G_39, G_40, G_41, G_42, G_43, G_44, G_45, G_46, G_47, G_48, G_49, G_140, G_141, G_142, G_143, G_144, G_145, G_146, G_178, G_179, G_180, G_181, G_182, G_183, G_184, G_189, G_198, G_207, PF_1_0, PF_1_1, PF_1_2, PF_1_3, PF_2_0, PF_2_1, PF_2_3, PF_2_4, PF_2_5, PF_2_6, PF_2_7, PF_2_8, PF_2_9, PF_2_10, PF_2_11, PF_3_0, PF_35_0, PF_35_1, PF_35_2, PF_35_3, PF_40_0, PF_40_1, PF_40_2, PF_44_0, PF_44_1, PF_44_2, PF_145_0, PF_145_1, PF_179_0, PF_179_1, PF_179_2, PF_179_3, PF_179_8, PF_179_9, PF_179_10]
  refine ⟨by omega, fun q1 => h1 (by omega), fun q1 => ⟨by omega, fun q2 => h1 (by omega), fun q2 => ⟨by omega, fun q3 => ?_, fun q3 => h1 (by omega)⟩⟩⟩
  obtain ⟨h3, h4⟩ := h2 (by omega)
  refine ⟨by omega, by omega, by omega, by omega, by omega, by omega, fun e1 => h3 e1, fun e J j1 j2 j3 j4 I' k1 k2 k3 k4 => ?_⟩
  have k5 : ∀ c k, 3 ≤ c → c < 40 → I' c k = J c k := fun c k c0 c1 => k1 c k (by omega) (by omega) (by omega)
  have e31 : I' 3 1 = I 3 1 := (k5 3 1 (by omega) (by omega)).trans (j1 _ _ (by omega) (by omega) (by omega))
  have hcJ : carOK J := by
    refine ⟨j4, ?_⟩
    have := x2.2
    unfold nOK at this ⊢
    rw [j1 36 0 (by omega) (by omega) (by omega), j1 36 1 (by omega) (by omega) (by omega), j1 36 2 (by omega) (by omega) (by omega)]
    exact this
  refine h4 e I' (fun c k c0 c1 c2 c3 c4 c5 c6 => by rw [k1 c k (by omega) (by omega) (by omega)]; exact j1 c k c4 c5 c6) ?_ (fun j => by rw [k5 38 j (by omega) (by omega)]; exact j2 j) (fun j => by rw [k5 39 j (by omega) (by omega)]; exact j3 j)
  exact xOK_f hx ⟨by omega, by omega, fun i i0 i1 => stOK_cg (fun k => (k5 _ k (by omega) (by omega)).trans (j1 _ k (by omega) (by omega) (by omega))) (x1.2.2 i i0 (by omega))⟩ (carOK_36 (I := J) (fun c k c0 c1 => k5 c k (by omega) (by omega)) hcJ) k2 k3 k4 (fun c k c0 c1 => (k1 c k (by omega) (by omega) c1).trans (j1 c k (by omega) (by omega) (by omega))) (fun k => (k1 147 k (by omega) (by omega) (by omega)).trans (j1 _ k (by omega) (by omega) (by omega)))
def spX8_set (As : List MV) (σ : MS) (K : Option MV → MS → Prop) : Prop := pR As fun a r => pI r fun w r => pI r fun n r => pN r (a = 1 ∧ σ.2.1 = PF ∧ RI w ∧ RI n ∧ xOK σ.2.2.1 ∧ (¬ setP w n → K (some (.inl (-1000))) σ) ∧ (setP w n →
  (w = 3 → ∀ I' : Int → Int → Int, (∀ c k, 3 ≤ c → ¬ (40 ≤ c ∧ c ≤ 178) → ¬ (182 ≤ c ∧ c ≤ 207) → ¬ (c = 179 ∧ k ≠ 4 ∧ k ≠ 5) → ¬ (c = 179 ∧ k = 4) → I' c k = σ.2.2.1 c k) → xOK I' → I' 179 4 = n → K (some (.inl (σ.2.2.1 179 4))) (σ.1, σ.2.1, I', σ.2.2.2)) ∧
  (w ≠ 3 → ∀ I' : Int → Int → Int, (∀ c k, 3 ≤ c → ¬ (40 ≤ c ∧ c ≤ 178) → ¬ (182 ≤ c ∧ c ≤ 207) → ¬ (c = 179 ∧ k ≠ 4 ∧ k ≠ 5) → ¬ (c = 36 ∧ k = w) → I' c k = σ.2.2.1 c k) → xOK I' → I' 36 w = n → K (some (.inl (σ.2.2.1 36 w))) (σ.1, σ.2.1, I', σ.2.2.2))))
def ciX8_set : CI := (3, 8, 0, 0, spX8_set)
def kX8_set (pc : Nat) : List ME := match pc with
  | 0 => [(.iload_n 1, 1, []), (.iload_n 2, 1, []), (.invokestatic 83, 3, []), (.ifCond .ne 7, 3, [12]), (.sipush (-1000), 3, []), (.ireturn, 1, [])]
  | 12 => [(.iload_n 1, 1, []), (.iconst 3, 1, []), (.if_icmp .ne 29, 3, [43]), (.aload_n 0, 1, []), (.getfield 26, 3, []), (.getfield 87, 3, []), (.istore_n 3, 1, []), (.aload_n 0, 1, []), (.getfield 26, 3, []), (.iload_n 2, 1, []), (.putfield 87, 3, []), (.aload_n 0, 1, []), (.getfield 26, 3, []), (.iconst 0, 1, []), (.putfield 90, 3, []), (.iload_n 3, 1, []), (.ireturn, 1, [])]
  | 43 => [(.aload_n 0, 1, []), (.getfield 10, 3, []), (.getfield 74, 3, []), (.getfield 93, 3, []), (.iload_n 1, 1, []), (.iaload, 1, []), (.istore_n 3, 1, []), (.aload_n 0, 1, []), (.getfield 10, 3, []), (.getfield 74, 3, []), (.getfield 93, 3, []), (.iload_n 1, 1, []), (.iload_n 2, 1, []), (.iastore, 1, []), (.iload_n 1, 1, []), (.ifCond .ne 14, 3, [84]), (.aload_n 0, 1, []), (.getfield 10, 3, []), (.iconst 0, 1, []), (.putfield 97, 3, []), (.goto 7, 3, [88])]
  | 84 => [(.aload_n 0, 1, []), (.invokevirtual 55, 3, [])]
  | 88 => [(.iload_n 3, 1, []), (.ireturn, 1, [])]
  | _ => []
theorem qX8_set : ∀ pc, chk cX8_set pc (kX8_set pc) = true := by
  intro pc
  unfold kX8_set
  split <;> first | decide +kernel | exact chk_nil
abbrev rmX8_set : Room := { frames := 3, cells := 0, slots := 0, locals := 63 }
def aX8_set (x : Nat) : Option CI := match x with
  | 83 => some ciX8_settable
  | 55 => some ciX8_forgetLaps
  | _ => none
theorem aokX8_set : ∀ x ci, aX8_set x = some ci → CalOK RX8 rmX8_set x ci := by
  intro x ci h
  unfold aX8_set at h
  split at h
  · cases h; exact cal_S mX8_settable rfl (List.forall_mem_cons.mpr ⟨(ws_mem (List.mem_of_getElem? (i := 406) (by decide +kernel)) (by decide +kernel)), List.forall_mem_cons.mpr ⟨(ws_mem (List.mem_of_getElem? (i := 407) (by decide +kernel)) (by decide +kernel)), List.forall_mem_cons.mpr ⟨(ws_mem (List.mem_of_getElem? (i := 53) (by decide +kernel)) (by decide +kernel)), List.forall_mem_cons.mpr ⟨(ws_mem (List.mem_of_getElem? (i := 408) (by decide +kernel)) (by decide +kernel)), fun _ h => absurd h List.not_mem_nil⟩⟩⟩⟩) rfl (by unfold nice; decide +kernel) (by unfold rfits; decide) ⟨rfl, rfl⟩
  · cases h; exact cal_V mX8_forgetLaps (by decide) rfl (List.forall_mem_cons.mpr ⟨(ws_mem (List.mem_of_getElem? (i := 370) (by decide +kernel)) (by decide +kernel)), List.forall_mem_cons.mpr ⟨(ws_mem (List.mem_of_getElem? (i := 372) (by decide +kernel)) (by decide +kernel)), List.forall_mem_cons.mpr ⟨(ws_mem (List.mem_of_getElem? (i := 2) (by decide +kernel)) (by decide +kernel)), List.forall_mem_cons.mpr ⟨(ws_mem (List.mem_of_getElem? (i := 53) (by decide +kernel)) (by decide +kernel)), List.forall_mem_cons.mpr ⟨(ws_mem (List.mem_of_getElem? (i := 373) (by decide +kernel)) (by decide +kernel)), fun _ h => absurd h List.not_mem_nil⟩⟩⟩⟩⟩) rfl (by unfold nice; decide +kernel) (by unfold rfits; decide) ⟨rfl, rfl⟩
  · cases h
theorem ocX8_set_83 (f : Nat → Nat → Nat → Nat → (List MV → MS → (Option MV → MS → Prop) → Prop) → Prop) : oC aX8_set 83 f = f 2 10 0 0 spX8_settable := propext Iff.rfl
theorem ocX8_set_55 (f : Nat → Nat → Nat → Nat → (List MV → MS → (Option MV → MS → Prop) → Prop) → Prop) : oC aX8_set 55 f = f 1 8 0 0 spX8_forgetLaps := propext Iff.rfl
theorem mdX8_set : MD RX8 cX8_set rmX8_set kX8_set fX8 aX8_set zX8 uX8 := ⟨fokX8, zokX8, uokX8, aokX8_set, qX8_set⟩
set_option maxRecDepth 100000 in
set_option maxHeartbeats 800000 in
theorem mX8_set : MOK yX8_set cX8_set 4 (some .int) rmX8_set ciX8_set := by
  refine mok_of (ini := false) (by decide +kernel) (by decide) rfl rfl ?_
  intro σ As K hrc hl h
  obtain ⟨N, P, I, L⟩ := σ
  have h9 := pR_iff.mp h
  clear h
  obtain ⟨a, r, e9, h⟩ := h9
  subst e9
  have h9 := pI_iff.mp h
  clear h
  obtain ⟨w, r, e9, h⟩ := h9
  subst e9
  have h9 := pI_iff.mp h
  clear h
  obtain ⟨n, r, e9, h⟩ := h9
  subst e9
  have h9 := pN_iff.mp h
  clear h
  obtain ⟨e9, h⟩ := h9
  subst e9
  dsimp only at h
  obtain ⟨rfl, rfl, hw, hn, hx, h1, h2⟩ := h
  unfold RI at hw hn
  have hx' := hx
  obtain ⟨x1, x2, x3, x4, x5, x6, x7⟩ := hx'
  have y1 := x1.1
  have y2 := x1.2.1
  have hnn := x2.2
  unfold nOK at hnn
  refine ⟨Nat.le_of_ble_eq_true rfl, Ok.seg mdX8_set [] 60 ?_⟩
  simp only [wp_nil, wp_cons, ↓stp, ↓lI, ↓lL, ↓lR, ↓lIn_0, ↓lIn_1, ↓lIn_2, ↓lIn_3, ↓lLn_0, ↓lLn_1, ↓lLn_2, ↓lLn_3, ↓lRn_0, ↓lRn_1, ↓lRn_2, ↓lRn_3, ↓pI, ↓pL, ↓pR, ↓pA, ↓pN, ↓pV, ↓fp, ↓tsw, ↓oS, ↓spMax, ↓spMin, ↓spAbs, ↓spObj, RI, RLg, b2i_lo, b2i_hi, getL, setL, ltL, killL, isLong, inl, cnd, br, tgt, rcv, rpl, mputI, mputL, mputP, fv, fr, mcat, mcs, entL, entA, rfit, nf_0, nf_1, nf_2, nf_3, nf2_0, nf2_1, b2i_0, b2i_1, RI_b2i, b2i_fit, List.append, List.length, List.replicate, List.cons_append, List.nil_append, List.length_cons, List.length_nil, List.replicate_succ, List.replicate_zero, List.tail_cons, reduceIte, if_true, if_false, ite_true, ite_false, Bool.false_eq_true, true_and, and_true, and_self, false_and, and_false, or_self, or_true, true_or, or_false, false_or, not_true_eq_false, not_false_eq_true, ne_eq, forall_const, implies_true, imp_self, true_implies, false_implies, Nat.reduceAdd, Nat.reduceSub, Nat.reduceMul, Nat.reduceDiv, Nat.reduceMod, Nat.reduceEqDiff, Nat.reduceLT, Nat.reduceLeDiff, Nat.reduceBEq, Nat.add_zero, Nat.zero_add, Nat.le_refl, Nat.not_lt_zero, Nat.succ_eq_add_one, Int.reduceNatCast, Int.cast_ofNat_Int, Int.reduceSub, Int.reduceMul, Int.reduceNeg, Int.reduceLE, Int.reduceLT, Int.reduceToNat, Int.reduceEq, Int.reduceNe, Int.reduceAdd, Option.some.injEq, kX8_set, rmX8_set, ↓ofX8_10, ↓ofX8_26, ↓ofX8_74, ↓ofX8_87, ↓ofX8_90, ↓ofX8_93, ↓ofX8_97, ↓ocX8_set_83, ↓spX8_settable, ↓ocX8_set_55, ↓spX8_forgetLaps, G_1, G_2, G_3, G_4, G_35, G_36, G_37, G_38, G_39, G_40, G_41, G_42, G_43, G_44, G_45, G_46, G_47, G_48, G_49, G_140, G_141, G_142, G_143, G_144, G_145, G_146, G_178, G_179, G_180, G_181, G_182, G_183, G_184, G_189, G_198, G_207, PF_1_0, PF_1_1, PF_1_2, PF_1_3, PF_2_0, PF_2_1, PF_2_3, PF_2_4, PF_2_5, PF_2_6, PF_2_7, PF_2_8, PF_2_9, PF_2_10, PF_2_11, PF_3_0, PF_35_0, PF_35_1, PF_35_2, PF_35_3, PF_40_0, PF_40_1, PF_40_2, PF_44_0, PF_44_1, PF_44_2, PF_145_0, PF_145_1, PF_179_0, PF_179_1, PF_179_2, PF_179_3, PF_179_8, PF_179_9, PF_179_10]
  refine ⟨by omega, by omega, fun v hv hv2 => ?_⟩
  by_cases hs : setP w n
  · have hv1 := hv2.mpr hs
    subst hv1
    obtain ⟨h3, h4⟩ := h2 hs
    unfold setP at hs
    have uw : ∀ c k, ¬ (c = 36 ∧ k = w) → upI I 36 w n c k = I c k := fun c k hc => if_neg hc
    refine ⟨by omega, fun _ => ⟨by omega, fun q2 => ?_, fun q2 => ?_⟩, fun q => by omega⟩
    · refine ⟨by omega, by omega, by omega, by omega, by omega, fun q3 => ?_, fun q3 => ?_⟩
      · refine fun I' k1 k2 k3 k4 => ?_
        have k5 : ∀ c k, 3 ≤ c → c < 40 → I' c k = upI I 36 w n c k := fun c k c0 c1 => k1 c k (by omega) (by omega) (by omega)
        have e31 : I' 3 1 = I 3 1 := (k5 3 1 (by omega) (by omega)).trans (uw _ _ (by omega))
        refine h4 q2 I' (fun c k c0 c1 c2 c3 c4 => by rw [k1 c k (by omega) (by omega) (by omega)]; exact uw c k c4) ?_ ((k5 36 w (by omega) (by omega)).trans upI_same)
        refine xOK_f hx ⟨by omega, by omega, fun i i0 i1 => stOK_cg (fun k => (k5 _ k (by omega) (by omega)).trans (uw _ k (by omega))) (x1.2.2 i i0 (by omega))⟩ (carOK_36 (I := upI I 36 w n) (fun c k c0 c1 => k5 c k (by omega) (by omega)) ⟨?_, ?_⟩) k2 k3 k4 (fun c k c0 c1 => (k1 c k (by omega) (by omega) c1).trans (uw c k (by omega))) (fun k => (k1 147 k (by omega) (by omega) (by omega)).trans (uw _ k (by omega)))
        · rw [show upI I 36 w n 38 = I 38 from funext fun k => upI_ne (by omega), show upI I 36 w n 39 = I 39 from funext fun k => upI_ne (by omega), show upI I 36 w n 37 = I 37 from funext fun k => upI_ne (by omega)]; exact x2.1
        · unfold nOK
          rcases (show w = 1 ∨ w = 2 by omega) with rfl | rfl
          · rw [upI_nj (show (0 : Int) ≠ 1 by omega), upI_same, upI_nj (show (2 : Int) ≠ 1 by omega)]; omega
          · rw [upI_nj (show (0 : Int) ≠ 2 by omega), upI_same, upI_nj (show (1 : Int) ≠ 2 by omega)]; omega
      · have hw0 : w = 0 := by omega
        subst hw0
        have ue : ∀ c k, ¬ (c = 36 ∧ k = 0) → ¬ (c = 2 ∧ k = 2) → upI (upI I 36 0 n) 2 2 0 c k = I c k := fun c k hc hd => (if_neg hd).trans (if_neg hc)
        have ts : tsame I (upI (upI I 36 0 n) 2 2 0) := ⟨ue _ _ (by omega) (by omega), fun i k _ _ _ _ => ue _ _ (by omega) (by omega), fun k => ue _ _ (by omega) (by omega), fun k => ue _ _ (by omega) (by omega)⟩
        have e1 : upI (upI I 36 0 n) 2 2 0 36 1 = I 36 1 := ue _ _ (by omega) (by omega)
        have e2 : upI (upI I 36 0 n) 2 2 0 36 2 = I 36 2 := ue _ _ (by omega) (by omega)
        have e0 : upI (upI I 36 0 n) 2 2 0 36 0 = n := (if_neg (by omega)).trans upI_same
        have e31 := ts.1
        refine h4 q2 _ (fun c k c0 c1 c2 c3 c4 => ue c k c4 (by omega)) ⟨⟨by omega, by omega, fun i i0 i1 => stOK_cg (fun k => ue _ k (by omega) (by omega)) (x1.2.2 i i0 (by omega))⟩, ⟨?_, ?_⟩, capOK_ts ts e1 e2 (fun k => ue _ _ (by omega) (by omega)) x3, .inl upI_same, raceOK_ts ts e1 e2 (fun b k _ _ => ue _ _ (by omega) (by omega)) x5, fun k k0 k1 => by rw [ue _ _ (by omega) (by omega)]; exact x6 k k0 k1, fun b hb => shOK_cg (fun c k c0 _ => ue _ _ (by obtain ⟨d, d0, d1, rfl⟩ := hb; omega) (by obtain ⟨d, d0, d1, rfl⟩ := hb; omega)) (x7 b hb)⟩ e0
        · rw [show upI (upI I 36 0 n) 2 2 0 38 = I 38 from funext fun k => ue _ _ (by omega) (by omega), show upI (upI I 36 0 n) 2 2 0 39 = I 39 from funext fun k => ue _ _ (by omega) (by omega), show upI (upI I 36 0 n) 2 2 0 37 = I 37 from funext fun k => ue _ _ (by omega) (by omega)]; exact x2.1
        · unfold nOK; rw [e0, e1, e2]; omega
    · have hw3 : w = 3 := by omega
      subst hw3
      have ue : ∀ c k, ¬ (c = 179 ∧ k = 4) → ¬ (c = 179 ∧ k = 6) → upI (upI I 179 4 n) 179 6 0 c k = I c k := fun c k hc hd => (if_neg hd).trans (if_neg hc)
      have e4 : upI (upI I 179 4 n) 179 6 0 179 4 = n := (if_neg (by omega)).trans upI_same
      have lo : c3 I (upI (upI I 179 4 n) 179 6 0) := fun c k c0 c1 => ue _ _ (by omega) (by omega)
      have e6 : upI (upI I 179 4 n) 179 6 0 179 6 = 0 := upI_same
      refine h3 rfl _ (fun c k c0 c1 c2 c3 c4 => ue c k c4 (by omega)) ⟨tOK_c3 lo x1, carOK_c3 lo x2, capOK_c3 lo x1.2.1 (fun k => ue _ _ (by omega) (by omega)) x3, bst_c3 lo x1.2.1 (ue _ _ (by omega) (by omega)) (fun b k b0 b1 => ue _ _ (by omega) (by omega)) x4, ⟨?_, .inl e6, fun t t0 t1 => by rw [ue _ _ (by omega) (by omega)]; exact x5.2.2 t t0 t1⟩, fun k k0 k1 => by rw [ue _ _ (by omega) (by omega)]; exact x6 k k0 k1, fun b hb => shOK_cg (fun c k c0 _ => ue _ _ (by obtain ⟨d, d0, d1, rfl⟩ := hb; omega) (by obtain ⟨d, d0, d1, rfl⟩ := hb; omega)) (x7 b hb)⟩ e4
      unfold raceR
      rw [e4, ue 179 5 (by omega) (by omega)]
      exact ⟨fun t a b => by rw [ue 180 t (by omega) (by omega), ue 181 t (by omega) (by omega)]; exact x5.1.1 t a b, by omega, x5.1.2.2⟩
  · have hv0 : v = 0 := by
      rcases hv with e | e
      · exact e
      · exact (hs (hv2.mp e)).elim
    subst hv0
    exact ⟨by omega, fun q => by omega, fun _ => h1 hs⟩
def spX8_limit (As : List MV) (σ : MS) (K : Option MV → MS → Prop) : Prop := pR As fun a r => pI r fun s r => pI r fun l r => pN r (a = 1 ∧ σ.2.1 = PF ∧ RI s ∧ RI l ∧ xOK σ.2.2.1 ∧ (¬ (0 ≤ s ∧ s < σ.2.2.1 3 1 ∧ 0 ≤ l ∧ l ≤ 2) → K (some (.inl (-1))) σ) ∧ (0 ≤ s ∧ s < σ.2.2.1 3 1 ∧ 0 ≤ l ∧ l ≤ 2 → K (some (.inl (lmv σ.2.2.1 (σ.2.2.1 36 0) s l))) σ))
def ciX8_limit : CI := (3, 8, 0, 0, spX8_limit)
def kX8_limit (pc : Nat) : List ME := match pc with
  | 0 => [(.aload_n 0, 1, []), (.getfield 10, 3, []), (.getfield 41, 3, []), (.iload_n 1, 1, []), (.invokevirtual 61, 3, []), (.ifCond .eq 12, 3, [23]), (.iload_n 2, 1, []), (.iconst 0, 1, []), (.iconst 2, 1, []), (.invokestatic 37, 3, []), (.ifCond .ne 5, 3, [25])]
  | 23 => [(.iconst (-1), 1, []), (.ireturn, 1, [])]
  | 25 => [(.aload_n 0, 1, []), (.getfield 10, 3, []), (.getfield 41, 3, []), (.getfield 65, 3, []), (.iload_n 1, 1, []), (.aaload, 1, []), (.iload_n 2, 1, []), (.aload_n 0, 1, []), (.getfield 10, 3, []), (.getfield 74, 3, []), (.getfield 93, 3, []), (.iconst 0, 1, []), (.iaload, 1, []), (.invokevirtual 101, 3, []), (.ireturn, 1, [])]
  | _ => []
theorem qX8_limit : ∀ pc, chk cX8_limit pc (kX8_limit pc) = true := by
  intro pc
  unfold kX8_limit
  split <;> first | decide +kernel | exact chk_nil
abbrev rmX8_limit : Room := { frames := 2, cells := 0, slots := 0, locals := 44 }
def aX8_limit (x : Nat) : Option CI := match x with
  | 61 => some ciX5_has
  | 37 => some ciX8_within
  | 101 => some ciX3_limitOn
  | _ => none
theorem aokX8_limit : ∀ x ci, aX8_limit x = some ci → CalOK RX8 rmX8_limit x ci := by
  intro x ci h
  unfold aX8_limit at h
  split at h
  · cases h; exact cal_V mX5_has (by decide) rfl (List.forall_mem_cons.mpr ⟨(ws_mem (List.mem_of_getElem? (i := 390) (by decide +kernel)) (by decide +kernel)), List.forall_mem_cons.mpr ⟨(ws_mem (List.mem_of_getElem? (i := 391) (by decide +kernel)) (by decide +kernel)), List.forall_mem_cons.mpr ⟨(ws_mem (List.mem_of_getElem? (i := 392) (by decide +kernel)) (by decide +kernel)), List.forall_mem_cons.mpr ⟨(ws_mem (List.mem_of_getElem? (i := 55) (by decide +kernel)) (by decide +kernel)), List.forall_mem_cons.mpr ⟨(ws_mem (List.mem_of_getElem? (i := 393) (by decide +kernel)) (by decide +kernel)), fun _ h => absurd h List.not_mem_nil⟩⟩⟩⟩⟩) rfl (by unfold nice; decide +kernel) (by unfold rfits; decide) ⟨rfl, rfl⟩
  · cases h; exact cal_S mX8_within rfl (List.forall_mem_cons.mpr ⟨(ws_mem (List.mem_of_getElem? (i := 363) (by decide +kernel)) (by decide +kernel)), List.forall_mem_cons.mpr ⟨(ws_mem (List.mem_of_getElem? (i := 364) (by decide +kernel)) (by decide +kernel)), List.forall_mem_cons.mpr ⟨(ws_mem (List.mem_of_getElem? (i := 53) (by decide +kernel)) (by decide +kernel)), List.forall_mem_cons.mpr ⟨(ws_mem (List.mem_of_getElem? (i := 365) (by decide +kernel)) (by decide +kernel)), fun _ h => absurd h List.not_mem_nil⟩⟩⟩⟩) rfl (by unfold nice; decide +kernel) (by unfold rfits; decide) ⟨rfl, rfl⟩
  · cases h; exact cal_V mX3_limitOn (by decide) rfl (List.forall_mem_cons.mpr ⟨(ws_mem (List.mem_of_getElem? (i := 414) (by decide +kernel)) (by decide +kernel)), List.forall_mem_cons.mpr ⟨(ws_mem (List.mem_of_getElem? (i := 415) (by decide +kernel)) (by decide +kernel)), List.forall_mem_cons.mpr ⟨(ws_mem (List.mem_of_getElem? (i := 416) (by decide +kernel)) (by decide +kernel)), List.forall_mem_cons.mpr ⟨(ws_mem (List.mem_of_getElem? (i := 56) (by decide +kernel)) (by decide +kernel)), List.forall_mem_cons.mpr ⟨(ws_mem (List.mem_of_getElem? (i := 417) (by decide +kernel)) (by decide +kernel)), fun _ h => absurd h List.not_mem_nil⟩⟩⟩⟩⟩) rfl (by unfold nice; decide +kernel) (by unfold rfits; decide) ⟨rfl, rfl⟩
  · cases h
theorem ocX8_limit_61 (f : Nat → Nat → Nat → Nat → (List MV → MS → (Option MV → MS → Prop) → Prop) → Prop) : oC aX8_limit 61 f = f 2 5 0 0 spX5_has := propext Iff.rfl
theorem ocX8_limit_37 (f : Nat → Nat → Nat → Nat → (List MV → MS → (Option MV → MS → Prop) → Prop) → Prop) : oC aX8_limit 37 f = f 3 10 0 0 spX8_within := propext Iff.rfl
theorem ocX8_limit_101 (f : Nat → Nat → Nat → Nat → (List MV → MS → (Option MV → MS → Prop) → Prop) → Prop) : oC aX8_limit 101 f = f 3 3 0 0 spX3_limitOn := propext Iff.rfl
theorem mdX8_limit : MD RX8 cX8_limit rmX8_limit kX8_limit fX8 aX8_limit zX8 uX8 := ⟨fokX8, zokX8, uokX8, aokX8_limit, qX8_limit⟩
set_option maxRecDepth 100000 in
set_option maxHeartbeats 800000 in
theorem mX8_limit : MOK yX8_limit cX8_limit 3 (some .int) rmX8_limit ciX8_limit := by
  refine mok_of (ini := false) (by decide +kernel) (by decide) rfl rfl ?_
  intro σ As K hrc hl h
  obtain ⟨N, P, I, L⟩ := σ
  have h9 := pR_iff.mp h
  clear h
  obtain ⟨a, r, e9, h⟩ := h9
  subst e9
  have h9 := pI_iff.mp h
  clear h
  obtain ⟨s, r, e9, h⟩ := h9
  subst e9
  have h9 := pI_iff.mp h
  clear h
  obtain ⟨l, r, e9, h⟩ := h9
  subst e9
  have h9 := pN_iff.mp h
  clear h
  obtain ⟨e9, h⟩ := h9
  subst e9
  dsimp only at h
  obtain ⟨rfl, rfl, hs, hl2, hx, h1, h2⟩ := h
  unfold RI at hs hl2
  obtain ⟨x1, x2, x3, x4, x5, x6, x7⟩ := hx
  have y1 := x1.1
  have y2 := x1.2.1
  have hnn := x2.2
  unfold nOK at hnn
  by_cases q : 0 ≤ s ∧ s < I 3 1
  · have hp := PF_st (i := s) (by omega) (by omega)
    have hg := G_st (a := 5 + s) (by omega) (by omega)
    have hst := x1.2.2 s q.1 q.2
    refine ⟨Nat.le_of_ble_eq_true rfl, Ok.seg mdX8_limit [] 60 ?_⟩
    simp only [wp_nil, wp_cons, ↓stp, ↓lI, ↓lL, ↓lR, ↓lIn_0, ↓lIn_1, ↓lIn_2, ↓lIn_3, ↓lLn_0, ↓lLn_1, ↓lLn_2, ↓lLn_3, ↓lRn_0, ↓lRn_1, ↓lRn_2, ↓lRn_3, ↓pI, ↓pL, ↓pR, ↓pA, ↓pN, ↓pV, ↓fp, ↓tsw, ↓oS, ↓spMax, ↓spMin, ↓spAbs, ↓spObj, RI, RLg, b2i_lo, b2i_hi, getL, setL, ltL, killL, isLong, inl, cnd, br, tgt, rcv, rpl, mputI, mputL, mputP, fv, fr, mcat, mcs, entL, entA, rfit, nf_0, nf_1, nf_2, nf_3, nf2_0, nf2_1, b2i_0, b2i_1, RI_b2i, b2i_fit, List.append, List.length, List.replicate, List.cons_append, List.nil_append, List.length_cons, List.length_nil, List.replicate_succ, List.replicate_zero, List.tail_cons, reduceIte, if_true, if_false, ite_true, ite_false, Bool.false_eq_true, true_and, and_true, and_self, false_and, and_false, or_self, or_true, true_or, or_false, false_or, not_true_eq_false, not_false_eq_true, ne_eq, forall_const, implies_true, imp_self, true_implies, false_implies, Nat.reduceAdd, Nat.reduceSub, Nat.reduceMul, Nat.reduceDiv, Nat.reduceMod, Nat.reduceEqDiff, Nat.reduceLT, Nat.reduceLeDiff, Nat.reduceBEq, Nat.add_zero, Nat.zero_add, Nat.le_refl, Nat.not_lt_zero, Nat.succ_eq_add_one, Int.reduceNatCast, Int.cast_ofNat_Int, Int.reduceSub, Int.reduceMul, Int.reduceNeg, Int.reduceLE, Int.reduceLT, Int.reduceToNat, Int.reduceEq, Int.reduceNe, Int.reduceAdd, Option.some.injEq, kX8_limit, rmX8_limit, ↓ofX8_10, ↓ofX8_41, ↓ofX8_65, ↓ofX8_74, ↓ofX8_93, ↓ocX8_limit_61, ↓spX5_has, ↓ocX8_limit_37, ↓spX8_within, ↓ocX8_limit_101, ↓spX3_limitOn, hp, hg, q, y1, y2, hst, G_1, G_2, G_3, G_4, G_35, G_36, G_37, G_38, G_39, G_40, G_41, G_42, G_43, G_44, G_45, G_46, G_47, G_48, G_49, G_140, G_141, G_142, G_143, G_144, G_145, G_146, G_178, G_179, G_180, G_181, G_182, G_183, G_184, G_189, G_198, G_207, PF_1_0, PF_1_1, PF_1_2, PF_1_3, PF_2_0, PF_2_1, PF_2_3, PF_2_4, PF_2_5, PF_2_6, PF_2_7, PF_2_8, PF_2_9, PF_2_10, PF_2_11, PF_3_0, PF_35_0, PF_35_1, PF_35_2, PF_35_3, PF_40_0, PF_40_1, PF_40_2, PF_44_0, PF_44_1, PF_44_2, PF_145_0, PF_145_1, PF_179_0, PF_179_1, PF_179_2, PF_179_3, PF_179_8, PF_179_9, PF_179_10]
    refine ⟨by omega, by omega, fun q2 => ?_, fun q2 => h1 (by omega)⟩
    have := h2 ⟨q.1, q.2, by omega, by omega⟩
    repeat refine ⟨by omega, ?_⟩
    exact this
  · refine ⟨Nat.le_of_ble_eq_true rfl, Ok.seg mdX8_limit [] 60 ?_⟩
    simp only [wp_nil, wp_cons, ↓stp, ↓lI, ↓lL, ↓lR, ↓lIn_0, ↓lIn_1, ↓lIn_2, ↓lIn_3, ↓lLn_0, ↓lLn_1, ↓lLn_2, ↓lLn_3, ↓lRn_0, ↓lRn_1, ↓lRn_2, ↓lRn_3, ↓pI, ↓pL, ↓pR, ↓pA, ↓pN, ↓pV, ↓fp, ↓tsw, ↓oS, ↓spMax, ↓spMin, ↓spAbs, ↓spObj, RI, RLg, b2i_lo, b2i_hi, getL, setL, ltL, killL, isLong, inl, cnd, br, tgt, rcv, rpl, mputI, mputL, mputP, fv, fr, mcat, mcs, entL, entA, rfit, nf_0, nf_1, nf_2, nf_3, nf2_0, nf2_1, b2i_0, b2i_1, RI_b2i, b2i_fit, List.append, List.length, List.replicate, List.cons_append, List.nil_append, List.length_cons, List.length_nil, List.replicate_succ, List.replicate_zero, List.tail_cons, reduceIte, if_true, if_false, ite_true, ite_false, Bool.false_eq_true, true_and, and_true, and_self, false_and, and_false, or_self, or_true, true_or, or_false, false_or, not_true_eq_false, not_false_eq_true, ne_eq, forall_const, implies_true, imp_self, true_implies, false_implies, Nat.reduceAdd, Nat.reduceSub, Nat.reduceMul, Nat.reduceDiv, Nat.reduceMod, Nat.reduceEqDiff, Nat.reduceLT, Nat.reduceLeDiff, Nat.reduceBEq, Nat.add_zero, Nat.zero_add, Nat.le_refl, Nat.not_lt_zero, Nat.succ_eq_add_one, Int.reduceNatCast, Int.cast_ofNat_Int, Int.reduceSub, Int.reduceMul, Int.reduceNeg, Int.reduceLE, Int.reduceLT, Int.reduceToNat, Int.reduceEq, Int.reduceNe, Int.reduceAdd, Option.some.injEq, kX8_limit, rmX8_limit, ↓ofX8_10, ↓ofX8_41, ↓ofX8_65, ↓ofX8_74, ↓ofX8_93, ↓ocX8_limit_61, ↓spX5_has, ↓ocX8_limit_37, ↓spX8_within, ↓ocX8_limit_101, ↓spX3_limitOn, q, y1, y2, G_1, G_2, G_3, G_4, G_35, G_36, G_37, G_38, G_39, G_40, G_41, G_42, G_43, G_44, G_45, G_46, G_47, G_48, G_49, G_140, G_141, G_142, G_143, G_144, G_145, G_146, G_178, G_179, G_180, G_181, G_182, G_183, G_184, G_189, G_198, G_207, PF_1_0, PF_1_1, PF_1_2, PF_1_3, PF_2_0, PF_2_1, PF_2_3, PF_2_4, PF_2_5, PF_2_6, PF_2_7, PF_2_8, PF_2_9, PF_2_10, PF_2_11, PF_3_0, PF_35_0, PF_35_1, PF_35_2, PF_35_3, PF_40_0, PF_40_1, PF_40_2, PF_44_0, PF_44_1, PF_44_2, PF_145_0, PF_145_1, PF_179_0, PF_179_1, PF_179_2, PF_179_3, PF_179_8, PF_179_9, PF_179_10]
    exact ⟨by omega, h1 (by omega)⟩
def spX8_reach (As : List MV) (σ : MS) (K : Option MV → MS → Prop) : Prop := pR As fun a r => pI r fun p r => pN r (a = 1 ∧ σ.2.1 = PF ∧ RI p ∧ xOK σ.2.2.1 ∧ (¬ (1 ≤ p ∧ p ≤ 60) → K (some (.inl (-1))) σ) ∧ (1 ≤ p ∧ p ≤ 60 → K (some (.inl (rch (σ.2.2.1 38) (σ.2.2.1 39) p))) σ))
def ciX8_reach : CI := (2, 8, 0, 0, spX8_reach)
def kX8_reach (pc : Nat) : List ME := match pc with
  | 0 => [(.iload_n 1, 1, []), (.iconst 1, 1, []), (.bipush 60, 2, []), (.invokestatic 37, 3, []), (.ifCond .eq 18, 3, [25]), (.aload_n 0, 1, []), (.getfield 10, 3, []), (.getfield 74, 3, []), (.getfield 105, 3, []), (.iload_n 1, 1, []), (.iaload, 1, []), (.goto 4, 3, [26])]
  | 25 => [(.iconst (-1), 1, [])]
  | 26 => [(.ireturn, 1, [])]
  | _ => []
theorem qX8_reach : ∀ pc, chk cX8_reach pc (kX8_reach pc) = true := by
  intro pc
  unfold kX8_reach
  split <;> first | decide +kernel | exact chk_nil
abbrev rmX8_reach : Room := { frames := 1, cells := 0, slots := 0, locals := 22 }
def aX8_reach (x : Nat) : Option CI := match x with
  | 37 => some ciX8_within
  | _ => none
theorem aokX8_reach : ∀ x ci, aX8_reach x = some ci → CalOK RX8 rmX8_reach x ci := by
  intro x ci h
  unfold aX8_reach at h
  split at h
  · cases h; exact cal_S mX8_within rfl (List.forall_mem_cons.mpr ⟨(ws_mem (List.mem_of_getElem? (i := 363) (by decide +kernel)) (by decide +kernel)), List.forall_mem_cons.mpr ⟨(ws_mem (List.mem_of_getElem? (i := 364) (by decide +kernel)) (by decide +kernel)), List.forall_mem_cons.mpr ⟨(ws_mem (List.mem_of_getElem? (i := 53) (by decide +kernel)) (by decide +kernel)), List.forall_mem_cons.mpr ⟨(ws_mem (List.mem_of_getElem? (i := 365) (by decide +kernel)) (by decide +kernel)), fun _ h => absurd h List.not_mem_nil⟩⟩⟩⟩) rfl (by unfold nice; decide +kernel) (by unfold rfits; decide) ⟨rfl, rfl⟩
  · cases h
theorem ocX8_reach_37 (f : Nat → Nat → Nat → Nat → (List MV → MS → (Option MV → MS → Prop) → Prop) → Prop) : oC aX8_reach 37 f = f 3 10 0 0 spX8_within := propext Iff.rfl
theorem mdX8_reach : MD RX8 cX8_reach rmX8_reach kX8_reach fX8 aX8_reach zX8 uX8 := ⟨fokX8, zokX8, uokX8, aokX8_reach, qX8_reach⟩
set_option maxRecDepth 100000 in
set_option maxHeartbeats 800000 in
theorem mX8_reach : MOK yX8_reach cX8_reach 2 (some .int) rmX8_reach ciX8_reach := by
  refine mok_of (ini := false) (by decide +kernel) (by decide) rfl rfl ?_
  intro σ As K hrc hl h
  obtain ⟨N, P, I, L⟩ := σ
  have h9 := pR_iff.mp h
  clear h
  obtain ⟨a, r, e9, h⟩ := h9
  subst e9
  have h9 := pI_iff.mp h
  clear h
  obtain ⟨p, r, e9, h⟩ := h9
  subst e9
  have h9 := pN_iff.mp h
  clear h
  obtain ⟨e9, h⟩ := h9
  subst e9
  dsimp only at h
  obtain ⟨rfl, rfl, hp, hx, h1, h2⟩ := h
  unfold RI at hp
  have hc := hx.2.1.1
  refine ⟨Nat.le_of_ble_eq_true rfl, Ok.seg mdX8_reach [] 60 ?_⟩
  simp only [wp_nil, wp_cons, ↓stp, ↓lI, ↓lL, ↓lR, ↓lIn_0, ↓lIn_1, ↓lIn_2, ↓lIn_3, ↓lLn_0, ↓lLn_1, ↓lLn_2, ↓lLn_3, ↓lRn_0, ↓lRn_1, ↓lRn_2, ↓lRn_3, ↓pI, ↓pL, ↓pR, ↓pA, ↓pN, ↓pV, ↓fp, ↓tsw, ↓oS, ↓spMax, ↓spMin, ↓spAbs, ↓spObj, RI, RLg, b2i_lo, b2i_hi, getL, setL, ltL, killL, isLong, inl, cnd, br, tgt, rcv, rpl, mputI, mputL, mputP, fv, fr, mcat, mcs, entL, entA, rfit, nf_0, nf_1, nf_2, nf_3, nf2_0, nf2_1, b2i_0, b2i_1, RI_b2i, b2i_fit, List.append, List.length, List.replicate, List.cons_append, List.nil_append, List.length_cons, List.length_nil, List.replicate_succ, List.replicate_zero, List.tail_cons, reduceIte, if_true, if_false, ite_true, ite_false, Bool.false_eq_true, true_and, and_true, and_self, false_and, and_false, or_self, or_true, true_or, or_false, false_or, not_true_eq_false, not_false_eq_true, ne_eq, forall_const, implies_true, imp_self, true_implies, false_implies, Nat.reduceAdd, Nat.reduceSub, Nat.reduceMul, Nat.reduceDiv, Nat.reduceMod, Nat.reduceEqDiff, Nat.reduceLT, Nat.reduceLeDiff, Nat.reduceBEq, Nat.add_zero, Nat.zero_add, Nat.le_refl, Nat.not_lt_zero, Nat.succ_eq_add_one, Int.reduceNatCast, Int.cast_ofNat_Int, Int.reduceSub, Int.reduceMul, Int.reduceNeg, Int.reduceLE, Int.reduceLT, Int.reduceToNat, Int.reduceEq, Int.reduceNe, Int.reduceAdd, Option.some.injEq, kX8_reach, rmX8_reach, ↓ofX8_10, ↓ofX8_105, ↓ofX8_74, ↓ocX8_reach_37, ↓spX8_within, G_1, G_2, G_3, G_4, G_35, G_36, G_37, G_38, G_39, G_40, G_41, G_42, G_43, G_44, G_45, G_46, G_47, G_48, G_49, G_140, G_141, G_142, G_143, G_144, G_145, G_146, G_178, G_179, G_180, G_181, G_182, G_183, G_184, G_189, G_198, G_207, PF_1_0, PF_1_1, PF_1_2, PF_1_3, PF_2_0, PF_2_1, PF_2_3, PF_2_4, PF_2_5, PF_2_6, PF_2_7, PF_2_8, PF_2_9, PF_2_10, PF_2_11, PF_3_0, PF_35_0, PF_35_1, PF_35_2, PF_35_3, PF_40_0, PF_40_1, PF_40_2, PF_44_0, PF_44_1, PF_44_2, PF_145_0, PF_145_1, PF_179_0, PF_179_1, PF_179_2, PF_179_3, PF_179_8, PF_179_9, PF_179_10]
  refine ⟨by omega, fun q => h1 q, fun q => ⟨by omega, by omega, ?_⟩⟩
  rw [hc.2 p (by omega) (by omega)]
  exact h2 (by omega)
def spX8_shift (As : List MV) (σ : MS) (K : Option MV → MS → Prop) : Prop := pR As fun a r => pI r fun p r => pN r (a = 1 ∧ σ.2.1 = PF ∧ RI p ∧ xOK σ.2.2.1 ∧ (¬ (1 ≤ p ∧ p ≤ 60) → K (some (.inl (-1))) σ) ∧ (1 ≤ p ∧ p ≤ 60 → K (some (.inl (gear (σ.2.2.1 38) (σ.2.2.1 39) p))) σ))
def ciX8_shift : CI := (2, 8, 0, 0, spX8_shift)
def kX8_shift (pc : Nat) : List ME := match pc with
  | 0 => [(.iload_n 1, 1, []), (.iconst 1, 1, []), (.bipush 60, 2, []), (.invokestatic 37, 3, []), (.ifCond .eq 17, 3, [24]), (.aload_n 0, 1, []), (.getfield 10, 3, []), (.getfield 74, 3, []), (.iload_n 1, 1, []), (.invokevirtual 108, 3, []), (.goto 4, 3, [25])]
  | 24 => [(.iconst (-1), 1, [])]
  | 25 => [(.ireturn, 1, [])]
  | _ => []
theorem qX8_shift : ∀ pc, chk cX8_shift pc (kX8_shift pc) = true := by
  intro pc
  unfold kX8_shift
  split <;> first | decide +kernel | exact chk_nil
abbrev rmX8_shift : Room := { frames := 3, cells := 0, slots := 0, locals := 65 }
def aX8_shift (x : Nat) : Option CI := match x with
  | 37 => some ciX8_within
  | 108 => some ciX0_gearFor
  | _ => none
theorem aokX8_shift : ∀ x ci, aX8_shift x = some ci → CalOK RX8 rmX8_shift x ci := by
  intro x ci h
  unfold aX8_shift at h
  split at h
  · cases h; exact cal_S mX8_within rfl (List.forall_mem_cons.mpr ⟨(ws_mem (List.mem_of_getElem? (i := 363) (by decide +kernel)) (by decide +kernel)), List.forall_mem_cons.mpr ⟨(ws_mem (List.mem_of_getElem? (i := 364) (by decide +kernel)) (by decide +kernel)), List.forall_mem_cons.mpr ⟨(ws_mem (List.mem_of_getElem? (i := 53) (by decide +kernel)) (by decide +kernel)), List.forall_mem_cons.mpr ⟨(ws_mem (List.mem_of_getElem? (i := 365) (by decide +kernel)) (by decide +kernel)), fun _ h => absurd h List.not_mem_nil⟩⟩⟩⟩) rfl (by unfold nice; decide +kernel) (by unfold rfits; decide) ⟨rfl, rfl⟩
  · cases h; exact cal_V mX0_gearFor (by decide) rfl (List.forall_mem_cons.mpr ⟨(ws_mem (List.mem_of_getElem? (i := 435) (by decide +kernel)) (by decide +kernel)), List.forall_mem_cons.mpr ⟨(ws_mem (List.mem_of_getElem? (i := 436) (by decide +kernel)) (by decide +kernel)), List.forall_mem_cons.mpr ⟨(ws_mem (List.mem_of_getElem? (i := 437) (by decide +kernel)) (by decide +kernel)), List.forall_mem_cons.mpr ⟨(ws_mem (List.mem_of_getElem? (i := 57) (by decide +kernel)) (by decide +kernel)), List.forall_mem_cons.mpr ⟨(ws_mem (List.mem_of_getElem? (i := 438) (by decide +kernel)) (by decide +kernel)), fun _ h => absurd h List.not_mem_nil⟩⟩⟩⟩⟩) rfl (by unfold nice; decide +kernel) (by unfold rfits; decide) ⟨rfl, rfl⟩
  · cases h
theorem ocX8_shift_37 (f : Nat → Nat → Nat → Nat → (List MV → MS → (Option MV → MS → Prop) → Prop) → Prop) : oC aX8_shift 37 f = f 3 10 0 0 spX8_within := propext Iff.rfl
theorem ocX8_shift_108 (f : Nat → Nat → Nat → Nat → (List MV → MS → (Option MV → MS → Prop) → Prop) → Prop) : oC aX8_shift 108 f = f 2 0 0 0 spX0_gearFor := propext Iff.rfl
theorem mdX8_shift : MD RX8 cX8_shift rmX8_shift kX8_shift fX8 aX8_shift zX8 uX8 := ⟨fokX8, zokX8, uokX8, aokX8_shift, qX8_shift⟩
set_option maxRecDepth 100000 in
set_option maxHeartbeats 800000 in
theorem mX8_shift : MOK yX8_shift cX8_shift 2 (some .int) rmX8_shift ciX8_shift := by
  refine mok_of (ini := false) (by decide +kernel) (by decide) rfl rfl ?_
  intro σ As K hrc hl h
  obtain ⟨N, P, I, L⟩ := σ
  have h9 := pR_iff.mp h
  clear h
  obtain ⟨a, r, e9, h⟩ := h9
  subst e9
  have h9 := pI_iff.mp h
  clear h
  obtain ⟨p, r, e9, h⟩ := h9
  subst e9
  have h9 := pN_iff.mp h
  clear h
  obtain ⟨e9, h⟩ := h9
  subst e9
  dsimp only at h
  obtain ⟨rfl, rfl, hp, hx, h1, h2⟩ := h
  unfold RI at hp
  have hc := hx.2.1.1
  have hcp : cP PF := ⟨PF_35_0, PF_35_1, PF_35_2, PF_35_3⟩
  refine ⟨Nat.le_of_ble_eq_true rfl, Ok.seg mdX8_shift [] 60 ?_⟩
  simp only [wp_nil, wp_cons, ↓stp, ↓lI, ↓lL, ↓lR, ↓lIn_0, ↓lIn_1, ↓lIn_2, ↓lIn_3, ↓lLn_0, ↓lLn_1, ↓lLn_2, ↓lLn_3, ↓lRn_0, ↓lRn_1, ↓lRn_2, ↓lRn_3, ↓pI, ↓pL, ↓pR, ↓pA, ↓pN, ↓pV, ↓fp, ↓tsw, ↓oS, ↓spMax, ↓spMin, ↓spAbs, ↓spObj, RI, RLg, b2i_lo, b2i_hi, getL, setL, ltL, killL, isLong, inl, cnd, br, tgt, rcv, rpl, mputI, mputL, mputP, fv, fr, mcat, mcs, entL, entA, rfit, nf_0, nf_1, nf_2, nf_3, nf2_0, nf2_1, b2i_0, b2i_1, RI_b2i, b2i_fit, List.append, List.length, List.replicate, List.cons_append, List.nil_append, List.length_cons, List.length_nil, List.replicate_succ, List.replicate_zero, List.tail_cons, reduceIte, if_true, if_false, ite_true, ite_false, Bool.false_eq_true, true_and, and_true, and_self, false_and, and_false, or_self, or_true, true_or, or_false, false_or, not_true_eq_false, not_false_eq_true, ne_eq, forall_const, implies_true, imp_self, true_implies, false_implies, Nat.reduceAdd, Nat.reduceSub, Nat.reduceMul, Nat.reduceDiv, Nat.reduceMod, Nat.reduceEqDiff, Nat.reduceLT, Nat.reduceLeDiff, Nat.reduceBEq, Nat.add_zero, Nat.zero_add, Nat.le_refl, Nat.not_lt_zero, Nat.succ_eq_add_one, Int.reduceNatCast, Int.cast_ofNat_Int, Int.reduceSub, Int.reduceMul, Int.reduceNeg, Int.reduceLE, Int.reduceLT, Int.reduceToNat, Int.reduceEq, Int.reduceNe, Int.reduceAdd, Option.some.injEq, kX8_shift, rmX8_shift, ↓ofX8_10, ↓ofX8_74, ↓ocX8_shift_37, ↓spX8_within, ↓ocX8_shift_108, ↓spX0_gearFor, hc, hcp, G_1, G_2, G_3, G_4, G_35, G_36, G_37, G_38, G_39, G_40, G_41, G_42, G_43, G_44, G_45, G_46, G_47, G_48, G_49, G_140, G_141, G_142, G_143, G_144, G_145, G_146, G_178, G_179, G_180, G_181, G_182, G_183, G_184, G_189, G_198, G_207, PF_1_0, PF_1_1, PF_1_2, PF_1_3, PF_2_0, PF_2_1, PF_2_3, PF_2_4, PF_2_5, PF_2_6, PF_2_7, PF_2_8, PF_2_9, PF_2_10, PF_2_11, PF_3_0, PF_35_0, PF_35_1, PF_35_2, PF_35_3, PF_40_0, PF_40_1, PF_40_2, PF_44_0, PF_44_1, PF_44_2, PF_145_0, PF_145_1, PF_179_0, PF_179_1, PF_179_2, PF_179_3, PF_179_8, PF_179_9, PF_179_10]
  exact ⟨by omega, fun q => h1 q, fun q => ⟨by omega, by omega, h2 (by omega)⟩⟩
/-- the quickest paces of the way that stays on lane l -/
def stayV (I : Int → Int → Int) (l : Int) (q : Int → Int) : Prop := Mx (fun j => lmv I (I 36 0) j l) (rch (I 38) (I 39)) (I 36 1) (I 36 2) (I 3 1) q
def spX8_quickest (As : List MV) (σ : MS) (K : Option MV → MS → Prop) : Prop := pR As fun a r => pI r fun l r => pI r fun s r => pN r (a = 1 ∧ σ.2.1 = PF ∧ RI l ∧ RI s ∧ xOK σ.2.2.1 ∧ (¬ (0 ≤ s ∧ s < σ.2.2.1 3 1 ∧ 0 ≤ l ∧ l ≤ 2) → K (some (.inl (-1))) σ) ∧ (0 ≤ s ∧ s < σ.2.2.1 3 1 ∧ 0 ≤ l ∧ l ≤ 2 → ∀ (I' : Int → Int → Int) (q : Int → Int), frQ σ.2.2.1 I' → xOK I' → stayV σ.2.2.1 l q → K (some (.inl (q s))) (σ.1, σ.2.1, I', σ.2.2.2)))
def ciX8_quickest : CI := (3, 8, 0, 0, spX8_quickest)
def kX8_quickest (pc : Nat) : List ME := match pc with
  | 0 => [(.iload_n 1, 1, []), (.iconst 0, 1, []), (.iconst 2, 1, []), (.invokestatic 37, 3, []), (.ifCond .eq 17, 3, [23]), (.aload_n 0, 1, []), (.getfield 10, 3, []), (.getfield 41, 3, []), (.iload_n 2, 1, []), (.invokevirtual 61, 3, []), (.ifCond .ne 5, 3, [25])]
  | 23 => [(.iconst (-1), 1, []), (.ireturn, 1, [])]
  | 25 => [(.aload_n 0, 1, []), (.getfield 10, 3, []), (.iload_n 1, 1, []), (.invokevirtual 112, 3, []), (.getfield 116, 3, []), (.iload_n 2, 1, []), (.iaload, 1, []), (.ireturn, 1, [])]
  | _ => []
theorem qX8_quickest : ∀ pc, chk cX8_quickest pc (kX8_quickest pc) = true := by
  intro pc
  unfold kX8_quickest
  split <;> first | decide +kernel | exact chk_nil
abbrev rmX8_quickest : Room := { frames := 4, cells := 0, slots := 0, locals := 89 }
def aX8_quickest (x : Nat) : Option CI := match x with
  | 37 => some ciX8_within
  | 61 => some ciX5_has
  | 112 => some ciX7_stayOn
  | _ => none
theorem aokX8_quickest : ∀ x ci, aX8_quickest x = some ci → CalOK RX8 rmX8_quickest x ci := by
  intro x ci h
  unfold aX8_quickest at h
  split at h
  · cases h; exact cal_S mX8_within rfl (List.forall_mem_cons.mpr ⟨(ws_mem (List.mem_of_getElem? (i := 363) (by decide +kernel)) (by decide +kernel)), List.forall_mem_cons.mpr ⟨(ws_mem (List.mem_of_getElem? (i := 364) (by decide +kernel)) (by decide +kernel)), List.forall_mem_cons.mpr ⟨(ws_mem (List.mem_of_getElem? (i := 53) (by decide +kernel)) (by decide +kernel)), List.forall_mem_cons.mpr ⟨(ws_mem (List.mem_of_getElem? (i := 365) (by decide +kernel)) (by decide +kernel)), fun _ h => absurd h List.not_mem_nil⟩⟩⟩⟩) rfl (by unfold nice; decide +kernel) (by unfold rfits; decide) ⟨rfl, rfl⟩
  · cases h; exact cal_V mX5_has (by decide) rfl (List.forall_mem_cons.mpr ⟨(ws_mem (List.mem_of_getElem? (i := 390) (by decide +kernel)) (by decide +kernel)), List.forall_mem_cons.mpr ⟨(ws_mem (List.mem_of_getElem? (i := 391) (by decide +kernel)) (by decide +kernel)), List.forall_mem_cons.mpr ⟨(ws_mem (List.mem_of_getElem? (i := 392) (by decide +kernel)) (by decide +kernel)), List.forall_mem_cons.mpr ⟨(ws_mem (List.mem_of_getElem? (i := 55) (by decide +kernel)) (by decide +kernel)), List.forall_mem_cons.mpr ⟨(ws_mem (List.mem_of_getElem? (i := 393) (by decide +kernel)) (by decide +kernel)), fun _ h => absurd h List.not_mem_nil⟩⟩⟩⟩⟩) rfl (by unfold nice; decide +kernel) (by unfold rfits; decide) ⟨rfl, rfl⟩
  · cases h; exact cal_V mX7_stayOn (by decide) rfl (List.forall_mem_cons.mpr ⟨(ws_mem (List.mem_of_getElem? (i := 443) (by decide +kernel)) (by decide +kernel)), List.forall_mem_cons.mpr ⟨(ws_mem (List.mem_of_getElem? (i := 444) (by decide +kernel)) (by decide +kernel)), List.forall_mem_cons.mpr ⟨(ws_mem (List.mem_of_getElem? (i := 445) (by decide +kernel)) (by decide +kernel)), List.forall_mem_cons.mpr ⟨(ws_mem (List.mem_of_getElem? (i := 54) (by decide +kernel)) (by decide +kernel)), List.forall_mem_cons.mpr ⟨(ws_mem (List.mem_of_getElem? (i := 446) (by decide +kernel)) (by decide +kernel)), fun _ h => absurd h List.not_mem_nil⟩⟩⟩⟩⟩) rfl (by unfold nice; decide +kernel) (by unfold rfits; decide) ⟨rfl, rfl⟩
  · cases h
theorem ocX8_quickest_37 (f : Nat → Nat → Nat → Nat → (List MV → MS → (Option MV → MS → Prop) → Prop) → Prop) : oC aX8_quickest 37 f = f 3 10 0 0 spX8_within := propext Iff.rfl
theorem ocX8_quickest_61 (f : Nat → Nat → Nat → Nat → (List MV → MS → (Option MV → MS → Prop) → Prop) → Prop) : oC aX8_quickest 61 f = f 2 5 0 0 spX5_has := propext Iff.rfl
theorem ocX8_quickest_112 (f : Nat → Nat → Nat → Nat → (List MV → MS → (Option MV → MS → Prop) → Prop) → Prop) : oC aX8_quickest 112 f = f 2 7 0 0 spX7_stayOn := propext Iff.rfl
theorem mdX8_quickest : MD RX8 cX8_quickest rmX8_quickest kX8_quickest fX8 aX8_quickest zX8 uX8 := ⟨fokX8, zokX8, uokX8, aokX8_quickest, qX8_quickest⟩
/-- what stayOn leaves -/
theorem stay_of {I J : Int → Int → Int} {l : Int} (ht : tOK I) (hc : carOK I) (h1 : ∀ b j, (b < 44 ∨ 47 < b) → J b j = I b j) (h2 : ∀ i, 0 ≤ i → i < 30 → J 45 i = l) (h3 : ∀ i, 0 ≤ i → i < I 3 1 → J 46 i = wqp J 44 i ∧ J 47 i = wtm J 44 i) : stayV I l (J 46) ∧ (∀ i, 0 ≤ i → i < I 3 1 → wtm J 44 i = tmv (I (5 + i) 1) 0 (J 46 i)) := by
  have lo : c3 I J := fun b k b0 b1 => h1 b k (by omega)
  have hn := hc.2
  unfold nOK at hn
  have ht2 := ht.2.1
  have htJ := tOK_c3 lo ht
  have hcJ := carOK_c3 lo hc
  have e36 : J 36 = I 36 := funext fun j => lo _ j (by omega) (by omega)
  have e38 : J 38 = I 38 := funext fun j => lo _ j (by omega) (by omega)
  have e39 : J 39 = I 39 := funext fun j => lo _ j (by omega) (by omega)
  have e31 : J 3 1 = I 3 1 := lo _ _ (by omega) (by omega)
  have mx : Mx (wlim J 44 (J 36 0)) (rch (J 38) (J 39)) (J 36 1) (J 36 2) (J 3 1) (wqp J 44) := qp_Mx (wlim_rng J 44 _) (fun p _ p1 => rch_rng hcJ.1.1 p1) rch_m2 (by rw [e36]; omega) (by rw [e36]; omega)
  rw [e36, e38, e39, e31] at mx
  refine ⟨mx.cg (fun i i0 i1 => ?_) (fun i i0 i1 => (h3 i i0 i1).1.symm), fun i i0 i1 => ?_⟩
  · show lim (J (5 + i) 0) (J (5 + i) 2) (J (5 + i) 3) (J (44 + 1) i) (I 36 0) = _
    rw [show (44 : Int) + 1 = 45 by rfl, h2 i i0 (by omega), lo _ 0 (by omega) (by omega), lo _ 2 (by omega) (by omega), lo _ 3 (by omega) (by omega)]
    rfl
  · unfold wtm
    rw [lo _ 1 (by omega) (by omega), (h3 i i0 i1).1, show chgI J 44 i = 0 by
      unfold chgI
      rw [if_neg]
      rintro ⟨a, b⟩
      rw [show (44 : Int) + 1 = 45 by rfl, h2 i i0 (by omega), h2 (i - 1) (by omega) (by omega)] at b
      exact b rfl]
set_option maxRecDepth 100000 in
set_option maxHeartbeats 800000 in
theorem mX8_quickest : MOK yX8_quickest cX8_quickest 3 (some .int) rmX8_quickest ciX8_quickest := by
  refine mok_of (ini := false) (by decide +kernel) (by decide) rfl rfl ?_
  intro σ As K hrc hl h
  obtain ⟨N, P, I, L⟩ := σ
  have h9 := pR_iff.mp h
  clear h
  obtain ⟨a, r, e9, h⟩ := h9
  subst e9
  have h9 := pI_iff.mp h
  clear h
  obtain ⟨l, r, e9, h⟩ := h9
  subst e9
  have h9 := pI_iff.mp h
  clear h
  obtain ⟨s, r, e9, h⟩ := h9
  subst e9
  have h9 := pN_iff.mp h
  clear h
  obtain ⟨e9, h⟩ := h9
  subst e9
  dsimp only at h
  obtain ⟨rfl, rfl, hl2, hs, hx, h1, h2⟩ := h
  unfold RI at hs hl2
  have hx' := hx
  obtain ⟨x1, x2, x3, x4, x5, x6, x7⟩ := hx'
  have y1 := x1.1
  have y2 := x1.2.1
  refine ⟨Nat.le_of_ble_eq_true rfl, Ok.seg mdX8_quickest [] 60 ?_⟩
  simp only [wp_nil, wp_cons, ↓stp, ↓lI, ↓lL, ↓lR, ↓lIn_0, ↓lIn_1, ↓lIn_2, ↓lIn_3, ↓lLn_0, ↓lLn_1, ↓lLn_2, ↓lLn_3, ↓lRn_0, ↓lRn_1, ↓lRn_2, ↓lRn_3, ↓pI, ↓pL, ↓pR, ↓pA, ↓pN, ↓pV, ↓fp, ↓tsw, ↓oS, ↓spMax, ↓spMin, ↓spAbs, ↓spObj, RI, RLg, b2i_lo, b2i_hi, getL, setL, ltL, killL, isLong, inl, cnd, br, tgt, rcv, rpl, mputI, mputL, mputP, fv, fr, mcat, mcs, entL, entA, rfit, nf_0, nf_1, nf_2, nf_3, nf2_0, nf2_1, b2i_0, b2i_1, RI_b2i, b2i_fit, List.append, List.length, List.replicate, List.cons_append, List.nil_append, List.length_cons, List.length_nil, List.replicate_succ, List.replicate_zero, List.tail_cons, reduceIte, if_true, if_false, ite_true, ite_false, Bool.false_eq_true, true_and, and_true, and_self, false_and, and_false, or_self, or_true, true_or, or_false, false_or, not_true_eq_false, not_false_eq_true, ne_eq, forall_const, implies_true, imp_self, true_implies, false_implies, Nat.reduceAdd, Nat.reduceSub, Nat.reduceMul, Nat.reduceDiv, Nat.reduceMod, Nat.reduceEqDiff, Nat.reduceLT, Nat.reduceLeDiff, Nat.reduceBEq, Nat.add_zero, Nat.zero_add, Nat.le_refl, Nat.not_lt_zero, Nat.succ_eq_add_one, Int.reduceNatCast, Int.cast_ofNat_Int, Int.reduceSub, Int.reduceMul, Int.reduceNeg, Int.reduceLE, Int.reduceLT, Int.reduceToNat, Int.reduceEq, Int.reduceNe, Int.reduceAdd, Option.some.injEq, kX8_quickest, rmX8_quickest, ↓ofX8_10, ↓ofX8_116, ↓ofX8_41, ↓ocX8_quickest_37, ↓spX8_within, ↓ocX8_quickest_61, ↓spX5_has, ↓ocX8_quickest_112, ↓spX7_stayOn, x1, x2, y1, y2, G_1, G_2, G_3, G_4, G_35, G_36, G_37, G_38, G_39, G_40, G_41, G_42, G_43, G_44, G_45, G_46, G_47, G_48, G_49, G_140, G_141, G_142, G_143, G_144, G_145, G_146, G_178, G_179, G_180, G_181, G_182, G_183, G_184, G_189, G_198, G_207, PF_1_0, PF_1_1, PF_1_2, PF_1_3, PF_2_0, PF_2_1, PF_2_3, PF_2_4, PF_2_5, PF_2_6, PF_2_7, PF_2_8, PF_2_9, PF_2_10, PF_2_11, PF_3_0, PF_35_0, PF_35_1, PF_35_2, PF_35_3, PF_40_0, PF_40_1, PF_40_2, PF_44_0, PF_44_1, PF_44_2, PF_145_0, PF_145_1, PF_179_0, PF_179_1, PF_179_2, PF_179_3, PF_179_8, PF_179_9, PF_179_10]
  refine ⟨by omega, fun q => h1 (by omega), fun q => ⟨by omega, fun q2 => ⟨by omega, by omega, fun I' k1 k2 k3 k4 => ?_⟩, fun q2 => h1 (by omega)⟩⟩
  refine ⟨by omega, by omega, ?_⟩
  exact h2 (by omega) I' (I' 46) (fun b k b0 b1 b2 b3 => k1 b k (by omega)) (xOK_E hx (fun b k b0 b1 => k1 b k (by omega))) (stay_of x1 x2 k1 k2 k3).1
def spX8_best (As : List MV) (σ : MS) (K : Option MV → MS → Prop) : Prop := pR As fun a r => pI r fun s r => pI r fun w r => pN r (a = 1 ∧ σ.2.1 = PF ∧ RI s ∧ RI w ∧ xOK σ.2.2.1 ∧ (¬ (0 ≤ s ∧ s < σ.2.2.1 3 1 ∧ 0 ≤ w ∧ w ≤ 2) → K (some (.inl (-1))) σ) ∧ (0 ≤ s ∧ s < σ.2.2.1 3 1 ∧ 0 ≤ w ∧ w ≤ 2 → ∀ (I' : Int → Int → Int), frQ σ.2.2.1 I' → xOK I' → bestOK I' → K (some (.inl (if w = 0 then I' 41 s else if w = 1 then I' 42 s else I' 43 s))) (σ.1, σ.2.1, I', σ.2.2.2)))
def ciX8_best : CI := (3, 8, 0, 0, spX8_best)
def kX8_best (pc : Nat) : List ME := match pc with
  | 0 => [(.aload_n 0, 1, []), (.getfield 10, 3, []), (.getfield 41, 3, []), (.iload_n 1, 1, []), (.invokevirtual 61, 3, []), (.ifCond .eq 12, 3, [23]), (.iload_n 2, 1, []), (.iconst 0, 1, []), (.iconst 2, 1, []), (.invokestatic 37, 3, []), (.ifCond .ne 5, 3, [25])]
  | 23 => [(.iconst (-1), 1, []), (.ireturn, 1, [])]
  | 25 => [(.aload_n 0, 1, []), (.getfield 10, 3, []), (.invokevirtual 131, 3, []), (.astore_n 3, 1, []), (.iload_n 2, 1, []), (.ifCond .ne 10, 3, [44]), (.aload_n 3, 1, []), (.getfield 135, 3, []), (.iload_n 1, 1, []), (.iaload, 1, []), (.ireturn, 1, [])]
  | 44 => [(.iload_n 2, 1, []), (.iconst 1, 1, []), (.if_icmp .ne 12, 3, [58]), (.aload_n 3, 1, []), (.getfield 116, 3, []), (.iload_n 1, 1, []), (.iaload, 1, []), (.goto 9, 3, [64])]
  | 58 => [(.aload_n 3, 1, []), (.getfield 138, 3, []), (.iload_n 1, 1, []), (.iaload, 1, [])]
  | 64 => [(.ireturn, 1, [])]
  | _ => []
theorem qX8_best : ∀ pc, chk cX8_best pc (kX8_best pc) = true := by
  intro pc
  unfold kX8_best
  split <;> first | decide +kernel | exact chk_nil
abbrev rmX8_best : Room := { frames := 5, cells := 0, slots := 0, locals := 120 }
def aX8_best (x : Nat) : Option CI := match x with
  | 61 => some ciX5_has
  | 37 => some ciX8_within
  | 131 => some ciX7_bestWay
  | _ => none
theorem aokX8_best : ∀ x ci, aX8_best x = some ci → CalOK RX8 rmX8_best x ci := by
  intro x ci h
  unfold aX8_best at h
  split at h
  · cases h; exact cal_V mX5_has (by decide) rfl (List.forall_mem_cons.mpr ⟨(ws_mem (List.mem_of_getElem? (i := 390) (by decide +kernel)) (by decide +kernel)), List.forall_mem_cons.mpr ⟨(ws_mem (List.mem_of_getElem? (i := 391) (by decide +kernel)) (by decide +kernel)), List.forall_mem_cons.mpr ⟨(ws_mem (List.mem_of_getElem? (i := 392) (by decide +kernel)) (by decide +kernel)), List.forall_mem_cons.mpr ⟨(ws_mem (List.mem_of_getElem? (i := 55) (by decide +kernel)) (by decide +kernel)), List.forall_mem_cons.mpr ⟨(ws_mem (List.mem_of_getElem? (i := 393) (by decide +kernel)) (by decide +kernel)), fun _ h => absurd h List.not_mem_nil⟩⟩⟩⟩⟩) rfl (by unfold nice; decide +kernel) (by unfold rfits; decide) ⟨rfl, rfl⟩
  · cases h; exact cal_S mX8_within rfl (List.forall_mem_cons.mpr ⟨(ws_mem (List.mem_of_getElem? (i := 363) (by decide +kernel)) (by decide +kernel)), List.forall_mem_cons.mpr ⟨(ws_mem (List.mem_of_getElem? (i := 364) (by decide +kernel)) (by decide +kernel)), List.forall_mem_cons.mpr ⟨(ws_mem (List.mem_of_getElem? (i := 53) (by decide +kernel)) (by decide +kernel)), List.forall_mem_cons.mpr ⟨(ws_mem (List.mem_of_getElem? (i := 365) (by decide +kernel)) (by decide +kernel)), fun _ h => absurd h List.not_mem_nil⟩⟩⟩⟩) rfl (by unfold nice; decide +kernel) (by unfold rfits; decide) ⟨rfl, rfl⟩
  · cases h; exact cal_V mX7_bestWay (by decide) rfl (List.forall_mem_cons.mpr ⟨(ws_mem (List.mem_of_getElem? (i := 465) (by decide +kernel)) (by decide +kernel)), List.forall_mem_cons.mpr ⟨(ws_mem (List.mem_of_getElem? (i := 466) (by decide +kernel)) (by decide +kernel)), List.forall_mem_cons.mpr ⟨(ws_mem (List.mem_of_getElem? (i := 467) (by decide +kernel)) (by decide +kernel)), List.forall_mem_cons.mpr ⟨(ws_mem (List.mem_of_getElem? (i := 54) (by decide +kernel)) (by decide +kernel)), List.forall_mem_cons.mpr ⟨(ws_mem (List.mem_of_getElem? (i := 468) (by decide +kernel)) (by decide +kernel)), fun _ h => absurd h List.not_mem_nil⟩⟩⟩⟩⟩) rfl (by unfold nice; decide +kernel) (by unfold rfits; decide) ⟨rfl, rfl⟩
  · cases h
theorem ocX8_best_61 (f : Nat → Nat → Nat → Nat → (List MV → MS → (Option MV → MS → Prop) → Prop) → Prop) : oC aX8_best 61 f = f 2 5 0 0 spX5_has := propext Iff.rfl
theorem ocX8_best_37 (f : Nat → Nat → Nat → Nat → (List MV → MS → (Option MV → MS → Prop) → Prop) → Prop) : oC aX8_best 37 f = f 3 10 0 0 spX8_within := propext Iff.rfl
theorem ocX8_best_131 (f : Nat → Nat → Nat → Nat → (List MV → MS → (Option MV → MS → Prop) → Prop) → Prop) : oC aX8_best 131 f = f 1 7 0 0 spX7_bestWay := propext Iff.rfl
theorem mdX8_best : MD RX8 cX8_best rmX8_best kX8_best fX8 aX8_best zX8 uX8 := ⟨fokX8, zokX8, uokX8, aokX8_best, qX8_best⟩
set_option maxRecDepth 100000 in
set_option maxHeartbeats 800000 in
theorem mX8_best : MOK yX8_best cX8_best 4 (some .int) rmX8_best ciX8_best := by
  refine mok_of (ini := false) (by decide +kernel) (by decide) rfl rfl ?_
  intro σ As K hrc hl h
  obtain ⟨N, P, I, L⟩ := σ
  have h9 := pR_iff.mp h
  clear h
  obtain ⟨a, r, e9, h⟩ := h9
  subst e9
  have h9 := pI_iff.mp h
  clear h
  obtain ⟨s, r, e9, h⟩ := h9
  subst e9
  have h9 := pI_iff.mp h
  clear h
  obtain ⟨w, r, e9, h⟩ := h9
  subst e9
  have h9 := pN_iff.mp h
  clear h
  obtain ⟨e9, h⟩ := h9
  subst e9
  dsimp only at h
  obtain ⟨rfl, rfl, hs, hw, hx, h1, h2⟩ := h
  unfold RI at hs hw
  have hx' := hx
  obtain ⟨x1, x2, x3, x4, x5, x6, x7⟩ := hx'
  have y1 := x1.1
  have y2 := x1.2.1
  refine ⟨Nat.le_of_ble_eq_true rfl, Ok.seg mdX8_best [] 60 ?_⟩
  simp only [wp_nil, wp_cons, ↓stp, ↓lI, ↓lL, ↓lR, ↓lIn_0, ↓lIn_1, ↓lIn_2, ↓lIn_3, ↓lLn_0, ↓lLn_1, ↓lLn_2, ↓lLn_3, ↓lRn_0, ↓lRn_1, ↓lRn_2, ↓lRn_3, ↓pI, ↓pL, ↓pR, ↓pA, ↓pN, ↓pV, ↓fp, ↓tsw, ↓oS, ↓spMax, ↓spMin, ↓spAbs, ↓spObj, RI, RLg, b2i_lo, b2i_hi, getL, setL, ltL, killL, isLong, inl, cnd, br, tgt, rcv, rpl, mputI, mputL, mputP, fv, fr, mcat, mcs, entL, entA, rfit, nf_0, nf_1, nf_2, nf_3, nf2_0, nf2_1, b2i_0, b2i_1, RI_b2i, b2i_fit, List.append, List.length, List.replicate, List.cons_append, List.nil_append, List.length_cons, List.length_nil, List.replicate_succ, List.replicate_zero, List.tail_cons, reduceIte, if_true, if_false, ite_true, ite_false, Bool.false_eq_true, true_and, and_true, and_self, false_and, and_false, or_self, or_true, true_or, or_false, false_or, not_true_eq_false, not_false_eq_true, ne_eq, forall_const, implies_true, imp_self, true_implies, false_implies, Nat.reduceAdd, Nat.reduceSub, Nat.reduceMul, Nat.reduceDiv, Nat.reduceMod, Nat.reduceEqDiff, Nat.reduceLT, Nat.reduceLeDiff, Nat.reduceBEq, Nat.add_zero, Nat.zero_add, Nat.le_refl, Nat.not_lt_zero, Nat.succ_eq_add_one, Int.reduceNatCast, Int.cast_ofNat_Int, Int.reduceSub, Int.reduceMul, Int.reduceNeg, Int.reduceLE, Int.reduceLT, Int.reduceToNat, Int.reduceEq, Int.reduceNe, Int.reduceAdd, Option.some.injEq, kX8_best, rmX8_best, ↓ofX8_10, ↓ofX8_116, ↓ofX8_135, ↓ofX8_138, ↓ofX8_41, ↓ocX8_best_61, ↓spX5_has, ↓ocX8_best_37, ↓spX8_within, ↓ocX8_best_131, ↓spX7_bestWay, x1, x2, x4, y1, y2, G_1, G_2, G_3, G_4, G_35, G_36, G_37, G_38, G_39, G_40, G_41, G_42, G_43, G_44, G_45, G_46, G_47, G_48, G_49, G_140, G_141, G_142, G_143, G_144, G_145, G_146, G_178, G_179, G_180, G_181, G_182, G_183, G_184, G_189, G_198, G_207, PF_1_0, PF_1_1, PF_1_2, PF_1_3, PF_2_0, PF_2_1, PF_2_3, PF_2_4, PF_2_5, PF_2_6, PF_2_7, PF_2_8, PF_2_9, PF_2_10, PF_2_11, PF_3_0, PF_35_0, PF_35_1, PF_35_2, PF_35_3, PF_40_0, PF_40_1, PF_40_2, PF_44_0, PF_44_1, PF_44_2, PF_145_0, PF_145_1, PF_179_0, PF_179_1, PF_179_2, PF_179_3, PF_179_8, PF_179_9, PF_179_10]
  refine ⟨by omega, fun q => h1 (by omega), fun q => ⟨by omega, fun q2 I' k1 k2 k3 => ?_, fun q2 => h1 (by omega)⟩⟩
  have := h2 (by omega) I' k1.q (xOK_B hx k1 (.inr ⟨k3, k2⟩)) k2
  refine ⟨by omega, fun z => ⟨by omega, fun z2 => ?_, fun z2 => ?_⟩, fun z => ?_⟩
  · rw [if_neg z, if_neg z2] at this; exact ⟨by omega, by omega, this⟩
  · rw [if_neg z, if_pos (by omega)] at this; exact ⟨by omega, by omega, this⟩
  · rw [if_pos (by omega)] at this; exact ⟨by omega, by omega, this⟩
def spX8_lap (As : List MV) (σ : MS) (K : Option MV → MS → Prop) : Prop := pR As fun a r => pN r (a = 1 ∧ σ.2.1 = PF ∧ xOK σ.2.2.1 ∧ ∀ (I' : Int → Int → Int) (B : Int), frQ σ.2.2.1 I' → xOK I' → lapT σ.2.2.1 (σ.2.2.1 36 0) (σ.2.2.1 36 1) (σ.2.2.1 36 2) B → K (some (.inr (.inl B))) (σ.1, σ.2.1, I', σ.2.2.2))
def ciX8_lap : CI := (1, 8, 0, 0, spX8_lap)
def kX8_lap (pc : Nat) : List ME := match pc with
  | 0 => [(.aload_n 0, 1, []), (.getfield 10, 3, []), (.invokevirtual 131, 3, []), (.getfield 128, 3, []), (.i2l, 1, []), (.lreturn, 1, [])]
  | _ => []
theorem qX8_lap : ∀ pc, chk cX8_lap pc (kX8_lap pc) = true := by
  intro pc
  unfold kX8_lap
  split <;> first | decide +kernel | exact chk_nil
abbrev rmX8_lap : Room := { frames := 5, cells := 0, slots := 0, locals := 120 }
def aX8_lap (x : Nat) : Option CI := match x with
  | 131 => some ciX7_bestWay
  | _ => none
theorem aokX8_lap : ∀ x ci, aX8_lap x = some ci → CalOK RX8 rmX8_lap x ci := by
  intro x ci h
  unfold aX8_lap at h
  split at h
  · cases h; exact cal_V mX7_bestWay (by decide) rfl (List.forall_mem_cons.mpr ⟨(ws_mem (List.mem_of_getElem? (i := 465) (by decide +kernel)) (by decide +kernel)), List.forall_mem_cons.mpr ⟨(ws_mem (List.mem_of_getElem? (i := 466) (by decide +kernel)) (by decide +kernel)), List.forall_mem_cons.mpr ⟨(ws_mem (List.mem_of_getElem? (i := 467) (by decide +kernel)) (by decide +kernel)), List.forall_mem_cons.mpr ⟨(ws_mem (List.mem_of_getElem? (i := 54) (by decide +kernel)) (by decide +kernel)), List.forall_mem_cons.mpr ⟨(ws_mem (List.mem_of_getElem? (i := 468) (by decide +kernel)) (by decide +kernel)), fun _ h => absurd h List.not_mem_nil⟩⟩⟩⟩⟩) rfl (by unfold nice; decide +kernel) (by unfold rfits; decide) ⟨rfl, rfl⟩
  · cases h
theorem ocX8_lap_131 (f : Nat → Nat → Nat → Nat → (List MV → MS → (Option MV → MS → Prop) → Prop) → Prop) : oC aX8_lap 131 f = f 1 7 0 0 spX7_bestWay := propext Iff.rfl
theorem mdX8_lap : MD RX8 cX8_lap rmX8_lap kX8_lap fX8 aX8_lap zX8 uX8 := ⟨fokX8, zokX8, uokX8, aokX8_lap, qX8_lap⟩
theorem best_lap {I J : Int → Int → Int} (ht : tOK I) (h : c3 I J) (hb : bestOK J) : lapT I (I 36 0) (I 36 1) (I 36 2) (J 40 3) ∧ 0 ≤ J 40 3 ∧ J 40 3 ≤ 3030000 := by
  obtain ⟨B, a, b, c, d⟩ := hb
  rw [show J 36 = I 36 from funext fun k => h _ _ (by omega) (by omega)] at a
  have := (lapT_iff (tsame_c3 h ht.2.1)).mpr a
  rw [d]
  exact ⟨this, lapT_rng ht this⟩
set_option maxRecDepth 100000 in
set_option maxHeartbeats 800000 in
theorem mX8_lap : MOK yX8_lap cX8_lap 1 (some .long) rmX8_lap ciX8_lap := by
  refine mok_of (ini := false) (by decide +kernel) (by decide) rfl rfl ?_
  intro σ As K hrc hl h
  obtain ⟨N, P, I, L⟩ := σ
  have h9 := pR_iff.mp h
  clear h
  obtain ⟨a, r, e9, h⟩ := h9
  subst e9
  have h9 := pN_iff.mp h
  clear h
  obtain ⟨e9, h⟩ := h9
  subst e9
  dsimp only at h
  obtain ⟨rfl, rfl, hx, h⟩ := h
  have hx' := hx
  obtain ⟨x1, x2, x3, x4, x5, x6, x7⟩ := hx'
  refine ⟨Nat.le_of_ble_eq_true rfl, Ok.seg mdX8_lap [] 60 ?_⟩
  simp only [wp_nil, wp_cons, ↓stp, ↓lI, ↓lL, ↓lR, ↓lIn_0, ↓lIn_1, ↓lIn_2, ↓lIn_3, ↓lLn_0, ↓lLn_1, ↓lLn_2, ↓lLn_3, ↓lRn_0, ↓lRn_1, ↓lRn_2, ↓lRn_3, ↓pI, ↓pL, ↓pR, ↓pA, ↓pN, ↓pV, ↓fp, ↓tsw, ↓oS, ↓spMax, ↓spMin, ↓spAbs, ↓spObj, RI, RLg, b2i_lo, b2i_hi, getL, setL, ltL, killL, isLong, inl, cnd, br, tgt, rcv, rpl, mputI, mputL, mputP, fv, fr, mcat, mcs, entL, entA, rfit, nf_0, nf_1, nf_2, nf_3, nf2_0, nf2_1, b2i_0, b2i_1, RI_b2i, b2i_fit, List.append, List.length, List.replicate, List.cons_append, List.nil_append, List.length_cons, List.length_nil, List.replicate_succ, List.replicate_zero, List.tail_cons, reduceIte, if_true, if_false, ite_true, ite_false, Bool.false_eq_true, true_and, and_true, and_self, false_and, and_false, or_self, or_true, true_or, or_false, false_or, not_true_eq_false, not_false_eq_true, ne_eq, forall_const, implies_true, imp_self, true_implies, false_implies, Nat.reduceAdd, Nat.reduceSub, Nat.reduceMul, Nat.reduceDiv, Nat.reduceMod, Nat.reduceEqDiff, Nat.reduceLT, Nat.reduceLeDiff, Nat.reduceBEq, Nat.add_zero, Nat.zero_add, Nat.le_refl, Nat.not_lt_zero, Nat.succ_eq_add_one, Int.reduceNatCast, Int.cast_ofNat_Int, Int.reduceSub, Int.reduceMul, Int.reduceNeg, Int.reduceLE, Int.reduceLT, Int.reduceToNat, Int.reduceEq, Int.reduceNe, Int.reduceAdd, Option.some.injEq, kX8_lap, rmX8_lap, ↓ofX8_10, ↓ofX8_128, ↓ocX8_lap_131, ↓spX7_bestWay, x1, x2, x4, G_1, G_2, G_3, G_4, G_35, G_36, G_37, G_38, G_39, G_40, G_41, G_42, G_43, G_44, G_45, G_46, G_47, G_48, G_49, G_140, G_141, G_142, G_143, G_144, G_145, G_146, G_178, G_179, G_180, G_181, G_182, G_183, G_184, G_189, G_198, G_207, PF_1_0, PF_1_1, PF_1_2, PF_1_3, PF_2_0, PF_2_1, PF_2_3, PF_2_4, PF_2_5, PF_2_6, PF_2_7, PF_2_8, PF_2_9, PF_2_10, PF_2_11, PF_3_0, PF_35_0, PF_35_1, PF_35_2, PF_35_3, PF_40_0, PF_40_1, PF_40_2, PF_44_0, PF_44_1, PF_44_2, PF_145_0, PF_145_1, PF_179_0, PF_179_1, PF_179_2, PF_179_3, PF_179_8, PF_179_9, PF_179_10]
  intro I' k1 k2 k3
  have := best_lap x1 k1.c3 k2
  exact ⟨by omega, h I' _ k1.q (xOK_B hx k1 (.inr ⟨k3, k2⟩)) this.1⟩
def spX8_wants (As : List MV) (σ : MS) (K : Option MV → MS → Prop) : Prop := pR As fun a r => pN r (a = 1 ∧ σ.2.1 = PF ∧ xOK σ.2.2.1 ∧ ∀ (I' : Int → Int → Int) (v : Int), frQ σ.2.2.1 I' → xOK I' → wantV σ.2.2.1 v → K (some (.inl v)) (σ.1, σ.2.1, I', σ.2.2.2))
def ciX8_wants : CI := (1, 8, 0, 0, spX8_wants)
def kX8_wants (pc : Nat) : List ME := match pc with
  | 0 => [(.aload_n 0, 1, []), (.getfield 10, 3, []), (.invokevirtual 146, 3, []), (.ireturn, 1, [])]
  | _ => []
theorem qX8_wants : ∀ pc, chk cX8_wants pc (kX8_wants pc) = true := by
  intro pc
  unfold kX8_wants
  split <;> first | decide +kernel | exact chk_nil
abbrev rmX8_wants : Room := { frames := 5, cells := 0, slots := 0, locals := 128 }
def aX8_wants (x : Nat) : Option CI := match x with
  | 146 => some ciX7_mostWanting
  | _ => none
theorem aokX8_wants : ∀ x ci, aX8_wants x = some ci → CalOK RX8 rmX8_wants x ci := by
  intro x ci h
  unfold aX8_wants at h
  split at h
  · cases h; exact cal_V mX7_mostWanting (by decide) rfl (List.forall_mem_cons.mpr ⟨(ws_mem (List.mem_of_getElem? (i := 521) (by decide +kernel)) (by decide +kernel)), List.forall_mem_cons.mpr ⟨(ws_mem (List.mem_of_getElem? (i := 522) (by decide +kernel)) (by decide +kernel)), List.forall_mem_cons.mpr ⟨(ws_mem (List.mem_of_getElem? (i := 523) (by decide +kernel)) (by decide +kernel)), List.forall_mem_cons.mpr ⟨(ws_mem (List.mem_of_getElem? (i := 54) (by decide +kernel)) (by decide +kernel)), List.forall_mem_cons.mpr ⟨(ws_mem (List.mem_of_getElem? (i := 524) (by decide +kernel)) (by decide +kernel)), fun _ h => absurd h List.not_mem_nil⟩⟩⟩⟩⟩) rfl (by unfold nice; decide +kernel) (by unfold rfits; decide) ⟨rfl, rfl⟩
  · cases h
theorem ocX8_wants_146 (f : Nat → Nat → Nat → Nat → (List MV → MS → (Option MV → MS → Prop) → Prop) → Prop) : oC aX8_wants 146 f = f 1 7 0 0 spX7_mostWanting := propext Iff.rfl
theorem mdX8_wants : MD RX8 cX8_wants rmX8_wants kX8_wants fX8 aX8_wants zX8 uX8 := ⟨fokX8, zokX8, uokX8, aokX8_wants, qX8_wants⟩
set_option maxRecDepth 100000 in
set_option maxHeartbeats 800000 in
theorem mX8_wants : MOK yX8_wants cX8_wants 1 (some .int) rmX8_wants ciX8_wants := by
  refine mok_of (ini := false) (by decide +kernel) (by decide) rfl rfl ?_
  intro σ As K hrc hl h
  obtain ⟨N, P, I, L⟩ := σ
  have h9 := pR_iff.mp h
  clear h
  obtain ⟨a, r, e9, h⟩ := h9
  subst e9
  have h9 := pN_iff.mp h
  clear h
  obtain ⟨e9, h⟩ := h9
  subst e9
  dsimp only at h
  obtain ⟨rfl, rfl, hx, h⟩ := h
  have hx' := hx
  obtain ⟨x1, x2, x3, x4, x5, x6, x7⟩ := hx'
  refine ⟨Nat.le_of_ble_eq_true rfl, Ok.seg mdX8_wants [] 60 ?_⟩
  simp only [wp_nil, wp_cons, ↓stp, ↓lI, ↓lL, ↓lR, ↓lIn_0, ↓lIn_1, ↓lIn_2, ↓lIn_3, ↓lLn_0, ↓lLn_1, ↓lLn_2, ↓lLn_3, ↓lRn_0, ↓lRn_1, ↓lRn_2, ↓lRn_3, ↓pI, ↓pL, ↓pR, ↓pA, ↓pN, ↓pV, ↓fp, ↓tsw, ↓oS, ↓spMax, ↓spMin, ↓spAbs, ↓spObj, RI, RLg, b2i_lo, b2i_hi, getL, setL, ltL, killL, isLong, inl, cnd, br, tgt, rcv, rpl, mputI, mputL, mputP, fv, fr, mcat, mcs, entL, entA, rfit, nf_0, nf_1, nf_2, nf_3, nf2_0, nf2_1, b2i_0, b2i_1, RI_b2i, b2i_fit, List.append, List.length, List.replicate, List.cons_append, List.nil_append, List.length_cons, List.length_nil, List.replicate_succ, List.replicate_zero, List.tail_cons, reduceIte, if_true, if_false, ite_true, ite_false, Bool.false_eq_true, true_and, and_true, and_self, false_and, and_false, or_self, or_true, true_or, or_false, false_or, not_true_eq_false, not_false_eq_true, ne_eq, forall_const, implies_true, imp_self, true_implies, false_implies, Nat.reduceAdd, Nat.reduceSub, Nat.reduceMul, Nat.reduceDiv, Nat.reduceMod, Nat.reduceEqDiff, Nat.reduceLT, Nat.reduceLeDiff, Nat.reduceBEq, Nat.add_zero, Nat.zero_add, Nat.le_refl, Nat.not_lt_zero, Nat.succ_eq_add_one, Int.reduceNatCast, Int.cast_ofNat_Int, Int.reduceSub, Int.reduceMul, Int.reduceNeg, Int.reduceLE, Int.reduceLT, Int.reduceToNat, Int.reduceEq, Int.reduceNe, Int.reduceAdd, Option.some.injEq, kX8_wants, rmX8_wants, ↓ofX8_10, ↓ocX8_wants_146, ↓spX7_mostWanting, x1, x2, G_1, G_2, G_3, G_4, G_35, G_36, G_37, G_38, G_39, G_40, G_41, G_42, G_43, G_44, G_45, G_46, G_47, G_48, G_49, G_140, G_141, G_142, G_143, G_144, G_145, G_146, G_178, G_179, G_180, G_181, G_182, G_183, G_184, G_189, G_198, G_207, PF_1_0, PF_1_1, PF_1_2, PF_1_3, PF_2_0, PF_2_1, PF_2_3, PF_2_4, PF_2_5, PF_2_6, PF_2_7, PF_2_8, PF_2_9, PF_2_10, PF_2_11, PF_3_0, PF_35_0, PF_35_1, PF_35_2, PF_35_3, PF_40_0, PF_40_1, PF_40_2, PF_44_0, PF_44_1, PF_44_2, PF_145_0, PF_145_1, PF_179_0, PF_179_1, PF_179_2, PF_179_3, PF_179_8, PF_179_9, PF_179_10]
  intro I' v k1 k2
  exact h I' v (fun b k b0 b1 b2 b3 => k1 b k (by omega) (by omega) (by omega) (by omega)) (xOK_W hx k1) k2
