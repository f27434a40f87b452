/-! LapBoard: station, undo, base, gear, set, limit, reach, shift -/
def badS (t n b : Int) : Prop := t < 0 ∨ 32 < t ∨ 3 ≤ t % 10 ∨ n < 1 ∨ 99 < n ∨ b < 1 ∨ 60 < b
theorem tmod_e {t : Int} (h : 0 ≤ t) : t.tmod 10 = t % 10 := Int.tmod_eq_emod_of_nonneg h
theorem carOK_36 {I J : Int → Int → Int} (h0 : ∀ b k, 36 ≤ b → b ≤ 39 → J b k = I b k) (h : carOK I) : carOK J := by
  unfold carOK nOK at h ⊢
  rw [show J 36 = I 36 from funext fun j => h0 _ j (by omega) (by omega), show J 37 = I 37 from funext fun j => h0 _ j (by omega) (by omega), show J 38 = I 38 from funext fun j => h0 _ j (by omega) (by omega), show J 39 = I 39 from funext fun j => h0 _ j (by omega) (by omega)]
  exact h
theorem has_b {s n : Int} : (b2i (0 ≤ s ∧ s < n) = 0) = ¬ (0 ≤ s ∧ s < n) := b2i_0
def spX8_station (As : List MV) (σ : MS) (K : Option MV → MS → Prop) : Prop := pR As fun a r => pI r fun t r => pI r fun n r => pI r fun b r => pN r (a = 1 ∧ σ.2.1 = PF ∧ RI t ∧ RI n ∧ RI b ∧ xOK σ.2.2.1 ∧ (badS t n b → K (some (.inl (-1))) σ) ∧ (¬ badS t n b → σ.2.2.1 3 1 = 30 → K (some (.inl (-2))) σ) ∧ (¬ badS t n b → σ.2.2.1 3 1 < 30 →
  ∀ I' : Int → Int → Int, (∀ c k, 3 ≤ c → ¬ (40 ≤ c ∧ c ≤ 178) → ¬ (182 ≤ c ∧ c ≤ 207) → ¬ (c = 179 ∧ k ≠ 4 ∧ k ≠ 5) → c ≠ 5 + σ.2.2.1 3 1 → ¬ (c = 3 ∧ k = 1) → I' c k = σ.2.2.1 c k) → xOK I' → I' (5 + σ.2.2.1 3 1) 0 = t / 10 → I' (5 + σ.2.2.1 3 1) 1 = n → I' (5 + σ.2.2.1 3 1) 2 = b → I' (5 + σ.2.2.1 3 1) 3 = t % 10 → I' (5 + σ.2.2.1 3 1) 4 = 0 → I' 3 1 = σ.2.2.1 3 1 + 1 → K (some (.inl (σ.2.2.1 3 1))) (σ.1, σ.2.1, I', σ.2.2.2)))
def ciX8_station : CI := (4, 8, 0, 0, spX8_station)
def kX8_station (pc : Nat) : List ME := match pc with
  | 0 => [(.iload_n 1, 1, []), (.iconst 0, 1, []), (.bipush 32, 2, []), (.invokestatic 37, 3, []), (.ifCond .eq 11, 3, [18]), (.iload_n 1, 1, []), (.bipush 10, 2, []), (.irem, 1, []), (.iconst 3, 1, []), (.if_icmp .lt 5, 3, [20])]
  | 18 => [(.iconst (-1), 1, []), (.ireturn, 1, [])]
  | 20 => [(.iload_n 2, 1, []), (.iconst 1, 1, []), (.bipush 99, 2, []), (.invokestatic 37, 3, []), (.ifCond .eq 13, 3, [40]), (.iload_n 3, 1, []), (.iconst 1, 1, []), (.bipush 60, 2, []), (.invokestatic 37, 3, []), (.ifCond .ne 5, 3, [42])]
  | 40 => [(.iconst (-1), 1, []), (.ireturn, 1, [])]
  | 42 => [(.aload_n 0, 1, []), (.getfield 10, 3, []), (.getfield 41, 3, []), (.getfield 45, 3, []), (.bipush 30, 2, []), (.if_icmp .lt 6, 3, [60]), (.bipush (-2), 2, []), (.ireturn, 1, [])]
  | 60 => [(.aload_n 0, 1, []), (.getfield 10, 3, []), (.getfield 41, 3, []), (.iload_n 1, 1, []), (.iload_n 2, 1, []), (.iload_n 3, 1, []), (.invokevirtual 51, 3, []), (.aload_n 0, 1, []), (.invokevirtual 55, 3, []), (.aload_n 0, 1, []), (.getfield 10, 3, []), (.getfield 41, 3, []), (.getfield 45, 3, []), (.iconst 1, 1, []), (.isub, 1, []), (.ireturn, 1, [])]
  | _ => []
theorem qX8_station : ∀ pc, chk cX8_station pc (kX8_station pc) = true := by
  intro pc
  unfold kX8_station
  split <;> first | decide +kernel | exact chk_nil
abbrev rmX8_station : Room := { frames := 3, cells := 0, slots := 0, locals := 63 }
def aX8_station (x : Nat) : Option CI := match x with
  | 37 => some ciX8_within
  | 51 => some ciX5_add
  | 55 => some ciX8_forgetLaps
  | _ => none
theorem aokX8_station : ∀ x ci, aX8_station x = some ci → CalOK RX8 rmX8_station x ci := by
  intro x ci h
  unfold aX8_station at h
  split at h
  · cases h; exact cal_S mX8_within rfl (List.forall_mem_cons.mpr ⟨(ws_mem (List.mem_of_getElem? (i := 363) (by decide +kernel)) (by decide +kernel)), List.forall_mem_cons.mpr ⟨(ws_mem (List.mem_of_getElem? (i := 364) (by decide +kernel)) (by decide +kernel)), List.forall_mem_cons.mpr ⟨(ws_mem (List.mem_of_getElem? (i := 53) (by decide +kernel)) (by decide +kernel)), List.forall_mem_cons.mpr ⟨(ws_mem (List.mem_of_getElem? (i := 365) (by decide +kernel)) (by decide +kernel)), fun _ h => absurd h List.not_mem_nil⟩⟩⟩⟩) rfl (by unfold nice; decide +kernel) (by unfold rfits; decide) ⟨rfl, rfl⟩
  · cases h; exact cal_V mX5_add (by decide) rfl (List.forall_mem_cons.mpr ⟨(ws_mem (List.mem_of_getElem? (i := 366) (by decide +kernel)) (by decide +kernel)), List.forall_mem_cons.mpr ⟨(ws_mem (List.mem_of_getElem? (i := 367) (by decide +kernel)) (by decide +kernel)), List.forall_mem_cons.mpr ⟨(ws_mem (List.mem_of_getElem? (i := 368) (by decide +kernel)) (by decide +kernel)), List.forall_mem_cons.mpr ⟨(ws_mem (List.mem_of_getElem? (i := 55) (by decide +kernel)) (by decide +kernel)), List.forall_mem_cons.mpr ⟨(ws_mem (List.mem_of_getElem? (i := 369) (by decide +kernel)) (by decide +kernel)), fun _ h => absurd h List.not_mem_nil⟩⟩⟩⟩⟩) rfl (by unfold nice; decide +kernel) (by unfold rfits; decide) ⟨rfl, rfl⟩
  · cases h; exact cal_V mX8_forgetLaps (by decide) rfl (List.forall_mem_cons.mpr ⟨(ws_mem (List.mem_of_getElem? (i := 370) (by decide +kernel)) (by decide +kernel)), List.forall_mem_cons.mpr ⟨(ws_mem (List.mem_of_getElem? (i := 372) (by decide +kernel)) (by decide +kernel)), List.forall_mem_cons.mpr ⟨(ws_mem (List.mem_of_getElem? (i := 2) (by decide +kernel)) (by decide +kernel)), List.forall_mem_cons.mpr ⟨(ws_mem (List.mem_of_getElem? (i := 53) (by decide +kernel)) (by decide +kernel)), List.forall_mem_cons.mpr ⟨(ws_mem (List.mem_of_getElem? (i := 373) (by decide +kernel)) (by decide +kernel)), fun _ h => absurd h List.not_mem_nil⟩⟩⟩⟩⟩) rfl (by unfold nice; decide +kernel) (by unfold rfits; decide) ⟨rfl, rfl⟩
  · cases h
theorem ocX8_station_37 (f : Nat → Nat → Nat → Nat → (List MV → MS → (Option MV → MS → Prop) → Prop) → Prop) : oC aX8_station 37 f = f 3 10 0 0 spX8_within := propext Iff.rfl
theorem ocX8_station_51 (f : Nat → Nat → Nat → Nat → (List MV → MS → (Option MV → MS → Prop) → Prop) → Prop) : oC aX8_station 51 f = f 4 5 0 0 spX5_add := propext Iff.rfl
theorem ocX8_station_55 (f : Nat → Nat → Nat → Nat → (List MV → MS → (Option MV → MS → Prop) → Prop) → Prop) : oC aX8_station 55 f = f 1 8 0 0 spX8_forgetLaps := propext Iff.rfl
theorem mdX8_station : MD RX8 cX8_station rmX8_station kX8_station fX8 aX8_station zX8 uX8 := ⟨fokX8, zokX8, uokX8, aokX8_station, qX8_station⟩
set_option maxRecDepth 100000 in
set_option maxHeartbeats 800000 in
theorem mX8_station : MOK yX8_station cX8_station 4 (some .int) rmX8_station ciX8_station := by
  refine mok_of (ini := false) (by decide +kernel) (by decide) rfl rfl ?_
  intro σ As K hrc hl h
  obtain ⟨N, P, I, L⟩ := σ
  have h9 := pR_iff.mp h
  clear h
  obtain ⟨a, r, e9, h⟩ := h9
  subst e9
  have h9 := pI_iff.mp h
  clear h
  obtain ⟨t, r, e9, h⟩ := h9
  subst e9
  have h9 := pI_iff.mp h
  clear h
  obtain ⟨n, r, e9, h⟩ := h9
  subst e9
  have h9 := pI_iff.mp h
  clear h
  obtain ⟨b, r, e9, h⟩ := h9
  subst e9
  have h9 := pN_iff.mp h
  clear h
  obtain ⟨e9, h⟩ := h9
  subst e9
  dsimp only at h
  obtain ⟨rfl, rfl, ht, hn, hb, hx, h1, h2, h3⟩ := h
  unfold RI at ht hn hb
  have hx' := hx
  obtain ⟨x1, x2, x3, x4, x5, x6, x7⟩ := hx'
  have y1 := x1.1
  have y2 := x1.2.1
  have fin : ¬ badS t n b → I 3 1 < 30 → ∀ J : Int → Int → Int, (∀ c j, ¬ c = 5 + I 3 1 → ¬ (c = 3 ∧ j = 1) → J c j = I c j) → J (5 + I 3 1) 0 = t / 10 → J (5 + I 3 1) 1 = n → J (5 + I 3 1) 2 = b → J (5 + I 3 1) 3 = t % 10 → J (5 + I 3 1) 4 = 0 → J 3 1 = I 3 1 + 1 → ∀ J2 : Int → Int → Int, (∀ b k, ¬ (b = 2 ∧ k = 2) → ¬ b = 144 → ¬ (b = 179 ∧ k = 6) → J2 b k = J b k) → J2 2 2 = 0 → (∀ k, 0 ≤ k → k < 41 → J2 144 k = -1) → J2 179 6 = 0 → K (some (.inl (J2 3 1 - 1))) (N, PF, J2, L) := fun hg hs J j1 j2 j3 j4 j5 j6 j7 J2 k1 k2 k3 k4 => by
    have k5 : ∀ c k, 3 ≤ c → c < 40 → J2 c k = J c k := fun c k c0 c1 => k1 c k (by omega) (by omega) (by omega)
    unfold badS at hg
    have e31 : J2 3 1 = I 3 1 + 1 := (k5 3 1 (by omega) (by omega)).trans j7
    have hxJ : xOK J2 := by
      refine xOK_f hx ?_ (carOK_36 (I := I) (fun c k c0 c1 => by rw [k5 c k (by omega) (by omega)]; exact j1 c k (by omega) (by omega)) x2) k2 k3 k4 (fun c k c0 c1 => by rw [k1 c k (by omega) (by omega) c1]; exact j1 c k (by omega) (by omega)) (fun k => by rw [k1 147 k (by omega) (by omega) (by omega)]; exact j1 147 k (by omega) (by omega))
      refine ⟨by omega, by omega, fun i i0 i1 => ?_⟩
      · by_cases e : i = I 3 1
        · subst e
          unfold stOK
          rw [k5 _ 0 (by omega) (by omega), k5 _ 1 (by omega) (by omega), k5 _ 2 (by omega) (by omega), k5 _ 3 (by omega) (by omega), k5 _ 4 (by omega) (by omega), j2, j3, j4, j5, j6]
          omega
        · exact stOK_cg (fun k => (k5 _ k (by omega) (by omega)).trans (j1 _ k (by omega) (by omega))) (x1.2.2 i i0 (by omega))
    rw [e31, show I 3 1 + 1 - 1 = I 3 1 by omega]
    exact h3 (by unfold badS; exact hg) hs J2 (fun c k c0 c1 c2 c3 c4 c5 => by rw [k1 c k (by omega) (by omega) (by omega)]; exact j1 c k c4 c5) hxJ (by rw [k5 _ _ (by omega) (by omega)]; exact j2) (by rw [k5 _ _ (by omega) (by omega)]; exact j3) (by rw [k5 _ _ (by omega) (by omega)]; exact j4) (by rw [k5 _ _ (by omega) (by omega)]; exact j5) (by rw [k5 _ _ (by omega) (by omega)]; exact j6) e31
  refine ⟨Nat.le_of_ble_eq_true rfl, Ok.seg mdX8_station [] 60 ?_⟩
  simp only [wp_nil, wp_cons, ↓stp, ↓lI, ↓lL, ↓lR, ↓lIn_0, ↓lIn_1, ↓lIn_2, ↓lIn_3, ↓lLn_0, ↓lLn_1, ↓lLn_2, ↓lLn_3, ↓lRn_0, ↓lRn_1, ↓lRn_2, ↓lRn_3, ↓pI, ↓pL, ↓pR, ↓pA, ↓pN, ↓pV, ↓fp, ↓tsw, ↓oS, ↓spMax, ↓spMin, ↓spAbs, ↓spObj, RI, RLg, b2i_lo, b2i_hi, getL, setL, ltL, killL, isLong, inl, cnd, br, tgt, rcv, rpl, mputI, mputL, mputP, fv, fr, mcat, mcs, entL, entA, rfit, nf_0, nf_1, nf_2, nf_3, nf2_0, nf2_1, b2i_0, b2i_1, RI_b2i, b2i_fit, List.append, List.length, List.replicate, List.cons_append, List.nil_append, List.length_cons, List.length_nil, List.replicate_succ, List.replicate_zero, List.tail_cons, reduceIte, if_true, if_false, ite_true, ite_false, Bool.false_eq_true, true_and, and_true, and_self, false_and, and_false, or_self, or_true, true_or, or_false, false_or, not_true_eq_false, not_false_eq_true, ne_eq, forall_const, implies_true, imp_self, true_implies, false_implies, Nat.reduceAdd, Nat.reduceSub, Nat.reduceMul, Nat.reduceDiv, Nat.reduceMod, Nat.reduceEqDiff, Nat.reduceLT, Nat.reduceLeDiff, Nat.reduceBEq, Nat.add_zero, Nat.zero_add, Nat.le_refl, Nat.not_lt_zero, Nat.succ_eq_add_one, Int.reduceNatCast, Int.cast_ofNat_Int, Int.reduceSub, Int.reduceMul, Int.reduceNeg, Int.reduceLE, Int.reduceLT, Int.reduceToNat, Int.reduceEq, Int.reduceNe, Int.reduceAdd, Option.some.injEq, kX8_station, rmX8_station, ↓ofX8_10, ↓ofX8_41, ↓ofX8_45, ↓ocX8_station_37, ↓spX8_within, ↓ocX8_station_51, ↓spX5_add, ↓ocX8_station_55, ↓spX8_forgetLaps, G_1, G_2, G_3, G_4, G_35, G_36, G_37, G_38, G_39, G_40, G_41, G_42, G_43, G_44, G_45, G_46, G_47, G_48, G_49, G_140, G_141, G_142, G_143, G_144, G_145, G_146, G_178, G_179, G_180, G_181, G_182, G_183, G_184, G_189, G_198, G_207, PF_1_0, PF_1_1, PF_1_2, PF_1_3, PF_2_0, PF_2_1, PF_2_3, PF_2_4, PF_2_5, PF_2_6, PF_2_7, PF_2_8, PF_2_9, PF_2_10, PF_2_11, PF_3_0, PF_35_0, PF_35_1, PF_35_2, PF_35_3, PF_40_0, PF_40_1, PF_40_2, PF_44_0, PF_44_1, PF_44_2, PF_145_0, PF_145_1, PF_179_0, PF_179_1, PF_179_2, PF_179_3, PF_179_8, PF_179_9, PF_179_10]
  have bad : badS t n b → K (some (.inl (-1))) (N, PF, I, L) := h1
  refine ⟨by omega, fun q => bad (by unfold badS; omega), fun q => ?_⟩
  have e := tmod_e (t := t) (by omega)
  rw [e]
  refine ⟨by omega, by omega, fun q1 => ⟨by omega, fun q2 => bad (by unfold badS; omega), fun q2 => ⟨by omega, fun q3 => ⟨by omega, fun q4 => ⟨by omega, by omega, by omega, by omega, ?_⟩, fun q4 => h2 (by unfold badS; omega) (by omega)⟩, fun q3 => bad (by unfold badS; omega)⟩⟩, fun q1 => bad (by unfold badS; omega)⟩
  exact fin (by unfold badS; omega) q4
def spX8_undo (As : List MV) (σ : MS) (K : Option MV → MS → Prop) : Prop := pR As fun a r => pN r (a = 1 ∧ σ.2.1 = PF ∧ xOK σ.2.2.1 ∧ (σ.2.2.1 3 1 = 0 → K (some (.inl (-3))) σ) ∧ (0 < σ.2.2.1 3 1 →
  ∀ I' : Int → Int → Int, (∀ c k, 3 ≤ c → ¬ (40 ≤ c ∧ c ≤ 178) → ¬ (182 ≤ c ∧ c ≤ 207) → ¬ (c = 179 ∧ k ≠ 4 ∧ k ≠ 5) → ¬ (c = 3 ∧ k = 1) → I' c k = σ.2.2.1 c k) → xOK I' → I' 3 1 = σ.2.2.1 3 1 - 1 → K (some (.inl (σ.2.2.1 3 1 - 1))) (σ.1, σ.2.1, I', σ.2.2.2)))
def ciX8_undo : CI := (1, 8, 0, 0, spX8_undo)
def kX8_undo (pc : Nat) : List ME := match pc with
  | 0 => [(.aload_n 0, 1, []), (.getfield 10, 3, []), (.getfield 41, 3, []), (.getfield 45, 3, []), (.iconst 1, 1, []), (.if_icmp .ge 6, 3, [17]), (.bipush (-3), 2, []), (.ireturn, 1, [])]
  | 17 => [(.aload_n 0, 1, []), (.getfield 10, 3, []), (.getfield 41, 3, []), (.invokevirtual 58, 3, []), (.aload_n 0, 1, []), (.invokevirtual 55, 3, []), (.aload_n 0, 1, []), (.getfield 10, 3, []), (.getfield 41, 3, []), (.getfield 45, 3, []), (.ireturn, 1, [])]
  | _ => []
theorem qX8_undo : ∀ pc, chk cX8_undo pc (kX8_undo pc) = true := by
  intro pc
  unfold kX8_undo
  split <;> first | decide +kernel | exact chk_nil
abbrev rmX8_undo : Room := { frames := 3, cells := 0, slots := 0, locals := 63 }
def aX8_undo (x : Nat) : Option CI := match x with
  | 58 => some ciX5_dropLast
  | 55 => some ciX8_forgetLaps
  | _ => none
theorem aokX8_undo : ∀ x ci, aX8_undo x = some ci → CalOK RX8 rmX8_undo x ci := by
  intro x ci h
  unfold aX8_undo at h
  split at h
  · cases h; exact cal_V mX5_dropLast (by decide) rfl (List.forall_mem_cons.mpr ⟨(ws_mem (List.mem_of_getElem? (i := 382) (by decide +kernel)) (by decide +kernel)), List.forall_mem_cons.mpr ⟨(ws_mem (List.mem_of_getElem? (i := 383) (by decide +kernel)) (by decide +kernel)), List.forall_mem_cons.mpr ⟨(ws_mem (List.mem_of_getElem? (i := 384) (by decide +kernel)) (by decide +kernel)), List.forall_mem_cons.mpr ⟨(ws_mem (List.mem_of_getElem? (i := 55) (by decide +kernel)) (by decide +kernel)), List.forall_mem_cons.mpr ⟨(ws_mem (List.mem_of_getElem? (i := 385) (by decide +kernel)) (by decide +kernel)), fun _ h => absurd h List.not_mem_nil⟩⟩⟩⟩⟩) rfl (by unfold nice; decide +kernel) (by unfold rfits; decide) ⟨rfl, rfl⟩
  · cases h; exact cal_V mX8_forgetLaps (by decide) rfl (List.forall_mem_cons.mpr ⟨(ws_mem (List.mem_of_getElem? (i := 370) (by decide +kernel)) (by decide +kernel)), List.forall_mem_cons.mpr ⟨(ws_mem (List.mem_of_getElem? (i := 372) (by decide +kernel)) (by decide +kernel)), List.forall_mem_cons.mpr ⟨(ws_mem (List.mem_of_getElem? (i := 2) (by decide +kernel)) (by decide +kernel)), List.forall_mem_cons.mpr ⟨(ws_mem (List.mem_of_getElem? (i := 53) (by decide +kernel)) (by decide +kernel)), List.forall_mem_cons.mpr ⟨(ws_mem (List.mem_of_getElem? (i := 373) (by decide +kernel)) (by decide +kernel)), fun _ h => absurd h List.not_mem_nil⟩⟩⟩⟩⟩) rfl (by unfold nice; decide +kernel) (by unfold rfits; decide) ⟨rfl, rfl⟩
  · cases h
theorem ocX8_undo_58 (f : Nat → Nat → Nat → Nat → (List MV → MS → (Option MV → MS → Prop) → Prop) → Prop) : oC aX8_undo 58 f = f 1 5 0 0 spX5_dropLast := propext Iff.rfl
theorem ocX8_undo_55 (f : Nat → Nat → Nat → Nat → (List MV → MS → (Option MV → MS → Prop) → Prop) → Prop) : oC aX8_undo 55 f = f 1 8 0 0 spX8_forgetLaps := propext Iff.rfl
theorem mdX8_undo : MD RX8 cX8_undo rmX8_undo kX8_undo fX8 aX8_undo zX8 uX8 := ⟨fokX8, zokX8, uokX8, aokX8_undo, qX8_undo⟩
set_option maxRecDepth 100000 in
set_option maxHeartbeats 800000 in
theorem mX8_undo : MOK yX8_undo cX8_undo 1 (some .int) rmX8_undo ciX8_undo := by
  refine mok_of (ini := false) (by decide +kernel) (by decide) rfl rfl ?_
  intro σ As K hrc hl h
  obtain ⟨N, P, I, L⟩ := σ
  have h9 := pR_iff.mp h
  clear h
  obtain ⟨a, r, e9, h⟩ := h9
  subst e9
  have h9 := pN_iff.mp h
  clear h
  obtain ⟨e9, h⟩ := h9
  subst e9
  dsimp only at h
  obtain ⟨rfl, rfl, hx, h1, h2⟩ := h
  have hx' := hx
  obtain ⟨x1, x2, x3, x4, x5, x6, x7⟩ := hx'
  have y1 := x1.1
  have y2 := x1.2.1
  refine ⟨Nat.le_of_ble_eq_true rfl, Ok.seg mdX8_undo [] 60 ?_⟩
  simp only [wp_nil, wp_cons, ↓stp, ↓lI, ↓lL, ↓lR, ↓lIn_0, ↓lIn_1, ↓lIn_2, ↓lIn_3, ↓lLn_0, ↓lLn_1, ↓lLn_2, ↓lLn_3, ↓lRn_0, ↓lRn_1, ↓lRn_2, ↓lRn_3, ↓pI, ↓pL, ↓pR, ↓pA, ↓pN, ↓pV, ↓fp, ↓tsw, ↓oS, ↓spMax, ↓spMin, ↓spAbs, ↓spObj, RI, RLg, b2i_lo, b2i_hi, getL, setL, ltL, killL, isLong, inl, cnd, br, tgt, rcv, rpl, mputI, mputL, mputP, fv, fr, mcat, mcs, entL, entA, rfit, nf_0, nf_1, nf_2, nf_3, nf2_0, nf2_1, b2i_0, b2i_1, RI_b2i, b2i_fit, List.append, List.length, List.replicate, List.cons_append, List.nil_append, List.length_cons, List.length_nil, List.replicate_succ, List.replicate_zero, List.tail_cons, reduceIte, if_true, if_false, ite_true, ite_false, Bool.false_eq_true, true_and, and_true, and_self, false_and, and_false, or_self, or_true, true_or, or_false, false_or, not_true_eq_false, not_false_eq_true, ne_eq, forall_const, implies_true, imp_self, true_implies, false_implies, Nat.reduceAdd, Nat.reduceSub, Nat.reduceMul, Nat.reduceDiv, Nat.reduceMod, Nat.reduceEqDiff, Nat.reduceLT, Nat.reduceLeDiff, Nat.reduceBEq, Nat.add_zero, Nat.zero_add, Nat.le_refl, Nat.not_lt_zero, Nat.succ_eq_add_one, Int.reduceNatCast, Int.cast_ofNat_Int, Int.reduceSub, Int.reduceMul, Int.reduceNeg, Int.reduceLE, Int.reduceLT, Int.reduceToNat, Int.reduceEq, Int.reduceNe, Int.reduceAdd, Option.some.injEq, kX8_undo, rmX8_undo, ↓ofX8_10, ↓ofX8_41, ↓ofX8_45, ↓ocX8_undo_58, ↓spX5_dropLast, ↓ocX8_undo_55, ↓spX8_forgetLaps, G_1, G_2, G_3, G_4, G_35, G_36, G_37, G_38, G_39, G_40, G_41, G_42, G_43, G_44, G_45, G_46, G_47, G_48, G_49, G_140, G_141, G_142, G_143, G_144, G_145, G_146, G_178, G_179, G_180, G_181, G_182, G_183, G_184, G_189, G_198, G_207, PF_1_0, PF_1_1, PF_1_2, PF_1_3, PF_2_0, PF_2_1, PF_2_3, PF_2_4, PF_2_5, PF_2_6, PF_2_7, PF_2_8, PF_2_9, PF_2_10, PF_2_11, PF_3_0, PF_35_0, PF_35_1, PF_35_2, PF_35_3, PF_40_0, PF_40_1, PF_40_2, PF_44_0, PF_44_1, PF_44_2, PF_145_0, PF_145_1, PF_179_0, PF_179_1, PF_179_2, PF_179_3, PF_179_8, PF_179_9, PF_179_10]
  refine ⟨by omega, fun q => ⟨by omega, by omega, fun I' k1 k2 k3 k4 => ?_⟩, fun q => h1 (by omega)⟩
  have ue : ∀ c k, ¬ (c = 3 ∧ k = 1) → upI I 3 1 (I 3 1 - 1) c k = I c k := fun c k hc => if_neg hc
  have k5 : ∀ c k, 3 ≤ c → c < 40 → I' c k = upI I 3 1 (I 3 1 - 1) c k := fun c k c0 c1 => k1 c k (by omega) (by omega) (by omega)
  have e31 : I' 3 1 = I 3 1 - 1 := (k5 3 1 (by omega) (by omega)).trans upI_same
  rw [e31]
  refine h2 (by omega) I' (fun c k c0 c1 c2 c3 c4 => by rw [k1 c k (by omega) (by omega) (by omega)]; exact ue c k c4) ?_ e31
  refine xOK_f hx ⟨by omega, by omega, fun i i0 i1 => stOK_cg (fun k => (k5 _ k (by omega) (by omega)).trans (ue _ k (by omega))) (x1.2.2 i i0 (by omega))⟩ (carOK_36 (I := I) (fun c k c0 c1 => (k5 c k (by omega) (by omega)).trans (ue c k (by omega))) x2) k2 k3 k4 (fun c k c0 c1 => (k1 c k (by omega) (by omega) c1).trans (ue c k (by omega))) (fun k => (k1 147 k (by omega) (by omega) (by omega)).trans (ue _ k (by omega)))
def spX8_base (As : List MV) (σ : MS) (K : Option MV → MS → Prop) : Prop := pR As fun a r => pI r fun s r => pI r fun b r => pN r (a = 1 ∧ σ.2.1 = PF ∧ RI s ∧ RI b ∧ xOK σ.2.2.1 ∧ (¬ (0 ≤ s ∧ s < σ.2.2.1 3 1 ∧ 1 ≤ b ∧ b ≤ 60) → K (some (.inl (-1))) σ) ∧ (0 ≤ s ∧ s < σ.2.2.1 3 1 ∧ 1 ≤ b ∧ b ≤ 60 →
  ∀ I' : Int → Int → Int, (∀ c k, 3 ≤ c → ¬ (40 ≤ c ∧ c ≤ 178) → ¬ (182 ≤ c ∧ c ≤ 207) → ¬ (c = 179 ∧ k ≠ 4 ∧ k ≠ 5) → ¬ (c = 5 + s ∧ k = 2) → I' c k = σ.2.2.1 c k) → xOK I' → I' (5 + s) 2 = b → K (some (.inl (σ.2.2.1 (5 + s) 2))) (σ.1, σ.2.1, I', σ.2.2.2)))
def ciX8_base : CI := (3, 8, 0, 0, spX8_base)
def kX8_base (pc : Nat) : List ME := match pc with
  | 0 => [(.aload_n 0, 1, []), (.getfield 10, 3, []), (.getfield 41, 3, []), (.iload_n 1, 1, []), (.invokevirtual 61, 3, []), (.ifCond .eq 13, 3, [24]), (.iload_n 2, 1, []), (.iconst 1, 1, []), (.bipush 60, 2, []), (.invokestatic 37, 3, []), (.ifCond .ne 5, 3, [26])]
  | 24 => [(.iconst (-1), 1, []), (.ireturn, 1, [])]
  | 26 => [(.aload_n 0, 1, []), (.getfield 10, 3, []), (.getfield 41, 3, []), (.getfield 65, 3, []), (.iload_n 1, 1, []), (.aaload, 1, []), (.astore_n 3, 1, []), (.aload_n 3, 1, []), (.getfield 69, 3, []), (.istore 4, 2, []), (.aload_n 3, 1, []), (.iload_n 2, 1, []), (.putfield 69, 3, []), (.aload_n 0, 1, []), (.invokevirtual 55, 3, []), (.iload 4, 2, []), (.ireturn, 1, [])]
  | _ => []
theorem qX8_base : ∀ pc, chk cX8_base pc (kX8_base pc) = true := by
  intro pc
  unfold kX8_base
  split <;> first | decide +kernel | exact chk_nil
abbrev rmX8_base : Room := { frames := 3, cells := 0, slots := 0, locals := 63 }
def aX8_base (x : Nat) : Option CI := match x with
  | 61 => some ciX5_has
  | 37 => some ciX8_within
  | 55 => some ciX8_forgetLaps
  | _ => none
theorem aokX8_base : ∀ x ci, aX8_base x = some ci → CalOK RX8 rmX8_base x ci := by
  intro x ci h
  unfold aX8_base at h
  split at h
  · cases h; exact cal_V mX5_has (by decide) rfl (List.forall_mem_cons.mpr ⟨(ws_mem (List.mem_of_getElem? (i := 390) (by decide +kernel)) (by decide +kernel)), List.forall_mem_cons.mpr ⟨(ws_mem (List.mem_of_getElem? (i := 391) (by decide +kernel)) (by decide +kernel)), List.forall_mem_cons.mpr ⟨(ws_mem (List.mem_of_getElem? (i := 392) (by decide +kernel)) (by decide +kernel)), List.forall_mem_cons.mpr ⟨(ws_mem (List.mem_of_getElem? (i := 55) (by decide +kernel)) (by decide +kernel)), List.forall_mem_cons.mpr ⟨(ws_mem (List.mem_of_getElem? (i := 393) (by decide +kernel)) (by decide +kernel)), fun _ h => absurd h List.not_mem_nil⟩⟩⟩⟩⟩) rfl (by unfold nice; decide +kernel) (by unfold rfits; decide) ⟨rfl, rfl⟩
  · cases h; exact cal_S mX8_within rfl (List.forall_mem_cons.mpr ⟨(ws_mem (List.mem_of_getElem? (i := 363) (by decide +kernel)) (by decide +kernel)), List.forall_mem_cons.mpr ⟨(ws_mem (List.mem_of_getElem? (i := 364) (by decide +kernel)) (by decide +kernel)), List.forall_mem_cons.mpr ⟨(ws_mem (List.mem_of_getElem? (i := 53) (by decide +kernel)) (by decide +kernel)), List.forall_mem_cons.mpr ⟨(ws_mem (List.mem_of_getElem? (i := 365) (by decide +kernel)) (by decide +kernel)), fun _ h => absurd h List.not_mem_nil⟩⟩⟩⟩) rfl (by unfold nice; decide +kernel) (by unfold rfits; decide) ⟨rfl, rfl⟩
  · cases h; exact cal_V mX8_forgetLaps (by decide) rfl (List.forall_mem_cons.mpr ⟨(ws_mem (List.mem_of_getElem? (i := 370) (by decide +kernel)) (by decide +kernel)), List.forall_mem_cons.mpr ⟨(ws_mem (List.mem_of_getElem? (i := 372) (by decide +kernel)) (by decide +kernel)), List.forall_mem_cons.mpr ⟨(ws_mem (List.mem_of_getElem? (i := 2) (by decide +kernel)) (by decide +kernel)), List.forall_mem_cons.mpr ⟨(ws_mem (List.mem_of_getElem? (i := 53) (by decide +kernel)) (by decide +kernel)), List.forall_mem_cons.mpr ⟨(ws_mem (List.mem_of_getElem? (i := 373) (by decide +kernel)) (by decide +kernel)), fun _ h => absurd h List.not_mem_nil⟩⟩⟩⟩⟩) rfl (by unfold nice; decide +kernel) (by unfold rfits; decide) ⟨rfl, rfl⟩
  · cases h
theorem ocX8_base_61 (f : Nat → Nat → Nat → Nat → (List MV → MS → (Option MV → MS → Prop) → Prop) → Prop) : oC aX8_base 61 f = f 2 5 0 0 spX5_has := propext Iff.rfl
theorem ocX8_base_37 (f : Nat → Nat → Nat → Nat → (List MV → MS → (Option MV → MS → Prop) → Prop) → Prop) : oC aX8_base 37 f = f 3 10 0 0 spX8_within := propext Iff.rfl
theorem ocX8_base_55 (f : Nat → Nat → Nat → Nat → (List MV → MS → (Option MV → MS → Prop) → Prop) → Prop) : oC aX8_base 55 f = f 1 8 0 0 spX8_forgetLaps := propext Iff.rfl
theorem mdX8_base : MD RX8 cX8_base rmX8_base kX8_base fX8 aX8_base zX8 uX8 := ⟨fokX8, zokX8, uokX8, aokX8_base, qX8_base⟩
set_option maxRecDepth 100000 in
set_option maxHeartbeats 800000 in
theorem mX8_base : MOK yX8_base cX8_base 5 (some .int) rmX8_base ciX8_base := by
  refine mok_of (ini := false) (by decide +kernel) (by decide) rfl rfl ?_
  intro σ As K hrc hl h
  obtain ⟨N, P, I, L⟩ := σ
  have h9 := pR_iff.mp h
  clear h
  obtain ⟨a, r, e9, h⟩ := h9
  subst e9
  have h9 := pI_iff.mp h
  clear h
  obtain ⟨s, r, e9, h⟩ := h9
  subst e9
  have h9 := pI_iff.mp h
  clear h
  obtain ⟨b, r, e9, h⟩ := h9
  subst e9
  have h9 := pN_iff.mp h
  clear h
  obtain ⟨e9, h⟩ := h9
  subst e9
  dsimp only at h
  obtain ⟨rfl, rfl, hs, hb, hx, h1, h2⟩ := h
  unfold RI at hs hb
  have hx' := hx
  obtain ⟨x1, x2, x3, x4, x5, x6, x7⟩ := hx'
  have y1 := x1.1
  have y2 := x1.2.1
  by_cases q : 0 ≤ s ∧ s < I 3 1
  · have hp := PF_st (i := s) (by omega) (by omega)
    have hg := G_st (a := 5 + s) (by omega) (by omega)
    refine ⟨Nat.le_of_ble_eq_true rfl, Ok.seg mdX8_base [] 60 ?_⟩
    simp only [wp_nil, wp_cons, ↓stp, ↓lI, ↓lL, ↓lR, ↓lIn_0, ↓lIn_1, ↓lIn_2, ↓lIn_3, ↓lLn_0, ↓lLn_1, ↓lLn_2, ↓lLn_3, ↓lRn_0, ↓lRn_1, ↓lRn_2, ↓lRn_3, ↓pI, ↓pL, ↓pR, ↓pA, ↓pN, ↓pV, ↓fp, ↓tsw, ↓oS, ↓spMax, ↓spMin, ↓spAbs, ↓spObj, RI, RLg, b2i_lo, b2i_hi, getL, setL, ltL, killL, isLong, inl, cnd, br, tgt, rcv, rpl, mputI, mputL, mputP, fv, fr, mcat, mcs, entL, entA, rfit, nf_0, nf_1, nf_2, nf_3, nf2_0, nf2_1, b2i_0, b2i_1, RI_b2i, b2i_fit, List.append, List.length, List.replicate, List.cons_append, List.nil_append, List.length_cons, List.length_nil, List.replicate_succ, List.replicate_zero, List.tail_cons, reduceIte, if_true, if_false, ite_true, ite_false, Bool.false_eq_true, true_and, and_true, and_self, false_and, and_false, or_self, or_true, true_or, or_false, false_or, not_true_eq_false, not_false_eq_true, ne_eq, forall_const, implies_true, imp_self, true_implies, false_implies, Nat.reduceAdd, Nat.reduceSub, Nat.reduceMul, Nat.reduceDiv, Nat.reduceMod, Nat.reduceEqDiff, Nat.reduceLT, Nat.reduceLeDiff, Nat.reduceBEq, Nat.add_zero, Nat.zero_add, Nat.le_refl, Nat.not_lt_zero, Nat.succ_eq_add_one, Int.reduceNatCast, Int.cast_ofNat_Int, Int.reduceSub, Int.reduceMul, Int.reduceNeg, Int.reduceLE, Int.reduceLT, Int.reduceToNat, Int.reduceEq, Int.reduceNe, Int.reduceAdd, Option.some.injEq, kX8_base, rmX8_base, ↓ofX8_10, ↓ofX8_41, ↓ofX8_65, ↓ofX8_69, ↓ocX8_base_61, ↓spX5_has, ↓ocX8_base_37, ↓spX8_within, ↓ocX8_base_55, ↓spX8_forgetLaps, hp, hg, q, y1, y2, G_1, G_2, G_3, G_4, G_35, G_36, G_37, G_38, G_39, G_40, G_41, G_42, G_43, G_44, G_45, G_46, G_47, G_48, G_49, G_140, G_141, G_142, G_143, G_144, G_145, G_146, G_178, G_179, G_180, G_181, G_182, G_183, G_184, G_189, G_198, G_207, PF_1_0, PF_1_1, PF_1_2, PF_1_3, PF_2_0, PF_2_1, PF_2_3, PF_2_4, PF_2_5, PF_2_6, PF_2_7, PF_2_8, PF_2_9, PF_2_10, PF_2_11, PF_3_0, PF_35_0, PF_35_1, PF_35_2, PF_35_3, PF_40_0, PF_40_1, PF_40_2, PF_44_0, PF_44_1, PF_44_2, PF_145_0, PF_145_1, PF_179_0, PF_179_1, PF_179_2, PF_179_3, PF_179_8, PF_179_9, PF_179_10]
    refine ⟨by omega, by omega, fun q2 => ⟨by omega, fun I' k1 k2 k3 k4 => ?_⟩, fun q2 => h1 (by omega)⟩
    have ue : ∀ c k, ¬ (c = 5 + s ∧ k = 2) → upI I (5 + s) 2 b c k = I c k := fun c k hc => if_neg hc
    have k5 : ∀ c k, 3 ≤ c → c < 40 → I' c k = upI I (5 + s) 2 b c k := fun c k c0 c1 => k1 c k (by omega) (by omega) (by omega)
    have e31 : I' 3 1 = I 3 1 := (k5 3 1 (by omega) (by omega)).trans (ue _ _ (by omega))
    have e2 : I' (5 + s) 2 = b := (k5 _ 2 (by omega) (by omega)).trans upI_same
    refine h2 (by omega) I' (fun c k c0 c1 c2 c3 c4 => by rw [k1 c k (by omega) (by omega) (by omega)]; exact ue c k c4) ?_ e2
    refine xOK_f hx ⟨by omega, by omega, fun i i0 i1 => ?_⟩ (carOK_36 (I := I) (fun c k c0 c1 => (k5 c k (by omega) (by omega)).trans (ue c k (by omega))) x2) k2 k3 k4 (fun c k c0 c1 => (k1 c k (by omega) (by omega) c1).trans (ue c k (by omega))) (fun k => (k1 147 k (by omega) (by omega) (by omega)).trans (ue _ k (by omega)))
    have hst := x1.2.2 i i0 (by omega)
    by_cases e : i = s
    · subst e
      unfold stOK at hst ⊢
      rw [e2, k5 _ 0 (by omega) (by omega), k5 _ 1 (by omega) (by omega), k5 _ 3 (by omega) (by omega), k5 _ 4 (by omega) (by omega), ue _ 0 (by omega), ue _ 1 (by omega), ue _ 3 (by omega), ue _ 4 (by omega)]
      omega
    · exact stOK_cg (fun k => (k5 _ k (by omega) (by omega)).trans (ue _ k (by omega))) hst
  · refine ⟨Nat.le_of_ble_eq_true rfl, Ok.seg mdX8_base [] 60 ?_⟩
    simp only [wp_nil, wp_cons, ↓stp, ↓lI, ↓lL, ↓lR, ↓lIn_0, ↓lIn_1, ↓lIn_2, ↓lIn_3, ↓lLn_0, ↓lLn_1, ↓lLn_2, ↓lLn_3, ↓lRn_0, ↓lRn_1, ↓lRn_2, ↓lRn_3, ↓pI, ↓pL, ↓pR, ↓pA, ↓pN, ↓pV, ↓fp, ↓tsw, ↓oS, ↓spMax, ↓spMin, ↓spAbs, ↓spObj, RI, RLg, b2i_lo, b2i_hi, getL, setL, ltL, killL, isLong, inl, cnd, br, tgt, rcv, rpl, mputI, mputL, mputP, fv, fr, mcat, mcs, entL, entA, rfit, nf_0, nf_1, nf_2, nf_3, nf2_0, nf2_1, b2i_0, b2i_1, RI_b2i, b2i_fit, List.append, List.length, List.replicate, List.cons_append, List.nil_append, List.length_cons, List.length_nil, List.replicate_succ, List.replicate_zero, List.tail_cons, reduceIte, if_true, if_false, ite_true, ite_false, Bool.false_eq_true, true_and, and_true, and_self, false_and, and_false, or_self, or_true, true_or, or_false, false_or, not_true_eq_false, not_false_eq_true, ne_eq, forall_const, implies_true, imp_self, true_implies, false_implies, Nat.reduceAdd, Nat.reduceSub, Nat.reduceMul, Nat.reduceDiv, Nat.reduceMod, Nat.reduceEqDiff, Nat.reduceLT, Nat.reduceLeDiff, Nat.reduceBEq, Nat.add_zero, Nat.zero_add, Nat.le_refl, Nat.not_lt_zero, Nat.succ_eq_add_one, Int.reduceNatCast, Int.cast_ofNat_Int, Int.reduceSub, Int.reduceMul, Int.reduceNeg, Int.reduceLE, Int.reduceLT, Int.reduceToNat, Int.reduceEq, Int.reduceNe, Int.reduceAdd, Option.some.injEq, kX8_base, rmX8_base, ↓ofX8_10, ↓ofX8_41, ↓ofX8_65, ↓ofX8_69, ↓ocX8_base_61, ↓spX5_has, ↓ocX8_base_37, ↓spX8_within, ↓ocX8_base_55, ↓spX8_forgetLaps, q, y1, y2, G_1, G_2, G_3, G_4, G_35, G_36, G_37, G_38, G_39, G_40, G_41, G_42, G_43, G_44, G_45, G_46, G_47, G_48, G_49, G_140, G_141, G_142, G_143, G_144, G_145, G_146, G_178, G_179, G_180, G_181, G_182, G_183, G_184, G_189, G_198, G_207, PF_1_0, PF_1_1, PF_1_2, PF_1_3, PF_2_0, PF_2_1, PF_2_3, PF_2_4, PF_2_5, PF_2_6, PF_2_7, PF_2_8, PF_2_9, PF_2_10, PF_2_11, PF_3_0, PF_35_0, PF_35_1, PF_35_2, PF_35_3, PF_40_0, PF_40_1, PF_40_2, PF_44_0, PF_44_1, PF_44_2, PF_145_0, PF_145_1, PF_179_0, PF_179_1, PF_179_2, PF_179_3, PF_179_8, PF_179_9, PF_179_10]
    exact ⟨by omega, h1 (by omega)⟩
