/-! first methods -/
def b2i (c : Prop) [Decidable c] : Int := if c then 1 else 0
theorem RI_lit (n : Nat) (h : Nat.ble n 2147483647 = true) : RI (n : Int) := by have := Nat.le_of_ble_eq_true h; unfold RI; omega
def spX8_within (As : List MV) (σ : MS) (K : Option MV → MS → Prop) : Prop := pI As fun n r => pI r fun lo r => pI r fun hi r => pN r (RI n ∧ RI lo ∧ RI hi ∧ K (some (.inl (b2i (lo ≤ n ∧ n ≤ hi)))) σ)
def ciX8_within : CI := (3, 10, 0, 0, spX8_within)
def kX8_within (pc : Nat) : List ME := match pc with
  | 0 => [(.iload_n 0, 1, []), (.iload_n 1, 1, []), (.if_icmp .lt 12, 3, [14]), (.iload_n 0, 1, []), (.iload_n 2, 1, []), (.if_icmp .gt 7, 3, [14]), (.iconst 1, 1, []), (.goto 4, 3, [15])]
  | 14 => [(.iconst 0, 1, [])]
  | 15 => [(.ireturn, 1, [])]
  | _ => []
theorem qX8_within : ∀ pc, chk cX8_within pc (kX8_within pc) = true := by
  intro pc
  unfold kX8_within
  split <;> first | decide +kernel | exact chk_nil
abbrev rmX8_within : Room := { frames := 0, cells := 0, slots := 0, locals := 0 }
def aX8_within (_ : Nat) : Option CI := none
theorem aokX8_within : ∀ x ci, aX8_within x = some ci → CalOK RX8 rmX8_within x ci := fun _ _ h => by cases h
theorem mdX8_within : MD RX8 cX8_within rmX8_within kX8_within fX8 aX8_within zX8 uX8 := ⟨fokX8, zokX8, uokX8, aokX8_within, qX8_within⟩
set_option maxHeartbeats 1000000 in
theorem mX8_within : MOK yX8_within cX8_within 3 (some .boolean) rmX8_within ciX8_within := by
  refine mok_of (ini := false) (by decide +kernel) (by decide) rfl rfl ?_
  intro σ As K _ hl h
  obtain ⟨n, r, rfl, h⟩ := pI_iff.mp h
  obtain ⟨lo, r, rfl, h⟩ := pI_iff.mp h
  obtain ⟨hi, r, rfl, h⟩ := pI_iff.mp h
  obtain ⟨rfl, h1, h2, h3, h⟩ := pN_iff.mp h
  refine ⟨Nat.le_of_ble_eq_true rfl, Ok.seg mdX8_within [] 30 ?_⟩
  simp only [wp, stp, getL, setL, ltL, killL, isLong, inl, pI, pL, pR, pA, pN, lI, lL, lR, cnd, br, tgt, tsw, rcv, rpl, mputI, mputL, mputP, oI, oL, oF, oN, oC, oS, fv, fp, fr, mcat, mcs, entL, entA, rfit, ciMax, ciMin, ciAbs, ciObj, spMax, spMin, spAbs, spObj, List.append, List.length, List.replicate, List.cons_append, List.nil_append, List.length_cons, List.length_nil, List.replicate_succ, List.replicate_zero, List.tail_cons, reduceIte, if_true, if_false, ite_true, ite_false, Bool.false_eq_true, true_and, and_true, and_self, false_and, and_false, or_self, or_true, true_or, or_false, false_or, not_true_eq_false, not_false_eq_true, ne_eq, forall_const, implies_true, imp_self, true_implies, false_implies, Nat.reduceAdd, Nat.reduceSub, Nat.reduceMul, Nat.reduceDiv, Nat.reduceMod, Nat.reduceEqDiff, Nat.reduceLT, Nat.reduceLeDiff, Nat.reduceBEq, Nat.add_zero, Nat.zero_add, Nat.le_refl, Nat.not_lt_zero, Nat.succ_eq_add_one, Int.reduceNatCast, Int.cast_ofNat_Int, Int.reduceSub, Int.reduceMul, Int.reduceNeg, Int.reduceLE, Int.reduceLT, Int.reduceToNat, Int.reduceEq, Int.reduceNe, Int.reduceAdd, Fin.isValue, Fin.reduceFinMk, Fin.val_zero, Fin.val_one, Option.some.injEq, kX8_within, rmX8_within]
  sorry
