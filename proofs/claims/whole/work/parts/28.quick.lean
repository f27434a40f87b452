/-! quickest paces: they are the greatest that may be driven, and their time is the least -/
/-- paces that may be driven on a way with limits lm -/
def Fs (lm rc : Int → Int) (bk st n : Int) (q : Int → Int) : Prop := (0 < n → q 0 ≤ st) ∧ (∀ i, 0 ≤ i → i < n → 1 ≤ q i ∧ q i ≤ lm i) ∧ ∀ i, 0 ≤ i → i + 1 < n → q (i + 1) ≤ rc (q i) ∧ q i ≤ q (i + 1) + bk
/-- the greatest of them -/
def Mx (lm rc : Int → Int) (bk st n : Int) (q : Int → Int) : Prop := Fs lm rc bk st n q ∧ ∀ q', Fs lm rc bk st n q' → ∀ i, 0 ≤ i → i < n → q' i ≤ q i
theorem Mx.uniq {lm rc : Int → Int} {bk st n : Int} {q q' : Int → Int} (h : Mx lm rc bk st n q) (h' : Mx lm rc bk st n q') : ∀ i, 0 ≤ i → i < n → q i = q' i := fun i i0 i1 => by
  have a := h.2 q' h'.1 i i0 i1
  have b := h'.2 q h.1 i i0 i1
  omega
theorem Fs.cg {lm lm' rc : Int → Int} {bk st n : Int} {q q' : Int → Int} (hl : ∀ i, 0 ≤ i → i < n → lm i = lm' i) (hq : ∀ i, 0 ≤ i → i < n → q i = q' i) (h : Fs lm rc bk st n q) : Fs lm' rc bk st n q' :=
  ⟨fun a => by rw [← hq 0 (by omega) a]; exact h.1 a, fun i a b => by rw [← hq i a b, ← hl i a b]; exact h.2.1 i a b, fun i a b => by rw [← hq i a (by omega), ← hq (i + 1) (by omega) b]; exact h.2.2 i a b⟩
theorem Mx.cg {lm lm' rc : Int → Int} {bk st n : Int} {q q' : Int → Int} (hl : ∀ i, 0 ≤ i → i < n → lm i = lm' i) (hq : ∀ i, 0 ≤ i → i < n → q i = q' i) (h : Mx lm rc bk st n q) : Mx lm' rc bk st n q' :=
  ⟨h.1.cg hl hq, fun r hr i a b => by rw [← hq i a b]; exact h.2 r (hr.cg (fun j c d => (hl j c d).symm) (fun _ _ _ => rfl)) i a b⟩
theorem mn_le {x y : Int} : mn x y ≤ x ∧ mn x y ≤ y ∧ (mn x y = x ∨ mn x y = y) := by unfold mn; split <;> omega
theorem bq_max {lm rc : Int → Int} {bk st n : Int} {q : Int → Int} (h : Fs lm rc bk st n q) : ∀ (m : Nat), (m : Int) < n → q (n - 1 - m) ≤ bqv lm bk n m
  | 0, hm => by
    have := (h.2.1 (n - 1) (by omega) (by omega)).2
    rw [show n - 1 - ((0 : Nat) : Int) = n - 1 by omega]; exact this
  | m + 1, hm => by
    have ih := bq_max h m (by omega)
    have a := (h.2.1 (n - 2 - m) (by omega) (by omega)).2
    have b := (h.2.2 (n - 2 - m) (by omega) (by omega)).2
    rw [show n - 2 - m + 1 = n - 1 - m by omega] at b
    rw [show n - 1 - ((m + 1 : Nat) : Int) = n - 2 - m by omega]
    have c := @mn_le (lm (n - 2 - m)) (bqv lm bk n m + bk)
    unfold bqv
    omega
theorem qp_Mx {lm rc : Int → Int} {bk st n : Int} (hl : ∀ i, 0 ≤ i → i < n → 1 ≤ lm i ∧ lm i ≤ 60) (hr : ∀ p, 1 ≤ p → p ≤ 60 → p ≤ rc p ∧ rc p ≤ 60) (hm : ∀ p p', p ≤ p' → rc p ≤ rc p') (hb : 1 ≤ bk) (hs : 1 ≤ st) : Mx lm rc bk st n (qp lm rc bk st n) := by
  have rng := fun i a b => @qp_rng lm rc bk st n i hl hr hb hs a b
  have le : ∀ i, 0 ≤ i → i < n → qp lm rc bk st n i ≤ bq lm bk n i := fun i a b => by
    by_cases e : i = 0
    · rw [e, qp_0]; exact mn_le.1
    · rw [qp_step (by omega)]; exact mn_le.1
  refine ⟨⟨fun a => by rw [qp_0]; exact mn_le.2.1, fun i a b => ⟨(rng i a b).1, ?_⟩, fun i a b => ⟨?_, ?_⟩⟩, fun q hq => ?_⟩
  · refine Int.le_trans (le i a b) ?_
    by_cases e : i = n - 1
    · rw [e, bq_last]; exact Int.le_refl _
    · rw [bq_step (by omega)]; exact mn_le.1
  · rw [qp_step (i := i + 1) (by omega), show i + 1 - 1 = i by omega]; exact mn_le.2.1
  · have c := (@mn_le (lm i) (bq lm bk n (i + 1) + bk)).2.1
    rw [← bq_step (by omega)] at c
    have d := le i a (by omega)
    have e := (rng i a (by omega))
    have f := hr _ e.1 e.2
    have g := (@mn_le (bq lm bk n (i + 1)) (rc (qp lm rc bk st n i))).2.2
    have h := qp_step (lm := lm) (rc := rc) (bk := bk) (st := st) (n := n) (i := i + 1) (by omega)
    rw [show i + 1 - 1 = i by omega] at h
    omega
  · have hq2 : ∀ i, 0 ≤ i → i < n → q i ≤ bq lm bk n i := fun i a b => by
      have := bq_max hq (n - 1 - i).toNat (by omega)
      rw [show n - 1 - ((n - 1 - i).toNat : Int) = i by omega] at this
      exact this
    have : ∀ m : Nat, (m : Int) < n → q m ≤ qp lm rc bk st n m := fun m => by
      induction m with
      | zero =>
        intro h
        have a := hq.1 (by omega)
        have b := hq2 0 (by omega) (by omega)
        have c := (@mn_le (bq lm bk n 0) st).2.2
        have d : qp lm rc bk st n ((0 : Nat) : Int) = mn (bq lm bk n 0) st := qp_0
        have e : q ((0 : Nat) : Int) = q 0 := rfl
        omega
      | succ m ih =>
        intro h
        have ih := ih (by omega)
        have a := (hq.2.2 m (by omega) (by omega)).1
        have b := hq2 (m + 1) (by omega) (by omega)
        have c := hm _ _ ih
        have d := (@mn_le (bq lm bk n (m + 1)) (rc (qp lm rc bk st n m))).2.2
        have e := qp_step (lm := lm) (rc := rc) (bk := bk) (st := st) (n := n) (i := (m : Int) + 1) (by omega)
        rw [show (m : Int) + 1 - 1 = m by omega] at e
        rw [show ((m + 1 : Nat) : Int) = (m : Int) + 1 by omega]
        omega
    intro i a b
    have := this i.toNat (by omega)
    rwa [Int.toNat_of_nonneg a] at this
theorem tmv_anti {len c p p' : Int} (hl : 0 ≤ len) (h0 : 1 ≤ p) (h : p ≤ p') : tmv len c p' ≤ tmv len c p := by
  unfold tmv
  rw [if_pos (show 0 < p' by omega), if_pos (show 0 < p by omega)]
  have hx : ∀ x : Int, 0 ≤ x → x / p' ≤ x / p := fun x hx => by
    rw [Int.le_ediv_iff_mul_le (by omega)]
    have a : 0 ≤ x / p' := Int.ediv_nonneg hx (by omega)
    have b : x / p' * p ≤ x / p' * p' := Int.mul_le_mul_of_nonneg_left h a
    have c : x / p' * p' ≤ x := Int.ediv_mul_le x (by omega)
    omega
  by_cases e : c = 0
  · rw [if_pos e]; exact hx ((len + 0) * 1000) (by omega)
  · rw [if_neg e]; exact hx ((len + 2) * 1000) (by omega)
theorem sumI_le {f g : Int → Int} : ∀ (n : Nat), (∀ i : Int, 0 ≤ i → i < n → f i ≤ g i) → sumI f n ≤ sumI g n
  | 0, _ => Int.le_refl _
  | n + 1, h => by
    have a := sumI_le n (fun i h0 h1 => h i h0 (by omega))
    have b := h n (by omega) (by omega)
    unfold sumI
    omega
/-- lanes changed -/
def lch (ln : Int → Int) (i : Int) : Int := if 0 < i ∧ ¬ ln i = ln (i - 1) then 1 else 0
theorem lch_dif {ln : Int → Int} {i : Int} (h : 0 ≤ i) : lch ln (i + 1) = dif (ln i) (ln (i + 1)) := by
  unfold lch dif
  rw [show i + 1 - 1 = i by omega]
  by_cases e : ln (i + 1) = ln i
  · rw [if_neg (fun q => q.2 e), if_pos e]
  · rw [if_pos ⟨by omega, e⟩, if_neg e]
/-- the paces along a way up to i -/
theorem PreE_q {I : Int → Int → Int} {g bk st : Int} {ln : Int → Int} : ∀ (i : Nat) (p a : Int), PreE I g bk st ln i p a → ∃ q : Int → Int, q i = p ∧ Fs (fun j => lmv I g j (ln j)) (rch (I 38) (I 39)) bk st (i + 1) q ∧ a = sumI (fun j => tmv (I (5 + j) 1) (lch ln j) (q j)) (i + 1)
  | 0, p, a, h => by
    obtain ⟨⟨x, y, z⟩, w⟩ := h
    refine ⟨fun _ => p, rfl, ⟨fun _ => y, fun j j0 j1 => ?_, fun j j0 j1 => by omega⟩, ?_⟩
    · rw [show j = 0 by omega]; exact ⟨x, z⟩
    · rw [w]
      show _ = 0 + tmv (I (5 + 0) 1) (lch ln 0) p
      rw [show lch ln 0 = 0 from if_neg (fun q => by omega), show (5 : Int) + 0 = 5 by rfl]
      omega
  | i + 1, p, a, h => by
    obtain ⟨p', a', h1, ⟨x, y, z, u⟩, w⟩ := h
    obtain ⟨q, q1, ⟨q2, q3, q4⟩, q5⟩ := PreE_q i p' a' h1
    have ne : ∀ j : Int, j ≤ i → (if j = (i : Int) + 1 then p else q j) = q j := fun j hj => if_neg (by omega)
    refine ⟨fun j => if j = (i : Int) + 1 then p else q j, if_pos (by omega), ⟨fun _ => ?_, fun j j0 j1 => ?_, fun j j0 j1 => ?_⟩, ?_⟩
    · show (if (0 : Int) = (i : Int) + 1 then p else q 0) ≤ st
      rw [ne 0 (by omega)]; exact q2 (by omega)
    · show 1 ≤ (if j = (i : Int) + 1 then p else q j) ∧ (if j = (i : Int) + 1 then p else q j) ≤ _
      by_cases e : j = (i : Int) + 1
      · rw [if_pos e, e]; exact ⟨x, u⟩
      · rw [if_neg e]; exact q3 j j0 (by omega)
    · show (if j + 1 = (i : Int) + 1 then p else q (j + 1)) ≤ rch (I 38) (I 39) (if j = (i : Int) + 1 then p else q j) ∧ (if j = (i : Int) + 1 then p else q j) ≤ (if j + 1 = (i : Int) + 1 then p else q (j + 1)) + bk
      rw [ne j (by omega)]
      by_cases e : j + 1 = (i : Int) + 1
      · rw [if_pos e, show j = i by omega, q1]; exact ⟨z, by omega⟩
      · rw [if_neg e]; exact q4 j j0 (by omega)
    · rw [w, q5, sumI_s _ (i + 1)]
      show _ = _ + tmv (I (5 + ((i + 1 : Nat) : Int)) 1) (lch ln ((i + 1 : Nat) : Int)) (if ((i + 1 : Nat) : Int) = (i : Int) + 1 then p else q ((i + 1 : Nat) : Int))
      rw [if_pos (by omega), show ((i + 1 : Nat) : Int) = (i : Int) + 1 by omega, lch_dif (by omega)]
      congr 1
      exact sumI_congr _ (fun j j0 j1 => by
        show _ = tmv (I (5 + j) 1) (lch ln j) (if j = (i : Int) + 1 then p else q j)
        rw [ne j (by omega)])
theorem PreE_of {I : Int → Int → Int} {g bk st n : Int} {ln q : Int → Int} (h : Fs (fun j => lmv I g j (ln j)) (rch (I 38) (I 39)) bk st n q) : ∀ (i : Nat), (i : Int) < n → PreE I g bk st ln i (q i) (sumI (fun j => tmv (I (5 + j) 1) (lch ln j) (q j)) (i + 1))
  | 0, hi => by
    have a := h.2.1 0 (by omega) hi
    refine ⟨⟨a.1, h.1 (by omega), a.2⟩, ?_⟩
    show 0 + tmv (I (5 + 0) 1) (lch ln 0) (q 0) = _
    rw [show lch ln 0 = 0 from if_neg (fun q => by omega), show (5 : Int) + 0 = 5 by rfl]
    show 0 + tmv (I 5 1) 0 (q 0) = tmv (I 5 1) 0 (q 0)
    omega
  | i + 1, hi => by
    have ih := PreE_of h i (by omega)
    have a := h.2.1 (i + 1) (by omega) (by omega)
    have b := h.2.2 i (by omega) (by omega)
    refine ⟨q i, _, ih, ?_, ?_⟩
    · rw [show ((i + 1 : Nat) : Int) = (i : Int) + 1 by omega]
      exact ⟨a.1, by omega, b.1, a.2⟩
    · rw [sumI_s _ (i + 1)]
      show _ + tmv (I (5 + ((i + 1 : Nat) : Int)) 1) (lch ln ((i + 1 : Nat) : Int)) (q ((i + 1 : Nat) : Int)) = _
      rw [show ((i + 1 : Nat) : Int) = (i : Int) + 1 by omega, lch_dif (by omega)]
/-- the quickest paces on the lanes of a best way take the least time -/
theorem best_sum {I : Int → Int → Int} {g bk st B : Int} {ln q : Int → Int} (ht : tOK I) (hn : 0 < I 3 1) (hB : ∀ x, LapE I g bk st x → B ≤ x) (hL : LexB I g bk st B ln) (hq : Mx (fun j => lmv I g j (ln j)) (rch (I 38) (I 39)) bk st (I 3 1) q) : sumI (fun j => tmv (I (5 + j) 1) (lch ln j) (q j)) (I 3 1).toNat = B := by
  obtain ⟨m, hm⟩ : ∃ m : Nat, I 3 1 = (m : Int) + 1 := ⟨(I 3 1 - 1).toNat, by omega⟩
  obtain ⟨a, b, ⟨p, a1, t, h1, h2, h3⟩, d⟩ := hL m (by omega)
  have hlnr : lnr ln m := fun j hj => ⟨(hL j (by omega)).1, (hL j (by omega)).2.1⟩
  have hk : kk I (m : Int) = 0 := by unfold kk; omega
  rw [hk] at h2
  have ht0 : t = 0 := h2
  obtain ⟨r, r1, r2, r3⟩ := PreE_q m p a1 h1
  rw [show ((m : Int) + 1) = I 3 1 by omega] at r2
  rw [show (I 3 1).toNat = m + 1 by omega]
  have up : sumI (fun j => tmv (I (5 + j) 1) (lch ln j) (q j)) (m + 1) ≤ B := by
    rw [show B = a1 by omega, r3]
    refine sumI_le _ (fun i i0 i1 => ?_)
    have hs := ht.2.2 i i0 (by omega)
    unfold stOK at hs
    exact tmv_anti (by omega) (r2.2.1 i i0 (by omega)).1 (hq.2 r r2 i i0 (by omega))
  have lo : B ≤ sumI (fun j => tmv (I (5 + j) 1) (lch ln j) (q j)) (m + 1) := by
    have h4 := PreE_of hq.1 m (by omega)
    have := pre_lap (by omega) hlnr h4 (t := 0) (by rw [hk]; rfl)
    have := hB _ this
    omega
  omega
