/-! THE SMALL MACHINE, 3: locals -/
theorem getL_set_same : ∀ (l : List (Option MV)) (x : Nat) (v : Option MV), ltL l x = true → getL (setL l x v) x = v
  | [], x, v, h => by cases x <;> cases h
  | _ :: _, 0, _, _ => rfl
  | _ :: l, x + 1, v, h => getL_set_same l x v h
theorem getL_set_ne : ∀ (l : List (Option MV)) (x y : Nat) (v : Option MV), y ≠ x → getL (setL l x v) y = getL l y
  | [], _, _, _, _ => rfl
  | _ :: _, 0, 0, _, h => absurd rfl h
  | _ :: _, 0, y + 1, _, _ => rfl
  | _ :: _, x + 1, 0, _, _ => rfl
  | _ :: l, x + 1, y + 1, v, h => getL_set_ne l x y v (fun e => h (by rw [e]))
theorem setL_len : ∀ (l : List (Option MV)) (x : Nat) (v : Option MV), (setL l x v).length = l.length
  | [], _, _ => rfl
  | _ :: _, 0, _ => rfl
  | _ :: l, x + 1, v => congrArg (· + 1) (setL_len l x v)
theorem ltL_lt : ∀ (l : List (Option MV)) (x : Nat), ltL l x = true → x < l.length
  | [], x, h => by cases x <;> cases h
  | _ :: _, 0, _ => Nat.zero_lt_succ _
  | _ :: l, x + 1, h => Nat.succ_lt_succ (ltL_lt l x h)
theorem ltL_of : ∀ (l : List (Option MV)) (x : Nat), x < l.length → ltL l x = true
  | [], x, h => absurd h (Nat.not_lt_zero _)
  | _ :: _, 0, _ => rfl
  | _ :: l, x + 1, h => ltL_of l x (Nat.lt_of_succ_lt_succ h)
theorem getL_lt : ∀ (l : List (Option MV)) (x : Nat) (v : MV), getL l x = some v → x < l.length
  | [], x, v, h => by cases x <;> cases h
  | _ :: _, 0, _, _ => Nat.zero_lt_succ _
  | _ :: l, x + 1, v, h => Nat.succ_lt_succ (getL_lt l x v h)
theorem killL_len (l : List (Option MV)) (x : Nat) : (killL l x).length = l.length := by
  cases x with
  | zero => rfl
  | succ n =>
    show (if isLong (getL l n) = true then setL l n none else l).length = l.length
    split
    · exact setL_len _ _ _
    · rfl
theorem mcat_mtr (ad : Int → Nat) (v : MV) : (mtr ad v).category = mcat v := by
  rcases v with x | x | x | x <;> rfl
/-- what is left of a local behind a store at x -/
theorem killL_get {l : List (Option MV)} {x i : Nat} {w : MV} (h : getL (killL l x) i = some w) : getL l i = some w ∧ ¬ (i + 1 = x ∧ mcat w = 2) := by
  cases x with
  | zero => exact ⟨h, fun q => by omega⟩
  | succ n =>
    change getL (if isLong (getL l n) = true then setL l n none else l) i = some w at h
    by_cases hi : i = n
    · subst hi
      split at h
      · rename_i hl
        by_cases hlt : i < l.length
        · rw [getL_set_same _ _ _ (ltL_of _ _ hlt)] at h; cases h
        · have := getL_lt _ _ _ h
          rw [setL_len] at this; exact absurd this hlt
      · rename_i hl
        refine ⟨h, fun q => hl ?_⟩
        rw [h]
        rcases w with w | w | w
        · cases q.2
        · rfl
        · cases q.2
    · refine ⟨?_, fun q => hi (by omega)⟩
      split at h
      · rwa [getL_set_ne _ _ _ _ hi] at h
      · exact h
def LR (ad : Int → Nat) (N nL : Nat) (ls : List (Option MV)) (rl : Array Slot) : Prop :=
  rl.size = nL ∧ lv_wf rl ∧ ls.length = nL ∧ ∀ (i : Nat) (v : MV), getL ls i = some v → rl[i]? = some (.val (mtr ad v)) ∧ mok N v
def mlv (ad : Int → Nat) (ls : List (Option MV)) : List (Nat × Value) := (List.range ls.length).filterMap (fun i => (getL ls i).map (fun v => (i, mtr ad v)))
theorem mlv_mem {ad : Int → Nat} {ls : List (Option MV)} {i : Nat} {v : MV} (h : getL ls i = some v) : (i, mtr ad v) ∈ mlv ad ls :=
  List.mem_filterMap.mpr ⟨i, List.mem_range.mpr (getL_lt _ _ _ h), by rw [h]; rfl⟩
theorem LR.has {ad : Int → Nat} {N nL : Nat} {ls : List (Option MV)} {rl : Array Slot} (h : LR ad N nL ls rl) : lv_has rl nL (mlv ad ls) := by
  refine ⟨h.1, h.2.1, fun q hq => ?_⟩
  obtain ⟨i, -, hi⟩ := List.mem_filterMap.mp hq
  cases hg : getL ls i with
  | none => rw [hg] at hi; cases hi
  | some v => rw [hg] at hi; cases hi; exact (h.2.2.2 i v hg).1
theorem LR.st1 {ad : Int → Nat} {N nL : Nat} {ls : List (Option MV)} {rl rl' : Array Slot} {x : Nat} {v : MV} (h : LR ad N nL ls rl) (hx : x < nL) (hv : mok N v)
    (h' : lv_has rl' nL ((x, mtr ad v) :: (mlv ad ls).filter (fun q => !(q.1 == x) && !(q.1 + 1 == x && q.2.category == 2)))) : LR ad N nL (setL (killL ls x) x (some v)) rl' := by
  refine ⟨h'.1, h'.2.1, by rw [setL_len, killL_len]; exact h.2.2.1, fun i w hw => ?_⟩
  by_cases e : i = x
  · subst e
    rw [getL_set_same _ _ _ (ltL_of _ _ (by rw [killL_len, h.2.2.1]; exact hx))] at hw
    cases hw
    exact ⟨h'.2.2 _ List.mem_cons_self, hv⟩
  · rw [getL_set_ne _ _ _ _ e] at hw
    obtain ⟨hg, hn⟩ := killL_get hw
    refine ⟨h'.2.2 _ (List.mem_cons_of_mem _ (List.mem_filter.mpr ⟨mlv_mem hg, ?_⟩)), (h.2.2.2 i w hg).2⟩
    rw [mcat_mtr]
    simp only [Bool.and_eq_true, Bool.not_eq_true', beq_eq_false_iff_ne, Bool.and_eq_false_iff, ne_eq]
    refine ⟨e, ?_⟩
    by_cases e2 : i + 1 = x
    · exact Or.inr (fun q => hn ⟨e2, q⟩)
    · exact Or.inl e2
theorem LR.st2 {ad : Int → Nat} {N nL : Nat} {ls : List (Option MV)} {rl rl' : Array Slot} {x : Nat} {v : MV} (h : LR ad N nL ls rl) (hx : x + 1 < nL) (hv : mok N v)
    (h' : lv_has rl' nL ((x, mtr ad v) :: (mlv ad ls).filter (fun q => !(q.1 == x) && (!(q.1 == x + 1) && !(q.1 + 1 == x && q.2.category == 2))))) : LR ad N nL (setL (setL (killL ls x) x (some v)) (x + 1) none) rl' := by
  refine ⟨h'.1, h'.2.1, by rw [setL_len, setL_len, killL_len]; exact h.2.2.1, fun i w hw => ?_⟩
  by_cases e0 : i = x + 1
  · subst e0
    rw [getL_set_same _ _ _ (ltL_of _ _ (by rw [setL_len, killL_len, h.2.2.1]; exact hx))] at hw
    cases hw
  · rw [getL_set_ne _ _ _ _ e0] at hw
    by_cases e : i = x
    · subst e
      rw [getL_set_same _ _ _ (ltL_of _ _ (by rw [killL_len, h.2.2.1]; omega))] at hw
      cases hw
      exact ⟨h'.2.2 _ List.mem_cons_self, hv⟩
    · rw [getL_set_ne _ _ _ _ e] at hw
      obtain ⟨hg, hn⟩ := killL_get hw
      refine ⟨h'.2.2 _ (List.mem_cons_of_mem _ (List.mem_filter.mpr ⟨mlv_mem hg, ?_⟩)), (h.2.2.2 i w hg).2⟩
      rw [mcat_mtr]
      simp only [Bool.and_eq_true, Bool.not_eq_true', beq_eq_false_iff_ne, Bool.and_eq_false_iff, ne_eq]
      refine ⟨e, e0, ?_⟩
      by_cases e2 : i + 1 = x
      · exact Or.inr (fun q => hn ⟨e2, q⟩)
      · exact Or.inl e2
/-! THE SMALL MACHINE, 4: cells -/
theorem mcells_len (dA : Nat → ClassId) (ad : Int → Nat) (σ : MS) : (mcells dA ad σ).length = σ.1 - 1 := by
  unfold mcells; rw [List.length_map, List.length_range]
theorem mcells_get {dA : Nat → ClassId} {ad : Int → Nat} {σ : MS} {n : Nat} (h : n < σ.1 - 1) : (mcells dA ad σ)[n]? = some (ad ((n : Int) + 1), cE dA ad σ ((n : Int) + 1)) := by
  unfold mcells
  rw [List.getElem?_map, List.getElem?_range h]; rfl
theorem mcells_at {dA : Nat → ClassId} {ad : Int → Nat} {σ : MS} {a : Int} (h0 : 0 < a) (h1 : a < σ.1) : (mcells dA ad σ)[(a - 1).toNat]? = some (ad a, cE dA ad σ a) := by
  have := mcells_get (dA := dA) (ad := ad) (σ := σ) (n := (a - 1).toNat) (by omega)
  rwa [show (((a - 1).toNat : Nat) : Int) + 1 = a by omega] at this
theorem mtr_ad {ad ad' : Int → Nat} {N : Nat} (h0 : ad' 0 = ad 0) (h : ∀ a : Int, 0 < a → a < N → ad' a = ad a) {v : MV} (hv : mok N v) : mtr ad' v = mtr ad v := by
  rcases v with x | x | _ | r
  · rfl
  · rfl
  · rfl
  · show Value.ref (ad' r) = Value.ref (ad r)
    rcases hv with hv | hv
    · rw [h r hv.1 hv.2]
    · rw [hv, h0]
theorem mok_le {N N' : Nat} (h : N ≤ N') {v : MV} (hv : mok N v) : mok N' v := by
  rcases v with x | x | _ | r
  · exact hv
  · exact hv
  · exact hv
  · rcases hv with hv | hv
    · exact Or.inl ⟨hv.1, by omega⟩
    · exact Or.inr hv
theorem LR.moved {ad ad' : Int → Nat} {N N' nL : Nat} {ls : List (Option MV)} {rl : Array Slot} (h : LR ad N nL ls rl) (hN : N ≤ N') (h0 : ad' 0 = ad 0) (ha : ∀ a : Int, 0 < a → a < N → ad' a = ad a) : LR ad' N' nL ls rl :=
  ⟨h.1, h.2.1, h.2.2.1, fun i v hv => ⟨by rw [mtr_ad h0 ha (h.2.2.2 i v hv).2]; exact (h.2.2.2 i v hv).1, mok_le hN (h.2.2.2 i v hv).2⟩⟩
theorem mapr_moved {ad ad' : Int → Nat} {N : Nat} (h0 : ad' 0 = ad 0) (h : ∀ a : Int, 0 < a → a < N → ad' a = ad a) {l : List MV} (hl : ∀ v ∈ l, mok N v) : l.map (mtr ad') = l.map (mtr ad) :=
  List.map_congr_left (fun v hv => mtr_ad h0 h (hl v hv))
/-- the cells depend on what lies in them alone -/
theorem cE_congr {dA : Nat → ClassId} {ad ad' : Int → Nat} {σ σ' : MS} {a : Int} (hI : σ'.2.2.1 a = σ.2.2.1 a) (hL : σ'.2.2.2 a = σ.2.2.2 a) (hP : ∀ i, (σ'.2.1 a i).map ad' = (σ.2.1 a i).map ad) : cE dA ad' σ' a = cE dA ad σ a := by
  unfold cE
  have h1 : ∀ t i, msl ad' σ' a t i = msl ad σ a t i := fun t i => by unfold msl; rw [hI, hL, hP]
  have h2 : ∀ k, mar ad' σ' a k = mar ad σ a k := fun k => by unfold mar; rw [hI, hL]; simp only [hP]
  simp only [h1, h2]
theorem mcells_congr {dA : Nat → ClassId} {ad ad' : Int → Nat} {σ σ' : MS} (hN : σ'.1 = σ.1) (h : ∀ a : Int, 0 < a → a < σ.1 → ad' a = ad a ∧ cE dA ad' σ' a = cE dA ad σ a) : mcells dA ad' σ' = mcells dA ad σ := by
  unfold mcells
  rw [hN]
  refine List.map_congr_left (fun k hk => ?_)
  have := List.mem_range.mp hk
  obtain ⟨h1, h2⟩ := h ((k : Int) + 1) (by omega) (by omega)
  rw [h1, h2]
/-- one cell written -/
theorem mcells_set {dA : Nat → ClassId} {ad : Int → Nat} {σ σ' : MS} {a : Int} (h0 : 0 < a) (h1 : a < σ.1) (hN : σ'.1 = σ.1) {e : va_E} (he : cE dA ad σ' a = e) (h : ∀ b : Int, b ≠ a → 0 < b → b < σ.1 → cE dA ad σ' b = cE dA ad σ b) :
    (mcells dA ad σ).set (a - 1).toNat (ad a, e) = mcells dA ad σ' := by
  refine List.ext_getElem? (fun n => ?_)
  rw [List.getElem?_set]
  by_cases hn : (a - 1).toNat = n
  · subst hn
    rw [if_pos rfl, if_pos (by rw [mcells_len]; omega), mcells_at h0 (by rw [hN]; exact h1), he]
  · rw [if_neg hn]
    by_cases hl : n < σ.1 - 1
    · rw [mcells_get hl, mcells_get (by rw [hN]; exact hl), h _ (by omega) (by omega) (by omega)]
    · rw [List.getElem?_eq_none (by rw [mcells_len]; omega), List.getElem?_eq_none (by rw [mcells_len, hN]; omega)]
/-- cells that come -/
theorem mcells_app {dA : Nat → ClassId} {ad ad' : Int → Nat} {σ σ' : MS} {ws : va_W} (h1 : 1 ≤ σ.1) (hN : σ'.1 = σ.1 + ws.length) (h : ∀ a : Int, 0 < a → a < σ.1 → ad' a = ad a ∧ cE dA ad' σ' a = cE dA ad σ a)
    (hw : ∀ (n : Nat) (q : Nat × va_E), ws[n]? = some q → q = (ad' ((σ.1 : Int) + n), cE dA ad' σ' ((σ.1 : Int) + n))) : mcells dA ad σ ++ ws = mcells dA ad' σ' := by
  refine List.ext_getElem? (fun n => ?_)
  by_cases hl : n < σ.1 - 1
  · rw [List.getElem?_append_left (by rw [mcells_len]; exact hl), mcells_get hl, mcells_get (by omega)]
    obtain ⟨q1, q2⟩ := h ((n : Int) + 1) (by omega) (by omega)
    rw [q1, q2]
  · rw [List.getElem?_append_right (by rw [mcells_len]; omega), mcells_len]
    by_cases h2 : n - (σ.1 - 1) < ws.length
    · rw [mcells_get (by omega), List.getElem?_eq_getElem h2]
      have := hw _ _ (List.getElem?_eq_getElem h2)
      rw [this, show (σ.1 : Int) + ((n - (σ.1 - 1) : Nat) : Int) = (n : Int) + 1 by omega]
    · rw [List.getElem?_eq_none (by omega), List.getElem?_eq_none (by rw [mcells_len]; omega)]
