/-! THE SMALL MACHINE, 5: numbers, cells by kind -/
theorem RI_pow {x : Int} (h : RI x) : -2 ^ 31 ≤ x ∧ x < 2 ^ 31 := h
theorem I_toInt {x : Int} (h : RI x) : (Int32.ofInt x).toInt = x := Int32.toInt_ofInt_of_le h.1 h.2
theorem L_toInt {x : Int} (h : RLg x) : (Int64.ofInt x).toInt = x := Int64.toInt_ofInt_of_le h.1 h.2
theorem I_lt {x y : Int} (hx : RI x) (hy : RI y) : Int32.ofInt x < Int32.ofInt y ↔ x < y := by rw [Int32.lt_iff_toInt_lt, I_toInt hx, I_toInt hy]
theorem I_le {x y : Int} (hx : RI x) (hy : RI y) : Int32.ofInt x ≤ Int32.ofInt y ↔ x ≤ y := by rw [Int32.le_iff_toInt_le, I_toInt hx, I_toInt hy]
theorem I_eq {x y : Int} (hx : RI x) (hy : RI y) : Int32.ofInt x = Int32.ofInt y ↔ x = y := by rw [← Int32.toInt_inj, I_toInt hx, I_toInt hy]
theorem I_clamp {x : Int} (hx : RI x) : (Int32.ofInt x).toNatClampNeg = x.toNat := Int32.toNatClampNeg_ofInt_of_le hx.1 hx.2
theorem RI_0 : RI 0 := by unfold RI; omega
theorem I_in {i : Int} {n : Nat} (hn : n ≤ 20000) (h0 : 0 ≤ i) (h1 : i < n) : vp_in (Int32.ofInt i) n ∧ (Int32.ofInt i).toNatClampNeg = i.toNat ∧ ((i.toNat : Nat) : Int) = i := by
  have hr : RI i := by unfold RI; omega
  refine ⟨?_, I_clamp hr, by omega⟩
  unfold vp_in
  rw [I_clamp hr]
  rintro (h | h)
  · have := (I_lt hr RI_0).mp h; omega
  · omega
theorem I_div {x y : Int} (hx : RI x) (hy : RI y) : Int32.ofInt x / Int32.ofInt y = Int32.ofInt (x.tdiv y) := by
  rw [← Int32.toInt_inj, Int32.toInt_div, I_toInt hx, I_toInt hy, Int32.toInt_ofInt]
theorem I_rem {x y : Int} (hx : RI x) (hy : RI y) : Int32.ofInt x - Int32.ofInt x / Int32.ofInt y * Int32.ofInt y = Int32.ofInt (x.tmod y) := by
  rw [I_div hx hy, ← Int32.ofInt_mul, ← Int32.ofInt_sub]
  congr 1
  have := Int.tmod_add_mul_tdiv x y
  rw [Int.mul_comm] at this
  omega
theorem I_long {x : Int} (h : RI x) : (Int32.ofInt x).toInt64 = Int64.ofInt x :=
  Int32.toInt64_ofInt (by have := h.1; exact this) (by have := h.2; have e : Int32.maxValue.toInt = 2147483647 := rfl; omega)
theorem L_cmp {x y : Int} (hx : RLg x) (hy : RLg y) : lg_cmp (Int64.ofInt x) (Int64.ofInt y) = Int32.ofInt (lcm x y) := by
  have h1 : Int64.ofInt x > Int64.ofInt y ↔ y < x := by
    show Int64.ofInt y < Int64.ofInt x ↔ _
    rw [Int64.lt_iff_toInt_lt, L_toInt hx, L_toInt hy]
  have h2 : Int64.ofInt x = Int64.ofInt y ↔ x = y := by rw [← Int64.toInt_inj, L_toInt hx, L_toInt hy]
  unfold lg_cmp lcm
  by_cases a : y < x
  · rw [if_pos (h1.mpr a), if_pos a]; rfl
  · rw [if_neg (fun q => a (h1.mp q)), if_neg a]
    by_cases b : x = y
    · rw [if_pos (h2.mpr b), if_pos b]; rfl
    · rw [if_neg (fun q => b (h2.mp q)), if_neg b]; rfl
theorem I_byte {x : Int} (h0 : -128 ≤ x) (h1 : x ≤ 127) : (Int32.ofInt x).toInt8.toInt32 = Int32.ofInt x := by
  rw [Int32.toInt8_ofInt, ← Int32.toInt_inj, Int8.toInt_toInt32, I_toInt (by unfold RI; omega)]
  exact Int8.toInt_ofInt_of_le (by omega) (by omega)
theorem I8_lit {x : Int} (h0 : -128 ≤ x) (h1 : x ≤ 127) : (Int8.ofInt x).toInt32 = Int32.ofInt x := by
  rw [← Int32.toInt_inj, Int8.toInt_toInt32, I_toInt (by unfold RI; omega)]
  exact Int8.toInt_ofInt_of_le (by omega) (by omega)
theorem I16_lit {x : Int} (h0 : -32768 ≤ x) (h1 : x ≤ 32767) : (Int16.ofInt x).toInt32 = Int32.ofInt x := by
  rw [← Int32.toInt_inj, Int16.toInt_toInt32, I_toInt (by unfold RI; omega)]
  exact Int16.toInt_ofInt_of_le (by omega) (by omega)
theorem G_0 : (G 0).1 = 17 := rfl
theorem ite_P {α : Type} {P : α → Prop} {c : Prop} [Decidable c] {x y : α} (hx : P x) (hy : P y) : P (if c then x else y) := by
  by_cases h : c
  · rw [if_pos h]; exact hx
  · rw [if_neg h]; exact hy
theorem G_small (a : Int) : (G a).2 ≤ 20000 := by
  unfold G
  repeat' refine ite_P (P := fun z : Nat × Nat => z.2 ≤ 20000) ?_ ?_
  all_goals exact Nat.le_of_ble_eq_true rfl
theorem pI_iff {st : List MV} {f : Int → List MV → Prop} : pI st f ↔ ∃ x r, st = .inl x :: r ∧ f x r := by
  constructor
  · intro h
    unfold pI at h
    split at h
    · exact ⟨_, _, rfl, h⟩
    · exact h.elim
  · rintro ⟨x, r, rfl, h⟩; exact h
theorem pL_iff {st : List MV} {f : Int → List MV → Prop} : pL st f ↔ ∃ x r, st = .inr (.inl x) :: r ∧ f x r := by
  constructor
  · intro h
    unfold pL at h
    split at h
    · exact ⟨_, _, rfl, h⟩
    · exact h.elim
  · rintro ⟨x, r, rfl, h⟩; exact h
theorem pR_iff {st : List MV} {f : Int → List MV → Prop} : pR st f ↔ ∃ x r, st = .inr (.inr (some x)) :: r ∧ f x r := by
  constructor
  · intro h
    unfold pR at h
    split at h
    · exact ⟨_, _, rfl, h⟩
    · exact h.elim
  · rintro ⟨x, r, rfl, h⟩; exact h
theorem lI_iff : ∀ {l : List (Option MV)} {n : Nat} {f : Int → Prop}, lI l n f ↔ ∃ x, getL l n = some (.inl x) ∧ f x
  | [], n, f => by cases n <;> exact ⟨fun h => False.elim h, fun ⟨x, h, _⟩ => by cases h⟩
  | a :: l, 0, f => by
    constructor
    · intro h
      rcases a with _ | (v | v | _ | v) <;> first | exact False.elim h | exact ⟨_, rfl, h⟩
    · rintro ⟨x, h, q⟩
      cases h
      exact q
  | a :: l, n + 1, f => by
    have ih := lI_iff (l := l) (n := n) (f := f)
    have e : lI (a :: l) (n + 1) f = lI l n f := by
      rcases a with _ | (v | v | _ | v) <;> rfl
    rw [e]
    exact ih
theorem lL_iff : ∀ {l : List (Option MV)} {n : Nat} {f : Int → Prop}, lL l n f ↔ ∃ x, getL l n = some (.inr (.inl x)) ∧ f x
  | [], n, f => by cases n <;> exact ⟨fun h => False.elim h, fun ⟨x, h, _⟩ => by cases h⟩
  | a :: l, 0, f => by
    constructor
    · intro h
      rcases a with _ | (v | v | _ | v) <;> first | exact False.elim h | exact ⟨_, rfl, h⟩
    · rintro ⟨x, h, q⟩
      cases h
      exact q
  | a :: l, n + 1, f => by
    have ih := lL_iff (l := l) (n := n) (f := f)
    have e : lL (a :: l) (n + 1) f = lL l n f := by
      rcases a with _ | (v | v | _ | v) <;> rfl
    rw [e]
    exact ih
theorem lR_iff : ∀ {l : List (Option MV)} {n : Nat} {f : Int → Prop}, lR l n f ↔ ∃ x, getL l n = some (.inr (.inr (some x))) ∧ f x
  | [], n, f => by cases n <;> exact ⟨fun h => False.elim h, fun ⟨x, h, _⟩ => by cases h⟩
  | a :: l, 0, f => by
    constructor
    · intro h
      rcases a with _ | (v | v | _ | v) <;> first | exact False.elim h | exact ⟨_, rfl, h⟩
    · rintro ⟨x, h, q⟩
      cases h
      exact q
  | a :: l, n + 1, f => by
    have ih := lR_iff (l := l) (n := n) (f := f)
    have e : lR (a :: l) (n + 1) f = lR l n f := by
      rcases a with _ | (v | v | _ | v) <;> rfl
    rw [e]
    exact ih
theorem pA_iff : ∀ {n : Nat} {st acc : List MV} {f : List MV → List MV → Prop}, pA n st acc f → ∃ As r, As.length = n ∧ st = As.reverse ++ r ∧ f (As ++ acc) r
  | 0, st, acc, f, h => ⟨[], st, rfl, rfl, h⟩
  | n + 1, [], acc, f, h => h.elim
  | n + 1, v :: st, acc, f, h => by
    obtain ⟨As, r, h1, h2, h3⟩ := pA_iff (n := n) (st := st) (acc := v :: acc) (f := f) h
    refine ⟨As ++ [v], r, by rw [List.length_append, h1]; rfl, by rw [h2]; simp, by rw [List.append_assoc]; exact h3⟩
theorem cE_obj {dA : Nat → ClassId} {ad : Int → Nat} {σ : MS} {a : Int} {ci : Nat} (h : (G a).1 = ci) (hc : ci < 10) : cE dA ad σ a = .inr (ci, (List.range (nfs ci)).map (fun (i : Nat) => msl ad σ a (fty ci i) i)) := by
  subst h; unfold cE; rw [if_pos hc]
theorem cE_arr {dA : Nat → ClassId} {ad : Int → Nat} {σ : MS} {a : Int} {t : Nat} (h : (G a).1 = t) (ht : 10 ≤ t) : cE dA ad σ a = .inl (dA t, (G a).2, mar ad σ a t) := by
  subst h; unfold cE; rw [if_neg (by omega)]
theorem mar_int {ad : Int → Nat} {σ : MS} {a : Int} {t : Nat} (h : t = 10 ∨ t = 12 ∨ t = 13) : mar ad σ a t = .inl (fun j => Int32.ofInt (σ.2.2.1 a j)) := by
  unfold mar; rw [if_neg (by omega), if_neg (by omega)]
theorem mar_long {ad : Int → Nat} {σ : MS} {a : Int} : mar ad σ a 11 = .inr (.inl (fun j => Int64.ofInt (σ.2.2.2 a j))) := by
  unfold mar; rw [if_pos rfl]
theorem mar_ref {ad : Int → Nat} {σ : MS} {a : Int} {t : Nat} (h : t = 14 ∨ t = 15 ∨ t = 16) : mar ad σ a t = .inr (.inr (.inr (.inr (fun j => (σ.2.1 a j).map ad)))) := by
  unfold mar; rw [if_neg (by omega), if_pos h]
theorem TY_at {dA : Nat → ClassId} {t : Nat} (h : 10 ≤ t) (h2 : t ≤ 16) : (TY dA)[t - 10]? = some (dA t, aty t) := by
  unfold TY
  rw [List.getElem?_map, List.getElem?_range (by omega)]
  show some (dA (t - 10 + 10), aty (t - 10 + 10)) = _
  rw [show t - 10 + 10 = t by omega]
theorem fv_mtr {ad : Int → Nat} {σ : MS} {a i : Int} {t : FieldType} {c : Nat} (h : c = fcode t) : mtr ad (fv σ a i c) = msl ad σ a t i := by
  subst h
  have e2 : ∀ o : Option Int, mtr ad (.inr (.inr o)) = va_rf (o.map ad) := fun o => by cases o <;> rfl
  unfold fv msl
  cases t <;> first | rfl | exact e2 _
theorem va_rf_mtr {ad : Int → Nat} (o : Option Int) : va_rf (o.map ad) = mtr ad (.inr (.inr o)) := by cases o <;> rfl
theorem mok_P {σ : MS} (h : mwf σ) {a i : Int} (h0 : 0 < a) (h1 : a < σ.1) : mok σ.1 (.inr (.inr (σ.2.1 a i))) := by
  cases e : σ.2.1 a i with
  | none => trivial
  | some b => exact Or.inl (h.2 a i b h0 h1 e)
theorem mok_fv {σ : MS} (h : mwf σ) {a i : Int} {c : Nat} (h0 : 0 < a) (h1 : a < σ.1) : mok σ.1 (fv σ a i c) := by
  unfold fv
  split
  · exact mok_P h h0 h1
  · split <;> trivial
theorem map_set_range {α : Type} {n k : Nat} {f f' : Nat → α} {v : α} (h1 : f' k = v) (h2 : ∀ i, i ≠ k → f' i = f i) : (List.range n).map f' = ((List.range n).map f).set k v := by
  refine List.ext_getElem? (fun i => ?_)
  rw [List.getElem?_set, List.getElem?_map, List.getElem?_map, List.length_map, List.length_range]
  by_cases hi : i < n
  · rw [List.getElem?_range hi]
    by_cases e : k = i
    · subst e; rw [if_pos rfl, if_pos hi, ← h1]; rfl
    · rw [if_neg e]; show some (f' i) = some (f i); rw [h2 i (fun q => e q.symm)]
  · rw [List.getElem?_eq_none (by rw [List.length_range]; omega)]
    by_cases e : k = i
    · subst e; rw [if_pos rfl, if_neg hi]; rfl
    · rw [if_neg e]; rfl
