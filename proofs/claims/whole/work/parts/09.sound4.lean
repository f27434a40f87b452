/-! THE SMALL MACHINE, 7: all instructions -/
theorem len_of {a b : Nat} (h : a = b ∨ b = 0) (hb : b ≠ 0) : a = b := h.elim id (fun q => absurd q hb)
theorem oI_iff {Z : Nat → Option (Int ⊕ Int)} {y : Nat} {f : Int → Prop} : oI Z y f ↔ ∃ x, Z y = some (.inl x) ∧ f x := by
  unfold oI
  constructor
  · intro h
    split at h
    · rename_i e; exact ⟨_, e, h⟩
    · exact h.elim
  · rintro ⟨x, e, h⟩; rw [e]; exact h
theorem oL_iff {Z : Nat → Option (Int ⊕ Int)} {y : Nat} {f : Int → Prop} : oL Z y f ↔ ∃ x, Z y = some (.inr x) ∧ f x := by
  unfold oL
  constructor
  · intro h
    split at h
    · rename_i e; exact ⟨_, e, h⟩
    · exact h.elim
  · rintro ⟨x, e, h⟩; rw [e]; exact h
theorem oF_iff {F : Nat → Option (Nat × Nat × Nat × Nat)} {x : Nat} {f : Nat → Nat → Nat → Nat → Prop} : oF F x f ↔ ∃ a b c d, F x = some (a, b, c, d) ∧ f a b c d := by
  unfold oF
  constructor
  · intro h
    split at h
    · rename_i e; exact ⟨_, _, _, _, e, h⟩
    · exact h.elim
  · rintro ⟨a, b, c, d, e, h⟩; rw [e]; exact h
theorem oC_iff {Y : Nat → Option CI} {x : Nat} {f : Nat → Nat → Nat → Nat → (List MV → MS → (Option MV → MS → Prop) → Prop) → Prop} : oC Y x f ↔ ∃ a b c d g, Y x = some (a, b, c, d, g) ∧ f a b c d g := by
  unfold oC
  constructor
  · intro h
    split at h
    · rename_i e; exact ⟨_, _, _, _, _, e, h⟩
    · exact h.elim
  · rintro ⟨a, b, c, d, g, e, h⟩; rw [e]; exact h
theorem oS_iff {o : Option (Nat × (Int → Int))} {f : Nat → (Int → Int) → Prop} : oS o f ↔ ∃ a b, o = some (a, b) ∧ f a b := by
  constructor
  · intro h
    unfold oS at h
    split at h
    · exact ⟨_, _, rfl, h⟩
    · exact h.elim
  · rintro ⟨a, b, rfl, h⟩; exact h
theorem fp_2 {c : Nat} {st : List MV} {σ : MS} {i : Int} {f : List MV → MS → Prop} (hc : c = 2) (h : fp c st σ i f) : ∃ v a r, st = .inr (.inr (some v)) :: .inr (.inr (some a)) :: r ∧ (G v).1 ≠ 17 ∧ f r (mputP σ a i (some v)) := by
  subst hc
  obtain ⟨v, r, e1, h1⟩ := pR_iff.mp (show pR st _ from h)
  obtain ⟨a, r, e2, h2⟩ := pR_iff.mp h1
  subst e2
  exact ⟨v, a, r, e1, h2⟩
theorem fp_0 {c : Nat} {st : List MV} {σ : MS} {i : Int} {f : List MV → MS → Prop} (hc : c ≠ 2) (h : fp c st σ i f) : c ≠ 1 ∧ ∃ x a r, st = .inl x :: .inr (.inr (some a)) :: r ∧ (c = 3 → x = 0 ∨ x = 1) ∧ f r (mputI σ a i x) := by
  unfold fp at h
  rw [if_neg hc] at h
  by_cases h1 : c = 1
  · rw [if_pos h1] at h; exact h.elim
  · rw [if_neg h1] at h
    obtain ⟨x, r, rfl, h⟩ := pI_iff.mp h
    obtain ⟨a, r, rfl, h⟩ := pR_iff.mp h
    exact ⟨h1, x, a, r, rfl, h⟩
theorem chkT_g {pc len : Nat} {ts : List Nat} {off : Int} (h : chkT pc (.goto off) len ts = true) : ∃ t, ts = [t] ∧ (pc : Int) + off = (t : Nat) := by
  unfold chkT at h
  rw [Bool.and_eq_true] at h
  obtain ⟨-, h⟩ := h
  split at h
  · exact ⟨_, rfl, of_decide_eq_true h⟩
  · cases h
theorem chkT_c {pc len : Nat} {ts : List Nat} {off : Int} {cd : ClassFile.Cond} (h : chkT pc (.ifCond cd off) len ts = true) : ∃ t, ts = [t] ∧ (pc : Int) + off = (t : Nat) := by
  unfold chkT at h
  rw [Bool.and_eq_true] at h
  obtain ⟨-, h⟩ := h
  split at h
  · exact ⟨_, rfl, of_decide_eq_true h⟩
  · cases h
theorem chkT_i {pc len : Nat} {ts : List Nat} {off : Int} {cd : ClassFile.Cond} (h : chkT pc (.if_icmp cd off) len ts = true) : ∃ t, ts = [t] ∧ (pc : Int) + off = (t : Nat) := by
  unfold chkT at h
  rw [Bool.and_eq_true] at h
  obtain ⟨-, h⟩ := h
  split at h
  · exact ⟨_, rfl, of_decide_eq_true h⟩
  · cases h
theorem chkT_sw {pc len : Nat} {ts : List Nat} {d lo hi : Int} {offs : Array Int} (h : chkT pc (.tableswitch d lo hi offs) len ts = true) : ∃ t ts', ts = t :: ts' ∧ (pc : Int) + d = t ∧ (ts'.map (fun (t : Nat) => (t : Int)) = offs.toList.map fun o => (pc : Int) + o) ∧ hi - lo + 1 = offs.toList.length := by
  unfold chkT at h
  rw [Bool.and_eq_true, decide_eq_true_eq, decide_eq_true_eq] at h
  obtain ⟨h1, h2⟩ := h
  cases ts with
  | nil => cases h1
  | cons t ts' =>
    rw [List.map_cons, List.map_cons, List.cons.injEq] at h1
    exact ⟨t, ts', rfl, h1.1.symm, h1.2, h2⟩
theorem tsw_get {f : Nat → Prop} {x : Int} : ∀ {ts : List Nat} {v : Int} {n t : Nat}, tsw f x v ts → ts[n]? = some t → x = v + n → f t
  | [], v, n, t, h, hn, hx => by cases n <;> cases hn
  | a :: ts, v, 0, t, h, hn, hx => by cases hn; exact h.1 (by omega)
  | a :: ts, v, n + 1, t, h, hn, hx => tsw_get (ts := ts) (v := v + 1) (n := n) h.2 hn (by omega)
theorem tsw_at {f : Nat → Prop} {x lo : Int} {ts : List Nat} {offs : Array Int} {pc : Nat} (hm : ts.map (fun (t : Nat) => (t : Int)) = offs.toList.map fun o => (pc : Int) + o) (h : tsw f x lo ts) (h1 : lo ≤ x) (h2 : (x - lo).toNat < offs.toList.length) :
    ∃ off t, offs[(x - lo).toNat]? = some off ∧ (pc : Int) + off = (t : Nat) ∧ f t := by
  have hlen : ts.length = offs.toList.length := by have := congrArg List.length hm; rwa [List.length_map, List.length_map] at this
  have ht : ts[(x - lo).toNat]? = some (ts[(x - lo).toNat]'(by omega)) := List.getElem?_eq_getElem _
  have ho : offs.toList[(x - lo).toNat]? = some (offs.toList[(x - lo).toNat]'h2) := List.getElem?_eq_getElem _
  refine ⟨_, _, by rw [← Array.getElem?_toList]; exact ho, ?_, tsw_get h ht (by omega)⟩
  have := congrArg (fun l => l[(x - lo).toNat]?) hm
  simp only [List.getElem?_map, ht, ho, Option.map_some, Option.some.injEq] at this
  exact this.symm
theorem msl_putI {ad : Int → Nat} {σ : MS} {a y : Int} {fi : Nat} {t : FieldType} (hc : fcode t = 0 ∨ fcode t = 3 ∧ (y = 0 ∨ y = 1)) : msl ad (mputI σ a fi y) a t fi = mtr ad (.inl y) := by
  have e : (mputI σ a fi y).2.2.1 a fi = y := if_pos ⟨rfl, rfl⟩
  unfold msl
  rcases hc with h | ⟨h, -⟩ <;> rw [h] <;> (show Value.int (Int32.ofInt _) = _) <;> rw [e] <;> rfl
theorem msl_putIn {ad : Int → Nat} {σ : MS} {a y : Int} {fi i : Nat} {t : FieldType} (h : i ≠ fi) : msl ad (mputI σ a fi y) a t i = msl ad σ a t i := by
  have e : (mputI σ a fi y).2.2.1 a i = σ.2.2.1 a i := if_neg (fun q => h (by have := q.2; omega))
  unfold msl
  rw [e]; rfl
theorem msl_putP {ad : Int → Nat} {σ : MS} {a : Int} {v : Option Int} {fi : Nat} {t : FieldType} (h : fcode t = 2) : msl ad (mputP σ a fi v) a t fi = mtr ad (.inr (.inr v)) := by
  have e : (mputP σ a fi v).2.1 a fi = v := if_pos ⟨rfl, rfl⟩
  unfold msl
  rw [h]
  show va_rf _ = _
  rw [e, va_rf_mtr]
theorem msl_putPn {ad : Int → Nat} {σ : MS} {a : Int} {v : Option Int} {fi i : Nat} {t : FieldType} (h : i ≠ fi) : msl ad (mputP σ a fi v) a t i = msl ad σ a t i := by
  have e : (mputP σ a fi v).2.1 a i = σ.2.1 a i := if_neg (fun q => h (by have := q.2; omega))
  unfold msl
  rw [e]; rfl
theorem fty_int {ad : Int → Nat} {t : FieldType} {y : Int} (hc : fcode t = 0 ∨ fcode t = 3 ∧ (y = 0 ∨ y = 1)) : narrow t (mtr ad (.inl y)) = mtr ad (.inl y) ∧ fits t (mtr ad (.inl y)) = true := by
  rcases hc with h | ⟨h, h2⟩
  · cases t <;> first | exact ⟨rfl, rfl⟩ | cases h
  · cases t <;> first | (rcases h2 with rfl | rfl <;> exact ⟨rfl, rfl⟩) | cases h
theorem fty_ref {ad : Int → Nat} {t : FieldType} {v : Option Int} (h : fcode t = 2) : narrow t (mtr ad (.inr (.inr v))) = mtr ad (.inr (.inr v)) ∧ fits t (mtr ad (.inr (.inr v))) = true := by
  cases t <;> first | (cases v <;> exact ⟨rfl, rfl⟩) | cases h
theorem G_17 {N : Nat} {a : Int} (h : mok N (.inr (.inr (some a)))) (hg : (G a).1 = 17) : a = 0 := by
  rcases h with h | h
  · exfalso
    have : (fun z : Nat × Nat => a ≤ 0 ∨ z.1 ≠ 17) (G a) := by
      unfold G
      by_cases h0 : a ≤ 0
      · exact Or.inl h0
      rw [if_neg h0]
      repeat' refine ite_P (P := fun z : Nat × Nat => a ≤ 0 ∨ z.1 ≠ 17) ?_ ?_
      all_goals exact Or.inr (by decide)
    rcases this with q | q
    · omega
    · exact q hg
  · exact h
theorem upI_ar {I : Int → Int → Int} {a i x : Int} {q : Nat} (hi : ((i.toNat : Nat) : Int) = i) : Int32.ofInt (upI I a i x a q) = upd (fun j : Nat => Int32.ofInt (I a j)) i.toNat (Int32.ofInt x) q := by
  unfold upI upd
  by_cases h : q = i.toNat
  · rw [if_pos ⟨rfl, by omega⟩, if_pos h]
  · rw [if_neg (fun z => h (by have := z.2; omega)), if_neg h]
theorem upL_ar {I : Int → Int → Int} {a i x : Int} {q : Nat} (hi : ((i.toNat : Nat) : Int) = i) : Int64.ofInt (upI I a i x a q) = vp_updL (fun j : Nat => Int64.ofInt (I a j)) i.toNat (Int64.ofInt x) q := by
  unfold upI vp_updL
  by_cases h : q = i.toNat
  · rw [if_pos ⟨rfl, by omega⟩, if_pos h]
  · rw [if_neg (fun z => h (by have := z.2; omega)), if_neg h]
theorem upP_ar {ad : Int → Nat} {P : Int → Int → Option Int} {a i x : Int} {q : Nat} (hi : ((i.toNat : Nat) : Int) = i) : (upP P a i (some x) a q).map ad = va_up (fun j : Nat => (P a j).map ad) i.toNat (some (ad x)) q := by
  unfold upP va_up
  by_cases h : q = i.toNat
  · rw [if_pos ⟨rfl, by omega⟩, if_pos h]; rfl
  · rw [if_neg (fun z => h (by have := z.2; omega)), if_neg h]
theorem mok_new {σ : MS} (h : mwf σ) : mok (mnew σ).1 (.inr (.inr (some (σ.1 : Int)))) := Or.inl ⟨by have := h.1; omega, by show (σ.1 : Int) < ((σ.1 + 1 : Nat) : Int); omega⟩
theorem mnew_I (σ : MS) (i : Int) : (mnew σ).2.2.1 σ.1 i = 0 := if_pos rfl
theorem mnew_L (σ : MS) (i : Int) : (mnew σ).2.2.2 σ.1 i = 0 := if_pos rfl
theorem mnew_P {ad : Int → Nat} (σ : MS) : (fun j : Nat => ((mnew σ).2.1 σ.1 j).map ad) = fun _ => none := funext fun j => by
  show (if (σ.1 : Int) = σ.1 then none else _).map ad = none
  rw [if_pos rfl]; rfl
theorem fty_all_b : ((List.range 10).all fun ci => (List.range (nfs ci)).all fun i => decide (fcode (fty ci i) ≤ 3)) = true := by decide +kernel
theorem fty_all {ci i : Nat} (h : ci < 10) (hi : i < nfs ci) : fcode (fty ci i) ≤ 3 := of_decide_eq_true (List.all_eq_true.mp (List.all_eq_true.mp fty_all_b ci (List.mem_range.mpr h)) i (List.mem_range.mpr hi))
theorem msl_new {ad : Int → Nat} {σ : MS} {t : FieldType} {i : Nat} (h : fcode t ≤ 3) : msl ad (mnew σ) σ.1 t i = defaultValue t := by
  have e : (mnew σ).2.1 σ.1 i = none := if_pos rfl
  unfold msl
  rw [mnew_I, mnew_L, e]
  cases t <;> first | rfl | (exfalso; revert h; decide)
theorem atk_ok {t : ArrayType} (h : atk t ≤ 13) : 10 ≤ atk t ∧ atk t ≤ 16 ∧ newarray.typeOf t = aty (atk t) ∧ (atk t = 10 ∨ atk t = 11 ∨ atk t = 12 ∨ atk t = 13) ∧ Cond.arrayClass (newarray.typeOf t) ∈ WS := by
  cases t <;> first | (exfalso; revert h; decide) | exact ⟨by decide, by decide, rfl, by decide, ws_mem (by decide +kernel) (by decide +kernel)⟩
theorem mar_newE {ad ad' : Int → Nat} {σ : MS} {t : Nat} : mar ad' (mnew σ) σ.1 t = mar ad (mnew σ) σ.1 t := by
  unfold mar
  rw [mnew_P, mnew_P]
theorem mar_new {ad : Int → Nat} {σ : MS} {t n : Nat} {cA : ClassId} (h : t = 10 ∨ t = 11 ∨ t = 12 ∨ t = 13) {ty : FieldType} (hty : aty t = ty) : vp_cell cA (n, mar ad (mnew σ) σ.1 t) = arrV cA n (fun _ => defaultValue ty) := by
  subst hty
  rcases h with rfl | rfl | rfl | rfl
  · rw [mar_int (.inl rfl)]; simp only [mnew_I]; rfl
  · rw [mar_long]; simp only [mnew_L]; rfl
  · rw [mar_int (.inr (.inl rfl))]; simp only [mnew_I]; rfl
  · rw [mar_int (.inr (.inr rfl))]; simp only [mnew_I]; rfl
section SN
variable {p : Program} {l : Launch} {e : Env} {R : Room} {s : State} {m : MethodId} {args : Array Value} {below : List Frame} {meth : Method} {c : Code} {Q : State → Prop} {D : va_G} {dA : Nat → ClassId} {A : Nat → Prop} {H0 : Heap} {b0 : (Int → Nat) × Nat} {nL : Nat}
set_option maxHeartbeats 4000000 in
/-- new int[n][q] -/
theorem stp_multi {own : String} {bytes : ByteArray} {ini : Bool} {S : Option (Nat × (Int → Int))} (hsf : SF own bytes ini S p s m args meth c D dA A H0 b0 nL) {x t pc : Nat} {st : List MV} {σ : MS} {k j : Nat} {ls : List (Option MV)}
    {N : List (Option MV) → List MV → MS → Nat → Nat → Prop} (hU : t = 16 → Cond.classLink own x "[[I" ∈ WS) (hd : decode bytes pc = .ok (.multianewarray x 2, 4))
    (h : pI st fun q r => pI r fun n r => 0 ≤ n ∧ n ≤ 1000 ∧ 0 ≤ q ∧ q ≤ 1000 ∧ t = 16 ∧ G σ.1 = (16, n.toNat) ∧ (∀ i : Nat, i < n.toNat → G (σ.1 + 1 + i) = (10, q.toNat)) ∧ k + 1 + n.toNat ≤ R.cells ∧ j + n.toNat + n.toNat * q.toNat ≤ R.slots ∧
      N ls (.inr (.inr (some σ.1)) :: r) (mnewM σ n.toNat) (k + 1 + n.toNat) (j + n.toNat + n.toNat * q.toNat))
    (hnx : ∀ ls' st' σ' k' j', N ls' st' σ' k' j' → Rw p l e R s m args below meth c Q D dA A H0 b0 nL (pc + 4, ls', st', σ', k', j')) : Rw p l e R s m args below meth c Q D dA A H0 b0 nL (pc, ls, st, σ, k, j) := by
  obtain ⟨hx, hb, hml, hown, hts, hK, hA, hini, hao, hscr⟩ := hsf
  obtain ⟨q, r0, hs1, hh⟩ := pI_iff.mp h
  obtain ⟨n, r, hs2, n1, n2, q1, q2, ht, hg, hgr, c3, c4, hz⟩ := pI_iff.mp hh
  clear h hh
  subst hs2
  subst hs1
  have h := hz
  intro ad H locs rl h0 hR hl hst
  have hrn : RI n := by unfold RI; omega
  have hrq : RI q := by unfold RI; omega
  have hN : 1 ≤ σ.1 := hR.2.2.2.1
  have hwf2 : ∀ a i b : Int, 0 < a → a < σ.1 → σ.2.1 a i = some b → 0 < b ∧ b < σ.1 := hR.2.2.2.2
  have hcy : s.vm.findClass (FieldType.array .int).toString = some (dA 10) := (hK.2 _ _ (TY_at (dA := dA) (t := 10) (by decide) (by decide))).2
  have hP0 : va_P D vwCl (mcells dA ad σ ++ va_pl [] (fun _ => .inl (0, 0, .inl (fun _ => 0)))) H := by
    show va_P D vwCl (mcells dA ad σ ++ []) H
    rw [List.append_nil]; exact hR.1
  have hD0 : va_D A (mcells dA ad σ ++ va_pl [] (fun _ => .inl (0, 0, .inl (fun _ => 0)))) := by
    show va_D A (mcells dA ad σ ++ [])
    rw [List.append_nil]; exact hR.2.1
  have hac : Cond.arrayClass .int ∈ WS := (atk_ok (t := .int) (by decide)).2.2.2.2
  refine va_mna (ty := .int) (N' := n.toNat) (K' := q.toNat) (z := (q.toNat, .inl (fun _ => 0))) hx hb hown (hts _ (hU ht)) hao.2.2 (hts _ hac) hcy hK hP0 hD0 hR.2.2.1 hA (fun w => by have := (I_lt hrn RI_0).mp w; omega) (fun w => by have := (I_lt hrq RI_0).mp w; omega) (I_clamp hrn) (I_clamp hrq) (by omega) (by show q.toNat * 4 ≤ _; omega) (by omega) rfl rfl (by rw [← Nat.add_assoc]; exact c3) (by rw [← Nat.add_assoc]; exact c4) (fun c => by show (Jvm.Free.Multi.innerC c q.toNat (.int 0)) = arrV c q.toNat (fun _ => .int 0); rw [← arrV_new]; rfl) hd (fun q0 rr cA H1 hinj hnot hK' P1 D1 S1 => ?_)
  have hcA := TY_new hK hK' (t := 16) (by decide) (by decide) rfl
  subst hcA
  have hpl : ∀ (L : List Nat) (e : va_E) (f : Nat → va_E), va_pl ([] ++ L) (vr_up f L e) = L.map (fun a => (a, e)) := fun L e f => by
    unfold va_pl
    rw [List.nil_append]
    exact List.map_congr_left (fun a ha => by rw [vr_up_in ha])
  rw [hpl, List.append_assoc] at P1 D1
  have hlt : ∀ a : Int, 0 < a → a < σ.1 → ¬ ((σ.1 : Int) ≤ a) := fun a _ h1 => by omega
  obtain ⟨ad', hadD⟩ : ∃ ad' : Int → Nat, ad' = fun (b : Int) => if b = σ.1 then q0 else if (σ.1 : Int) < b then rr ((b : Int) - σ.1 - 1).toNat else ad b := ⟨_, rfl⟩
  have d2 : ad' σ.1 = q0 := by rw [hadD]; exact if_pos rfl
  have d1 : ∀ a : Int, a < σ.1 → ad' a = ad a := fun a h1 => by rw [hadD]; show (if a = σ.1 then _ else _) = _; rw [if_neg (by omega), if_neg (by omega)]
  have d3 : ∀ i : Nat, ad' ((σ.1 : Int) + 1 + i) = rr i := fun i => by
    rw [hadD]; show (if _ = _ then _ else _) = _
    rw [if_neg (by omega), if_pos (by omega), show ((σ.1 : Int) + 1 + i - σ.1 - 1).toNat = i by omega]
  have eP : ∀ i : Nat, i < n.toNat → (mnewM σ n.toNat).2.1 σ.1 i = some ((σ.1 : Int) + 1 + i) := fun i hi => by
    show (if (σ.1 : Int) ≤ σ.1 then _ else _) = _
    rw [if_pos (Int.le_refl _), if_pos ⟨rfl, by omega, by omega⟩]
  have eP2 : ∀ i : Nat, ¬ i < n.toNat → (mnewM σ n.toNat).2.1 σ.1 i = none := fun i hi => by
    show (if (σ.1 : Int) ≤ σ.1 then _ else _) = _
    rw [if_pos (Int.le_refl _), if_neg (fun z => by omega)]
  have hm := mcells_app (dA := dA) (ad := ad) (ad' := ad') (σ := σ) (σ' := mnewM σ n.toNat) (ws := [(q0, .inl (dA 16, n.toNat, .inr (.inr (.inr (.inr (fun i => if i < n.toNat then some (rr i) else none))))))] ++ ((List.range n.toNat).map rr).map (fun a => (a, .inl (dA 10, q.toNat, .inl (fun _ => 0))))) hN (by simp [mnewM]; omega) (fun a a0 a1 => ⟨d1 a a1, by
      refine cE_congr (funext fun z => ?_) (funext fun z => ?_) (fun z => ?_)
      · show (if (σ.1 : Int) ≤ a then 0 else _) = _
        rw [if_neg (hlt a a0 a1)]
      · show (if (σ.1 : Int) ≤ a then 0 else _) = _
        rw [if_neg (hlt a a0 a1)]
      · show Option.map ad' (if (σ.1 : Int) ≤ a then _ else _) = _
        rw [if_neg (hlt a a0 a1)]
        cases hp : σ.2.1 a z with
        | none => rfl
        | some w =>
          have := hwf2 a z w a0 a1 hp
          exact congrArg some (d1 w this.2)⟩) (fun i z hz => by
      cases i with
      | zero =>
        cases hz
        rw [show (σ.1 : Int) + ((0 : Nat) : Int) = σ.1 by omega, d2, cE_arr (congrArg Prod.fst hg) (Nat.le_of_ble_eq_true rfl), congrArg Prod.snd hg, mar_ref (.inr (.inr rfl))]
        refine congrArg (fun f => (q0, (Sum.inl (dA 16, n.toNat, .inr (.inr (.inr (.inr f)))) : va_E))) (funext fun i => ?_)
        by_cases hi : i < n.toNat
        · rw [if_pos hi, eP i hi]; exact congrArg some (d3 i).symm
        · rw [if_neg hi, eP2 i hi]; rfl
      | succ i =>
        rw [List.singleton_append, List.getElem?_cons_succ, List.getElem?_map, List.getElem?_map] at hz
        by_cases hi : i < n.toNat
        · rw [List.getElem?_range hi] at hz
          cases hz
          have e1 : (σ.1 : Int) + ((i + 1 : Nat) : Int) = (σ.1 : Int) + 1 + i := by omega
          rw [e1, d3, cE_arr (congrArg Prod.fst (hgr i hi)) (Nat.le_of_ble_eq_true rfl), congrArg Prod.snd (hgr i hi), mar_int (.inl rfl)]
          refine congrArg (fun f => (rr i, (Sum.inl (dA 10, q.toNat, .inl f) : va_E))) (funext fun w => ?_)
          show (0 : Int32) = Int32.ofInt (if (σ.1 : Int) ≤ (σ.1 : Int) + 1 + i then 0 else _)
          rw [if_pos (by omega)]; rfl
        · rw [List.getElem?_eq_none (by rw [List.length_range]; omega)] at hz
          cases hz)
  rw [hm] at P1 D1
  have hw : mwf (mnewM σ n.toNat) := by
    refine ⟨by show 1 ≤ σ.1 + 1 + n.toNat; omega, fun a i b a0 a1 hb => ?_⟩
    change a < ((σ.1 + 1 + n.toNat : Nat) : Int) at a1
    change (if (σ.1 : Int) ≤ a then (if a = σ.1 ∧ 0 ≤ i ∧ i < n.toNat then some ((σ.1 : Int) + 1 + i) else none) else σ.2.1 a i) = some b at hb
    show 0 < b ∧ b < ((σ.1 + 1 + n.toNat : Nat) : Int)
    split at hb
    · split at hb
      · cases hb; omega
      · cases hb
    · have := hwf2 a i b a0 (by omega) hb
      omega
  have hle : σ.1 ≤ (mnewM σ n.toNat).1 := by show σ.1 ≤ σ.1 + 1 + n.toNat; omega
  have h00 : ad' 0 = ad 0 := d1 0 (by omega)
  have hq := hnx _ _ _ _ _ h ad' H1 locs rl (h0.moved hle h00 (fun a _ a1 => d1 a a1)) ⟨P1, D1, S1, hw⟩ (hl.moved hle h00 (fun a _ a1 => d1 a a1)) (mok_cons (Or.inl ⟨by omega, by show (σ.1 : Int) < ((σ.1 + 1 + n.toNat : Nat) : Int); omega⟩) (fun v hv => mok_le hle (mok_tl (mok_tl hst) v hv)))
  have hmr := mapr_moved h00 (fun a _ a1 => d1 a a1) (mok_tl (mok_tl hst))
  rw [← d2]
  change W p l e R s m args below meth c H1 locs (k + 1 + n.toNat) (j + n.toNat + n.toNat * q.toNat) Q (F0 m (pc + 4) rl (.ref (ad' σ.1) :: r.map (mtr ad'))) at hq
  rw [hmr] at hq
  exact hq
set_option maxHeartbeats 4000000 in
set_option maxRecDepth 100000 in
theorem stp_ok {own : String} {bytes : ByteArray} {ini : Bool} {S : Option (Nat × (Int → Int))} {F : Nat → Option (Nat × Nat × Nat × Nat)} {Y : Nat → Option CI} {Z : Nat → Option (Int ⊕ Int)} {U : Nat → Option Nat} {post : Option MV → MS → Prop} {K : Pt → Prop}
    (hsf : SF own bytes ini S p s m args meth c D dA A H0 b0 nL) (hF : FOK own F) (hZ : ZOK own Z) (hU : UOK own U) (hY : ∀ x ci, Y x = some ci → CalOK own R x ci)
    (hret : ∀ pc ls st σ k j i r, decode bytes pc = .ok (i, 1) → retI i st r → k ≤ R.cells → j ≤ R.slots → post r σ → Rw p l e R s m args below meth c Q D dA A H0 b0 nL (pc, ls, st, σ, k, j))
    (hKK : ∀ pt, K pt → Rw p l e R s m args below meth c Q D dA A H0 b0 nL pt)
    {nx : List ME → Nat → List (Option MV) → List MV → MS → Nat → Nat → Prop} {i : Instr} {len : Nat} {ts : List Nat} {b : List ME} {pc : Nat} (hd : decode bytes pc = .ok (i, len)) (hlen : len = ilen i ∨ ilen i = 0) (hT : chkT pc i len ts = true)
    (hnx : ∀ b' pc' ls' st' σ' k' j', (b' = b ∧ pc' = pc + len ∨ b' = []) → nx b' pc' ls' st' σ' k' j' → Rw p l e R s m args below meth c Q D dA A H0 b0 nL (pc', ls', st', σ', k', j'))
    {ls : List (Option MV)} {st : List MV} {σ : MS} {k j : Nat} (h : stp F Y Z U S ini R.cells R.slots post K nx i len ts b pc ls st σ k j) : Rw p l e R s m args below meth c Q D dA A H0 b0 nL (pc, ls, st, σ, k, j) := by
  have hsf0 := hsf
  obtain ⟨hx, hb, hml, hown, hts, hK, hA, hini, hao, hscr⟩ := hsf
  cases i
  case iconst n =>
    have e : len = 1 := len_of hlen (by decide)
    subst e
    intro ad H locs rl h0 hR hl hst
    refine lv_iconst hx hb hd rfl ?_
    exact hnx _ _ _ _ _ _ _ (.inl ⟨rfl, rfl⟩) h ad H locs rl h0 hR hl (mok_cons trivial hst)
  case bipush n =>
    have e : len = 2 := len_of hlen (by decide)
    subst e
    have hT := of_decide_eq_true hT
    intro ad H locs rl h0 hR hl hst
    refine lv_bipush hx hb hd (I8_lit hT.1 hT.2) ?_
    exact hnx _ _ _ _ _ _ _ (.inl ⟨rfl, rfl⟩) h ad H locs rl h0 hR hl (mok_cons trivial hst)
  case sipush n =>
    have e : len = 3 := len_of hlen (by decide)
    subst e
    have hT := of_decide_eq_true hT
    intro ad H locs rl h0 hR hl hst
    refine lv_sipush hx hb hd (I16_lit hT.1 hT.2) ?_
    exact hnx _ _ _ _ _ _ _ (.inl ⟨rfl, rfl⟩) h ad H locs rl h0 hR hl (mok_cons trivial hst)
  case lconst n =>
    have e : len = 1 := len_of hlen (by decide)
    subst e
    intro ad H locs rl h0 hR hl hst
    refine lv_lconst hx hb hd (v := Int64.ofInt (n.val : Int)) rfl ?_
    exact hnx _ _ _ _ _ _ _ (.inl ⟨rfl, rfl⟩) h ad H locs rl h0 hR hl (mok_cons trivial hst)
  case ldc x =>
    have e : len = 2 := len_of hlen (by decide)
    subst e
    obtain ⟨v, hv, h⟩ := oI_iff.mp h
    intro ad H locs rl h0 hR hl hst
    refine lv_ldc hx hb hown (hts _ ((hZ x v).1 hv)) hd ?_
    exact hnx _ _ _ _ _ _ _ (.inl ⟨rfl, rfl⟩) h ad H locs rl h0 hR hl (mok_cons trivial hst)
  case ldc_w x =>
    have e : len = 3 := len_of hlen (by decide)
    subst e
    obtain ⟨v, hv, h⟩ := oI_iff.mp h
    intro ad H locs rl h0 hR hl hst
    refine lv_ldcw hx hb hown (hts _ ((hZ x v).1 hv)) hd ?_
    exact hnx _ _ _ _ _ _ _ (.inl ⟨rfl, rfl⟩) h ad H locs rl h0 hR hl (mok_cons trivial hst)
  case ldc2_w x =>
    have e : len = 3 := len_of hlen (by decide)
    subst e
    obtain ⟨v, hv, h⟩ := oL_iff.mp h
    intro ad H locs rl h0 hR hl hst
    refine lv_ldc2 hx hb hown (hts _ ((hZ x v).2 hv)) hd ?_
    exact hnx _ _ _ _ _ _ _ (.inl ⟨rfl, rfl⟩) h ad H locs rl h0 hR hl (mok_cons trivial hst)
  case iload x =>
    have e : len = 2 := len_of hlen (by decide)
    subst e
    obtain ⟨v, hv, h⟩ := lI_iff.mp h
    intro ad H locs rl h0 hR hl hst
    have hg := hl.2.2.2 _ _ hv
    refine lv_iload hx hb hd hg.1 ?_
    exact hnx _ _ _ _ _ _ _ (.inl ⟨rfl, rfl⟩) h ad H locs rl h0 hR hl (mok_cons hg.2 hst)
  case iload_n x =>
    have e : len = 1 := len_of hlen (by decide)
    subst e
    obtain ⟨v, hv, h⟩ := lI_iff.mp h
    intro ad H locs rl h0 hR hl hst
    have hg := hl.2.2.2 _ _ hv
    refine lv_iload_n hx hb hd rfl hg.1 ?_
    exact hnx _ _ _ _ _ _ _ (.inl ⟨rfl, rfl⟩) h ad H locs rl h0 hR hl (mok_cons hg.2 hst)
  case lload x =>
    have e : len = 2 := len_of hlen (by decide)
    subst e
    obtain ⟨v, hv, h⟩ := lL_iff.mp h
    intro ad H locs rl h0 hR hl hst
    have hg := hl.2.2.2 _ _ hv
    refine lv_lload hx hb hd hg.1 ?_
    exact hnx _ _ _ _ _ _ _ (.inl ⟨rfl, rfl⟩) h ad H locs rl h0 hR hl (mok_cons hg.2 hst)
  case lload_n x =>
    have e : len = 1 := len_of hlen (by decide)
    subst e
    obtain ⟨v, hv, h⟩ := lL_iff.mp h
    intro ad H locs rl h0 hR hl hst
    have hg := hl.2.2.2 _ _ hv
    refine lv_lload_n hx hb hd rfl hg.1 ?_
    exact hnx _ _ _ _ _ _ _ (.inl ⟨rfl, rfl⟩) h ad H locs rl h0 hR hl (mok_cons hg.2 hst)
  case aload x =>
    have e : len = 2 := len_of hlen (by decide)
    subst e
    obtain ⟨v, hv, h⟩ := lR_iff.mp h
    intro ad H locs rl h0 hR hl hst
    have hg := hl.2.2.2 _ _ hv
    refine lv_aload hx hb hd hg.1 ?_
    exact hnx _ _ _ _ _ _ _ (.inl ⟨rfl, rfl⟩) h ad H locs rl h0 hR hl (mok_cons hg.2 hst)
  case aload_n x =>
    have e : len = 1 := len_of hlen (by decide)
    subst e
    obtain ⟨v, hv, h⟩ := lR_iff.mp h
    intro ad H locs rl h0 hR hl hst
    have hg := hl.2.2.2 _ _ hv
    refine lv_aload_n hx hb hd rfl hg.1 ?_
    exact hnx _ _ _ _ _ _ _ (.inl ⟨rfl, rfl⟩) h ad H locs rl h0 hR hl (mok_cons hg.2 hst)
  case istore x =>
    have e : len = 2 := len_of hlen (by decide)
    subst e
    obtain ⟨v, r, rfl, hlt, h⟩ := pI_iff.mp h
    intro ad H locs rl h0 hR hl hst
    have hxn := ltL_lt _ _ hlt
    rw [hl.2.2.1] at hxn
    refine lv_istore hx hb hd hl.has hxn rfl (fun rl' hl' => ?_)
    exact hnx _ _ _ _ _ _ _ (.inl ⟨rfl, rfl⟩) h ad H locs rl' h0 hR (hl.st1 hxn (mok_hd hst) hl') (mok_tl hst)
  case istore_n x =>
    have e : len = 1 := len_of hlen (by decide)
    subst e
    obtain ⟨v, r, rfl, hlt, h⟩ := pI_iff.mp h
    intro ad H locs rl h0 hR hl hst
    have hxn := ltL_lt _ _ hlt
    rw [hl.2.2.1] at hxn
    refine lv_istore_n hx hb hd rfl hl.has hxn rfl (fun rl' hl' => ?_)
    exact hnx _ _ _ _ _ _ _ (.inl ⟨rfl, rfl⟩) h ad H locs rl' h0 hR (hl.st1 hxn (mok_hd hst) hl') (mok_tl hst)
  case astore x =>
    have e : len = 2 := len_of hlen (by decide)
    subst e
    obtain ⟨v, r, rfl, hlt, h⟩ := pR_iff.mp h
    intro ad H locs rl h0 hR hl hst
    have hxn := ltL_lt _ _ hlt
    rw [hl.2.2.1] at hxn
    refine lv_astore hx hb hd hl.has hxn rfl (fun rl' hl' => ?_)
    exact hnx _ _ _ _ _ _ _ (.inl ⟨rfl, rfl⟩) h ad H locs rl' h0 hR (hl.st1 hxn (mok_hd hst) hl') (mok_tl hst)
  case astore_n x =>
    have e : len = 1 := len_of hlen (by decide)
    subst e
    obtain ⟨v, r, rfl, hlt, h⟩ := pR_iff.mp h
    intro ad H locs rl h0 hR hl hst
    have hxn := ltL_lt _ _ hlt
    rw [hl.2.2.1] at hxn
    refine lv_astore_n hx hb hd rfl hl.has hxn rfl (fun rl' hl' => ?_)
    exact hnx _ _ _ _ _ _ _ (.inl ⟨rfl, rfl⟩) h ad H locs rl' h0 hR (hl.st1 hxn (mok_hd hst) hl') (mok_tl hst)
  case lstore x =>
    have e : len = 2 := len_of hlen (by decide)
    subst e
    obtain ⟨v, r, rfl, hlt, h⟩ := pL_iff.mp h
    intro ad H locs rl h0 hR hl hst
    have hxn := ltL_lt _ _ hlt
    rw [hl.2.2.1] at hxn
    refine lv_lstore hx hb hd hl.has hxn rfl (fun rl' hl' => ?_)
    exact hnx _ _ _ _ _ _ _ (.inl ⟨rfl, rfl⟩) h ad H locs rl' h0 hR (hl.st2 hxn (mok_hd hst) hl') (mok_tl hst)
  case lstore_n x =>
    have e : len = 1 := len_of hlen (by decide)
    subst e
    obtain ⟨v, r, rfl, hlt, h⟩ := pL_iff.mp h
    intro ad H locs rl h0 hR hl hst
    have hxn := ltL_lt _ _ hlt
    rw [hl.2.2.1] at hxn
    refine lv_lstore_n hx hb hd rfl hl.has hxn rfl (fun rl' hl' => ?_)
    exact hnx _ _ _ _ _ _ _ (.inl ⟨rfl, rfl⟩) h ad H locs rl' h0 hR (hl.st2 hxn (mok_hd hst) hl') (mok_tl hst)
  case iinc x n =>
    have e : len = 3 := len_of hlen (by decide)
    subst e
    obtain ⟨v, hv, h⟩ := lI_iff.mp h
    intro ad H locs rl h0 hR hl hst
    have hxn := getL_lt _ _ _ hv
    rw [hl.2.2.1] at hxn
    obtain ⟨q, hq⟩ := List.getElem?_of_mem (mlv_mem (ad := ad) hv)
    refine lv_iinc (v := Int32.ofInt (v + n)) hx hb hd hl.has hq (by rw [Int32.ofInt_add]) hxn rfl (fun rl' hl' => ?_)
    exact hnx _ _ _ _ _ _ _ (.inl ⟨rfl, rfl⟩) h ad H locs rl' h0 hR (hl.st1 (v := .inl (v + n)) hxn trivial hl') (hst)
  case iadd =>
    have e : len = 1 := len_of hlen (by decide)
    subst e
    obtain ⟨y, r, rfl, h⟩ := pI_iff.mp h
    obtain ⟨x, r, rfl, h⟩ := pI_iff.mp h
    intro ad H locs rl h0 hR hl hst
    refine lv_iadd hx hb hd ?_
    rw [← Int32.ofInt_add]
    exact hnx _ _ _ _ _ _ _ (.inl ⟨rfl, rfl⟩) h ad H locs rl h0 hR hl (mok_cons trivial (mok_tl (mok_tl hst)))
  case isub =>
    have e : len = 1 := len_of hlen (by decide)
    subst e
    obtain ⟨y, r, rfl, h⟩ := pI_iff.mp h
    obtain ⟨x, r, rfl, h⟩ := pI_iff.mp h
    intro ad H locs rl h0 hR hl hst
    refine lv_isub hx hb hd ?_
    rw [← Int32.ofInt_sub]
    exact hnx _ _ _ _ _ _ _ (.inl ⟨rfl, rfl⟩) h ad H locs rl h0 hR hl (mok_cons trivial (mok_tl (mok_tl hst)))
  case imul =>
    have e : len = 1 := len_of hlen (by decide)
    subst e
    obtain ⟨y, r, rfl, h⟩ := pI_iff.mp h
    obtain ⟨x, r, rfl, h⟩ := pI_iff.mp h
    intro ad H locs rl h0 hR hl hst
    refine lv_imul hx hb hd ?_
    rw [← Int32.ofInt_mul]
    exact hnx _ _ _ _ _ _ _ (.inl ⟨rfl, rfl⟩) h ad H locs rl h0 hR hl (mok_cons trivial (mok_tl (mok_tl hst)))
  case idiv =>
    have e : len = 1 := len_of hlen (by decide)
    subst e
    obtain ⟨y, r, rfl, h⟩ := pI_iff.mp h
    obtain ⟨x, r, rfl, h1, h2, h3, h⟩ := pI_iff.mp h
    intro ad H locs rl h0 hR hl hst
    refine lv_idiv hx hb hd (fun q => h3 ((I_eq h2 RI_0).mp q)) ?_
    rw [I_div h1 h2]
    exact hnx _ _ _ _ _ _ _ (.inl ⟨rfl, rfl⟩) h ad H locs rl h0 hR hl (mok_cons trivial (mok_tl (mok_tl hst)))
  case irem =>
    have e : len = 1 := len_of hlen (by decide)
    subst e
    obtain ⟨y, r, rfl, h⟩ := pI_iff.mp h
    obtain ⟨x, r, rfl, h1, h2, h3, h⟩ := pI_iff.mp h
    intro ad H locs rl h0 hR hl hst
    refine lv_irem hx hb hd (fun q => h3 ((I_eq h2 RI_0).mp q)) ?_
    rw [I_rem h1 h2]
    exact hnx _ _ _ _ _ _ _ (.inl ⟨rfl, rfl⟩) h ad H locs rl h0 hR hl (mok_cons trivial (mok_tl (mok_tl hst)))
  case iand =>
    have e : len = 1 := len_of hlen (by decide)
    subst e
    obtain ⟨y, r, rfl, h⟩ := pI_iff.mp h
    obtain ⟨x, r, rfl, h⟩ := pI_iff.mp h
    intro ad H locs rl h0 hR hl hst
    refine lv_iand hx hb hd ?_
    rw [← Int32.ofInt_toInt (Int32.ofInt x &&& Int32.ofInt y)]
    exact hnx _ _ _ _ _ _ _ (.inl ⟨rfl, rfl⟩) h ad H locs rl h0 hR hl (mok_cons trivial (mok_tl (mok_tl hst)))
  case ior =>
    have e : len = 1 := len_of hlen (by decide)
    subst e
    obtain ⟨y, r, rfl, h⟩ := pI_iff.mp h
    obtain ⟨x, r, rfl, h⟩ := pI_iff.mp h
    intro ad H locs rl h0 hR hl hst
    refine lv_ior hx hb hd ?_
    rw [← Int32.ofInt_toInt (Int32.ofInt x ||| Int32.ofInt y)]
    exact hnx _ _ _ _ _ _ _ (.inl ⟨rfl, rfl⟩) h ad H locs rl h0 hR hl (mok_cons trivial (mok_tl (mok_tl hst)))
  case ishl =>
    have e : len = 1 := len_of hlen (by decide)
    subst e
    obtain ⟨y, r, rfl, h⟩ := pI_iff.mp h
    obtain ⟨x, r, rfl, h⟩ := pI_iff.mp h
    intro ad H locs rl h0 hR hl hst
    refine lv_ishl hx hb hd ?_
    rw [← Int32.ofInt_toInt (Int32.ofInt x <<< (Int32.ofInt y &&& 31))]
    exact hnx _ _ _ _ _ _ _ (.inl ⟨rfl, rfl⟩) h ad H locs rl h0 hR hl (mok_cons trivial (mok_tl (mok_tl hst)))
  case ladd =>
    have e : len = 1 := len_of hlen (by decide)
    subst e
    obtain ⟨y, r, rfl, h⟩ := pL_iff.mp h
    obtain ⟨x, r, rfl, h⟩ := pL_iff.mp h
    intro ad H locs rl h0 hR hl hst
    refine lv_ladd hx hb hd ?_
    rw [← Int64.ofInt_add]
    exact hnx _ _ _ _ _ _ _ (.inl ⟨rfl, rfl⟩) h ad H locs rl h0 hR hl (mok_cons trivial (mok_tl (mok_tl hst)))
  case lsub =>
    have e : len = 1 := len_of hlen (by decide)
    subst e
    obtain ⟨y, r, rfl, h⟩ := pL_iff.mp h
    obtain ⟨x, r, rfl, h⟩ := pL_iff.mp h
    intro ad H locs rl h0 hR hl hst
    refine lv_lsub hx hb hd ?_
    rw [← Int64.ofInt_sub]
    exact hnx _ _ _ _ _ _ _ (.inl ⟨rfl, rfl⟩) h ad H locs rl h0 hR hl (mok_cons trivial (mok_tl (mok_tl hst)))
  case lcmp =>
    have e : len = 1 := len_of hlen (by decide)
    subst e
    obtain ⟨y, r, rfl, h⟩ := pL_iff.mp h
    obtain ⟨x, r, rfl, h1, h2, h⟩ := pL_iff.mp h
    intro ad H locs rl h0 hR hl hst
    refine W.lcmp hx hb hd ?_
    rw [L_cmp h1 h2]
    exact hnx _ _ _ _ _ _ _ (.inl ⟨rfl, rfl⟩) h ad H locs rl h0 hR hl (mok_cons trivial (mok_tl (mok_tl hst)))
  case i2l =>
    have e : len = 1 := len_of hlen (by decide)
    subst e
    obtain ⟨x, r, rfl, h1, h⟩ := pI_iff.mp h
    intro ad H locs rl h0 hR hl hst
    refine lv_i2l hx hb hd (I_long h1) ?_
    exact hnx _ _ _ _ _ _ _ (.inl ⟨rfl, rfl⟩) h ad H locs rl h0 hR hl (mok_cons trivial (mok_tl hst))
  case i2b =>
    have e : len = 1 := len_of hlen (by decide)
    subst e
    obtain ⟨x, r, rfl, h1, h2, h⟩ := pI_iff.mp h
    intro ad H locs rl h0 hR hl hst
    refine lv_i2b hx hb hd (I_byte h1 h2) ?_
    exact hnx _ _ _ _ _ _ _ (.inl ⟨rfl, rfl⟩) h ad H locs rl h0 hR hl (mok_cons trivial (mok_tl hst))
  case dup =>
    have e : len = 1 := len_of hlen (by decide)
    subst e
    rcases st with _ | ⟨v, r⟩
    · exact False.elim h
    obtain ⟨h1, h⟩ := h
    intro ad H locs rl h0 hR hl hst
    refine lv_dup hx hb hd (by rw [mcat_mtr]; exact h1) ?_
    exact hnx _ _ _ _ _ _ _ (.inl ⟨rfl, rfl⟩) h ad H locs rl h0 hR hl (mok_cons (mok_hd hst) hst)
  case dup2 =>
    have e : len = 1 := len_of hlen (by decide)
    subst e
    rcases st with _ | ⟨v, _ | ⟨w, r⟩⟩
    · exact False.elim h
    · exact False.elim h
    obtain ⟨h1, h2, h⟩ := h
    intro ad H locs rl h0 hR hl hst
    refine lv_dup2_11 hx hb hd (by rw [mcat_mtr]; exact h1) (by rw [mcat_mtr]; exact h2) ?_
    exact hnx _ _ _ _ _ _ _ (.inl ⟨rfl, rfl⟩) h ad H locs rl h0 hR hl (mok_cons (mok_hd hst) (mok_cons (mok_hd (mok_tl hst)) hst))
  case goto off =>
    have e : len = 3 := len_of hlen (by decide)
    subst e
    obtain ⟨t, rfl, ht⟩ := chkT_g hT
    intro ad H locs rl h0 hR hl hst
    refine lv_goto hx hb hd ht ?_
    exact hnx _ _ _ _ _ _ _ (.inr rfl) h ad H locs rl h0 hR hl (hst)
  case ifCond cd off =>
    have e : len = 3 := len_of hlen (by decide)
    subst e
    obtain ⟨t, rfl, ht⟩ := chkT_c hT
    obtain ⟨x, r, rfl, h1, h2, h3⟩ := pI_iff.mp h
    intro ad H locs rl h0 hR hl hst
    cases cd
    case eq => exact lv_if_eq hx hb hd ht (fun q => hnx _ _ _ _ _ _ _ (.inr rfl) (h2 ((I_eq h1 RI_0).mp q)) ad H locs rl h0 hR hl (mok_tl hst)) (fun q => hnx _ _ _ _ _ _ _ (.inl ⟨rfl, rfl⟩) (h3 (fun z => q ((I_eq h1 RI_0).mpr z))) ad H locs rl h0 hR hl (mok_tl hst))
    case ne => exact lv_if_ne hx hb hd ht (fun q => hnx _ _ _ _ _ _ _ (.inr rfl) (h2 ((not_congr (I_eq h1 RI_0)).mp q)) ad H locs rl h0 hR hl (mok_tl hst)) (fun q => hnx _ _ _ _ _ _ _ (.inl ⟨rfl, rfl⟩) (h3 (fun z => z ((I_eq h1 RI_0).mp q))) ad H locs rl h0 hR hl (mok_tl hst))
    case lt => exact lv_if_lt hx hb hd ht (fun q => hnx _ _ _ _ _ _ _ (.inr rfl) (h2 ((I_lt h1 RI_0).mp q)) ad H locs rl h0 hR hl (mok_tl hst)) (fun q => hnx _ _ _ _ _ _ _ (.inl ⟨rfl, rfl⟩) (h3 (fun z => q ((I_lt h1 RI_0).mpr z))) ad H locs rl h0 hR hl (mok_tl hst))
    case ge => exact lv_if_ge hx hb hd ht (fun q => hnx _ _ _ _ _ _ _ (.inr rfl) (h2 ((I_le RI_0 h1).mp q)) ad H locs rl h0 hR hl (mok_tl hst)) (fun q => hnx _ _ _ _ _ _ _ (.inl ⟨rfl, rfl⟩) (h3 (fun z => q ((I_le RI_0 h1).mpr z))) ad H locs rl h0 hR hl (mok_tl hst))
    case gt => exact lv_if_gt hx hb hd ht (fun q => hnx _ _ _ _ _ _ _ (.inr rfl) (h2 ((I_lt RI_0 h1).mp q)) ad H locs rl h0 hR hl (mok_tl hst)) (fun q => hnx _ _ _ _ _ _ _ (.inl ⟨rfl, rfl⟩) (h3 (fun z => q ((I_lt RI_0 h1).mpr z))) ad H locs rl h0 hR hl (mok_tl hst))
    case le => exact lv_if_le hx hb hd ht (fun q => hnx _ _ _ _ _ _ _ (.inr rfl) (h2 ((I_le h1 RI_0).mp q)) ad H locs rl h0 hR hl (mok_tl hst)) (fun q => hnx _ _ _ _ _ _ _ (.inl ⟨rfl, rfl⟩) (h3 (fun z => q ((I_le h1 RI_0).mpr z))) ad H locs rl h0 hR hl (mok_tl hst))
  case if_icmp cd off =>
    have e : len = 3 := len_of hlen (by decide)
    subst e
    obtain ⟨t, rfl, ht⟩ := chkT_i hT
    obtain ⟨y, r, rfl, h⟩ := pI_iff.mp h
    obtain ⟨x, r, rfl, h1, h2, h3, h4⟩ := pI_iff.mp h
    intro ad H locs rl h0 hR hl hst
    cases cd
    case eq => exact lv_icmp_eq hx hb hd ht (fun q => hnx _ _ _ _ _ _ _ (.inr rfl) (h3 ((I_eq h1 h2).mp q)) ad H locs rl h0 hR hl (mok_tl (mok_tl hst))) (fun q => hnx _ _ _ _ _ _ _ (.inl ⟨rfl, rfl⟩) (h4 (fun z => q ((I_eq h1 h2).mpr z))) ad H locs rl h0 hR hl (mok_tl (mok_tl hst)))
    case ne => exact lv_icmp_ne hx hb hd ht (fun q => hnx _ _ _ _ _ _ _ (.inr rfl) (h3 ((not_congr (I_eq h1 h2)).mp q)) ad H locs rl h0 hR hl (mok_tl (mok_tl hst))) (fun q => hnx _ _ _ _ _ _ _ (.inl ⟨rfl, rfl⟩) (h4 (fun z => z ((I_eq h1 h2).mp q))) ad H locs rl h0 hR hl (mok_tl (mok_tl hst)))
    case lt => exact lv_icmp_lt hx hb hd ht (fun q => hnx _ _ _ _ _ _ _ (.inr rfl) (h3 ((I_lt h1 h2).mp q)) ad H locs rl h0 hR hl (mok_tl (mok_tl hst))) (fun q => hnx _ _ _ _ _ _ _ (.inl ⟨rfl, rfl⟩) (h4 (fun z => q ((I_lt h1 h2).mpr z))) ad H locs rl h0 hR hl (mok_tl (mok_tl hst)))
    case ge => exact lv_icmp_ge hx hb hd ht (fun q => hnx _ _ _ _ _ _ _ (.inr rfl) (h3 ((I_le h2 h1).mp q)) ad H locs rl h0 hR hl (mok_tl (mok_tl hst))) (fun q => hnx _ _ _ _ _ _ _ (.inl ⟨rfl, rfl⟩) (h4 (fun z => q ((I_le h2 h1).mpr z))) ad H locs rl h0 hR hl (mok_tl (mok_tl hst)))
    case gt => exact lv_icmp_gt hx hb hd ht (fun q => hnx _ _ _ _ _ _ _ (.inr rfl) (h3 ((I_lt h2 h1).mp q)) ad H locs rl h0 hR hl (mok_tl (mok_tl hst))) (fun q => hnx _ _ _ _ _ _ _ (.inl ⟨rfl, rfl⟩) (h4 (fun z => q ((I_lt h2 h1).mpr z))) ad H locs rl h0 hR hl (mok_tl (mok_tl hst)))
    case le => exact lv_icmp_le hx hb hd ht (fun q => hnx _ _ _ _ _ _ _ (.inr rfl) (h3 ((I_le h1 h2).mp q)) ad H locs rl h0 hR hl (mok_tl (mok_tl hst))) (fun q => hnx _ _ _ _ _ _ _ (.inl ⟨rfl, rfl⟩) (h4 (fun z => q ((I_le h1 h2).mpr z))) ad H locs rl h0 hR hl (mok_tl (mok_tl hst)))
  case tableswitch d lo hi offs =>
    obtain ⟨x, r, rfl, h1, h2, h3⟩ := pI_iff.mp h
    intro ad H locs rl h0 hR hl hst
    obtain ⟨t, ts', rfl, ht, hts', hsz⟩ := chkT_sw hT
    by_cases ho : x < lo ∨ hi < x
    · exact lv_tableOut hx hb hd (by rw [I_toInt h1]; exact ho) ht (hnx _ _ _ _ _ _ _ (.inr rfl) (h2 ho) ad H locs rl h0 hR hl (mok_tl hst))
    · obtain ⟨off, t2, ho1, ho2, ho3⟩ := tsw_at hts' h3 (by omega) (by omega)
      exact lv_tableIn hx hb hd (by rw [I_toInt h1]; omega) (by rw [I_toInt h1]; omega) (by rw [I_toInt h1]; exact ho1) ho2 (hnx _ _ _ _ _ _ _ (.inr rfl) ho3 ad H locs rl h0 hR hl (mok_tl hst))
  case getfield x =>
    have e : len = 3 := len_of hlen (by decide)
    subst e
    obtain ⟨ci, fi, cd, fw, hf, h⟩ := oF_iff.mp h
    obtain ⟨a, r, rfl, hg, h⟩ := pR_iff.mp h
    obtain ⟨f1, f2, f3, f4, f5, f6, f7⟩ := hF _ _ _ _ _ hf
    intro ad H locs rl h0 hR hl hst
    obtain ⟨a0, a1⟩ := mok_pos (mok_hd hst) hg (by omega)
    have he := mcells_at (dA := dA) (ad := ad) a0 a1
    rw [cE_obj hg f1] at he
    refine va_get (v := mtr ad (fv σ a fi cd)) hx hb hts (ws_fld f1) hown hK hR.1 _ he (cl_at f1) fi f2 (hts _ f5) (fun _ z => z) (by rw [List.getElem?_map, List.getElem?_range f2, fv_mtr f3]; rfl) hd ?_
    exact hnx _ _ _ _ _ _ _ (.inl ⟨rfl, rfl⟩) h ad H locs rl h0 hR hl (mok_cons (mok_fv hR.2.2.2 a0 a1) (mok_tl hst))
  case putfield x =>
    have e : len = 3 := len_of hlen (by decide)
    subst e
    obtain ⟨ci, fi, cd, fw, hf, hfw, hg, h⟩ := oF_iff.mp h
    obtain ⟨f1, f2, f3, f4, f5, f6, f7⟩ := hF _ _ _ _ _ hf
    by_cases hc2 : cd = 2
    · obtain ⟨v, a, r, rfl, hv17, hh⟩ := fp_2 hc2 h
      · change (G a).1 = ci at hg
        intro ad H locs rl h0 hR hl hst
        obtain ⟨a0, a1⟩ := mok_pos (mok_hd (mok_tl hst)) hg (by omega)
        have he := mcells_at (dA := dA) (ad := ad) a0 a1
        rw [cE_obj hg f1] at he
        have hvn : mwf (mputP σ a fi (some v)) := mwf_putP hR.2.2.2 (fun b hb => by
          cases hb
          rcases mok_hd hst with q | q
          · exact q
          · subst q; exact absurd G_0 hv17)
        have hset := fun (H1 : Heap) (locs1 : List Loc) P1 D1 S1 => HR.set (D := D) (σ' := mputP σ a fi (some v)) (H1 := H1) (locs1 := locs1) (x := .inr (ci, ((List.range (nfs ci)).map (fun (i : Nat) => msl ad σ a (fty ci i) i)).set fi (mtr ad (.inr (.inr (some v)))))) hR a0 a1 rfl hvn (by rw [cE_obj hg f1, map_set_range (n := nfs ci) (f := fun (i : Nat) => msl ad σ a (fty ci i) i) (v := mtr ad (.inr (.inr (some v)))) (msl_putP (f3 ▸ hc2)) (fun i hi => msl_putPn hi)]) (fun b hb _ _ => cE_putP hb) P1 D1 S1
        have hty := fty_ref (f3 ▸ hc2) (v := some v) (ad := ad)
        rcases hfw with hfw | ⟨hfw, hi⟩
        · exact va_put (v := mtr ad (.inr (.inr (some v)))) hx hb hts (ws_fld f1) (fty ci) (fty_ok f1) (fnm_ok f1) hown hK hR.1 hR.2.1 hR.2.2.1 _ he (cl_at f1) fi f2 (hts _ f5) (fun _ z => z) (f6 hfw) (fty_ok f1 fi f2) hty.1 hty.2 (by rw [List.length_map, List.length_range]; exact f2) hd (fun H1 locs1 P1 D1 S1 => hnx _ _ _ _ _ _ _ (.inl ⟨rfl, rfl⟩) hh ad H1 locs1 rl h0 (hset H1 locs1 P1 D1 S1) hl (mok_tl (mok_tl hst)))
        · exact va_putF (v := mtr ad (.inr (.inr (some v)))) hx hb hts (ws_fld f1) (fty ci) (fty_ok f1) (fnm_ok f1) hown hK hR.1 hR.2.1 hR.2.2.1 _ he (cl_at f1) fi f2 (hts _ f5) (fun _ z => z) (f7 hfw).1 (hini hi) (f7 hfw).2 (fty_ok f1 fi f2) hty.1 hty.2 (by rw [List.length_map, List.length_range]; exact f2) hd (fun H1 locs1 P1 D1 S1 => hnx _ _ _ _ _ _ _ (.inl ⟨rfl, rfl⟩) hh ad H1 locs1 rl h0 (hset H1 locs1 P1 D1 S1) hl (mok_tl (mok_tl hst)))
    · obtain ⟨hc1, y, a, r, rfl, h3, hh⟩ := fp_0 hc2 h
      · change (G a).1 = ci at hg
        intro ad H locs rl h0 hR hl hst
        obtain ⟨a0, a1⟩ := mok_pos (mok_hd (mok_tl hst)) hg (by omega)
        have he := mcells_at (dA := dA) (ad := ad) a0 a1
        rw [cE_obj hg f1] at he
        have hc : fcode (fty ci fi) = 0 ∨ fcode (fty ci fi) = 3 ∧ (y = 0 ∨ y = 1) := by
          rw [← f3]
          rcases (show cd = 0 ∨ cd = 3 by omega) with q | q
          · exact Or.inl q
          · exact Or.inr ⟨q, h3 q⟩
        have hset := fun (H1 : Heap) (locs1 : List Loc) P1 D1 S1 => HR.set (D := D) (σ' := mputI σ a fi y) (H1 := H1) (locs1 := locs1) (x := .inr (ci, ((List.range (nfs ci)).map (fun (i : Nat) => msl ad σ a (fty ci i) i)).set fi (mtr ad (.inl y)))) hR a0 a1 rfl (mwf_putI hR.2.2.2) (by rw [cE_obj hg f1, map_set_range (n := nfs ci) (f := fun (i : Nat) => msl ad σ a (fty ci i) i) (v := mtr ad (.inl y)) (msl_putI hc) (fun i hi => msl_putIn hi)]) (fun b hb _ _ => cE_putI hb) P1 D1 S1
        have hty := fty_int hc (ad := ad)
        rcases hfw with hfw | ⟨hfw, hi⟩
        · exact va_put (v := mtr ad (.inl y)) hx hb hts (ws_fld f1) (fty ci) (fty_ok f1) (fnm_ok f1) hown hK hR.1 hR.2.1 hR.2.2.1 _ he (cl_at f1) fi f2 (hts _ f5) (fun _ z => z) (f6 hfw) (fty_ok f1 fi f2) hty.1 hty.2 (by rw [List.length_map, List.length_range]; exact f2) hd (fun H1 locs1 P1 D1 S1 => hnx _ _ _ _ _ _ _ (.inl ⟨rfl, rfl⟩) hh ad H1 locs1 rl h0 (hset H1 locs1 P1 D1 S1) hl (mok_tl (mok_tl hst)))
        · exact va_putF (v := mtr ad (.inl y)) hx hb hts (ws_fld f1) (fty ci) (fty_ok f1) (fnm_ok f1) hown hK hR.1 hR.2.1 hR.2.2.1 _ he (cl_at f1) fi f2 (hts _ f5) (fun _ z => z) (f7 hfw).1 (hini hi) (f7 hfw).2 (fty_ok f1 fi f2) hty.1 hty.2 (by rw [List.length_map, List.length_range]; exact f2) hd (fun H1 locs1 P1 D1 S1 => hnx _ _ _ _ _ _ _ (.inl ⟨rfl, rfl⟩) hh ad H1 locs1 rl h0 (hset H1 locs1 P1 D1 S1) hl (mok_tl (mok_tl hst)))
  case iaload =>
    have e : len = 1 := len_of hlen (by decide)
    subst e
    obtain ⟨i, r, rfl, h⟩ := pI_iff.mp h
    obtain ⟨a, r, rfl, h⟩ := pR_iff.mp h
    change (if (G a).1 = 17 then _ else _) at h
    by_cases hg : (G a).1 = 17
    · rw [if_pos hg] at h
      obtain ⟨L, xs, hS, g1, g2, hz⟩ := oS_iff.mp h
      intro ad H locs rl h0 hR hl hst
      obtain ⟨xr, x1, x2, x3, x5, x4⟩ := hscr L xs hS
      have ha : a = 0 := G_17 (mok_hd (mok_tl hst)) hg
      subst ha
      obtain ⟨i1, i2, i3⟩ := I_in x5 g1 g2
      have hq := hnx _ _ _ _ _ _ _ (.inl ⟨rfl, rfl⟩) hz ad H locs rl h0 hR hl (mok_cons trivial (mok_tl (mok_tl hst)))
      refine va_sld (b := ad 0) hx hb (by rw [h0.2.1]; exact x1) (by rw [h0.2.1]; exact x2) (by rw [h0.2.1]; exact x3) hR.2.2.1 i1 hd ?_
      have hv := x4 i.toNat (by omega)
      rw [i3] at hv
      rw [i2, ← Int32.ofInt_toInt (xr i.toNat), ← hv]
      exact hq
    · rw [if_neg hg] at h
      obtain ⟨hg, g1, g2, h⟩ := h
      intro ad H locs rl h0 hR hl hst
      obtain ⟨a0, a1⟩ := mok_pos (mok_hd (mok_tl hst)) hg (by decide)
      have he := mcells_at (dA := dA) (ad := ad) a0 a1
      rw [cE_arr hg (by decide), mar_int (.inl rfl)] at he
      obtain ⟨i1, i2, i3⟩ := I_in (G_small a) g1 g2
      refine va_iald hx hb hK hR.1 _ 0 he (TY_at (t := 10) (by decide) (by decide)) i1 hd ?_
      rw [i2, i3]
      exact hnx _ _ _ _ _ _ _ (.inl ⟨rfl, rfl⟩) h ad H locs rl h0 hR hl (mok_cons trivial (mok_tl (mok_tl hst)))
  case baload =>
    have e : len = 1 := len_of hlen (by decide)
    subst e
    obtain ⟨i, r, rfl, h⟩ := pI_iff.mp h
    obtain ⟨a, r, rfl, hg, g1, g2, h⟩ := pR_iff.mp h
    rcases hg with hg | hg
    · intro ad H locs rl h0 hR hl hst
      obtain ⟨a0, a1⟩ := mok_pos (mok_hd (mok_tl hst)) hg (by decide)
      have he := mcells_at (dA := dA) (ad := ad) a0 a1
      rw [cE_arr hg (by decide), mar_int (.inr (.inl rfl))] at he
      obtain ⟨i1, i2, i3⟩ := I_in (G_small a) g1 g2
      refine va_bald hx hb hK hR.1 _ 2 he (TY_at (t := 12) (by decide) (by decide)) i1 hd ?_
      rw [i2, i3]
      exact hnx _ _ _ _ _ _ _ (.inl ⟨rfl, rfl⟩) h ad H locs rl h0 hR hl (mok_cons trivial (mok_tl (mok_tl hst)))
    · intro ad H locs rl h0 hR hl hst
      obtain ⟨a0, a1⟩ := mok_pos (mok_hd (mok_tl hst)) hg (by decide)
      have he := mcells_at (dA := dA) (ad := ad) a0 a1
      rw [cE_arr hg (by decide), mar_int (.inr (.inr rfl))] at he
      obtain ⟨i1, i2, i3⟩ := I_in (G_small a) g1 g2
      refine va_zald hx hb hK hR.1 _ 3 he (TY_at (t := 13) (by decide) (by decide)) i1 hd ?_
      rw [i2, i3]
      exact hnx _ _ _ _ _ _ _ (.inl ⟨rfl, rfl⟩) h ad H locs rl h0 hR hl (mok_cons trivial (mok_tl (mok_tl hst)))
  case laload =>
    have e : len = 1 := len_of hlen (by decide)
    subst e
    obtain ⟨i, r, rfl, h⟩ := pI_iff.mp h
    obtain ⟨a, r, rfl, hg, g1, g2, h⟩ := pR_iff.mp h
    intro ad H locs rl h0 hR hl hst
    obtain ⟨a0, a1⟩ := mok_pos (mok_hd (mok_tl hst)) hg (by decide)
    have he := mcells_at (dA := dA) (ad := ad) a0 a1
    rw [cE_arr hg (by decide), mar_long] at he
    obtain ⟨i1, i2, i3⟩ := I_in (G_small a) g1 g2
    refine va_lald hx hb hK hR.1 _ 1 he (TY_at (t := 11) (by decide) (by decide)) i1 hd ?_
    rw [i2, i3]
    exact hnx _ _ _ _ _ _ _ (.inl ⟨rfl, rfl⟩) h ad H locs rl h0 hR hl (mok_cons trivial (mok_tl (mok_tl hst)))
  case aaload =>
    have e : len = 1 := len_of hlen (by decide)
    subst e
    obtain ⟨i, r, rfl, h⟩ := pI_iff.mp h
    obtain ⟨a, r, rfl, hg, g1, g2, h⟩ := pR_iff.mp h
    intro ad H locs rl h0 hR hl hst
    obtain ⟨t, ht, hg⟩ : ∃ t, (t = 14 ∨ t = 15 ∨ t = 16) ∧ (G a).1 = t := ⟨_, hg, rfl⟩
    obtain ⟨a0, a1⟩ := mok_pos (mok_hd (mok_tl hst)) hg (by omega)
    have he := mcells_at (dA := dA) (ad := ad) a0 a1
    rw [cE_arr hg (by omega), mar_ref ht] at he
    obtain ⟨i1, i2, i3⟩ := I_in (G_small a) g1 g2
    have hlt : (Int32.ofInt i).toNatClampNeg < (G a).2 := Nat.not_le.mp fun q => i1 (Or.inr q)
    refine W.aald (v := va_rf ((σ.2.1 a ((Int32.ofInt i).toNatClampNeg : Nat)).map ad)) (ty := aty t) hx hb (hR.1 _ _ he) ((hK.2 _ _ (TY_at (t := t) (by omega) (by omega))).1 (G a).2 (fun j => va_rf ((σ.2.1 a j).map ad))) (by rcases ht with rfl | rfl | rfl <;> rfl) (fun q => by cases q) (by show ¬ (_ ∨ (arrV _ _ _).slots.size ≤ _); rw [arrV_size]; exact i1) (by show (arrV _ _ _).slots[_]? = _; rw [arrV_read _ _ hlt]) rfl rfl hd ?_
    rw [i2, i3, va_rf_mtr]
    exact hnx _ _ _ _ _ _ _ (.inl ⟨rfl, rfl⟩) h ad H locs rl h0 hR hl (mok_cons (mok_P hR.2.2.2 a0 a1) (mok_tl (mok_tl hst)))
  case iastore =>
    have e : len = 1 := len_of hlen (by decide)
    subst e
    obtain ⟨x, r, rfl, h⟩ := pI_iff.mp h
    obtain ⟨i, r, rfl, h⟩ := pI_iff.mp h
    obtain ⟨a, r, rfl, hg, g1, g2, h⟩ := pR_iff.mp h
    obtain ⟨i1, i2, i3⟩ := I_in (G_small a) g1 g2
    intro ad H locs rl h0 hR hl hst
    obtain ⟨a0, a1⟩ := mok_pos (mok_hd (mok_tl (mok_tl hst))) hg (by decide)
    have he := mcells_at (dA := dA) (ad := ad) a0 a1
    rw [cE_arr hg (by decide), mar_int (.inl rfl)] at he
    refine va_iast hx hb hK hR.1 hR.2.1 hR.2.2.1 _ 0 he (TY_at (t := 10) (by decide) (by decide)) i1 hd (fun H1 locs1 P1 D1 S1 => ?_)
    refine hnx _ _ _ _ _ _ _ (.inl ⟨rfl, rfl⟩) h ad H1 locs1 rl h0 (HR.set (σ' := mputI σ a i x) hR a0 a1 rfl (mwf_putI hR.2.2.2) ?_ (fun b hb _ _ => cE_putI hb) P1 D1 S1) hl (mok_tl (mok_tl (mok_tl hst)))
    rw [cE_arr hg (by decide), mar_int (.inl rfl), i2]
    exact congrArg (fun f => (Sum.inl (dA 10, (G a).2, .inl f) : va_E)) (funext fun q => upI_ar i3)
  case lastore =>
    have e : len = 1 := len_of hlen (by decide)
    subst e
    obtain ⟨x, r, rfl, h⟩ := pL_iff.mp h
    obtain ⟨i, r, rfl, h⟩ := pI_iff.mp h
    obtain ⟨a, r, rfl, hg, g1, g2, h⟩ := pR_iff.mp h
    obtain ⟨i1, i2, i3⟩ := I_in (G_small a) g1 g2
    intro ad H locs rl h0 hR hl hst
    obtain ⟨a0, a1⟩ := mok_pos (mok_hd (mok_tl (mok_tl hst))) hg (by decide)
    have he := mcells_at (dA := dA) (ad := ad) a0 a1
    rw [cE_arr hg (by decide), mar_long] at he
    refine va_last hx hb hK hR.1 hR.2.1 hR.2.2.1 _ 1 he (TY_at (t := 11) (by decide) (by decide)) i1 hd (fun H1 locs1 P1 D1 S1 => ?_)
    refine hnx _ _ _ _ _ _ _ (.inl ⟨rfl, rfl⟩) h ad H1 locs1 rl h0 (HR.set (σ' := mputL σ a i x) hR a0 a1 rfl (mwf_putL hR.2.2.2) ?_ (fun b hb _ _ => cE_putL hb) P1 D1 S1) hl (mok_tl (mok_tl (mok_tl hst)))
    rw [cE_arr hg (by decide), mar_long, i2]
    exact congrArg (fun f => (Sum.inl (dA 11, (G a).2, .inr (.inl f)) : va_E)) (funext fun q => upL_ar i3)
  case bastore =>
    have e : len = 1 := len_of hlen (by decide)
    subst e
    obtain ⟨x, r, rfl, h⟩ := pI_iff.mp h
    obtain ⟨i, r, rfl, h⟩ := pI_iff.mp h
    obtain ⟨a, r, rfl, hg, g1, g2, h⟩ := pR_iff.mp h
    rcases hg with ⟨hg, v1, v2⟩ | ⟨hg, v1⟩
    · have hnar : vp_nar .byte (Int32.ofInt x) = Int32.ofInt x := by rw [vp_nar_byte, I_byte v1 v2]
      obtain ⟨i1, i2, i3⟩ := I_in (G_small a) g1 g2
      intro ad H locs rl h0 hR hl hst
      obtain ⟨a0, a1⟩ := mok_pos (mok_hd (mok_tl (mok_tl hst))) hg (by decide)
      have he := mcells_at (dA := dA) (ad := ad) a0 a1
      rw [cE_arr hg (by decide), mar_int (.inr (.inl rfl))] at he
      refine va_bast hx hb hK hR.1 hR.2.1 hR.2.2.1 _ 2 he (TY_at (t := 12) (by decide) (by decide)) i1 hd (fun H1 locs1 P1 D1 S1 => ?_)
      refine hnx _ _ _ _ _ _ _ (.inl ⟨rfl, rfl⟩) h ad H1 locs1 rl h0 (HR.set (σ' := mputI σ a i x) hR a0 a1 rfl (mwf_putI hR.2.2.2) ?_ (fun b hb _ _ => cE_putI hb) P1 D1 S1) hl (mok_tl (mok_tl (mok_tl hst)))
      rw [cE_arr hg (by decide), mar_int (.inr (.inl rfl)), i2]
      exact congrArg (fun f => (Sum.inl (dA 12, (G a).2, .inl f) : va_E)) (funext fun q => by rw [hnar]; exact upI_ar i3)
    · have hnar : vp_nar .boolean (Int32.ofInt x) = Int32.ofInt x := by rcases v1 with rfl | rfl <;> rfl
      obtain ⟨i1, i2, i3⟩ := I_in (G_small a) g1 g2
      intro ad H locs rl h0 hR hl hst
      obtain ⟨a0, a1⟩ := mok_pos (mok_hd (mok_tl (mok_tl hst))) hg (by decide)
      have he := mcells_at (dA := dA) (ad := ad) a0 a1
      rw [cE_arr hg (by decide), mar_int (.inr (.inr rfl))] at he
      refine va_zast hx hb hK hR.1 hR.2.1 hR.2.2.1 _ 3 he (TY_at (t := 13) (by decide) (by decide)) i1 hd (fun H1 locs1 P1 D1 S1 => ?_)
      refine hnx _ _ _ _ _ _ _ (.inl ⟨rfl, rfl⟩) h ad H1 locs1 rl h0 (HR.set (σ' := mputI σ a i x) hR a0 a1 rfl (mwf_putI hR.2.2.2) ?_ (fun b hb _ _ => cE_putI hb) P1 D1 S1) hl (mok_tl (mok_tl (mok_tl hst)))
      rw [cE_arr hg (by decide), mar_int (.inr (.inr rfl)), i2]
      exact congrArg (fun f => (Sum.inl (dA 13, (G a).2, .inl f) : va_E)) (funext fun q => by rw [hnar]; exact upI_ar i3)
  case aastore =>
    have e : len = 1 := len_of hlen (by decide)
    subst e
    obtain ⟨x, r, rfl, h⟩ := pR_iff.mp h
    obtain ⟨i, r, rfl, h⟩ := pI_iff.mp h
    obtain ⟨a, r, rfl, hg, g1, g2, h⟩ := pR_iff.mp h
    obtain ⟨t, ci, ht, hg, hgx⟩ : ∃ t ci, (t = 14 ∧ ci = 3 ∨ t = 15 ∧ ci = 2) ∧ (G a).1 = t ∧ (G x).1 = ci := by rcases hg with ⟨q1, q2⟩ | ⟨q1, q2⟩; exact ⟨14, 3, .inl ⟨rfl, rfl⟩, q1, q2⟩; exact ⟨15, 2, .inr ⟨rfl, rfl⟩, q1, q2⟩
    obtain ⟨i1, i2, i3⟩ := I_in (G_small a) g1 g2
    intro ad H locs rl h0 hR hl hst
    obtain ⟨a0, a1⟩ := mok_pos (mok_hd (mok_tl (mok_tl hst))) hg (by omega)
    obtain ⟨x0, x1⟩ := mok_pos (mok_hd hst) hgx (by omega)
    have he := mcells_at (dA := dA) (ad := ad) a0 a1
    rw [cE_arr hg (by omega), mar_ref (by omega)] at he
    have hxe := mcells_at (dA := dA) (ad := ad) x0 x1
    rw [cE_obj hgx (by omega)] at hxe
    refine va_astq hx hb hK hR.1 hR.2.1 hR.2.2.1 _ _ _ ci he (by rw [TY_at (t := t) (by omega) (by omega)]; rcases ht with ⟨rfl, rfl⟩ | ⟨rfl, rfl⟩ <;> rfl) hxe (cl_at (by omega)) i1 hd (fun H1 locs1 P1 D1 S1 => ?_)
    refine hnx _ _ _ _ _ _ _ (.inl ⟨rfl, rfl⟩) h ad H1 locs1 rl h0 (HR.set (σ' := mputP σ a i (some x)) hR a0 a1 rfl (mwf_putP hR.2.2.2 (fun b hb => by cases hb; exact ⟨x0, x1⟩)) ?_ (fun b hb _ _ => cE_putP hb) P1 D1 S1) hl (mok_tl (mok_tl (mok_tl hst)))
    rw [cE_arr hg (by omega), mar_ref (by omega), i2]
    exact congrArg (fun f => (Sum.inl (dA t, (G a).2, .inr (.inr (.inr (.inr f)))) : va_E)) (funext fun q => upP_ar i3)
  case arraylength =>
    have e : len = 1 := len_of hlen (by decide)
    subst e
    obtain ⟨a, r, rfl, h⟩ := pR_iff.mp h
    change (if (G a).1 = 17 then _ else _) at h
    by_cases hg : (G a).1 = 17
    · rw [if_pos hg] at h
      obtain ⟨L, xs, hS, hz⟩ := oS_iff.mp h
      intro ad H locs rl h0 hR hl hst
      obtain ⟨xr, x1, x2, x3, x5, x4⟩ := hscr L xs hS
      have ha : a = 0 := G_17 (mok_hd hst) hg
      subst ha
      refine va_slen (b := ad 0) hx hb (by rw [h0.2.1]; exact x1) (by rw [h0.2.1]; exact x2) (by rw [h0.2.1]; exact x3) hR.2.2.1 hd ?_
      rw [← Int32.ofInt_eq_ofNat]
      exact hnx _ _ _ _ _ _ _ (.inl ⟨rfl, rfl⟩) hz ad H locs rl h0 hR hl (mok_cons trivial (mok_tl hst))
    · rw [if_neg hg] at h
      obtain ⟨g1, g2, h⟩ := h
      intro ad H locs rl h0 hR hl hst
      obtain ⟨a0, a1⟩ := mok_pos (mok_hd hst) rfl hg
      have he := mcells_at (dA := dA) (ad := ad) a0 a1
      rw [cE_arr rfl g1] at he
      refine va_alen hx hb hK hR.1 _ _ he (TY_at g1 g2) (v := Int32.ofInt ((G a).2 : Int)) Int32.ofInt_eq_ofNat.symm hd ?_
      exact hnx _ _ _ _ _ _ _ (.inl ⟨rfl, rfl⟩) h ad H locs rl h0 hR hl (mok_cons trivial (mok_tl hst))
  case new x =>
    have e : len = 3 := len_of hlen (by decide)
    subst e
    change oN U x _ _ at h; unfold oN at h
    cases hu : U x with
    | none => rw [hu] at h; exact hKK _ h
    | some ci =>
      rw [hu] at h
      obtain ⟨c1, c2, c3, c4, h⟩ := h
      intro ad H locs rl h0 hR hl hst
      obtain ⟨u1, u2, u3⟩ := (hU x ci hu).1 c1
      refine va_new (ci := ci) (fs := (List.range (nfs ci)).map (fun (i : Nat) => defaultValue (fty ci i))) hx hb hts (ws_fld c1) (fty ci) (fty_ok c1) hown (hts _ u1) (hts _ u2) (hts _ u3) hK hR.1 hR.2.1 hR.2.2.1 hA (cl_at c1) (fun j hj => by unfold vp_V; rw [List.getD_eq_getElem?_getD, List.getElem?_map, List.getElem?_range hj]; rfl) c3 c4 hd (fun q H1 P1 D1 S1 => ?_)
      obtain ⟨ad', d0, d1, d2, hR'⟩ := HR.push hR (q := q) (fun ad' => by rw [cE_obj c2 c1]; exact congrArg (fun z => (Sum.inr (ci, z) : va_E)) (List.map_congr_left (fun i hi => msl_new (fty_all c1 (List.mem_range.mp hi))))) P1 D1 S1
      have hq := hnx _ _ _ _ _ _ _ (.inl ⟨rfl, rfl⟩) h ad' H1 locs rl (h0.moved (Nat.le_succ _) d0 d1) hR' (hl.moved (Nat.le_succ _) d0 d1) (mok_cons (mok_new hR.2.2.2) (fun v hv => mok_le (Nat.le_succ _) (hst v hv)))
      rw [← d2]
      have hm := mapr_moved d0 d1 hst
      change W p l e R s m args below meth c H1 locs (k + 1) (j + nfs ci) Q (F0 m (pc + 3) rl (.ref (ad' σ.1) :: st.map (mtr ad')) ) at hq
      rw [hm] at hq
      exact hq
  case newarray t =>
    have e : len = 2 := len_of hlen (by decide)
    subst e
    obtain ⟨n, r, rfl, n1, n2, ht, hg, c3, c4, h⟩ := pI_iff.mp h
    intro ad H locs rl h0 hR hl hst
    have hr : RI n := by unfold RI; omega
    obtain ⟨t1, t2, t3, t4, t5⟩ := atk_ok ht
    refine va_newa (ty := aty (atk t)) (N' := n.toNat) (a0 := (n.toNat, mar ad (mnew σ) σ.1 (atk t))) hx hb (hts _ t5) t3 hK hR.1 hR.2.1 hR.2.2.1 hA (fun cA => mar_new t4 rfl) (fun q => by have := (I_lt hr RI_0).mp q; omega) (I_clamp hr) (by rcases t4 with q | q | q | q <;> rw [q] <;> (show n.toNat * _ ≤ _) <;> simp only [componentBytes, aty] <;> omega) c3 c4 hd (fun q cA H1 hK' P1 D1 S1 => ?_)
    have hcA := TY_new hK hK' t1 t2 rfl
    subst hcA
    obtain ⟨ad', d0, d1, d2, hR'⟩ := HR.push hR (q := q) (x := .inl (dA (atk t), n.toNat, mar ad (mnew σ) σ.1 (atk t))) (fun ad' => by rw [cE_arr (congrArg Prod.fst hg) t1, congrArg Prod.snd hg, mar_newE]) P1 D1 S1
    have hq := hnx _ _ _ _ _ _ _ (.inl ⟨rfl, rfl⟩) h ad' H1 locs rl (h0.moved (Nat.le_succ _) d0 d1) hR' (hl.moved (Nat.le_succ _) d0 d1) (mok_cons (mok_new hR.2.2.2) (fun v hv => mok_le (Nat.le_succ _) (mok_tl hst v hv)))
    rw [← d2]
    have hm := mapr_moved d0 d1 (mok_tl hst)
    change W p l e R s m args below meth c H1 locs (k + 1) (j + n.toNat) Q (F0 m (pc + 2) rl (.ref (ad' σ.1) :: r.map (mtr ad')) ) at hq
    rw [hm] at hq
    exact hq
  case anewarray x =>
    have e : len = 3 := len_of hlen (by decide)
    subst e
    change oN U (x + 100000) _ _ at h; unfold oN at h
    cases hu : U (x + 100000) with
    | none => rw [hu] at h; exact h.elim
    | some t =>
      rw [hu] at h
      obtain ⟨n, r, rfl, n1, n2, ht, hg, c3, c4, h⟩ := pI_iff.mp h
      intro ad H locs rl h0 hR hl hst
      have hr : RI n := by unfold RI; omega
      obtain ⟨C, hC, u1, u2⟩ : ∃ C, aty t = .object C ∧ Cond.classLink own x C ∈ WS ∧ va_AO C s := by
        rcases ht with rfl | rfl
        · exact ⟨RX3, rfl, (by have := (hU _ 14 hu).2.1 rfl; rwa [Nat.add_sub_cancel] at this), hao.1⟩
        · exact ⟨RX2, rfl, (by have := (hU _ 15 hu).2.2.1 rfl; rwa [Nat.add_sub_cancel] at this), hao.2.1⟩
      refine va_newq (N' := n.toNat) hx hb hown (hts _ u1) u2 hK hR.1 hR.2.1 hR.2.2.1 hA (fun q => by have := (I_lt hr RI_0).mp q; omega) (I_clamp hr) (by omega) c3 c4 hd (fun q cA H1 hK' P1 D1 S1 => ?_)
      have hcA := TY_new hK hK' (t := t) (by omega) (by omega) hC
      subst hcA
      obtain ⟨ad', d0, d1, d2, hR'⟩ := HR.push hR (q := q) (fun ad' => by rw [cE_arr (congrArg Prod.fst hg) (by show 10 ≤ t; omega), congrArg Prod.snd hg, mar_ref (by show t = 14 ∨ t = 15 ∨ t = 16; omega), mnew_P]) P1 D1 S1
      have hq := hnx _ _ _ _ _ _ _ (.inl ⟨rfl, rfl⟩) h ad' H1 locs rl (h0.moved (Nat.le_succ _) d0 d1) hR' (hl.moved (Nat.le_succ _) d0 d1) (mok_cons (mok_new hR.2.2.2) (fun v hv => mok_le (Nat.le_succ _) (mok_tl hst v hv)))
      rw [← d2]
      have hm := mapr_moved d0 d1 (mok_tl hst)
      change W p l e R s m args below meth c H1 locs (k + 1) (j + n.toNat) Q (F0 m (pc + 3) rl (.ref (ad' σ.1) :: r.map (mtr ad')) ) at hq
      rw [hm] at hq
      exact hq
  case multianewarray x d =>
    have e : len = 4 := len_of hlen (by decide)
    subst e
    have hdd := of_decide_eq_true hT
    subst hdd
    change oN U x _ _ at h; unfold oN at h
    cases hu : U x with
    | none => rw [hu] at h; exact h.elim
    | some t =>
      rw [hu] at h
      exact stp_multi ⟨hx, hb, hml, hown, hts, hK, hA, hini, hao, hscr⟩ ((hU x t hu).2.2.2) hd h (fun ls' st' σ' k' j' => hnx _ _ _ _ _ _ _ (.inl ⟨rfl, rfl⟩))
  case invokevirtual x =>
    have e : len = 3 := len_of hlen (by decide)
    subst e
    obtain ⟨n, rk, mc', ms', sp, hy, hrk, h⟩ := oC_iff.mp h
    obtain ⟨As, r, h1, rfl, h2, h3, h4, h5, h6⟩ := pA_iff h
    rw [List.append_nil] at h2 h6
    have hiv : ivk rk x = .invokevirtual x := by unfold ivk; rw [if_pos hrk]
    exact hY x (n, rk, mc', ms', sp) hy ⟨hx, hb, hml, hown, hts, hK, hA, hini, hao, hscr⟩ pc (by show decode bytes pc = .ok (ivk rk x, 3); rw [hiv]; exact hd) ls As r σ k j _ h1 h2 h3 h4 h5 h6 (fun v σ' hq => hnx _ _ _ _ _ _ _ (.inl ⟨rfl, rfl⟩) hq)
  case invokespecial x =>
    have e : len = 3 := len_of hlen (by decide)
    subst e
    obtain ⟨n, rk, mc', ms', sp, hy, hrk, h⟩ := oC_iff.mp h
    obtain ⟨As, r, h1, rfl, h2, h3, h4, h5, h6⟩ := pA_iff h
    rw [List.append_nil] at h2 h6
    have hiv : ivk rk x = .invokespecial x := by unfold ivk; rw [if_neg (by omega), if_neg (by omega)]
    exact hY x (n, rk, mc', ms', sp) hy ⟨hx, hb, hml, hown, hts, hK, hA, hini, hao, hscr⟩ pc (by show decode bytes pc = .ok (ivk rk x, 3); rw [hiv]; exact hd) ls As r σ k j _ h1 h2 h3 h4 h5 h6 (fun v σ' hq => hnx _ _ _ _ _ _ _ (.inl ⟨rfl, rfl⟩) hq)
  case invokestatic x =>
    have e : len = 3 := len_of hlen (by decide)
    subst e
    obtain ⟨n, rk, mc', ms', sp, hy, hrk, h⟩ := oC_iff.mp h
    obtain ⟨As, r, h1, rfl, h2, h3, h4, h5, h6⟩ := pA_iff h
    rw [List.append_nil] at h2 h6
    have hiv : ivk rk x = .invokestatic x := by unfold ivk; rw [if_neg (by omega), if_pos hrk]
    exact hY x (n, rk, mc', ms', sp) hy ⟨hx, hb, hml, hown, hts, hK, hA, hini, hao, hscr⟩ pc (by show decode bytes pc = .ok (ivk rk x, 3); rw [hiv]; exact hd) ls As r σ k j _ h1 h2 h3 h4 h5 h6 (fun v σ' hq => hnx _ _ _ _ _ _ _ (.inl ⟨rfl, rfl⟩) hq)
  case ireturn =>
    have e : len = 1 := len_of hlen (by decide)
    subst e
    rcases st with _ | ⟨v | v | v, _ | ⟨w, r⟩⟩ <;> first | exact False.elim h | (obtain ⟨h1, h2, h⟩ := h; exact hret _ _ _ _ _ _ _ _ hd (Or.inl ⟨rfl, v, rfl, rfl⟩) h1 h2 h)
  case lreturn =>
    have e : len = 1 := len_of hlen (by decide)
    subst e
    rcases st with _ | ⟨v | v | v, _ | ⟨w, r⟩⟩ <;> first | exact False.elim h | (obtain ⟨h1, h2, h⟩ := h; exact hret _ _ _ _ _ _ _ _ hd (Or.inr (Or.inl ⟨rfl, v, rfl, rfl⟩)) h1 h2 h)
  case areturn =>
    have e : len = 1 := len_of hlen (by decide)
    subst e
    rcases st with _ | ⟨v | v | v, _ | ⟨w, r⟩⟩ <;> first | exact False.elim h | (obtain ⟨h1, h2, h⟩ := h; exact hret _ _ _ _ _ _ _ _ hd (Or.inr (Or.inr (Or.inl ⟨rfl, v, rfl, rfl⟩))) h1 h2 h)
  case return_ =>
    have e : len = 1 := len_of hlen (by decide)
    subst e
    rcases st with _ | ⟨v, r⟩ <;> first | exact False.elim h | (obtain ⟨h1, h2, h⟩ := h; exact hret _ _ _ _ _ _ _ _ hd (Or.inr (Or.inr (Or.inr ⟨rfl, rfl, rfl⟩))) h1 h2 h)
  all_goals exact False.elim h
end SN
