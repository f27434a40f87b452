/-! THE SMALL MACHINE, 6: each instruction of it is one of the machine -/
section SM
variable {p : Program} {l : Launch} {e : Env} {R : Room} {s : State} {m : MethodId} {args : Array Value} {below : List Frame} {meth : Method} {c : Code} {Q : State → Prop} {D : va_G} {dA : Nat → ClassId} {A : Nat → Prop} {H0 : Heap} {b0 : (Int → Nat) × Nat} {nL : Nat}
def HR (D : va_G) (dA : Nat → ClassId) (A : Nat → Prop) (H0 : Heap) (ad : Int → Nat) (σ : MS) (H : Heap) (locs : List Loc) : Prop :=
  va_P D vwCl (mcells dA ad σ) H ∧ va_D A (mcells dA ad σ) ∧ va_S A H0 H locs ∧ mwf σ
/-- cells that were there before N0 lie where ad0 says -/
def EXT (ad0 : Int → Nat) (N0 : Nat) (ad : Int → Nat) (N : Nat) : Prop := N0 ≤ N ∧ ad 0 = ad0 0 ∧ ∀ a : Int, 0 < a → a < N0 → ad a = ad0 a
theorem EXT.moved {ad0 ad ad' : Int → Nat} {N0 N N' : Nat} (h : EXT ad0 N0 ad N) (hN : N ≤ N') (h0 : ad' 0 = ad 0) (ha : ∀ a : Int, 0 < a → a < N → ad' a = ad a) : EXT ad0 N0 ad' N' :=
  ⟨Nat.le_trans h.1 hN, h0.trans h.2.1, fun a a0 a1 => (ha a a0 (by have := h.1; omega)).trans (h.2.2 a a0 a1)⟩
def Rw (p : Program) (l : Launch) (e : Env) (R : Room) (s : State) (m : MethodId) (args : Array Value) (below : List Frame) (meth : Method) (c : Code) (Q : State → Prop) (D : va_G) (dA : Nat → ClassId) (A : Nat → Prop) (H0 : Heap) (b0 : (Int → Nat) × Nat) (nL : Nat) (pt : Pt) : Prop :=
  ∀ (ad : Int → Nat) (H : Heap) (locs : List Loc) (rl : Array Slot), EXT b0.1 b0.2 ad pt.2.2.2.1.1 → HR D dA A H0 ad pt.2.2.2.1 H locs → LR ad pt.2.2.2.1.1 nL pt.2.1 rl → (∀ v ∈ pt.2.2.1, mok pt.2.2.2.1.1 v) →
    W p l e R s m args below meth c H locs pt.2.2.2.2.1 pt.2.2.2.2.2 Q (F0 m pt.1 rl (pt.2.2.1.map (mtr ad)))
def SF (own : String) (bytes : ByteArray) (ini : Bool) (S : Option (Nat × (Int → Int))) (p : Program) (s : State) (m : MethodId) (args : Array Value) (meth : Method) (c : Code) (D : va_G) (dA : Nat → ClassId) (A : Nat → Prop) (H0 : Heap) (b0 : (Int → Nat) × Nat) (nL : Nat) : Prop :=
  p.tables.exec = Jvm.exec ∧ c.code = bytes ∧ c.maxLocals = nL ∧ s.vm.findClass own = some m.cls ∧ (∀ w ∈ WS, w.before args s = true) ∧ va_K D vwCl (TY dA) s ∧ (∀ q, H0.size ≤ q → A q) ∧ (ini = true → meth.name = "<init>") ∧ AOs s ∧
  ∀ L xs, S = some (L, xs) → ∃ xr : Nat → Int32, va_X (b0.1 0) L xr s H0 ∧ b0.1 0 < H0.size ∧ ¬ A (b0.1 0) ∧ L ≤ 20000 ∧ ∀ j : Nat, j < L → xs j = (xr j).toInt
def retI (i : Instr) (st : List MV) (r : Option MV) : Prop :=
  (i = .ireturn ∧ ∃ v, st = [.inl v] ∧ r = some (.inl v)) ∨ (i = .lreturn ∧ ∃ v, st = [.inr (.inl v)] ∧ r = some (.inr (.inl v))) ∨ (i = .areturn ∧ ∃ v, st = [.inr (.inr v)] ∧ r = some (.inr (.inr v))) ∨ (i = .return_ ∧ st = [] ∧ r = none)
def FOK (own : String) (F : Nat → Option (Nat × Nat × Nat × Nat)) : Prop := ∀ x ci fi cd fw, F x = some (ci, fi, cd, fw) → ci < 10 ∧ fi < nfs ci ∧ cd = fcode (fty ci fi) ∧ cd ≤ 3 ∧ Cond.fieldLink own x (TT ci fi).1 (TT ci fi).2.1 (TT ci fi).2.2.1 ∈ WS ∧ (fw = 0 → (TT ci fi).2.2.2 = false) ∧ (fw = 1 → (TT ci fi).2.2.2 = true ∧ (TT ci fi).1 = own)
def ZOK (own : String) (Z : Nat → Option (Int ⊕ Int)) : Prop := ∀ x v, (Z x = some (.inl v) → Cond.constant own x (Int32.ofInt v) ∈ WS) ∧ (Z x = some (.inr v) → Cond.constantLong own x (Int64.ofInt v) ∈ WS)
def UOK (own : String) (U : Nat → Option Nat) : Prop := ∀ x t, U x = some t → (t < 10 → Cond.classLink own x (RR t) ∈ WS ∧ Cond.instantiable (RR t) (nfs t) ∈ WS ∧ Cond.initialized (RR t) ∈ WS) ∧ (t = 14 → Cond.classLink own (x - 100000) RX3 ∈ WS) ∧ (t = 15 → Cond.classLink own (x - 100000) RX2 ∈ WS) ∧ (t = 16 → Cond.classLink own x "[[I" ∈ WS)
def ivk (rk x : Nat) : Instr := if rk < 10 then .invokevirtual x else if rk = 10 then .invokestatic x else .invokespecial x
def CalOK (own : String) (R : Room) (x : Nat) (ci : CI) : Prop :=
  ∀ {p : Program} {l : Launch} {e : Env} {s : State} {m : MethodId} {args : Array Value} {below : List Frame} {meth : Method} {c : Code} {Q : State → Prop} {D : va_G} {dA : Nat → ClassId} {A : Nat → Prop} {H0 : Heap} {b0 : (Int → Nat) × Nat} {nL : Nat} {bytes : ByteArray} {ini : Bool} {S : Option (Nat × (Int → Int))},
    SF own bytes ini S p s m args meth c D dA A H0 b0 nL → ∀ (pc : Nat), decode bytes pc = .ok (ivk ci.2.1 x, 3) → ∀ (ls : List (Option MV)) (As rest : List MV) (σ : MS) (k j : Nat) (K : Option MV → MS → Prop), As.length = ci.1 → rcv ci.2.1 As → mcs rest ≤ 8 → k + ci.2.2.1 ≤ R.cells → j + ci.2.2.2.1 ≤ R.slots → ci.2.2.2.2 As σ K →
      (∀ r σ', K r σ' → Rw p l e R s m args below meth c Q D dA A H0 b0 nL (pc + 3, ls, rpl r rest, σ', k + ci.2.2.1, j + ci.2.2.2.1)) → Rw p l e R s m args below meth c Q D dA A H0 b0 nL (pc, ls, As.reverse ++ rest, σ, k, j)
theorem mok_pos {N : Nat} {a : Int} {n : Nat} (h : mok N (.inr (.inr (some a)))) (hg : (G a).1 = n) (hn : n ≠ 17) : 0 < a ∧ a < N := by
  rcases h with h | h
  · exact h
  · subst h; exact absurd hg.symm hn
theorem mok_hd {N : Nat} {v : MV} {l : List MV} (h : ∀ w ∈ v :: l, mok N w) : mok N v := h _ List.mem_cons_self
theorem mok_tl {N : Nat} {v : MV} {l : List MV} (h : ∀ w ∈ v :: l, mok N w) : ∀ w ∈ l, mok N w := fun w hw => h w (List.mem_cons_of_mem _ hw)
theorem mok_cons {N : Nat} {v : MV} {l : List MV} (hv : mok N v) (h : ∀ w ∈ l, mok N w) : ∀ w ∈ v :: l, mok N w := List.forall_mem_cons.mpr ⟨hv, h⟩
/-- a cell written in the heap is a cell written here -/
theorem HR.set {ad : Int → Nat} {σ σ' : MS} {H H1 : Heap} {locs locs1 : List Loc} {a : Int} {x : va_E} (h : HR D dA A H0 ad σ H locs) (h0 : 0 < a) (h1 : a < σ.1) (hN : σ'.1 = σ.1) (hw : mwf σ') (he : cE dA ad σ' a = x) (hb : ∀ b : Int, b ≠ a → 0 < b → b < σ.1 → cE dA ad σ' b = cE dA ad σ b)
    (hP : va_P D vwCl ((mcells dA ad σ).set (a - 1).toNat (ad a, x)) H1) (hD : va_D A ((mcells dA ad σ).set (a - 1).toNat (ad a, x))) (hS : va_S A H0 H1 locs1) : HR D dA A H0 ad σ' H1 locs1 := by
  rw [mcells_set h0 h1 hN he hb] at hP hD
  exact ⟨hP, hD, hS, hw⟩
theorem cE_putI {ad : Int → Nat} {σ : MS} {a i v b : Int} (h : b ≠ a) : cE dA ad (mputI σ a i v) b = cE dA ad σ b := by
  refine cE_congr (funext fun q => ?_) rfl (fun _ => rfl)
  show (if b = a ∧ q = i then v else σ.2.2.1 b q) = _
  rw [if_neg (fun z => h z.1)]
theorem cE_putL {ad : Int → Nat} {σ : MS} {a i v b : Int} (h : b ≠ a) : cE dA ad (mputL σ a i v) b = cE dA ad σ b := by
  refine cE_congr rfl (funext fun q => ?_) (fun _ => rfl)
  show (if b = a ∧ q = i then v else σ.2.2.2 b q) = _
  rw [if_neg (fun z => h z.1)]
theorem cE_putP {ad : Int → Nat} {σ : MS} {a i b : Int} {v : Option Int} (h : b ≠ a) : cE dA ad (mputP σ a i v) b = cE dA ad σ b := by
  refine cE_congr rfl rfl (fun q => ?_)
  show (if b = a ∧ q = i then v else σ.2.1 b q).map ad = _
  rw [if_neg (fun z => h z.1)]
theorem mwf_putI {σ : MS} {a i v : Int} (h : mwf σ) : mwf (mputI σ a i v) := h
theorem mwf_putL {σ : MS} {a i v : Int} (h : mwf σ) : mwf (mputL σ a i v) := h
theorem mwf_putP {σ : MS} {a i : Int} {v : Option Int} (h : mwf σ) (hv : ∀ b, v = some b → 0 < b ∧ b < σ.1) : mwf (mputP σ a i v) := by
  refine ⟨h.1, fun b q r h0 h1 h2 => ?_⟩
  change (if b = a ∧ q = i then v else σ.2.1 b q) = some r at h2
  split at h2
  · exact hv r h2
  · exact h.2 b q r h0 h1 h2
/-- the array that an entry of va_K adds is one that is known -/
theorem TY_new {ty : FieldType} {cA : ClassId} {t : Nat} (hK : va_K D vwCl (TY dA) s) (hK' : va_K D vwCl (TY dA ++ [(cA, ty)]) s) (ht : 10 ≤ t) (ht2 : t ≤ 16) (hty : aty t = ty) : cA = dA t := by
  have h1 := (hK.2 _ _ (TY_at ht ht2)).2
  have h2 := (hK'.2 (TY dA).length (cA, ty) (by rw [List.getElem?_append_right (Nat.le_refl _), Nat.sub_self]; rfl)).2
  rw [hty] at h1
  unfold va_RA at h1 h2
  cases ty with
  | object C =>
    obtain ⟨_, _, -, -, -, h1⟩ := h1
    obtain ⟨_, _, -, -, -, h2⟩ := h2
    exact Option.some.inj (h2.symm.trans h1)
  | _ => exact Option.some.inj (h2.symm.trans h1)
/-- a new cell -/
theorem HR.push {ad : Int → Nat} {σ : MS} {H H1 : Heap} {locs : List Loc} {q : Nat} {x : va_E} (h : HR D dA A H0 ad σ H locs) (he : ∀ ad' : Int → Nat, cE dA ad' (mnew σ) σ.1 = x)
    (hP : va_P D vwCl (mcells dA ad σ ++ [(q, x)]) H1) (hD : va_D A (mcells dA ad σ ++ [(q, x)])) (hS : va_S A H0 H1 locs) :
    ∃ ad' : Int → Nat, ad' 0 = ad 0 ∧ (∀ a : Int, 0 < a → a < σ.1 → ad' a = ad a) ∧ ad' σ.1 = q ∧ HR D dA A H0 ad' (mnew σ) H1 locs := by
  have hN := h.2.2.2.1
  refine ⟨fun b => if b = σ.1 then q else ad b, if_neg (by omega), fun a _ h1 => if_neg (by omega), if_pos rfl, ?_⟩
  have hw : mwf (mnew σ) := by
    refine ⟨Nat.le_succ_of_le hN, fun a i b h0 h1 h2 => ?_⟩
    change (if a = σ.1 then none else σ.2.1 a i) = some b at h2
    change a < ((σ.1 + 1 : Nat) : Int) at h1
    show 0 < b ∧ b < ((σ.1 + 1 : Nat) : Int)
    split at h2
    · cases h2
    · have := h.2.2.2.2 a i b h0 (by omega) h2
      omega
  have hm := mcells_app (dA := dA) (ad := ad) (ad' := fun b => if b = σ.1 then q else ad b) (σ := σ) (σ' := mnew σ) (ws := [(q, x)]) hN rfl (fun a h0 h1 => ⟨if_neg (by omega), by
      refine cE_congr (funext fun z => ?_) (funext fun z => ?_) (fun z => ?_)
      · show (if a = σ.1 then 0 else _) = _
        rw [if_neg (by omega)]
      · show (if a = σ.1 then 0 else _) = _
        rw [if_neg (by omega)]
      · show (if a = σ.1 then none else _).map _ = _
        rw [if_neg (by omega)]
        cases hp : σ.2.1 a z with
        | none => rfl
        | some r =>
          have := h.2.2.2.2 a z r h0 h1 hp
          show some (if r = σ.1 then q else ad r) = some (ad r)
          rw [if_neg (by omega)]⟩) (fun n z hz => by
      have h0 : n = 0 := by
        have := (List.getElem?_eq_some_iff.mp hz).1
        simpa using this
      subst h0
      cases hz
      rw [show (σ.1 : Int) + ((0 : Nat) : Int) = σ.1 by omega, if_pos rfl, he])
  rw [hm] at hP hD
  exact ⟨hP, hD, hS, hw⟩
end SM
