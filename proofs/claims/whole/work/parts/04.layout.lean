abbrev vwCl : List vw_C := [(RX0, TX0, 4), (RX1, TX1, 12), (RX2, TX2, 5), (RX3, TX3, 5), (RX4, TX4, 2), (RX5, TX5, 2), (RX6, TX6, 4), (RX7, TX7, 12), (RX8, TX8, 4), (RX9, TX9, 38)]
/-! THE SMALL MACHINE, 1: the layout. Every object of a run but exceptions is made once, in a fixed order: cell k is the k-th. 0: the script. 1 .. 239: LapBoard and what it holds; 240 .. 271: the model; 272: the law's row. -/
def G (a : Int) : Nat × Nat :=
  if a ≤ 0 then (17, 0) else if a ≤ 1 then (8, 4) else if a ≤ 2 then (7, 12) else if a ≤ 3 then (5, 2) else if a ≤ 4 then (14, 30) else if a ≤ 34 then (3, 5)
  else if a ≤ 35 then (0, 4) else if a ≤ 36 then (10, 3) else if a ≤ 37 then (10, 61) else if a ≤ 39 then (10, 7)
  else if a ≤ 40 then (6, 4) else if a ≤ 43 then (10, 30) else if a ≤ 44 then (6, 4) else if a ≤ 47 then (10, 30) else if a ≤ 48 then (10, 90)
  else if a ≤ 49 then (16, 90) else if a ≤ 139 then (10, 61) else if a ≤ 143 then (10, 61) else if a ≤ 144 then (10, 41)
  else if a ≤ 145 then (4, 2) else if a ≤ 146 then (16, 31) else if a ≤ 177 then (10, 61) else if a ≤ 178 then (10, 30)
  else if a ≤ 179 then (1, 12) else if a ≤ 181 then (10, 4) else if a ≤ 183 then (10, 40) else if a ≤ 184 then (16, 4) else if a ≤ 188 then (10, 41)
  else if a ≤ 189 then (16, 8) else if a ≤ 197 then (10, 41) else if a ≤ 198 then (16, 8) else if a ≤ 206 then (10, 41)
  else if a ≤ 207 then (15, 8)
  else if a ≤ 239 then (if (a - 208) % 4 = 0 then (2, 5) else if (a - 208) % 4 = 1 then (3, 5) else if (a - 208) % 4 = 2 then (10, 60) else (12, 60))
  else if a ≤ 240 then (9, 38) else if a ≤ 245 then (10, 30) else if a ≤ 247 then (10, 7) else if a ≤ 248 then (13, 41) else if a ≤ 249 then (11, 41)
  else if a ≤ 251 then (10, 30) else if a ≤ 252 then (11, 5490) else if a ≤ 253 then (10, 61) else if a ≤ 254 then (10, 90) else if a ≤ 256 then (11, 61)
  else if a ≤ 257 then (10, 1891) else if a ≤ 259 then (10, 4) else if a ≤ 260 then (11, 13120) else if a ≤ 263 then (10, 40) else if a ≤ 269 then (10, 8)
  else if a ≤ 270 then (10, 480) else if a ≤ 271 then (10, 60) else if a ≤ 272 then (11, 1) else (18, 0)
/-- a number, a long, a reference (none: null) -/
abbrev MV : Type := Int ⊕ (Int ⊕ Option Int)
/-- how many cells there are; references, ints and longs by cell and place -/
abbrev MS : Type := Nat × (Int → Int → Option Int) × (Int → Int → Int) × (Int → Int → Int)
abbrev ME : Type := Instr × Nat × List Nat
abbrev Pt : Type := Nat × List (Option MV) × List MV × MS × Nat × Nat
/-- a call: how many arguments with the receiver, the receiver's kind (10 and more: none), cells, slots, what is owed -/
abbrev CI : Type := Nat × Nat × Nat × Nat × (List MV → MS → (Option MV → MS → Prop) → Prop)
def RI (x : Int) : Prop := -2147483648 ≤ x ∧ x < 2147483648
def RLg (x : Int) : Prop := -9223372036854775808 ≤ x ∧ x < 9223372036854775808
def TT (ci : Nat) : u_T := match ci with
  | 0 => TX0 | 1 => TX1 | 2 => TX2 | 3 => TX3 | 4 => TX4 | 5 => TX5 | 6 => TX6 | 7 => TX7 | 8 => TX8 | _ => TX9
def RR (ci : Nat) : String := match ci with
  | 0 => RX0 | 1 => RX1 | 2 => RX2 | 3 => RX3 | 4 => RX4 | 5 => RX5 | 6 => RX6 | 7 => RX7 | 8 => RX8 | _ => RX9
def nfs (ci : Nat) : Nat := match ci with
  | 0 => 4 | 1 => 12 | 2 => 5 | 3 => 5 | 4 => 2 | 5 => 2 | 6 => 4 | 7 => 12 | 8 => 4 | _ => 38
def fty (ci : Nat) : Nat → FieldType := match ci with
  | 0 => tyX0 | 1 => tyX1 | 2 => tyX2 | 3 => tyX3 | 4 => tyX4 | 5 => tyX5 | 6 => tyX6 | 7 => tyX7 | 8 => tyX8 | _ => tyX9
def aty (k : Nat) : FieldType := match k with
  | 10 => .int | 11 => .long | 12 => .byte | 13 => .boolean | 14 => .object RX3 | 15 => .object RX2 | _ => .array .int
/-- 0 int, 1 long, 2 reference, 3 boolean -/
def fcode (t : FieldType) : Nat := match t with
  | .long => 1
  | .object _ => 2
  | .array _ => 2
  | .boolean => 3
  | .int => 0
  | _ => 9
def mtr (ad : Int → Nat) : MV → Value
  | .inl x => .int (Int32.ofInt x)
  | .inr (.inl x) => .long (Int64.ofInt x)
  | .inr (.inr none) => .null
  | .inr (.inr (some r)) => .ref (ad r)
def mcat : MV → Nat
  | .inr (.inl _) => 2
  | _ => 1
def mcs : List MV → Nat
  | [] => 0
  | v :: l => mcat v + mcs l
def mok (N : Nat) : MV → Prop
  | .inr (.inr (some r)) => 0 < r ∧ r < N ∨ r = 0
  | _ => True
def msl (ad : Int → Nat) (σ : MS) (a : Int) (t : FieldType) (i : Int) : Value := match fcode t with
  | 1 => .long (Int64.ofInt (σ.2.2.2 a i))
  | 2 => va_rf ((σ.2.1 a i).map ad)
  | _ => .int (Int32.ofInt (σ.2.2.1 a i))
/-- what an array of kind k holds -/
def mar (ad : Int → Nat) (σ : MS) (a : Int) (k : Nat) : ((Nat → Int32) ⊕ (Nat → Int64) ⊕ (Nat → UInt32) ⊕ (Nat → UInt64) ⊕ (Nat → Option Nat)) :=
  if k = 11 then .inr (.inl (fun j => Int64.ofInt (σ.2.2.2 a j)))
  else if k = 14 ∨ k = 15 ∨ k = 16 then .inr (.inr (.inr (.inr (fun j => (σ.2.1 a j).map ad))))
  else .inl (fun j => Int32.ofInt (σ.2.2.1 a j))
def cE (dA : Nat → ClassId) (ad : Int → Nat) (σ : MS) (a : Int) : va_E :=
  if (G a).1 < 10 then .inr ((G a).1, (List.range (nfs (G a).1)).map (fun (i : Nat) => msl ad σ a (fty (G a).1 i) i))
  else .inl (dA (G a).1, (G a).2, mar ad σ a (G a).1)
def mcells (dA : Nat → ClassId) (ad : Int → Nat) (σ : MS) : va_W := (List.range (σ.1 - 1)).map (fun (k : Nat) => (ad ((k : Int) + 1), cE dA ad σ ((k : Int) + 1)))
def mwf (σ : MS) : Prop := 1 ≤ σ.1 ∧ ∀ a i b : Int, 0 < a → a < σ.1 → σ.2.1 a i = some b → 0 < b ∧ b < σ.1
def TY (dA : Nat → ClassId) : List (ClassId × FieldType) := (List.range 7).map (fun k => (dA (k + 10), aty (k + 10)))
def WS : List Cond := lw_tbl.filter goodWord
def upI (I : Int → Int → Int) (a i v : Int) : Int → Int → Int := fun b j => if b = a ∧ j = i then v else I b j
def upP (P : Int → Int → Option Int) (a i : Int) (v : Option Int) : Int → Int → Option Int := fun b j => if b = a ∧ j = i then v else P b j
theorem ws_mem {w : Cond} (h : w ∈ lw_tbl) (hg : goodWord w = true) : w ∈ WS := List.mem_filter.mpr ⟨h, hg⟩
theorem ws_good {ws : List Cond} (h : ∀ w ∈ ws, w ∈ WS) : GoodIn WS ws := fun w hw => ⟨h w hw, good_of_word (List.mem_filter.mp (h w hw)).2⟩
theorem cl_at {ci : Nat} (h : ci < 10) : vwCl[ci]? = some (RR ci, TT ci, nfs ci) := by
  rcases (show ci = 0 ∨ ci = 1 ∨ ci = 2 ∨ ci = 3 ∨ ci = 4 ∨ ci = 5 ∨ ci = 6 ∨ ci = 7 ∨ ci = 8 ∨ ci = 9 by omega) with rfl | rfl | rfl | rfl | rfl | rfl | rfl | rfl | rfl | rfl <;> rfl
theorem fty_ok {ci : Nat} (h : ci < 10) : ∀ k, k < nfs ci → parseFieldDescriptor (TT ci k).2.2.1 = some (fty ci k) := by
  rcases (show ci = 0 ∨ ci = 1 ∨ ci = 2 ∨ ci = 3 ∨ ci = 4 ∨ ci = 5 ∨ ci = 6 ∨ ci = 7 ∨ ci = 8 ∨ ci = 9 by omega) with rfl | rfl | rfl | rfl | rfl | rfl | rfl | rfl | rfl | rfl
  · exact tyX0_ok
  · exact tyX1_ok
  · exact tyX2_ok
  · exact tyX3_ok
  · exact tyX4_ok
  · exact tyX5_ok
  · exact tyX6_ok
  · exact tyX7_ok
  · exact tyX8_ok
  · exact tyX9_ok
theorem fnm_ok {ci : Nat} (h : ci < 10) : ∀ a, a < nfs ci → ∀ b, b < nfs ci → a ≠ b → (TT ci a).2.1 ≠ (TT ci b).2.1 := by
  rcases (show ci = 0 ∨ ci = 1 ∨ ci = 2 ∨ ci = 3 ∨ ci = 4 ∨ ci = 5 ∨ ci = 6 ∨ ci = 7 ∨ ci = 8 ∨ ci = 9 by omega) with rfl | rfl | rfl | rfl | rfl | rfl | rfl | rfl | rfl | rfl
  · exact nmX0
  · exact nmX1
  · exact nmX2
  · exact nmX3
  · exact nmX4
  · exact nmX5
  · exact nmX6
  · exact nmX7
  · exact nmX8
  · exact nmX9
theorem ws_fld_b : ((List.range 10).all fun ci => (u_ws (RR ci) (TT ci) (nfs ci)).all fun w => decide (w ∈ lw_tbl) && goodWord w) = true := by decide +kernel
theorem ws_fld {ci : Nat} (h : ci < 10) : ∀ w ∈ u_ws (RR ci) (TT ci) (nfs ci), w ∈ WS := by
  intro w hw
  have h1 := List.all_eq_true.mp ws_fld_b ci (List.mem_range.mpr h)
  have h2 := List.all_eq_true.mp h1 w hw
  rw [Bool.and_eq_true, decide_eq_true_eq] at h2
  exact ws_mem h2.1 h2.2
/-- arrays of Station, Shelf and int[] may be made -/
def AOs (U : State) : Prop := va_AO RX3 U ∧ va_AO RX2 U ∧ va_AOA .int U
/-- the library's Cond.arrayOver_spec, for arrays of arrays -/
theorem aoa_spec {args : Array Value} {first s : State} {o : Option Outcome} {idx : List Nat} {t : FieldType} (h : (Cond.arrayOver (.array t)).holds args first o s idx = true) :
    ∃ comp c k, s.vm.findClass (FieldType.array t).toString = some comp ∧ (s.vm.classes.findIdx? fun (x : Class) => match x.kind with | .array component _ => component == comp | _ => false) = some c ∧ s.vm.classes[c]? = some k ∧ k.kind = .array comp (.array t) ∧
      s.vm.findClass ("[" ++ (FieldType.array t).toString) = some c := by
  simp only [Cond.holds, Cond.value, beq_iff_eq] at h
  cases hc : s.vm.findClass (FieldType.array t).toString with
  | none => simp [hc] at h
  | some comp =>
    simp only [hc, Option.bind_some, Option.bind_eq_some_iff, Option.map_eq_some_iff] at h
    obtain ⟨c, hi, k, hk, hb⟩ := h
    obtain ⟨hlt, hp, -⟩ := Array.findIdx?_eq_some_iff_getElem.mp hi
    have hkk : s.vm.classes[c] = k := (Array.getElem?_eq_some_iff.mp hk).2
    rw [hkk] at hp
    cases hkind : k.kind with
    | array component ty =>
      rw [hkind] at hb hp
      simp at hb hp
      exact ⟨comp, c, k, rfl, hi, hk, by rw [hkind, hp, hb.1], hb.2⟩
    | _ => rw [hkind] at hb; simp at hb
theorem va_AOA.moved {ty : FieldType} {u U : State} (hvm : u.vm.Alike U.vm) (h : va_AOA ty u) : va_AOA ty U := by
  obtain ⟨comp, c, k, h1, h2, h3, h4, h5⟩ := aoa_spec h
  obtain ⟨k', hk', he⟩ := hvm.2.2 _ _ h3
  have hi : (U.vm.classes.findIdx? fun (x : Class) => match x.kind with | .array component _ => component == comp | _ => false) = some c := by
    refine Eq.trans (va_idx_bare U.vm comp).symm ?_
    first | rw [hvm.bare_eq] | rw [← hvm.bare_eq]
    exact (va_idx_bare u.vm comp).trans h2
  have hkind : k'.kind = .array comp (.array ty) := by rw [he]; exact h4
  have f1 : U.vm.findClass (FieldType.array ty).toString = some comp := by rw [hvm.findClass]; exact h1
  have f2 : U.vm.findClass ("[" ++ (FieldType.array ty).toString) = some c := by rw [hvm.findClass]; exact h5
  unfold va_AOA Cond.before Cond.holds
  simp only [Cond.value]
  rw [f1, Option.bind_some]
  refine (congrArg (fun o : Option Nat => (o.bind (fun c => (U.vm.classes[c]?).map fun (k : Class) => match k.kind with | .array _ t => decide (t = FieldType.array ty) && decide (U.vm.findClass ("[" ++ (FieldType.array ty).toString) = some c) | _ => false) == some true)) hi).trans ?_
  simp [hk', hkind, f2]
theorem AOs.moved {u U : State} (hvm : u.vm.Alike U.vm) (h : AOs u) : AOs U := ⟨h.1.moved hvm, h.2.1.moved hvm, h.2.2.moved hvm⟩
