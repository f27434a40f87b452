/-! THE SMALL MACHINE, 8: blocks; a method's contract; its calls -/
section SO
variable {p : Program} {l : Launch} {e : Env} {R : Room} {s : State} {m : MethodId} {args : Array Value} {below : List Frame} {meth : Method} {c : Code} {Q : State → Prop} {D : va_G} {dA : Nat → ClassId} {A : Nat → Prop} {H0 : Heap} {b0 : (Int → Nat) × Nat} {nL : Nat}
theorem chk_cons {bytes : ByteArray} {pc len : Nat} {i : Instr} {ts : List Nat} {b : List ME} (h : chk bytes pc ((i, len, ts) :: b) = true) : decode bytes pc = .ok (i, len) ∧ (len = ilen i ∨ ilen i = 0) ∧ chkT pc i len ts = true ∧ chk bytes (pc + len) b = true := by
  unfold chk at h
  rw [Bool.and_eq_true, Bool.and_eq_true, Bool.and_eq_true, Bool.or_eq_true, decide_eq_true_eq, decide_eq_true_eq, decide_eq_true_eq] at h
  exact ⟨h.1.1.1, h.1.1.2, h.1.2, h.2⟩
def RetOK (bytes : ByteArray) (post : Option MV → MS → Prop) (p : Program) (l : Launch) (e : Env) (R : Room) (s : State) (m : MethodId) (args : Array Value) (below : List Frame) (meth : Method) (c : Code) (Q : State → Prop) (D : va_G) (dA : Nat → ClassId) (A : Nat → Prop) (H0 : Heap) (b0 : (Int → Nat) × Nat) (nL : Nat) : Prop :=
  ∀ pc ls st σ k j i r, decode bytes pc = .ok (i, 1) → retI i st r → k ≤ R.cells → j ≤ R.slots → post r σ → Rw p l e R s m args below meth c Q D dA A H0 b0 nL (pc, ls, st, σ, k, j)
theorem wp_ok {own : String} {bytes : ByteArray} {ini : Bool} {S : Option (Nat × (Int → Int))} {B : Nat → List ME} {cuts : List Nat} {F : Nat → Option (Nat × Nat × Nat × Nat)} {Y : Nat → Option CI} {Z : Nat → Option (Int ⊕ Int)} {U : Nat → Option Nat} {post : Option MV → MS → Prop} {K : Pt → Prop}
    (hsf : SF own bytes ini S p s m args meth c D dA A H0 b0 nL) (hF : FOK own F) (hZ : ZOK own Z) (hU : UOK own U) (hY : ∀ x ci, Y x = some ci → CalOK own R x ci) (hB : ∀ pc, chk bytes pc (B pc) = true)
    (hret : RetOK bytes post p l e R s m args below meth c Q D dA A H0 b0 nL) (hKK : ∀ pt, K pt → Rw p l e R s m args below meth c Q D dA A H0 b0 nL pt) :
    ∀ (n : Nat) (b : List ME) (pc : Nat) (ls : List (Option MV)) (st : List MV) (σ : MS) (k j : Nat), chk bytes pc b = true → wp B cuts F Y Z U S ini R.cells R.slots post K n b pc ls st σ k j → Rw p l e R s m args below meth c Q D dA A H0 b0 nL (pc, ls, st, σ, k, j)
  | 0, _, _, _, _, _, _, _, _, h => by
    rw [wp_0] at h
    exact h.elim
  | n + 1, [], pc, ls, st, σ, k, j, _, h => by
    rw [wp_nil] at h
    split at h
    · exact hKK _ h
    · exact wp_ok hsf hF hZ hU hY hB hret hKK n _ _ _ _ _ _ _ (hB pc) h
  | n + 1, (i, len, ts) :: b, pc, ls, st, σ, k, j, hc, h => by
    obtain ⟨h1, h2, h3, h4⟩ := chk_cons hc
    rw [wp_cons] at h
    refine stp_ok hsf hF hZ hU hY hret hKK h1 h2 h3 (fun b' pc' ls' st' σ' k' j' hb hn => ?_) h
    rcases hb with ⟨rfl, rfl⟩ | rfl
    · exact wp_ok hsf hF hZ hU hY hB hret hKK n _ _ _ _ _ _ _ h4 hn
    · exact wp_ok hsf hF hZ hU hY hB hret hKK n _ _ _ _ _ _ _ rfl hn
/-- from here the method goes on to an end with 'post' (or to a throw at a point of T) -/
def Ok (own : String) (bytes : ByteArray) (nL : Nat) (R : Room) (ini : Bool) (S : Option (Nat × (Int → Int))) (post : Option MV → MS → Prop) (T : Pt → Prop) (pt : Pt) : Prop :=
  Nonempty (PLift (∀ {p : Program} {l : Launch} {e : Env} {s : State} {m : MethodId} {args : Array Value} {below : List Frame} {meth : Method} {c : Code} {Q : State → Prop} {D : va_G} {dA : Nat → ClassId} {A : Nat → Prop} {H0 : Heap} {b0 : (Int → Nat) × Nat},
    SF own bytes ini S p s m args meth c D dA A H0 b0 nL → RetOK bytes post p l e R s m args below meth c Q D dA A H0 b0 nL → (∀ pt, T pt → Rw p l e R s m args below meth c Q D dA A H0 b0 nL pt) → Rw p l e R s m args below meth c Q D dA A H0 b0 nL pt))
/-- what is fixed of a method -/
def MD (own : String) (bytes : ByteArray) (R : Room) (B : Nat → List ME) (F : Nat → Option (Nat × Nat × Nat × Nat)) (Y : Nat → Option CI) (Z : Nat → Option (Int ⊕ Int)) (U : Nat → Option Nat) : Prop :=
  FOK own F ∧ ZOK own Z ∧ UOK own U ∧ (∀ x ci, Y x = some ci → CalOK own R x ci) ∧ ∀ pc, chk bytes pc (B pc) = true
theorem Ok.seg {own : String} {bytes : ByteArray} {nL : Nat} {R : Room} {ini : Bool} {S : Option (Nat × (Int → Int))} {post : Option MV → MS → Prop} {T : Pt → Prop} {B : Nat → List ME} {F : Nat → Option (Nat × Nat × Nat × Nat)} {Y : Nat → Option CI} {Z : Nat → Option (Int ⊕ Int)} {U : Nat → Option Nat} (hM : MD own bytes R B F Y Z U)
    (cuts : List Nat) (n : Nat) {pc : Nat} {ls : List (Option MV)} {st : List MV} {σ : MS} {k j : Nat} (h : wp B cuts F Y Z U S ini R.cells R.slots post (Ok own bytes nL R ini S post T) n (B pc) pc ls st σ k j) : Ok own bytes nL R ini S post T (pc, ls, st, σ, k, j) :=
  ⟨⟨fun hsf hret hT => wp_ok hsf hM.1 hM.2.1 hM.2.2.1 hM.2.2.2.1 hM.2.2.2.2 hret (fun pt hk => hk.elim fun q => q.down hsf hret hT) n _ _ _ _ _ _ _ (hM.2.2.2.2 pc) h⟩⟩
theorem Ok.thr {own : String} {bytes : ByteArray} {nL : Nat} {R : Room} {ini : Bool} {S : Option (Nat × (Int → Int))} {post : Option MV → MS → Prop} {T : Pt → Prop} {pt : Pt} (h : T pt) : Ok own bytes nL R ini S post T pt := ⟨⟨fun _ _ hT => hT _ h⟩⟩
/-- the locals at a method's entry -/
def entA : List MV → List (Option MV)
  | [] => []
  | v :: vs => if mcat v = 2 then some v :: none :: entA vs else some v :: entA vs
def entL (n : Nat) (vs : List MV) : List (Option MV) := entA vs ++ List.replicate (n - (entA vs).length) none
theorem getL_iff (l : List (Option MV)) (i : Nat) (v : MV) : getL l i = some v ↔ l[i]? = some (some v) := by
  induction l generalizing i with
  | nil => cases i <;> simp [getL]
  | cons a l ih =>
    cases i with
    | zero => simp [getL]
    | succ n => simp only [getL]; rw [ih]; simp
theorem entA_at (ad : Int → Nat) : ∀ (vs : List MV), (entA vs).length = (lg_sl (vs.map (mtr ad))).length ∧ ∀ (i : Nat) (v : MV), (entA vs)[i]? = some (some v) → (lg_sl (vs.map (mtr ad)))[i]? = some (.val (mtr ad v)) ∧ v ∈ vs
  | [] => ⟨rfl, fun i v h => by simp [entA] at h⟩
  | w :: vs => by
    obtain ⟨h1, h2⟩ := entA_at ad vs
    have e : lg_sl ((w :: vs).map (mtr ad)) = (if (mtr ad w).category = 2 then [.val (mtr ad w), .second] else [.val (mtr ad w)]) ++ lg_sl (vs.map (mtr ad)) := rfl
    rw [e, mcat_mtr]
    unfold entA
    by_cases hc : mcat w = 2
    · rw [if_pos hc, if_pos hc]
      refine ⟨by simp [h1], fun i v h => ?_⟩
      match i, h with
      | 0, h => cases h; exact ⟨rfl, List.mem_cons_self⟩
      | 1, h => cases h
      | i + 2, h => exact ⟨(h2 i v h).1, List.mem_cons_of_mem _ (h2 i v h).2⟩
    · rw [if_neg hc, if_neg hc]
      refine ⟨by simp [h1], fun i v h => ?_⟩
      match i, h with
      | 0, h => cases h; exact ⟨rfl, List.mem_cons_self⟩
      | i + 1, h => exact ⟨(h2 i v h).1, List.mem_cons_of_mem _ (h2 i v h).2⟩
theorem LR_entry {ad : Int → Nat} {N n : Nat} {vs : List MV} (hv : ∀ v ∈ vs, mok N v) (h : (entA vs).length ≤ n) : LR ad N n (entL n vs) ((lg_sl (vs.map (mtr ad)) ++ List.replicate (n - (lg_sl (vs.map (mtr ad))).length) Slot.unset).toArray) := by
  obtain ⟨h1, h2⟩ := entA_at ad vs
  obtain ⟨q1, q2, -⟩ := lv_entry (vs.map (mtr ad)) (n := n) (by rw [← h1]; exact h)
  refine ⟨q1, q2, by unfold entL; rw [List.length_append, List.length_replicate]; omega, fun i v hi => ?_⟩
  rw [getL_iff] at hi
  unfold entL at hi
  by_cases hl : i < (entA vs).length
  · rw [List.getElem?_append_left hl] at hi
    obtain ⟨a, b⟩ := h2 i v hi
    refine ⟨?_, hv v b⟩
    rw [List.getElem?_toArray, List.getElem?_append_left (by rw [← h1]; exact hl)]
    exact a
  · rw [List.getElem?_append_right (by omega)] at hi
    have := List.getElem?_eq_some_iff.mp hi
    obtain ⟨a, b⟩ := this
    rw [List.getElem_replicate] at b
    cases b
def rfit (ret : Option FieldType) (r : Option MV) : Prop := match ret, r with
  | none, none => True
  | some .int, some (.inl _) => True
  | some .boolean, some (.inl v) => v = 0 ∨ v = 1
  | some .long, some (.inr (.inl _)) => True
  | some (.object _), some (.inr (.inr _)) => True
  | _, _ => False
def mPc (D : va_G) (dA : Nat → ClassId) (ad : Int → Nat) (σ : MS) (As : List MV) (sz : Nat) : Array Value → State → Prop :=
  va_Pc (As.map (mtr ad)) (fun U => U.heap.size = sz ∧ va_P D vwCl (mcells dA ad σ) U.heap ∧ va_K D vwCl (TY dA) U ∧ va_D (fun _ => True) (mcells dA ad σ) ∧ AOs U)
def mQc (D : va_G) (dA : Nat → ClassId) (ad : Int → Nat) (σ : MS) (sz : Nat) (K : Option MV → MS → Prop) : Array Value → State → Outcome → State → Prop := fun _ st oc t =>
  (∃ (r : Option MV) (σ' : MS) (ad' : Int → Nat), K r σ' ∧ mwf σ' ∧ σ.1 ≤ σ'.1 ∧ ad' 0 = ad 0 ∧ (∀ a : Int, 0 < a → a < σ.1 → ad' a = ad a) ∧ (∀ v, r = some v → mok σ'.1 v) ∧ oc = .returned (r.map (mtr ad')) ∧
    va_P D vwCl (mcells dA ad' σ') t.heap ∧ va_K D vwCl (TY dA) t ∧ va_D (va_A (mcells dA ad σ) sz) (mcells dA ad' σ')) ∧ va_F (va_A (mcells dA ad σ) sz) st t
def MOK (y : MethodName) (bytes : ByteArray) (maxL : Nat) (ret : Option FieldType) (rm : Room) (ci : CI) : Prop :=
  ∀ (l : Launch) (D : va_G) (dA : Nat → ClassId) (ad : Int → Nat) (σ : MS) (As : List MV) (K : Option MV → MS → Prop) (sz : Nat), mwf σ → (∀ v ∈ As, mok σ.1 v) → rcv ci.2.1 As → As.length = ci.1 → ci.2.2.2.2 As σ K →
    Met l y (.code y bytes maxL ret :: WS) rm (mPc D dA ad σ As sz) (mQc D dA ad σ sz K) ci.2.2.1 ci.2.2.2.1 (va_A (mcells dA ad σ) sz)
theorem mPc_blind (D : va_G) (dA : Nat → ClassId) (ad : Int → Nat) (σ : MS) (As : List MV) (sz : Nat) : FrameBlind (mPc D dA ad σ As sz) := fun a U g mk q => by
  obtain ⟨q1, q2, q3, q4, q5, q6⟩ := q
  exact ⟨q1, q2, q3, va_K.moved (u := U) (U := U.calling g mk a) (Vm.Alike.refl U.vm) q4, q5, AOs.moved (u := U) (U := U.calling g mk a) (Vm.Alike.refl U.vm) q6⟩
theorem mPc_at {ad : Int → Nat} {σ : MS} {As : List MV} {H : Heap} {locs : List Loc} (hR : HR D dA A H0 ad σ H locs) (hK : va_K D vwCl (TY dA) s) (hao : AOs s) : ∀ U : State, U.heap = H → s.WarmedH U.vm → mPc D dA ad σ As H.size (As.map (mtr ad)).toArray U :=
  fun U hU hW => ⟨rfl, by rw [hU], by rw [hU]; exact hR.1, va_K.moved hW.alike hK, hR.2.1.weaken (fun _ _ _ _ => trivial), hao.moved hW.alike⟩
theorem mcs_cat (ad : Int → Nat) : ∀ (l : List MV), ((l.map (mtr ad)).map fun v => v.category).sum = mcs l
  | [] => rfl
  | v :: l => by
    have := mcs_cat ad l
    simp only [List.map_cons, List.sum_cons, mcs, mcat_mtr] at this ⊢
    rw [this]
set_option maxHeartbeats 1000000 in
/-- behind a call -/
theorem call_go {ad : Int → Nat} {σ : MS} {H : Heap} {locs : List Loc} {rl : Array Slot} {pc k j mc ms : Nat} {ls : List (Option MV)} {st0 : List Value} {rest : List MV} {a : Array Value} {K : Option MV → MS → Prop}
    (hr : va_Run p l e R s m args below meth c H locs k j mc ms (F0 m pc rl st0) (rest.map (mtr ad)) (mQc D dA ad σ H.size K a) (va_A (mcells dA ad σ) H.size)) (hA : ∀ q, H0.size ≤ q → A q)
    (hext : EXT b0.1 b0.2 ad σ.1) (hR : HR D dA A H0 ad σ H locs) (hl : LR ad σ.1 nL ls rl) (hst : ∀ v ∈ rest, mok σ.1 v)
    (hk : ∀ r σ', K r σ' → Rw p l e R s m args below meth c Q D dA A H0 b0 nL (pc + 3, ls, rpl r rest, σ', k + mc, j + ms)) : W p l e R s m args below meth c H locs k j Q (F0 m pc rl st0) := by
  intro T hT X
  obtain ⟨v, st₀, t, T', L, h0, X', hL, e1, e2, ⟨⟨r, σ', ad', hKr, hwf', hN, h0', hag, hmr, hv, hP', hK', hD'⟩, hz, hk2⟩, st⟩ := hr T hT X
  have hF : ∀ q, va_A (mcells dA ad σ) H.size q → A q := fun q h => by
    rcases h with ⟨n, x, h⟩ | h
    · exact hR.2.1.2 n (q, x) h
    · exact hA q (Nat.le_trans hR.2.2.1.1 h)
  have hv2 : v = r.map (mtr ad') := by cases hv; rfl
  subst hv2
  rw [h0] at hz hk2
  have hR' : HR D dA A H0 ad' σ' T'.heap (locs ++ L) := by
    refine ⟨by rw [e1]; exact hP', hD'.weaken (fun _ _ _ h => hF _ h), ⟨Nat.le_trans hR.2.2.1.1 (by rw [e1]; exact hz), fun q h1 h2 => ?_, fun q hq => ?_⟩, hwf'⟩
    · rw [e1, hk2 q (Nat.lt_of_lt_of_le h1 hR.2.2.1.1) (fun z => h2 (hF q z))]
      exact hR.2.2.1.2.1 q h1 h2
    · rcases List.mem_append.mp hq with h | h
      · exact hR.2.2.1.2.2 q h
      · exact hF _ (hL q h)
  have hst' : ∀ v ∈ rpl r rest, mok σ'.1 v := by
    cases r with
    | none => exact fun v hv => mok_le hN (hst v hv)
    | some x => exact mok_cons (hmr x rfl) (fun v hv => mok_le hN (hst v hv))
  obtain ⟨t2, a1, b1⟩ := hk r σ' hKr ad' T'.heap (locs ++ L) rl (hext.moved hN h0' hag) hR' (hl.moved hN h0' hag) hst' T' rfl X'
  refine ⟨t2, st t2 ?_, b1⟩
  have em : (rpl r rest).map (mtr ad') = (r.map (mtr ad')).toList ++ rest.map (mtr ad) := by
    rw [← mapr_moved h0' hag hst]
    cases r <;> rfl
  change Steps p.tables e below (T'.setTop (F0 m (pc + 3) rl ((rpl r rest).map (mtr ad')))) t2 at a1
  rw [em] at a1
  exact a1
end SO
