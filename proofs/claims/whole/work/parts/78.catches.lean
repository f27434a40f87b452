/-! CATCHES: walks in a place where a throw may be caught -/
/-- from here the method goes on to an end with 'post', where throws may be caught -/
def OkX (own : String) (bytes : ByteArray) (nL : Nat) (R : Room) (S : Option (Nat × (Int → Int))) (TB : List ExceptionTableEntry → Prop) (post : Option MV → MS → Prop) (pt : Pt) : Prop :=
  Nonempty (PLift (∀ {p : Program} {l : Launch} {e : Env} {s : State} {m : MethodId} {args : Array Value} {below : List Frame} {meth : Method} {c : Code} {Q : State → Prop} {D : va_G} {dA : Nat → ClassId} {A : Nat → Prop} {H0 : Heap} {b0 : (Int → Nat) × Nat},
    SF own bytes false S p s m args meth c D dA A H0 b0 nL → RetOK bytes post p l e R s m args below meth c Q D dA A H0 b0 nL → l.stackTraces = false → TZ A s H0 → TB c.exceptionTable.toList → Rw p l e R s m args below meth c Q D dA A H0 b0 nL pt))
theorem OkX.of_ok {own : String} {bytes : ByteArray} {nL : Nat} {R : Room} {S : Option (Nat × (Int → Int))} {TB : List ExceptionTableEntry → Prop} {post : Option MV → MS → Prop} {T : Pt → Prop} {pt : Pt} (h : Ok own bytes nL R false S post T pt) (hT : ∀ pt, T pt → OkX own bytes nL R S TB post pt) : OkX own bytes nL R S TB post pt :=
  ⟨⟨fun hsf hret hl hz ht => h.elim fun q => q.down hsf hret (fun pt hp => (hT pt hp).elim fun q2 => q2.down hsf hret hl hz ht)⟩⟩
theorem LR.stX {ad : Int → Nat} {N nL : Nat} {ls : List (Option MV)} {rl rl' : Array Slot} {x q : Nat} (h : LR ad N nL ls rl) (hx : x < nL)
    (h' : lv_has rl' nL ((x, Value.ref q) :: (mlv ad ls).filter (fun q => !(q.1 == x) && !(q.1 + 1 == x && q.2.category == 2)))) : LR ad N nL (setL (killL ls x) x none) rl' := by
  refine ⟨h'.1, h'.2.1, by rw [setL_len, killL_len]; exact h.2.2.1, fun i w hw => ?_⟩
  by_cases e : i = x
  · subst e
    rw [getL_set_same _ _ _ (ltL_of _ _ (by rw [killL_len, h.2.2.1]; exact hx))] at hw
    cases hw
  · rw [getL_set_ne _ _ _ _ e] at hw
    obtain ⟨hg, hn⟩ := killL_get hw
    refine ⟨h'.2.2 _ (List.mem_cons_of_mem _ (List.mem_filter.mpr ⟨mlv_mem hg, ?_⟩)), (h.2.2.2 i w hg).2⟩
    rw [mcat_mtr]
    simp only [Bool.and_eq_true, Bool.not_eq_true', beq_eq_false_iff_ne, Bool.and_eq_false_iff, ne_eq]
    refine ⟨e, ?_⟩
    by_cases e2 : i + 1 = x
    · exact Or.inr (fun q => hn ⟨e2, q⟩)
    · exact Or.inl e2
section CX
variable {p : Program} {l : Launch} {e : Env} {R : Room} {s : State} {m : MethodId} {args : Array Value} {below : List Frame} {meth : Method} {c : Code} {Q : State → Prop} {D : va_G} {dA : Nat → ClassId} {A : Nat → Prop} {H0 : Heap} {b0 : (Int → Nat) × Nat} {nL : Nat}
theorem va_A_sub {ad : Int → Nat} {σ : MS} {H : Heap} {locs : List Loc} (hA : ∀ q, H0.size ≤ q → A q) (hR : HR D dA A H0 ad σ H locs) : ∀ q, va_A (mcells dA ad σ) H.size q → A q := fun q h => by
  rcases h with ⟨n, x, h⟩ | h
  · exact hR.2.1.2 n (q, x) h
  · exact hA q (Nat.le_trans hR.2.2.1.1 h)
theorem mPx_at {ad : Int → Nat} {σ : MS} {As : List MV} {H : Heap} {locs : List Loc} (hA : ∀ q, H0.size ≤ q → A q) (hR : HR D dA A H0 ad σ H locs) (hK : va_K D vwCl (TY dA) s) (hao : AOs s) (hz : TZ A s H0) : ∀ U : State, U.heap = H → s.WarmedH U.vm → mPx D dA ad σ As H.size (As.map (mtr ad)).toArray U :=
  fun U hU hW => ⟨rfl, ⟨by rw [hU], by rw [hU]; exact hR.1, va_K.moved hW.alike hK, hR.2.1.weaken (fun _ _ _ _ => trivial), hao.moved hW.alike⟩, by rw [hU]; exact hz.at hR.2.2.1.2.1 (va_A_sub hA hR) hW⟩
set_option maxHeartbeats 1000000 in
/-- behind a call that may throw -/
theorem callx_go {ad : Int → Nat} {σ : MS} {H : Heap} {locs : List Loc} {rl : Array Slot} {pc k j mc ms : Nat} {ls : List (Option MV)} {st0 : List Value} {rest : List MV} {a : Array Value} {K : Option MV → MS → Prop} {KX : String → MS → Prop}
    (hr : vx_Run p l e R s m args below meth c H locs k j mc ms (F0 m pc rl st0) (rest.map (mtr ad)) (mQc D dA ad σ H.size K a) (mXC D dA ad σ H.size KX) (va_A (mcells dA ad σ) H.size)) (hA : ∀ q, H0.size ≤ q → A q)
    (hext : EXT b0.1 b0.2 ad σ.1) (hR : HR D dA A H0 ad σ H locs) (hl : LR ad σ.1 nL ls rl) (hst : ∀ v ∈ rest, mok σ.1 v)
    (hk : ∀ r σ', K r σ' → Rw p l e R s m args below meth c Q D dA A H0 b0 nL (pc + 3, ls, rpl r rest, σ', k + mc, j + ms))
    (hx : ∀ (E : String) (σ' : MS) (ad' : Int → Nat) (H1 : Heap) (locs1 : List Loc) (q : Nat) (ce : Cell) (rest' : List Value), KX E σ' → EXT b0.1 b0.2 ad' σ'.1 → HR D dA A H0 ad' σ' H1 locs1 → LR ad' σ'.1 nL ls rl → H1[q]? = some ce → ce.vm = .none → s.vm.findClass E = some ce.cls → vx_W p l e R s m args below meth c H1 locs1 (k + mc) (j + ms) Q (F0 m pc rl rest') q) : W p l e R s m args below meth c H locs k j Q (F0 m pc rl st0) := by
  intro T hT X
  have hF := va_A_sub hA hR
  rcases hr T hT X with ⟨v, st₀, t, T', L, h0, X', hL, e1, e2, ⟨⟨r, σ', ad', hKr, hwf', hN, h0', hag, hmr, hv, hP', hK', hD'⟩, hz, hk2⟩, st⟩ | ⟨q, st₀, t, T', L, E, ce, h0, X', hL, e1, e2, ⟨⟨σ', ad', hKX, hwf', hN, h0', hag, hP', hK', hD'⟩, hz, hk2⟩, hce, hcv, hcl, st⟩
  · have hv2 : v = r.map (mtr ad') := by cases hv; rfl
    subst hv2
    rw [h0] at hz hk2
    have hR' : HR D dA A H0 ad' σ' T'.heap (locs ++ L) := by
      refine ⟨by rw [e1]; exact hP', hD'.weaken (fun _ _ _ h => hF _ h), ⟨Nat.le_trans hR.2.2.1.1 (by rw [e1]; exact hz), fun q h1 h2 => ?_, fun q hq => ?_⟩, hwf'⟩
      · rw [e1, hk2 q (Nat.lt_of_lt_of_le h1 hR.2.2.1.1) (fun z => h2 (hF q z))]
        exact hR.2.2.1.2.1 q h1 h2
      · rcases List.mem_append.mp hq with h | h
        · exact hR.2.2.1.2.2 q h
        · exact hF _ (hL q h)
    have hst' : ∀ v ∈ rpl r rest, mok σ'.1 v := by
      cases r with
      | none => exact fun v hv => mok_le hN (hst v hv)
      | some x => exact mok_cons (hmr x rfl) (fun v hv => mok_le hN (hst v hv))
    obtain ⟨t2, a1, b1⟩ := hk r σ' hKr ad' T'.heap (locs ++ L) rl (hext.moved hN h0' hag) hR' (hl.moved hN h0' hag) hst' T' rfl X'
    refine ⟨t2, st t2 ?_, b1⟩
    have em : (rpl r rest).map (mtr ad') = (r.map (mtr ad')).toList ++ rest.map (mtr ad) := by
      rw [← mapr_moved h0' hag hst]
      cases r <;> rfl
    change Steps p.tables e below (T'.setTop (F0 m (pc + 3) rl ((rpl r rest).map (mtr ad')))) t2 at a1
    rw [em] at a1
    exact a1
  · rw [h0] at hz hk2
    have hR' : HR D dA A H0 ad' σ' T'.heap (locs ++ L) := by
      refine ⟨by rw [e1]; exact hP', hD'.weaken (fun _ _ _ h => hF _ h), ⟨Nat.le_trans hR.2.2.1.1 (by rw [e1]; exact hz), fun q h1 h2 => ?_, fun q hq => ?_⟩, hwf'⟩
      · rw [e1, hk2 q (Nat.lt_of_lt_of_le h1 hR.2.2.1.1) (fun z => h2 (hF q z))]
        exact hR.2.2.1.2.1 q h1 h2
      · rcases List.mem_append.mp hq with h | h
        · exact hR.2.2.1.2.2 q h
        · exact hF _ (hL q h)
    obtain ⟨t2, a1, b1⟩ := hx E σ' ad' T'.heap (locs ++ L) q ce (rest.map (mtr ad)) hKX (hext.moved hN h0' hag) hR' (hl.moved hN h0' hag) (by rw [e1]; exact hce) hcv hcl T' rfl X'
    exact ⟨t2, st.trans a1, b1⟩
end CX
/-- where a throw of E at pc is caught: the handler, how long its store is, the local that it stores to -/
def Hnd (own : String) (bytes : ByteArray) (nL : Nat) (hh : List (Nat × Nat × Nat × Nat)) (pc : Nat) (E : String) (hp len v : Nat) : Prop :=
  ∃ (pre : List ExceptionTableEntry) (x : ExceptionTableEntry) (suf : List ExceptionTableEntry), tableOf hh = pre ++ x :: suf ∧ (∀ z ∈ pre, covers z pc = false ∨ (z.catchType ≠ 0 ∧ Cond.classLink own z.catchType IAE ∈ WS ∧ E = ISE)) ∧
    covers x pc = true ∧ x.catchType ≠ 0 ∧ Cond.classLink own x.catchType E ∈ WS ∧ x.handlerPc = hp ∧ (E = IAE ∨ E = ISE) ∧ v < nL ∧ ((decode bytes hp = .ok (.astore v, 2) ∧ len = 2) ∨ (∃ k : Fin 4, decode bytes hp = .ok (.astore_n k, 1) ∧ (k : Nat) = v ∧ len = 1))
set_option maxHeartbeats 1000000 in
theorem callX {own : String} {bytes : ByteArray} {nL : Nat} {R : Room} {S : Option (Nat × (Int → Int))} {post : Option MV → MS → Prop} {x n rk mc ms : Nat} {y : MethodName} {bytes' : ByteArray} {maxL : Nat} {ret : Option FieldType} {rm : Room} {sp : List MV → MS → (Option MV → MS → Prop) → (String → MS → Prop) → Prop} {hh : List (Nat × Nat × Nat × Nat)}
    (hM : MOX y bytes' maxL ret rm (n + 1) rk mc ms sp) (hk : rk < 10) (hC : y.cls = RR rk) (hws : ∀ w ∈ vws own x y bytes' maxL ret, w ∈ WS) (hd : nice y n) (hR : rfits rm R maxL) (hrm : rm.cells = mc ∧ rm.slots = ms)
    {pc : Nat} (hdec : decode bytes pc = .ok (.invokevirtual x, 3)) {ls : List (Option MV)} {As rest : List MV} {σ : MS} {k j : Nat} {K : Option MV → MS → Prop} {KX : String → MS → Prop} (hlen : As.length = n + 1) (hrcv : rcv rk As) (hcs : mcs rest ≤ 8) (hmc : k + mc ≤ R.cells) (hms : j + ms ≤ R.slots) (hsp : sp As σ K KX)
    (hkk : ∀ r σ', K r σ' → OkX own bytes nL R S (· = tableOf hh) post (pc + 3, ls, rpl r rest, σ', k + mc, j + ms))
    (hkx : ∀ E σ', KX E σ' → ∃ hp len v, Hnd own bytes nL hh pc E hp len v ∧ OkX own bytes nL R S (· = tableOf hh) post (hp + len, setL (killL ls v) v none, [], σ', k + mc, j + ms)) :
    OkX own bytes nL R S (· = tableOf hh) post (pc, ls, As.reverse ++ rest, σ, k, j) := by
  refine ⟨⟨?_⟩⟩
  intro p l e s m args below meth c Q D dA A H0 b0 hsf hret hlt hz htb ad H locs rl hext hR' hl hst
  have hsf0 := hsf
  obtain ⟨hx, hb, hml, hown, hts, hK, hA, hini, hao, hscr⟩ := hsf
  have hmA : ∀ v ∈ As, mok σ.1 v := fun v hv => hst v (List.mem_append_left _ (List.mem_reverse.mpr hv))
  have hmR : ∀ v ∈ rest, mok σ.1 v := fun v hv => hst v (List.mem_append_right _ hv)
  have hMet := hM l hlt D dA ad σ As K KX H.size hR'.2.2.2 hmA hrcv hlen hsp
  have hrcv2 := hrcv
  unfold rcv at hrcv2
  rw [if_neg (by omega)] at hrcv2
  split at hrcv2
  · rename_i a As'
    obtain ⟨hg, a0⟩ := hrcv2
    obtain ⟨-, a1⟩ := mok_pos (hmA _ List.mem_cons_self) hg (by omega)
    have he := mcells_at (dA := dA) (ad := ad) a0 a1
    rw [cE_obj hg hk] at he
    have hG : GoodIn WS (wsV own x y.cls y (.code y bytes' maxL ret :: WS)) := ws_good (fun w hw => by
      unfold wsV at hw
      rcases List.mem_append.mp hw with h | h
      · exact hws w (by unfold vws; simp only [List.mem_cons, List.not_mem_nil, or_false] at h ⊢; rcases h with h | h | h | h <;> simp [h])
      · rcases List.mem_cons.mp h with h | h
        · exact hws w (by unfold vws; simp [h])
        · exact h)
    have hrun := vx_runV (p := p) (e := e) (R := R) (below := below) (meth := meth) (H := H) (locs := locs) (cells := k) (slots := j) (C := y.cls) (As := As'.map (mtr ad)) (rest := rest.map (mtr ad)) (g := F0 m pc rl ((.inr (.inr (some a)) :: As').reverse ++ rest |>.map (mtr ad))) ⟨hx, hb, hml, hown, hts⟩ hMet (cwV n hts hG rfl hrm.1 hrm.2 ⟨rfl, hd⟩ hR)
      ⟨mPx_blind _ _ _ _ _ _, by rw [hC]; exact va_recv hK hR'.1 (cl_at hk) he, mPx_at hA hR' hK hao hz⟩ rfl (by rw [List.length_map]; have : As'.length + 1 = n + 1 := hlen; omega) hl.1 (by simp [mtr]) (lv_room (by rw [mcs_cat]; exact hcs)) hdec ⟨hmc, hms⟩
    refine callx_go hrun hA hext hR' hl hmR (fun r σ' hKr => (hkk r σ' hKr).elim fun q => q.down hsf0 hret hlt hz htb) ?_
    intro E σ' ad' H1 locs1 q ce rest' hKX hext' hR1 hl1 hce hcv hcl
    obtain ⟨hp, len, v, ⟨pre, xx, suf, ht, hpass, hcov, hct, hlk, rfl, hE, hv, hdc⟩, ⟨⟨hok⟩⟩⟩ := hkx E σ' hKX
    have hca : va_Nw (.castable E E) s := by rcases hE with rfl | rfl; exact hz.2.2.2.1; exact hz.2.2.2.2.1
    refine vx_catch (own := own) (name := E) (E := E) hown pre xx suf (htb.trans ht) (fun z h => (hpass z h).imp id (fun w => ⟨w.1, IAE, hts _ w.2.1, by rw [w.2.2]; exact hz.2.2.2.2.2.1⟩)) hcov hct (hts _ hlk) (va_Nw.use rfl hca) hce hcv hcl ?_
    have go : ∀ ls' : Array Slot, lv_has ls' nL ((v, Value.ref q) :: (mlv ad' ls).filter (fun q => !(q.1 == v) && !(q.1 + 1 == v && q.2.category == 2))) → W p l e R s m args below meth c H1 locs1 (k + mc) (j + ms) Q (F0 m (xx.handlerPc + len) ls' []) := fun ls' h' =>
      hok hsf0 hret hlt hz htb ad' H1 locs1 ls' hext' hR1 (hl1.stX hv h') (fun v h => by cases h)
    rcases hdc with ⟨hdc, rfl⟩ | ⟨kk, hdc, hkv, rfl⟩
    · exact lv_astore hx hb hdc hl1.has hv rfl go
    · exact lv_astore_n hx hb hdc hkv hl1.has hv rfl go
  · exact hrcv2.elim
/-- a method with a table: it returns -/
def MOH (y : MethodName) (bytes : ByteArray) (maxL : Nat) (ret : Option FieldType) (hh : List (Nat × Nat × Nat × Nat)) (rm : Room) (ci : CI) : Prop :=
  ∀ (l : Launch), l.stackTraces = false → ∀ (D : va_G) (dA : Nat → ClassId) (ad : Int → Nat) (σ : MS) (As : List MV) (K : Option MV → MS → Prop) (sz : Nat), mwf σ → (∀ v ∈ As, mok σ.1 v) → rcv ci.2.1 As → As.length = ci.1 → ci.2.2.2.2 As σ K →
    vx_Met l y (.codeWith y bytes maxL ret hh :: WS) rm (mPx D dA ad σ As sz) (mQc D dA ad σ sz K) (mXC D dA ad σ sz (fun _ _ => False)) ci.2.2.1 ci.2.2.2.1 (va_A (mcells dA ad σ) sz)
set_option maxHeartbeats 1000000 in
theorem moh_of {y : MethodName} {bytes : ByteArray} {maxL : Nat} {ret : Option FieldType} {hh : List (Nat × Nat × Nat × Nat)} {rm : Room} {ci : CI} (hy : plainName y.cls = true) (hc : rm.cells = ci.2.2.1) (hs : rm.slots = ci.2.2.2.1)
    (hok : ∀ (σ : MS) (As : List MV) (K : Option MV → MS → Prop), rcv ci.2.1 As → As.length = ci.1 → ci.2.2.2.2 As σ K → (entA As).length ≤ maxL ∧ OkX y.cls bytes maxL rm none (· = tableOf hh) (fun r σ' => rfit ret r ∧ K r σ') (0, entL maxL As, [], σ, 0, 0)) : MOH y bytes maxL ret hh rm ci := by
  intro l hlt D dA ad σ As K sz hwf hmok hrcv hlen hsp
  refine vx_ofWH (cc := bytes) (maxL := maxL) (ret := ret) (hh := hh) hy rfl ?_
  intro p e s m args below meth c s₁ B hml hv
  obtain ⟨rfl, ⟨hsz, hP, hK, hD0, hao⟩, hTZ⟩ := hv
  have hx := B.exec
  have hb := B.bytes
  have hr := B.returns
  have hts0 := atoms_spec (ws := .codeWith y bytes maxL ret hh :: WS) B.pre
  have hts : ∀ w ∈ WS, w.before (As.map (mtr ad)).toArray s = true := fun w hw => hts0 w (List.mem_cons_of_mem _ hw)
  have htb := vx_table (x := y) B (hts0 _ List.mem_cons_self)
  have hown : s.vm.findClass y.cls = some m.cls := findClass_of_methodNamed B.named
  have hlocks := B.notSynchronized
  subst hsz
  have hD := hD0.self (sz := s.heap.size)
  obtain ⟨hlenA, ⟨⟨hok⟩⟩⟩ := hok σ As K hrcv hlen hsp
  rw [lg_entry_eq]
  have hR : HR D dA (va_A (mcells dA ad σ) s.heap.size) s.heap ad σ s.heap [] := ⟨hP, hD, va_S.rf, hwf⟩
  refine hok (A := va_A (mcells dA ad σ) s.heap.size) (H0 := s.heap) (b0 := (ad, σ.1)) (D := D) (dA := dA) ⟨hx, hb, hml, hown, hts, hK, fun q h => Or.inr h, fun h => (by cases h), hao, fun L xs h => by cases h⟩ ?_ hlt hTZ htb ad s.heap [] _ ⟨Nat.le_refl _, rfl, fun _ _ _ => rfl⟩ hR (LR_entry hmok hlenA) (fun v h => by cases h)
  intro pc ls st σ' k j i r hd hri hk hj ⟨hfit, hKr⟩ ad' H locs rl hext hR' hl hst
  have hq : (∀ v, r = some v → mok σ'.1 v) → ∀ t : State, t.heap = H → s.WarmedH t.vm → mQc D dA ad σ s.heap.size K (As.map (mtr ad)).toArray s (.returned (r.map (mtr ad'))) t := fun hm t ht hW =>
    ⟨⟨r, σ', ad', hKr, hR'.2.2.2, hext.1, hext.2.1, hext.2.2, hm, rfl, by rw [ht]; exact hR'.1, va_K.moved hW.alike hK, hR'.2.1⟩, hR'.2.2.1.F ht⟩
  refine vx_ret (W.widen (k := ci.2.2.1) (n := ci.2.2.2.1) (by rw [← hc]; exact hk) (by rw [← hs]; exact hj) ?_)
  have hf : ∀ q ∈ locs, va_A (mcells dA ad σ) s.heap.size q.base := fun q hq => hR'.2.2.1.2.2 q hq
  rcases hri with ⟨rfl, v, rfl, rfl⟩ | ⟨rfl, v, rfl, rfl⟩ | ⟨rfl, v, rfl, rfl⟩ | ⟨rfl, rfl, rfl⟩
  · have hq := hq (fun w hw => by cases hw; trivial)
    rcases ret with _ | t
    · exact hfit.elim
    · cases t <;> first | exact hfit.elim | exact W.iret (v := Int32.ofInt v) hx hb hr hq hf hd hlocks | exact W.zret (v := Int32.ofInt v) hx hb hr (by rcases hfit with rfl | rfl <;> rfl) hq hf hd hlocks
  · have hq := hq (fun w hw => by cases hw; trivial)
    rcases ret with _ | t
    · exact hfit.elim
    · cases t <;> first | exact hfit.elim | exact W.lret (v := Int64.ofInt v) hx hb hr hq hf hd hlocks
  · have hq := hq (fun w hw => by cases hw; exact hst _ List.mem_cons_self)
    rcases ret with _ | t
    · exact hfit.elim
    · cases t <;> first | exact hfit.elim | exact W.aret (v := mtr ad' (.inr (.inr v))) hx hb hr (Or.inl ⟨_, rfl⟩) (by cases v; exact Or.inl rfl; exact Or.inr ⟨_, rfl⟩) hq hf hd hlocks
  · have hq := hq (fun w hw => by cases hw)
    rcases ret with _ | t
    · exact W.vret hx hb hr hq hf hd hlocks
    · cases t <;> exact hfit.elim
set_option maxHeartbeats 1000000 in
/-- a static call of a method with a table -/
theorem callHS {own : String} {bytes : ByteArray} {nL : Nat} {R : Room} {S : Option (Nat × (Int → Int))} {TB : List ExceptionTableEntry → Prop} {post : Option MV → MS → Prop} {x n : Nat} {y : MethodName} {bytes' : ByteArray} {maxL : Nat} {ret : Option FieldType} {rm : Room} {ci : CI} {hh : List (Nat × Nat × Nat × Nat)}
    (hM : MOH y bytes' maxL ret hh rm ci) (hk : ci.2.1 = 10) (hws : ∀ w ∈ [Cond.methodLink own x y, .static y, .initialized y.cls, .codeWith y bytes' maxL ret hh], w ∈ WS) (hn : ci.1 = n) (hd : nice y n) (hR : rfits rm R maxL) (hrm : rm.cells = ci.2.2.1 ∧ rm.slots = ci.2.2.2.1)
    {pc : Nat} (hdec : decode bytes pc = .ok (.invokestatic x, 3)) {ls : List (Option MV)} {As rest : List MV} {σ : MS} {k j : Nat} {K : Option MV → MS → Prop} (hlen : As.length = ci.1) (hcs : mcs rest ≤ 8) (hmc : k + ci.2.2.1 ≤ R.cells) (hms : j + ci.2.2.2.1 ≤ R.slots) (hsp : ci.2.2.2.2 As σ K)
    (hkk : ∀ r σ', K r σ' → OkX own bytes nL R S TB post (pc + 3, ls, rpl r rest, σ', k + ci.2.2.1, j + ci.2.2.2.1)) : OkX own bytes nL R S TB post (pc, ls, As.reverse ++ rest, σ, k, j) := by
  refine ⟨⟨?_⟩⟩
  intro p l e s m args below meth c Q D dA A H0 b0 hsf hret hlt hz htb ad H locs rl hext hR' hl hst
  have hsf0 := hsf
  obtain ⟨hx, hb, hml, hown, hts, hK, hA, hini, hao, hscr⟩ := hsf
  have hmA : ∀ v ∈ As, mok σ.1 v := fun v hv => hst v (List.mem_append_left _ (List.mem_reverse.mpr hv))
  have hmR : ∀ v ∈ rest, mok σ.1 v := fun v hv => hst v (List.mem_append_right _ hv)
  have hMet := hM l hlt D dA ad σ As K H.size hR'.2.2.2 hmA (by unfold rcv; rw [if_pos (by omega)]; trivial) hlen hsp
  have hG : GoodIn WS (va_wsS own x y (.codeWith y bytes' maxL ret hh :: WS)) := ws_good (fun w hw => by
    unfold va_wsS at hw
    rcases List.mem_append.mp hw with h | h
    · exact hws w (by simp only [List.mem_cons, List.not_mem_nil, or_false] at h ⊢; rcases h with h | h | h <;> simp [h])
    · rcases List.mem_cons.mp h with h | h
      · exact hws w (by simp [h])
      · exact h)
  have hrun := vx_runSX (p := p) (e := e) (R := R) (below := below) (meth := meth) (H := H) (locs := locs) (cells := k) (slots := j) (As := As.map (mtr ad)) (rest := rest.map (mtr ad)) (g := F0 m pc rl ((As.reverse ++ rest).map (mtr ad))) ⟨hx, hb, hml, hown, hts⟩ hMet (vx_cwSW n hts hG rfl hrm.1 hrm.2 hd hR)
    ⟨mPx_blind _ _ _ _ _ _, mPx_at hA hR' hK hao hz⟩ rfl (by rw [List.length_map]; omega) hl.1 (by simp) (lv_room (by rw [mcs_cat]; exact hcs)) hdec ⟨hmc, hms⟩
  exact callx_go hrun hA hext hR' hl hmR (fun r σ' hKr => (hkk r σ' hKr).elim fun q => q.down hsf0 hret hlt hz htb) (fun _ _ _ _ _ _ _ _ h => h.elim)
set_option maxHeartbeats 1000000 in
/-- a virtual call of a method with a table -/
theorem callHV {own : String} {bytes : ByteArray} {nL : Nat} {R : Room} {S : Option (Nat × (Int → Int))} {TB : List ExceptionTableEntry → Prop} {post : Option MV → MS → Prop} {x n : Nat} {y : MethodName} {bytes' : ByteArray} {maxL : Nat} {ret : Option FieldType} {rm : Room} {ci : CI} {hh : List (Nat × Nat × Nat × Nat)}
    (hM : MOH y bytes' maxL ret hh rm ci) (hk : ci.2.1 < 10) (hC : y.cls = RR ci.2.1) (hws : ∀ w ∈ [Cond.methodLink own x y, .instanceMethod y, .selects y.cls y y, .initialized y.cls, .codeWith y bytes' maxL ret hh], w ∈ WS) (hn : ci.1 = n + 1) (hd : nice y n) (hR : rfits rm R maxL) (hrm : rm.cells = ci.2.2.1 ∧ rm.slots = ci.2.2.2.1)
    {pc : Nat} (hdec : decode bytes pc = .ok (.invokevirtual x, 3)) {ls : List (Option MV)} {As rest : List MV} {σ : MS} {k j : Nat} {K : Option MV → MS → Prop} (hlen : As.length = ci.1) (hrcv : rcv ci.2.1 As) (hcs : mcs rest ≤ 8) (hmc : k + ci.2.2.1 ≤ R.cells) (hms : j + ci.2.2.2.1 ≤ R.slots) (hsp : ci.2.2.2.2 As σ K)
    (hkk : ∀ r σ', K r σ' → OkX own bytes nL R S TB post (pc + 3, ls, rpl r rest, σ', k + ci.2.2.1, j + ci.2.2.2.1)) : OkX own bytes nL R S TB post (pc, ls, As.reverse ++ rest, σ, k, j) := by
  refine ⟨⟨?_⟩⟩
  intro p l e s m args below meth c Q D dA A H0 b0 hsf hret hlt hz htb ad H locs rl hext hR' hl hst
  have hsf0 := hsf
  obtain ⟨hx, hb, hml, hown, hts, hK, hA, hini, hao, hscr⟩ := hsf
  have hmA : ∀ v ∈ As, mok σ.1 v := fun v hv => hst v (List.mem_append_left _ (List.mem_reverse.mpr hv))
  have hmR : ∀ v ∈ rest, mok σ.1 v := fun v hv => hst v (List.mem_append_right _ hv)
  have hMet := hM l hlt D dA ad σ As K H.size hR'.2.2.2 hmA hrcv hlen hsp
  have hrcv2 := hrcv
  unfold rcv at hrcv2
  rw [if_neg (by omega)] at hrcv2
  split at hrcv2
  · rename_i a As'
    obtain ⟨hg, a0⟩ := hrcv2
    obtain ⟨-, a1⟩ := mok_pos (hmA _ List.mem_cons_self) hg (by omega)
    have he := mcells_at (dA := dA) (ad := ad) a0 a1
    rw [cE_obj hg hk] at he
    have hG : GoodIn WS (wsV own x y.cls y (.codeWith y bytes' maxL ret hh :: WS)) := ws_good (fun w hw => by
      unfold wsV at hw
      rcases List.mem_append.mp hw with h | h
      · exact hws w (by simp only [List.mem_cons, List.not_mem_nil, or_false] at h ⊢; rcases h with h | h | h | h <;> simp [h])
      · rcases List.mem_cons.mp h with h | h
        · exact hws w (by simp [h])
        · exact h)
    have hrun := vx_runVX (p := p) (e := e) (R := R) (below := below) (meth := meth) (H := H) (locs := locs) (cells := k) (slots := j) (C := y.cls) (As := As'.map (mtr ad)) (rest := rest.map (mtr ad)) (g := F0 m pc rl ((.inr (.inr (some a)) :: As').reverse ++ rest |>.map (mtr ad))) ⟨hx, hb, hml, hown, hts⟩ hMet (vx_cwVW n hts hG rfl hrm.1 hrm.2 ⟨rfl, hd⟩ hR)
      ⟨mPx_blind _ _ _ _ _ _, by rw [hC]; exact va_recv hK hR'.1 (cl_at hk) he, mPx_at hA hR' hK hao hz⟩ rfl (by rw [List.length_map]; have : As'.length + 1 = ci.1 := hlen; omega) hl.1 (by simp [mtr]) (lv_room (by rw [mcs_cat]; exact hcs)) hdec ⟨hmc, hms⟩
    exact callx_go hrun hA hext hR' hl hmR (fun r σ' hKr => (hkk r σ' hKr).elim fun q => q.down hsf0 hret hlt hz htb) (fun _ _ _ _ _ _ _ _ h => h.elim)
  · exact hrcv2.elim
