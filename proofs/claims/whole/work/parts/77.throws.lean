/-! THROWS: what a throw reads; a contract that returns or throws; methods that catch -/
abbrev IAE : String := "java/lang/IllegalArgumentException"
abbrev ISE : String := "java/lang/IllegalStateException"
abbrev xnm : List String := ["java/lang/RuntimeException", "java/lang/Exception"]
abbrev tzS : List (String × Nat × String) := [("LapBoard", 123, "no such lane"), ("LapBoard", 141, "no such number, or out of range"), ("LapBoard", 164, "no such station"), ("LapBoard", 178, "no such tyre, or laps out of range"), ("LapBoard", 186, "no such race"), ("LapBoard", 225, "no such shelf"), ("LapBoard", 234, "no row with such a place"), ("LapBoard$Station", 43, "the station fails")]
abbrev xdN : List String := ["java/lang/RuntimeException", "java/lang/Exception", "java/lang/Throwable"]
def TU (U : State) : Prop := (∀ q ∈ tzS, ∃ sa, vk_R q.1 q.2.1 q.2.2 sa U) ∧ va_Nw (.castable IAE IAE) U ∧ va_Nw (.castable ISE ISE) U ∧ va_Nc ISE IAE U ∧ ∀ n ∈ xdN, va_Nw (.declares (Bundle.initS n)) U
theorem TU.warm {s U : State} (hW : s.WarmedH U.vm) (h : TU s) : TU U := ⟨fun q hq => (h.1 q hq).imp fun _ hs => hs.warm hW, h.2.1.warmC hW, h.2.2.1.warmC hW, h.2.2.2.1.moved hW.alike, fun n hn => (h.2.2.2.2 n hn).warmD hW⟩
def TZ (A : Nat → Prop) (U : State) (H : Heap) : Prop := vx_Zq Bundle.tN "UNASSIGNED_STACK" Bundle.steD A U H ∧ vx_Zq Bundle.tN "SUPPRESSED_SENTINEL" Bundle.listD A U H ∧ TU U
theorem TZ.at {s U : State} {A A' : Nat → Prop} {H0 H : Heap} (h : TZ A s H0) (hS : ∀ q : Nat, q < H0.size → ¬ A q → H[q]? = H0[q]?) (hA : ∀ q, A' q → A q) (hW : s.WarmedH U.vm) : TZ A' U H :=
  ⟨((h.1.kept hS).moved hW.alike).narrow hA, ((h.2.1.kept hS).moved hW.alike).narrow hA, h.2.2.warm hW⟩
def mPx (D : va_G) (dA : Nat → ClassId) (ad : Int → Nat) (σ : MS) (As : List MV) (sz : Nat) : Array Value → State → Prop :=
  va_Pc (As.map (mtr ad)) (fun U => (U.heap.size = sz ∧ va_P D vwCl (mcells dA ad σ) U.heap ∧ va_K D vwCl (TY dA) U ∧ va_D (fun _ => True) (mcells dA ad σ) ∧ AOs U) ∧ TZ (va_A (mcells dA ad σ) sz) U U.heap)
theorem mPx_blind (D : va_G) (dA : Nat → ClassId) (ad : Int → Nat) (σ : MS) (As : List MV) (sz : Nat) : FrameBlind (mPx D dA ad σ As sz) := fun a U g mk q => by
  obtain ⟨q1, ⟨q2, q3, q4, q5, q6⟩, q7⟩ := q
  exact ⟨q1, ⟨q2, q3, va_K.moved (u := U) (U := U.calling g mk a) (Vm.Alike.refl U.vm) q4, q5, AOs.moved (u := U) (U := U.calling g mk a) (Vm.Alike.refl U.vm) q6⟩,
    TZ.at (s := U) (U := U.calling g mk a) (H0 := U.heap) (H := U.heap) q7 (fun _ _ _ => rfl) (fun _ h => h) (State.WarmedH.refl U)⟩
def mXC (D : va_G) (dA : Nat → ClassId) (ad : Int → Nat) (σ : MS) (sz : Nat) (KX : String → MS → Prop) : String → State → State → Prop := fun E st t =>
  (∃ (σ' : MS) (ad' : Int → Nat), KX E σ' ∧ mwf σ' ∧ σ.1 ≤ σ'.1 ∧ ad' 0 = ad 0 ∧ (∀ a : Int, 0 < a → a < σ.1 → ad' a = ad a) ∧
    va_P D vwCl (mcells dA ad' σ') t.heap ∧ va_K D vwCl (TY dA) t ∧ va_D (va_A (mcells dA ad σ) sz) (mcells dA ad' σ')) ∧ va_F (va_A (mcells dA ad σ) sz) st t
/-- it returns, or throws; n: arguments with the receiver -/
def MOX (y : MethodName) (bytes : ByteArray) (maxL : Nat) (ret : Option FieldType) (rm : Room) (n rk mc ms : Nat) (sp : List MV → MS → (Option MV → MS → Prop) → (String → MS → Prop) → Prop) : Prop :=
  ∀ (l : Launch), l.stackTraces = false → ∀ (D : va_G) (dA : Nat → ClassId) (ad : Int → Nat) (σ : MS) (As : List MV) (K : Option MV → MS → Prop) (KX : String → MS → Prop) (sz : Nat), mwf σ → (∀ v ∈ As, mok σ.1 v) → rcv rk As → As.length = n → sp As σ K KX →
    vx_Met l y (.code y bytes maxL ret :: WS) rm (mPx D dA ad σ As sz) (mQc D dA ad σ sz K) (mXC D dA ad σ sz KX) mc ms (va_A (mcells dA ad σ) sz)
def thr (S : Nat → Option (Nat × Nat × Nat × String × String)) (mc ms : Nat) (KX : String → MS → Prop) : Pt → Prop := fun pt => ∃ ik is ic E text, S pt.1 = some (ik, is, ic, E, text) ∧ KX E pt.2.2.2.1 ∧ pt.2.2.1 = [] ∧ pt.2.2.2.2.1 + 1 ≤ mc ∧ pt.2.2.2.2.2 + 6 ≤ ms
def xW (own : String) (ic : Nat) (E : String) : Bool := (vx_atS own ic E xnm).all (fun w => (decide (w ∈ lw_tbl) && goodWord w) || decide (w = .castable E E) || xdN.any (fun n => decide (w = .declares (Bundle.initS n))))
def XS (own : String) (bytes : ByteArray) (rm : Room) (S : Nat → Option (Nat × Nat × Nat × String × String)) : Prop := 6 ≤ rm.frames ∧ 82 ≤ rm.locals ∧ ∀ pc ik is ic E text, S pc = some (ik, is, ic, E, text) →
  (decode bytes pc = .ok (.new ik, 3) ∧ decode bytes (pc + 3) = .ok (.dup, 1) ∧ decode bytes (pc + 4) = .ok (.ldc is, 2) ∧ decode bytes (pc + 6) = .ok (.invokespecial ic, 3) ∧ decode bytes (pc + 9) = .ok (.athrow, 1)) ∧
  Cond.classLink own ik E ∈ WS ∧ Cond.initialized E ∈ WS ∧ (own, is, text) ∈ tzS ∧ (E = IAE ∨ E = ISE) ∧ xW own ic E = true
set_option maxHeartbeats 1000000 in
theorem mox_of {y : MethodName} {bytes : ByteArray} {maxL : Nat} {ret : Option FieldType} {rm : Room} {n rk mc ms : Nat} {sp : List MV → MS → (Option MV → MS → Prop) → (String → MS → Prop) → Prop} {S : Nat → Option (Nat × Nat × Nat × String × String)} (hS : XS y.cls bytes rm S) (hy : plainName y.cls = true) (hc : rm.cells = mc) (hs : rm.slots = ms)
    (hok : ∀ (σ : MS) (As : List MV) (K : Option MV → MS → Prop) (KX : String → MS → Prop), rcv rk As → As.length = n → sp As σ K KX → (entA As).length ≤ maxL ∧ Ok y.cls bytes maxL rm false none (fun r σ' => rfit ret r ∧ K r σ') (thr S mc ms KX) (0, entL maxL As, [], σ, 0, 0)) : MOX y bytes maxL ret rm n rk mc ms sp := by
  intro l hlt D dA ad σ As K KX sz hwf hmok hrcv hlen hsp
  refine vx_ofW (cc := bytes) (maxL := maxL) (ret := ret) hy rfl ?_
  intro p e s m args below meth c s₁ B hml htab hv
  obtain ⟨rfl, ⟨hsz, hP, hK, hD0, hao⟩, hTZ⟩ := hv
  have hx := B.exec
  have hb := B.bytes
  have hr := B.returns
  have hts0 := atoms_spec (ws := .code y bytes maxL ret :: WS) B.pre
  have hts : ∀ w ∈ WS, w.before (As.map (mtr ad)).toArray s = true := fun w hw => hts0 w (List.mem_cons_of_mem _ hw)
  have hown : s.vm.findClass y.cls = some m.cls := findClass_of_methodNamed B.named
  have hlocks := B.notSynchronized
  subst hsz
  have hD := hD0.self (sz := s.heap.size)
  obtain ⟨hlenA, ⟨⟨hok⟩⟩⟩ := hok σ As K KX hrcv hlen hsp
  rw [lg_entry_eq]
  have hR : HR D dA (va_A (mcells dA ad σ) s.heap.size) s.heap ad σ s.heap [] := ⟨hP, hD, va_S.rf, hwf⟩
  refine hok (A := va_A (mcells dA ad σ) s.heap.size) (H0 := s.heap) (b0 := (ad, σ.1)) (D := D) (dA := dA) ⟨hx, hb, hml, hown, hts, hK, fun q h => Or.inr h, fun h => (by cases h), hao, fun L xs h => by cases h⟩ ?_ ?_ ad s.heap [] _ ⟨Nat.le_refl _, rfl, fun _ _ _ => rfl⟩ hR (LR_entry hmok hlenA) (fun v h => by cases h)
  · intro pc ls st σ' k j i r hd hri hk hj ⟨hfit, hKr⟩ ad' H locs rl hext hR' hl hst
    have hq : (∀ v, r = some v → mok σ'.1 v) → ∀ t : State, t.heap = H → s.WarmedH t.vm → mQc D dA ad σ s.heap.size K (As.map (mtr ad)).toArray s (.returned (r.map (mtr ad'))) t := fun hm t ht hW =>
      ⟨⟨r, σ', ad', hKr, hR'.2.2.2, hext.1, hext.2.1, hext.2.2, hm, rfl, by rw [ht]; exact hR'.1, va_K.moved hW.alike hK, hR'.2.1⟩, hR'.2.2.1.F ht⟩
    refine vx_ret (W.widen (k := mc) (n := ms) (by rw [← hc]; exact hk) (by rw [← hs]; exact hj) ?_)
    have hf : ∀ q ∈ locs, va_A (mcells dA ad σ) s.heap.size q.base := fun q hq => hR'.2.2.1.2.2 q hq
    rcases hri with ⟨rfl, v, rfl, rfl⟩ | ⟨rfl, v, rfl, rfl⟩ | ⟨rfl, v, rfl, rfl⟩ | ⟨rfl, rfl, rfl⟩
    · have hq := hq (fun w hw => by cases hw; trivial)
      rcases ret with _ | t
      · exact hfit.elim
      · cases t <;> first | exact hfit.elim | exact W.iret (v := Int32.ofInt v) hx hb hr hq hf hd hlocks | exact W.zret (v := Int32.ofInt v) hx hb hr (by rcases hfit with rfl | rfl <;> rfl) hq hf hd hlocks
    · have hq := hq (fun w hw => by cases hw; trivial)
      rcases ret with _ | t
      · exact hfit.elim
      · cases t <;> first | exact hfit.elim | exact W.lret (v := Int64.ofInt v) hx hb hr hq hf hd hlocks
    · have hq := hq (fun w hw => by cases hw; exact hst _ List.mem_cons_self)
      rcases ret with _ | t
      · exact hfit.elim
      · cases t <;> first | exact hfit.elim | exact W.aret (v := mtr ad' (.inr (.inr v))) hx hb hr (Or.inl ⟨_, rfl⟩) (by cases v; exact Or.inl rfl; exact Or.inr ⟨_, rfl⟩) hq hf hd hlocks
    · have hq := hq (fun w hw => by cases hw)
      rcases ret with _ | t
      · exact W.vret hx hb hr hq hf hd hlocks
      · cases t <;> exact hfit.elim
  · intro pt ⟨ik, is, ic, E, text, hSp, hKX, hst0, hk, hj⟩ ad' H locs rl hext hR' hl hst
    obtain ⟨pc, ls, st, σ', k, j⟩ := pt
    dsimp only at hSp hKX hst0 hk hj hext hR' hl hst ⊢
    subst hst0
    obtain ⟨hfr, hlo, hS⟩ := hS
    obtain ⟨⟨d0, d3, d4, d6, d9⟩, w1, w2, w3, hE, w5⟩ := hS _ _ _ _ _ _ hSp
    obtain ⟨sa, hsa⟩ := hTZ.2.2.1 _ w3
    have hca : va_Nw (.castable E E) s := by rcases hE with rfl | rfl; exact hTZ.2.2.2.1; exact hTZ.2.2.2.2.1
    have w5 := List.all_eq_true.mp w5
    have hw : ∀ w ∈ vx_atS y.cls ic E xnm, w ∈ WS ∨ (w.before (As.map (mtr ad)).toArray s = true ∧ vx_ot w = true) := fun w h => by
      have := w5 w h
      rw [Bool.or_eq_true, Bool.or_eq_true, Bool.and_eq_true, decide_eq_true_eq, decide_eq_true_eq] at this
      rcases this with (z | rfl) | z
      · exact .inl (ws_mem z.1 z.2)
      · exact .inr ⟨va_Nw.use rfl hca, rfl⟩
      · obtain ⟨n, hn, e⟩ := List.any_eq_true.mp z
        rw [decide_eq_true_eq] at e
        subst e
        exact .inr ⟨va_Nw.use rfl (hTZ.2.2.2.2.2.2 n hn), rfl⟩
    have gw : ∀ w ∈ WS, vx_ot w = true := fun w h => by
      have := (List.mem_filter.mp h).2
      unfold vx_ot
      rw [this, Bool.or_true]
    have hsz : ∀ (k : Nat) (q : Nat × va_E), (mcells dA ad' σ')[k]? = some q → q.1 < H.size := fun k q hq => vx_lt hR'.1 hq
    refine vx_throwS (own := y.cls) (cls := E) (text := text) (names := xnm) (ik := ik) (is := is) (ic := ic) (sa := sa) (A := va_A (mcells dA ad σ) s.heap.size) hx hb hlt hown (by rcases hE with rfl | rfl <;> decide +kernel) (by decide +kernel)
      (hts _ w1) (hts _ w2) hsa (fun w h => ?_) (fun w h => ?_) hTZ.1 hTZ.2.1 hR'.2.2.1 (hl.1.trans hml.symm) d0 d3 d4 d6 d9 (fun x hx => (htab x hx).elim) ?_ ?_ ?_ ?_ hlocks (fun t hW hz hq => ?_) (fun q hq => hR'.2.2.1.2.2 q hq) hk hj
    · rcases hw w h with z | z
      · exact hts w z
      · exact z.1
    · rcases List.mem_cons.mp h with rfl | h
      · exact gw _ w1
      · rcases List.mem_cons.mp h with rfl | h
        · exact gw _ w2
        · rcases hw w h with z | z
          · exact gw _ z
          · exact z.2
    · show 2 + 3 < rm.frames
      omega
    · show 0 + (13 * (2 + 1) + 43) ≤ rm.locals
      omega
    · show k + 1 ≤ rm.cells
      omega
    · show j + 6 ≤ rm.slots
      omega
    · exact ⟨⟨σ', ad', hKX, hR'.2.2.2, hext.1, hext.2.1, hext.2.2, hR'.1.kept (fun k q hk => hq _ (hsz k q hk)), va_K.moved hW hK, hR'.2.1⟩, ⟨Nat.le_trans hR'.2.2.1.1 hz, fun q h1 h2 => (hq q (Nat.lt_of_lt_of_le h1 hR'.2.2.1.1)).trans (hR'.2.2.1.2.1 q h1 h2)⟩⟩
