/-! THE SMALL MACHINE, 9: a contract out of a walk; a call out of a contract -/
set_option maxHeartbeats 1000000 in
theorem mok_of {y : MethodName} {bytes : ByteArray} {maxL : Nat} {ret : Option FieldType} {rm : Room} {ci : CI} {ini : Bool} (hy : plainName y.cls = true) (hini : ini = true → y.name = "<init>") (hc : rm.cells = ci.2.2.1) (hs : rm.slots = ci.2.2.2.1)
    (hok : ∀ (σ : MS) (As : List MV) (K : Option MV → MS → Prop), rcv ci.2.1 As → As.length = ci.1 → ci.2.2.2.2 As σ K → (entA As).length ≤ maxL ∧ Ok y.cls bytes maxL rm ini none (fun r σ' => rfit ret r ∧ K r σ') (fun _ => False) (0, entL maxL As, [], σ, 0, 0)) : MOK y bytes maxL ret rm ci := by
  intro l D dA ad σ As K sz hwf hmok hrcv hlen hsp
  refine Met.ofW (cc := bytes) (maxL := maxL) (ret := ret) hy rfl ?_
  intro p e s m args below meth c s₁ B hml hv
  obtain ⟨rfl, hsz, hP, hK, hD0, hao⟩ := hv
  have hx := B.exec
  have hb := B.bytes
  have hr := B.returns
  have hts0 := atoms_spec (ws := .code y bytes maxL ret :: WS) B.pre
  have hts : ∀ w ∈ WS, w.before (As.map (mtr ad)).toArray s = true := fun w hw => hts0 w (List.mem_cons_of_mem _ hw)
  have hown : s.vm.findClass y.cls = some m.cls := findClass_of_methodNamed B.named
  have hlocks := B.notSynchronized
  have hin : ini = true → meth.name = "<init>" := fun q => by rw [(name_of_methodNamed B.named B.method).1]; exact hini q
  subst hsz
  have hD := hD0.self (sz := s.heap.size)
  obtain ⟨hlenA, ⟨⟨hok⟩⟩⟩ := hok σ As K hrcv hlen hsp
  rw [lg_entry_eq]
  have hR : HR D dA (va_A (mcells dA ad σ) s.heap.size) s.heap ad σ s.heap [] := ⟨hP, hD, va_S.rf, hwf⟩
  refine hok (A := va_A (mcells dA ad σ) s.heap.size) (H0 := s.heap) (b0 := (ad, σ.1)) (D := D) (dA := dA) ⟨hx, hb, hml, hown, hts, hK, fun q h => Or.inr h, hin, hao, fun L xs h => by cases h⟩ ?_ (fun pt h => h.elim) ad s.heap [] _ ⟨Nat.le_refl _, rfl, fun _ _ _ => rfl⟩ hR (LR_entry hmok hlenA) (fun v h => by cases h)
  intro pc ls st σ' k j i r hd hri hk hj ⟨hfit, hKr⟩ ad' H locs rl hext hR' hl hst
  have hq : (∀ v, r = some v → mok σ'.1 v) → ∀ t : State, t.heap = H → s.WarmedH t.vm → mQc D dA ad σ s.heap.size K (As.map (mtr ad)).toArray s (.returned (r.map (mtr ad'))) t := fun hm t ht hW =>
    ⟨⟨r, σ', ad', hKr, hR'.2.2.2, hext.1, hext.2.1, hext.2.2, hm, rfl, by rw [ht]; exact hR'.1, va_K.moved hW.alike hK, hR'.2.1⟩, hR'.2.2.1.F ht⟩
  refine W.widen (k := ci.2.2.1) (n := ci.2.2.2.1) (by rw [← hc]; exact hk) (by rw [← hs]; exact hj) ?_
  have hf : ∀ q ∈ locs, va_A (mcells dA ad σ) s.heap.size q.base := fun q hq => hR'.2.2.1.2.2 q hq
  rcases hri with ⟨rfl, v, rfl, rfl⟩ | ⟨rfl, v, rfl, rfl⟩ | ⟨rfl, v, rfl, rfl⟩ | ⟨rfl, rfl, rfl⟩
  · have hq := hq (fun w hw => by cases hw; trivial)
    rcases ret with _ | t
    · exact hfit.elim
    · cases t <;> first | exact hfit.elim | exact W.iret (v := Int32.ofInt v) hx hb hr hq hf hd hlocks | exact W.zret (v := Int32.ofInt v) hx hb hr (by rcases hfit with rfl | rfl <;> rfl) hq hf hd hlocks
  · have hq := hq (fun w hw => by cases hw; trivial)
    rcases ret with _ | t
    · exact hfit.elim
    · cases t <;> first | exact hfit.elim | exact W.lret (v := Int64.ofInt v) hx hb hr hq hf hd hlocks
  · have hq := hq (fun w hw => by cases hw; exact hst _ List.mem_cons_self)
    rcases ret with _ | t
    · exact hfit.elim
    · cases t <;> first | exact hfit.elim | exact W.aret (v := mtr ad' (.inr (.inr v))) hx hb hr (Or.inl ⟨_, rfl⟩) (by cases v; exact Or.inl rfl; exact Or.inr ⟨_, rfl⟩) hq hf hd hlocks
  · have hq := hq (fun w hw => by cases hw)
    rcases ret with _ | t
    · exact W.vret hx hb hr hq hf hd hlocks
    · cases t <;> exact hfit.elim
/-- the words of a call -/
def vws (own : String) (x : Nat) (y : MethodName) (bytes : ByteArray) (maxL : Nat) (ret : Option FieldType) : List Cond := [.methodLink own x y, .instanceMethod y, .selects y.cls y y, .initialized y.cls, .code y bytes maxL ret]
def sws (own : String) (x : Nat) (y : MethodName) (bytes : ByteArray) (maxL : Nat) (ret : Option FieldType) : List Cond := [.methodLink own x y, .static y, .initialized y.cls, .code y bytes maxL ret]
def iws (own : String) (x : Nat) (y : MethodName) (bytes : ByteArray) (maxL : Nat) : List Cond := [.methodLink own x y, .instanceMethod y, .initialized y.cls, .code y bytes maxL none]
def nice (y : MethodName) (n : Nat) : Prop := y.cls ≠ "java/lang/invoke/MethodHandle" ∧ y.cls ≠ "java/lang/invoke/VarHandle" ∧ (parseMethodDescriptor y.desc).map (fun d => d.parameters.length) = some n
def rfits (rm R : Room) (maxL : Nat) : Prop := rm.frames + 1 ≤ R.frames ∧ 8 + (maxL + 11) + rm.locals ≤ R.locals
set_option maxHeartbeats 1000000 in
theorem cal_V {own : String} {x n : Nat} {y : MethodName} {bytes : ByteArray} {maxL : Nat} {ret : Option FieldType} {rm R : Room} {ci : CI} (hM : MOK y bytes maxL ret rm ci) (hk : ci.2.1 < 10) (hC : y.cls = RR ci.2.1) (hws : ∀ w ∈ vws own x y bytes maxL ret, w ∈ WS) (hn : ci.1 = n + 1) (hd : nice y n) (hR : rfits rm R maxL) (hrm : rm.cells = ci.2.2.1 ∧ rm.slots = ci.2.2.2.1) : CalOK own R x ci := by
  intro p l e s m args below meth c Q D dA A H0 b0 nL bytes0 ini S hsf pc hdec ls As rest σ k j K hlen hrcv hcs hmc hms hsp hkk ad H locs rl hext hR' hl hst
  obtain ⟨hx, hb, hml, hown, hts, hK, hA, hini, hao, hscr⟩ := hsf
  have hmA : ∀ v ∈ As, mok σ.1 v := fun v hv => hst v (List.mem_append_left _ (List.mem_reverse.mpr hv))
  have hmR : ∀ v ∈ rest, mok σ.1 v := fun v hv => hst v (List.mem_append_right _ hv)
  have hMet := hM l D dA ad σ As K H.size hR'.2.2.2 hmA hrcv hlen hsp
  have hrcv2 := hrcv
  unfold rcv at hrcv2
  rw [if_neg (by omega)] at hrcv2
  split at hrcv2
  · rename_i a As'
    obtain ⟨hg, a0⟩ := hrcv2
    obtain ⟨-, a1⟩ := mok_pos (hmA _ List.mem_cons_self) hg (by omega)
    have he := mcells_at (dA := dA) (ad := ad) a0 a1
    rw [cE_obj hg hk] at he
    have hG : GoodIn WS (wsV own x y.cls y (.code y bytes maxL ret :: WS)) := ws_good (fun w hw => by
      unfold wsV at hw
      rcases List.mem_append.mp hw with h | h
      · exact hws w (by unfold vws; simp only [List.mem_cons, List.not_mem_nil, or_false] at h ⊢; rcases h with h | h | h | h <;> simp [h])
      · rcases List.mem_cons.mp h with h | h
        · exact hws w (by unfold vws; simp [h])
        · exact h)
    have hrun := va_runV (p := p) (e := e) (R := R) (below := below) (meth := meth) (H := H) (locs := locs) (cells := k) (slots := j) (C := y.cls) (As := As'.map (mtr ad)) (rest := rest.map (mtr ad)) (g := F0 m pc rl ((.inr (.inr (some a)) :: As').reverse ++ rest |>.map (mtr ad))) ⟨hx, hb, hml, hown, hts⟩ hMet (cwV n hts hG rfl hrm.1 hrm.2 ⟨rfl, hd⟩ hR)
      ⟨mPc_blind _ _ _ _ _ _, by rw [hC]; exact va_recv hK hR'.1 (cl_at hk) he, mPc_at hR' hK hao⟩ rfl (by rw [List.length_map]; have : As'.length + 1 = ci.1 := hlen; omega) hl.1 (by simp [mtr]) (lv_room (by rw [mcs_cat]; exact hcs)) (by
        have hiv : ivk ci.2.1 x = .invokevirtual x := by unfold ivk; rw [if_pos hk]
        rw [hiv] at hdec; exact hdec) ⟨hmc, hms⟩
    exact call_go hrun hA hext hR' hl hmR hkk
  · exact hrcv2.elim
set_option maxHeartbeats 1000000 in
theorem cal_S {own : String} {x n : Nat} {y : MethodName} {bytes : ByteArray} {maxL : Nat} {ret : Option FieldType} {rm R : Room} {ci : CI} (hM : MOK y bytes maxL ret rm ci) (hk : ci.2.1 = 10) (hws : ∀ w ∈ sws own x y bytes maxL ret, w ∈ WS) (hn : ci.1 = n) (hd : nice y n) (hR : rfits rm R maxL) (hrm : rm.cells = ci.2.2.1 ∧ rm.slots = ci.2.2.2.1) : CalOK own R x ci := by
  intro p l e s m args below meth c Q D dA A H0 b0 nL bytes0 ini S hsf pc hdec ls As rest σ k j K hlen hrcv hcs hmc hms hsp hkk ad H locs rl hext hR' hl hst
  obtain ⟨hx, hb, hml, hown, hts, hK, hA, hini, hao, hscr⟩ := hsf
  have hmA : ∀ v ∈ As, mok σ.1 v := fun v hv => hst v (List.mem_append_left _ (List.mem_reverse.mpr hv))
  have hmR : ∀ v ∈ rest, mok σ.1 v := fun v hv => hst v (List.mem_append_right _ hv)
  have hMet := hM l D dA ad σ As K H.size hR'.2.2.2 hmA hrcv hlen hsp
  have hG : GoodIn WS (va_wsS own x y (.code y bytes maxL ret :: WS)) := ws_good (fun w hw => by
    unfold va_wsS at hw
    rcases List.mem_append.mp hw with h | h
    · exact hws w (by unfold sws; simp only [List.mem_cons, List.not_mem_nil, or_false] at h ⊢; rcases h with h | h | h <;> simp [h])
    · rcases List.mem_cons.mp h with h | h
      · exact hws w (by unfold sws; simp [h])
      · exact h)
  have hrun := va_runS (p := p) (e := e) (R := R) (below := below) (meth := meth) (H := H) (locs := locs) (cells := k) (slots := j) (As := As.map (mtr ad)) (rest := rest.map (mtr ad)) (g := F0 m pc rl ((As.reverse ++ rest).map (mtr ad))) ⟨hx, hb, hml, hown, hts⟩ hMet (va_cwS n hts hG rfl hrm.1 hrm.2 hd hR)
    ⟨mPc_blind _ _ _ _ _ _, mPc_at hR' hK hao⟩ rfl (by rw [List.length_map]; omega) hl.1 (by simp) (lv_room (by rw [mcs_cat]; exact hcs)) (by
      have hiv : ivk ci.2.1 x = .invokestatic x := by unfold ivk; rw [if_neg (by omega), if_pos hk]
      rw [hiv] at hdec; exact hdec) ⟨hmc, hms⟩
  exact call_go hrun hA hext hR' hl hmR hkk
set_option maxHeartbeats 1000000 in
theorem cal_I {own : String} {x n : Nat} {y : MethodName} {bytes : ByteArray} {maxL : Nat} {rm R : Room} {ci : CI} (hM : MOK y bytes maxL none rm ci) (hk : 20 ≤ ci.2.1) (hy1 : y.name = "<init>") (hws : ∀ w ∈ iws own x y bytes maxL, w ∈ WS) (hn : ci.1 = n + 1) (hd : nice y n) (hR : rfits rm R maxL) (hrm : rm.cells = ci.2.2.1 ∧ rm.slots = ci.2.2.2.1)
    (hrc : ∀ As σ K, ci.2.2.2.2 As σ K → ∃ a As', As = .inr (.inr (some a)) :: As') : CalOK own R x ci := by
  intro p l e s m args below meth c Q D dA A H0 b0 nL bytes0 ini S hsf pc hdec ls As rest σ k j K hlen hrcv hcs hmc hms hsp hkk ad H locs rl hext hR' hl hst
  obtain ⟨hx, hb, hml, hown, hts, hK, hA, hini, hao, hscr⟩ := hsf
  have hmA : ∀ v ∈ As, mok σ.1 v := fun v hv => hst v (List.mem_append_left _ (List.mem_reverse.mpr hv))
  have hmR : ∀ v ∈ rest, mok σ.1 v := fun v hv => hst v (List.mem_append_right _ hv)
  have hMet := hM l D dA ad σ As K H.size hR'.2.2.2 hmA hrcv hlen hsp
  obtain ⟨a, As', rfl⟩ := hrc As σ K hsp
  have hG : GoodIn WS (.code y bytes maxL none :: WS) := ws_good (fun w hw => by
    rcases List.mem_cons.mp hw with h | h
    · exact hws w (by unfold iws; simp [h])
    · exact h)
  have hrun := va_runI (p := p) (e := e) (R := R) (below := below) (meth := meth) (H := H) (locs := locs) (cells := k) (slots := j) (b := ad a) (As := As'.map (mtr ad)) (rest := rest.map (mtr ad)) (g := F0 m pc rl (((.inr (.inr (some a)) :: As').reverse ++ rest).map (mtr ad))) ⟨hx, hb, hml, hown, hts⟩ hMet (cwI n hts hG rfl hrm.1 hrm.2 (hts (.initialized y.cls) (hws _ (by unfold iws; simp))) (hts (.methodLink own x y) (hws _ (by unfold iws; simp))) (hts (.instanceMethod y) (hws _ (by unfold iws; simp))) hy1 hd hR)
    ⟨mPc_blind _ _ _ _ _ _, mPc_at hR' hK hao⟩ rfl (by rw [List.length_map]; have : As'.length + 1 = ci.1 := hlen; omega) hl.1 (by simp [mtr]) (lv_room (by rw [mcs_cat]; exact hcs)) (by
      have hiv : ivk ci.2.1 x = .invokespecial x := by unfold ivk; rw [if_neg (by omega), if_neg (by omega)]
      rw [hiv] at hdec; exact hdec) ⟨hmc, hms⟩
  exact call_go hrun hA hext hR' hl hmR hkk
/-! calls that the kit has rows for -/
def spMax (As : List MV) (σ : MS) (K : Option MV → MS → Prop) : Prop := match As with
  | [.inl x, .inl y] => RI x ∧ RI y ∧ ∀ r : Int, x ≤ r → y ≤ r → (r = x ∨ r = y) → K (some (.inl r)) σ
  | _ => False
def spMin (As : List MV) (σ : MS) (K : Option MV → MS → Prop) : Prop := match As with
  | [.inl x, .inl y] => RI x ∧ RI y ∧ ∀ r : Int, r ≤ x → r ≤ y → (r = x ∨ r = y) → K (some (.inl r)) σ
  | _ => False
def spAbs (As : List MV) (σ : MS) (K : Option MV → MS → Prop) : Prop := match As with
  | [.inl x] => RI x ∧ ∀ r : Int, 0 ≤ r → (r = x ∨ r = -x) → K (some (.inl r)) σ
  | _ => False
def spObj (As : List MV) (σ : MS) (K : Option MV → MS → Prop) : Prop := match As with
  | [.inr (.inr (some _))] => K none σ
  | _ => False
def ciMax : CI := (2, 10, 0, 0, spMax)
def ciMin : CI := (2, 10, 0, 0, spMin)
def ciAbs : CI := (1, 10, 0, 0, spAbs)
def ciObj : CI := (1, 20, 0, 0, spObj)
theorem cal_max {own : String} {x : Nat} {R : Room} (hws : ∀ w ∈ ([.methodLink own x Lib.Math.max.name, .static Lib.Math.max.name, .initialized "java/lang/Math", .code Lib.Math.max.name Lib.Math.max.code 2 (some .int)] : List Cond), w ∈ WS) (hR : 1 ≤ R.frames ∧ 21 ≤ R.locals) : CalOK own R x ciMax := by
  intro p l e s m args below meth c Q D dA A H0 b0 nL bytes0 ini S hsf pc hdec ls As rest σ k j K hlen hrcv hcs hmc hms hsp hkk ad H locs rl hext hR' hl hst
  obtain ⟨hx, hb, hml, hown, hts, hK, hA, hini, hao, hscr⟩ := hsf
  rcases As with _ | ⟨v | v, _ | ⟨w | w, _ | ⟨u, As⟩⟩⟩ <;> first | exact hsp.elim | skip
  obtain ⟨h1, h2, hsp⟩ := hsp
  refine va_mmax hx hb (hml.trans hl.1.symm) hown (hts _ (hws _ (by simp))) (hts _ (hws _ (by simp))) (hts _ (hws _ (by simp))) (hts _ (hws _ (by simp))) hR.1 (by show ((rest.map (mtr ad)).map fun v => v.category).sum + 13 ≤ R.locals; rw [mcs_cat]; have := hR.2; omega) (by exact Nat.le_trans (Nat.le_add_right _ _) hmc) (by exact Nat.le_trans (Nat.le_add_right _ _) hms) hdec ?_
  have hq := hkk _ _ (hsp (if v < w then w else v) (by split <;> omega) (by split <;> omega) (by split <;> simp)) ad H locs rl hext hR' hl (mok_cons trivial (fun v hv => hst v (List.mem_append_right _ hv)))
  rw [show (if Int32.ofInt v < Int32.ofInt w then Int32.ofInt w else Int32.ofInt v) = Int32.ofInt (if v < w then w else v) by
    by_cases q : v < w
    · rw [if_pos q, if_pos ((I_lt h1 h2).mpr q)]
    · rw [if_neg q, if_neg (fun z => q ((I_lt h1 h2).mp z))]]
  exact hq
theorem cal_min {own : String} {x : Nat} {R : Room} (hws : ∀ w ∈ ([.methodLink own x Lib.Math.min.name, .static Lib.Math.min.name, .initialized "java/lang/Math", .code Lib.Math.min.name Lib.Math.min.code 2 (some .int)] : List Cond), w ∈ WS) (hR : 1 ≤ R.frames ∧ 21 ≤ R.locals) : CalOK own R x ciMin := by
  intro p l e s m args below meth c Q D dA A H0 b0 nL bytes0 ini S hsf pc hdec ls As rest σ k j K hlen hrcv hcs hmc hms hsp hkk ad H locs rl hext hR' hl hst
  obtain ⟨hx, hb, hml, hown, hts, hK, hA, hini, hao, hscr⟩ := hsf
  rcases As with _ | ⟨v | v, _ | ⟨w | w, _ | ⟨u, As⟩⟩⟩ <;> first | exact hsp.elim | skip
  obtain ⟨h1, h2, hsp⟩ := hsp
  refine va_mmin hx hb (hml.trans hl.1.symm) hown (hts _ (hws _ (by simp))) (hts _ (hws _ (by simp))) (hts _ (hws _ (by simp))) (hts _ (hws _ (by simp))) hR.1 (by show ((rest.map (mtr ad)).map fun v => v.category).sum + 13 ≤ R.locals; rw [mcs_cat]; have := hR.2; omega) (by exact Nat.le_trans (Nat.le_add_right _ _) hmc) (by exact Nat.le_trans (Nat.le_add_right _ _) hms) hdec ?_
  have hq := hkk _ _ (hsp (if w < v then w else v) (by split <;> omega) (by split <;> omega) (by split <;> simp)) ad H locs rl hext hR' hl (mok_cons trivial (fun v hv => hst v (List.mem_append_right _ hv)))
  rw [show (if Int32.ofInt w < Int32.ofInt v then Int32.ofInt w else Int32.ofInt v) = Int32.ofInt (if w < v then w else v) by
    by_cases q : w < v
    · rw [if_pos q, if_pos ((I_lt h2 h1).mpr q)]
    · rw [if_neg q, if_neg (fun z => q ((I_lt h2 h1).mp z))]]
  exact hq
theorem cal_abs {own : String} {x : Nat} {R : Room} (hws : ∀ w ∈ ([.methodLink own x Lib.Math.abs.name, .static Lib.Math.abs.name, .initialized "java/lang/Math", .code Lib.Math.abs.name Lib.Math.abs.code 1 (some .int)] : List Cond), w ∈ WS) (hR : 1 ≤ R.frames ∧ 21 ≤ R.locals) : CalOK own R x ciAbs := by
  intro p l e s m args below meth c Q D dA A H0 b0 nL bytes0 ini S hsf pc hdec ls As rest σ k j K hlen hrcv hcs hmc hms hsp hkk ad H locs rl hext hR' hl hst
  obtain ⟨hx, hb, hml, hown, hts, hK, hA, hini, hao, hscr⟩ := hsf
  rcases As with _ | ⟨v | v, _ | ⟨u, As⟩⟩ <;> first | exact hsp.elim | skip
  obtain ⟨h1, hsp⟩ := hsp
  refine va_mabs hx hb (hml.trans hl.1.symm) hown (hts _ (hws _ (by simp))) (hts _ (hws _ (by simp))) (hts _ (hws _ (by simp))) (hts _ (hws _ (by simp))) hR.1 (by show ((rest.map (mtr ad)).map fun v => v.category).sum + 13 ≤ R.locals; rw [mcs_cat]; have := hR.2; omega) (by exact Nat.le_trans (Nat.le_add_right _ _) hmc) (by exact Nat.le_trans (Nat.le_add_right _ _) hms) hdec ?_
  have hq := hkk _ _ (hsp (if 0 ≤ v then v else 0 - v) (by split <;> omega) (by split <;> omega)) ad H locs rl hext hR' hl (mok_cons trivial (fun v hv => hst v (List.mem_append_right _ hv)))
  have h0 : (0 : Int32) ≤ Int32.ofInt v ↔ 0 ≤ v := I_le RI_0 h1
  rw [show (if (0 : Int32) ≤ Int32.ofInt v then Int32.ofInt v else 0 - Int32.ofInt v) = Int32.ofInt (if 0 ≤ v then v else 0 - v) by
    by_cases q : 0 ≤ v
    · rw [if_pos q, if_pos (h0.mpr q)]
    · rw [if_neg q, if_neg (fun z => q (h0.mp z)), Int32.ofInt_sub]; rfl]
  exact hq
theorem cal_obj {own : String} {x : Nat} {R : Room} (hws : ∀ w ∈ ([.methodLink own x Lib.objectInit, .instanceMethod Lib.objectInit, .code Lib.objectInit ⟨#[0xb1]⟩ 1 none] : List Cond), w ∈ WS) (hR : 1 ≤ R.frames ∧ 20 ≤ R.locals) : CalOK own R x ciObj := by
  intro p l e s m args below meth c Q D dA A H0 b0 nL bytes0 ini S hsf pc hdec ls As rest σ k j K hlen hrcv hcs hmc hms hsp hkk ad H locs rl hext hR' hl hst
  obtain ⟨hx, hb, hml, hown, hts, hK, hA, hini, hao, hscr⟩ := hsf
  rcases As with _ | ⟨v | v | _ | v, _ | ⟨u, As⟩⟩ <;> first | exact hsp.elim | skip
  have hcs2 : ((rest.map (mtr ad)).map fun v => v.category).sum ≤ 8 := by rw [mcs_cat]; exact hcs
  refine W.objInit (g := F0 m pc rl (.ref (ad v) :: rest.map (mtr ad))) hx hb hown (hts _ (hws _ (by simp))) (hts _ (hws _ (by simp))) (hts _ (hws _ (by simp))) rfl (hl.1.trans hml.symm) rfl hdec hR.1 (by have := lv_room (m := m) (pc := pc) (ls := rl) (rest := (.ref (ad v) :: rest.map (mtr ad))) hcs2; have := hR.2; omega) ?_
  exact hkk _ _ hsp ad H locs rl hext hR' hl (fun v hv => hst v (List.mem_append_right _ hv))
