/-! THE CLAIM OUT OF ONE WALK OF THE LAW'S BODY. Your part is whole_start (and what it stands on); all else here is the same for every law, but numbers. -/
def R_law : String := "LapBoardLaw"
def lw_P (b : Addr) (xs : List Int32) (args : Array Value) (s : State) : Prop := args = #[.ref b] ∧ s.IntsAt b xs ∧ xs.length ≤ 3072 ∧ (Jvm.Cond.and given_1 narrow_1).before args s = true
def lw_Q (_ : Array Value) (s : State) (o : Outcome) (t : State) : Prop := o = .returned (some (.int 1)) ∧ Framed s o t [] 601024 7293034
def lw_Z (below : List Frame) (a : Array Value) (s : State) : State → Prop := fun t => ∃ o, t.status = .running ∧ Ended t below o ∧ lw_Q a s o t
/-- the law's own end, with 1 on the stack, nothing written that was there before, its room as the claim has it -/
theorem lw_ret {p : Program} {l : Launch} {e : Env} {s : State} {m : MethodId} {below : List Frame} {meth : Method} {c : Code} {b : Nat} (hx : p.tables.exec = Jvm.exec) (hb : c.code = code) (hr : meth.sig.returnType = ret) (hlocks : meth.locks = false) {pc : Nat} {H : Heap} {ls : Array Slot} (hdg : decode code pc = .ok (.ireturn, 1)) : W p l e room_1 s m #[Value.ref b] below meth c H [] 601024 7293034 (lw_Z below #[Value.ref b] s) (F0 m pc ls [.int 1]) := by
  intro T hT X
  obtain ⟨fs, hret, hrun, hended, hW, hframe⟩ := X.leave (v := some (.int 1)) (hlocks := hlocks) (fun h => by rw [hr] at h; cases h)
  have hmeth' : T.vm.method? m = some meth := X.method'
  refine ⟨T.setFrames fs, ?_, .returned (some (.int 1)), hrun, hended, rfl, ⟨_, rfl⟩, hW, hframe⟩
  jvm_step X.here [X.here.top, hx, hb, hdg, hmeth', hr, ret, narrow_b1]
  (try refine ⟨rfl, ?_⟩); (try refine ⟨rfl, ?_⟩)
  first | (intro acts; rw [hret _ acts rfl rfl rfl]) | rw [hret _ _ rfl rfl rfl]
  exact Steps.refl _
/-- what holds at the law's entry: the machine, the code, the tables' words (any of lw_tbl by 'hts w (by decide +kernel)'), the script of L ints xs at the cell b, what the Statement gives of the start (any of its parts by flat_of_before) -/
def lw_At (p : Program) (s : State) (m : MethodId) (meth : Method) (c : Code) (b L : Nat) (xs : Nat → Int32) : Prop :=
  p.tables.exec = Jvm.exec ∧ c.code = code ∧ meth.sig.returnType = ret ∧ c.maxLocals = 8 ∧ s.vm.findClass R_law = some m.cls ∧ (∀ w ∈ lw_tbl, w.before #[Value.ref b] s = true) ∧ va_X b L xs s s.heap ∧ b < s.heap.size ∧ meth.locks = false ∧ (Jvm.Cond.and given_1 narrow_1).before #[Value.ref b] s = true
theorem ws_ins_b : ((List.range 10).all fun ci => decide (Cond.instantiable (RR ci) (nfs ci) ∈ lw_tbl) && goodWord (Cond.instantiable (RR ci) (nfs ci))) = true := by decide +kernel
theorem ws_ins {ci : Nat} (h : ci < 10) : Cond.instantiable (RR ci) (nfs ci) ∈ WS := by
  have := List.all_eq_true.mp ws_ins_b ci (List.mem_range.mpr h)
  rw [Bool.and_eq_true, decide_eq_true_eq] at this
  exact ws_mem this.1 this.2
theorem ws_str_b : (tzS.all fun q => decide (Cond.stringRef q.1 q.2.1 q.2.2 ∈ lw_tbl)) = true := by decide +kernel
theorem ws_dec_b : (xdN.all fun n => decide (Cond.declares (Bundle.initS n) ∈ lw_tbl)) = true := by decide +kernel
theorem ws_one_b : ([Cond.castable IAE IAE, .castable ISE ISE, .laysStatic Bundle.tN "UNASSIGNED_STACK" Bundle.steD, .laysStatic Bundle.tN "SUPPRESSED_SENTINEL" Bundle.listD, .initialized Bundle.tN, .arrayClass .int, .arrayClass .long, .arrayClass .byte, .arrayClass .boolean, .arrayOver (.object RX3), .arrayOver (.object RX2), .arrayOver (.array .int)].all fun w => decide (w ∈ lw_tbl)) = true := by decide +kernel
theorem ws_one {w : Cond} (h : w ∈ [Cond.castable IAE IAE, .castable ISE ISE, .laysStatic Bundle.tN "UNASSIGNED_STACK" Bundle.steD, .laysStatic Bundle.tN "SUPPRESSED_SENTINEL" Bundle.listD, .initialized Bundle.tN, .arrayClass .int, .arrayClass .long, .arrayClass .byte, .arrayClass .boolean, .arrayOver (.object RX3), .arrayOver (.object RX2), .arrayOver (.array .int)]) : w ∈ lw_tbl := of_decide_eq_true (List.all_eq_true.mp ws_one_b w h)
theorem gv_flat_b : (decide (Cond.isRef (.static Bundle.tN "UNASSIGNED_STACK" Bundle.steD) ∈ flatC (Jvm.Cond.and given_1 narrow_1)) && decide (Cond.isRef (.static Bundle.tN "SUPPRESSED_SENTINEL" Bundle.listD) ∈ flatC (Jvm.Cond.and given_1 narrow_1)) && decide (Cond.not (.castable ISE IAE) ∈ flatC (Jvm.Cond.and given_1 narrow_1))) = true := by decide +kernel
/-- classes and arrays, by what the tables say -/
theorem law_K {s : State} {args : Array Value} (hts : ∀ w ∈ lw_tbl, w.before args s = true) : ∃ (D : va_G) (dA : Nat → ClassId), va_K D vwCl (TY dA) s := by
  have hWS : ∀ w ∈ WS, w.before args s = true := fun w hw => hts w (List.mem_filter.mp hw).1
  have h1 : ∀ ci : Nat, ∃ q : ClassId × (Nat → Nat), ci < 10 → u_Kn s (RR ci) (TT ci) (nfs ci) q.1 q.2 := fun ci => by
    by_cases z : ci < 10
    · obtain ⟨a, b, h⟩ := u_known (C := RR ci) (T := TT ci) (N := nfs ci) hWS (ws_fld z) (hWS _ (ws_ins z))
      exact ⟨(a, b), fun _ => h⟩
    · exact ⟨(0, fun _ => 0), fun y => (z y).elim⟩
  have h2 : ∀ k : Nat, ∃ cA : ClassId, 10 ≤ k → k ≤ 16 → ArrOfT s cA (aty k) ∧ va_RA s cA (aty k) := fun k => by
    have ac : ∀ t : FieldType, (Cond.arrayClass t).before args s = true → (∀ C, t ≠ .object C) → ∃ cA, ArrOfT s cA t ∧ va_RA s cA t := fun t h ht => by
      obtain ⟨c, k, comp, f1, f2, f3⟩ := Cond.arrayClass_spec h
      refine ⟨c, fun n z => ⟨fun _ y => (by cases y), k, f2, comp, f3⟩, ?_⟩
      cases t with
      | object C => exact (ht C rfl).elim
      | _ => exact f1
    have ao : ∀ C : String, (Cond.arrayOver (.object C)).before args s = true → ∃ cA, ArrOfT s cA (.object C) ∧ va_RA s cA (.object C) := fun C h => by
      obtain ⟨comp, c, k, f1, _, f2, f3, f4⟩ := Cond.arrayOver_spec h
      exact ⟨c, fun n z => ⟨fun _ y => (by cases y), k, f2, comp, f3⟩, k, comp, f2, f3, f1, f4⟩
    by_cases z : 10 ≤ k ∧ k ≤ 16
    · rcases (show k = 10 ∨ k = 11 ∨ k = 12 ∨ k = 13 ∨ k = 14 ∨ k = 15 ∨ k = 16 by omega) with rfl | rfl | rfl | rfl | rfl | rfl | rfl
      · exact (ac .int (hts _ (ws_one (by simp))) (fun _ h => by cases h)).imp fun _ h _ _ => h
      · exact (ac .long (hts _ (ws_one (by simp))) (fun _ h => by cases h)).imp fun _ h _ _ => h
      · exact (ac .byte (hts _ (ws_one (by simp))) (fun _ h => by cases h)).imp fun _ h _ _ => h
      · exact (ac .boolean (hts _ (ws_one (by simp))) (fun _ h => by cases h)).imp fun _ h _ _ => h
      · exact (ao RX3 (hts _ (ws_one (by simp)))).imp fun _ h _ _ => h
      · exact (ao RX2 (hts _ (ws_one (by simp)))).imp fun _ h _ _ => h
      · obtain ⟨comp, c, k, f1, _, f2, f3, f4⟩ := aoa_spec (hts (.arrayOver (.array .int)) (ws_one (by simp)))
        exact ⟨c, fun _ _ => ⟨fun n z => ⟨fun _ y => (by cases y), k, f2, comp, f3⟩, f4⟩⟩
    · exact ⟨0, fun y1 y2 => (z ⟨y1, y2⟩).elim⟩
  obtain ⟨f, hf⟩ := Classical.axiomOfChoice h1
  obtain ⟨g, hg⟩ := Classical.axiomOfChoice h2
  refine ⟨(fun c => (f c).1, fun c => (f c).2), g, fun c q hq => ?_, fun k q hq => ?_⟩
  · by_cases z : c < 10
    · rw [cl_at z] at hq
      cases hq
      exact hf c z
    · rw [List.getElem?_eq_none (by show 10 ≤ c; omega)] at hq
      cases hq
  · unfold TY at hq
    rw [List.getElem?_map] at hq
    by_cases z : k < 7
    · rw [List.getElem?_range z] at hq
      cases hq
      exact hg (k + 10) (by omega) (by omega)
    · rw [List.getElem?_eq_none (by rw [List.length_range]; omega)] at hq
      cases hq
theorem law_TU {s : State} {args : Array Value} (hts : ∀ w ∈ lw_tbl, w.before args s = true) (hgv : (Jvm.Cond.and given_1 narrow_1).before args s = true) : TU s := by
  have hb := gv_flat_b
  rw [Bool.and_eq_true, Bool.and_eq_true, decide_eq_true_eq, decide_eq_true_eq, decide_eq_true_eq] at hb
  have cls : ∀ ci, ci < 10 → ∃ c, s.vm.findClass (RR ci) = some c := fun ci h => by
    obtain ⟨c, _, hc, _⟩ := Cond.instantiable_spec (hts _ (List.mem_filter.mp (ws_ins h)).1)
    exact ⟨c, hc⟩
  have str : ∀ (own : String) (k : Nat) (tx : String), (∃ c, s.vm.findClass own = some c) → Cond.stringRef own k tx ∈ lw_tbl → ∃ sa, vk_R own k tx sa s := fun own k tx ⟨c, hc⟩ h => by
    obtain ⟨_, _, _, a, _, _, _, _, _, ev⟩ := Cond.stringRef_spec hc (hts _ h)
    exact ⟨a, vk_R.of (hts _ h) ev⟩
  refine ⟨fun q hq => str _ _ _ ?_ (of_decide_eq_true (List.all_eq_true.mp ws_str_b q hq)), va_tabs rfl rfl (hts _ (ws_one (by simp))), va_tabs rfl rfl (hts _ (ws_one (by simp))), va_Nc.of (flat_of_before _ hgv _ hb.2), fun n hn => va_tabs rfl rfl (hts _ (of_decide_eq_true (List.all_eq_true.mp ws_dec_b n hn)))⟩
  simp only [List.mem_cons, List.not_mem_nil, or_false] at hq
  rcases hq with rfl | rfl | rfl | rfl | rfl | rfl | rfl | rfl
  all_goals first | exact cls 8 (by decide) | exact cls 3 (by decide)
theorem law_TZ {s : State} {args : Array Value} (hts : ∀ w ∈ lw_tbl, w.before args s = true) (hgv : (Jvm.Cond.and given_1 narrow_1).before args s = true) : TZ (fun q => s.heap.size ≤ q) s s.heap := by
  have hb := gv_flat_b
  rw [Bool.and_eq_true, Bool.and_eq_true, decide_eq_true_eq, decide_eq_true_eq, decide_eq_true_eq] at hb
  exact ⟨vx_Zqof (hts _ (ws_one (by simp))) (hts _ (ws_one (by simp))) (flat_of_before _ hgv _ hb.1.1) (fun a h => Nat.not_le.mpr h), vx_Zqof (hts _ (ws_one (by simp))) (hts _ (ws_one (by simp))) (flat_of_before _ hgv _ hb.1.2) (fun a h => Nat.not_le.mpr h), law_TU hts hgv⟩
/-- from the entry, for every script of at most 3072 ints, the law comes to its end with true -/
theorem whole_start {p : Program} {e : Env} {s : State} {m : MethodId} {below : List Frame} {meth : Method} {c : Code} (l : Launch) (hflags : l.flags = flags0) {b L : Nat} {xs : Nat → Int32} (hL : L ≤ 3072) (C0 : lw_At p s m meth c b L xs) : W p l e room_1 s m #[Value.ref b] below meth c s.heap [] 0 0 (lw_Z below #[Value.ref b] s) (entryFrame m ([Value.ref b] : List Value).toArray 8) := by
  obtain ⟨hx, hb, hr, hml, hown, hts, hX, hbl, hlocks, hgv⟩ := id C0
  have hst : l.stackTraces = false := by
    unfold Launch.stackTraces
    rw [hflags]
    decide +kernel
  obtain ⟨D, dA, hK⟩ := law_K hts
  have hao : AOs s := ⟨va_AO.of (hts _ (ws_one (by simp))), va_AO.of (hts _ (ws_one (by simp))), hts (.arrayOver (.array .int)) (ws_one (by simp))⟩
  obtain ⟨⟨hok⟩⟩ := law_all (post := fun r _ => r = some (.inl 1)) (n := L) (xs := fun j => (xs j.toNat).toInt) (fun j => ⟨Int32.le_toInt _, Int32.toInt_lt _⟩) hL (fun _ => rfl)
  have hwf : mwf (1, fun _ _ => none, fun _ _ => 0, fun _ _ => 0) := ⟨Nat.le_refl _, fun a i b a0 a1 h => by cases h⟩
  have hR : HR D dA (fun q => s.heap.size ≤ q) s.heap (fun _ => b) (1, fun _ _ => none, fun _ _ => 0, fun _ _ => 0) s.heap [] :=
    ⟨fun k q h => (by cases h), ⟨fun i j p q h => (by cases h), fun k q h => (by cases h)⟩, va_S.rf, hwf⟩
  have hl := LR_entry (ad := fun _ => b) (N := 1) (n := 8) (vs := [.inr (.inr (some 0))]) (fun v hv => by
    rw [List.mem_singleton.mp hv]
    exact Or.inr rfl) (by decide)
  rw [lg_entry_eq]
  refine hok (Q := lw_Z below #[Value.ref b] s) (A := fun q => s.heap.size ≤ q) (H0 := s.heap) (b0 := (fun _ => b, 1)) (D := D) (dA := dA) ⟨hx, hb, hml, hown, fun w hw => hts w (List.mem_filter.mp hw).1, hK, fun q h => h, fun h => (by cases h), hao, fun L' xs' h => ?_⟩ ?_ hst (law_TZ hts hgv) trivial (fun _ => b) s.heap [] _ ⟨Nat.le_refl _, rfl, fun _ _ _ => rfl⟩ hR hl (fun v h => by cases h)
  · cases h
    exact ⟨xs, hX, hbl, Nat.not_le.mpr hbl, by omega, fun j _ => by simp⟩
  · intro pc ls st σ k j i r hd hri hk hj hp ad H locs rl hext hR' hl' hst'
    subst hp
    rcases hri with ⟨rfl, v, rfl, hv⟩ | ⟨rfl, v, rfl, hv⟩ | ⟨rfl, v, rfl, hv⟩ | ⟨rfl, rfl, hv⟩
    · cases hv
      exact va_forget (fun q hq => hR'.2.2.1.2.2 q hq) (W.widen (k := 601024) (n := 7293034) hk hj (lw_ret hx hb hr hlocks hd))
    · cases hv
    · cases hv
    · cases hv
set_option maxHeartbeats 4000000 in
theorem lw_walk (l : Launch) (hflags : l.flags = flags0) (b : Addr) (xs : List Int32) : MetFree l x (headSpec (Jvm.Cond.code x code maxLocals ret :: tables_1) room_1) (lw_P b xs) (fun _ _ _ _ _ => True) lw_Q := by
  refine MetFree.of_bodyS (code := code) (maxLocals := maxLocals) (ret := ret) (by decide) ?_ ?_
  · intro args s m h hn
    obtain ⟨meth, c, h1, h2, h3, h4, h5, h6, -, -⟩ := Cond.code_spec hn (atoms_spec (ws := Jvm.Cond.code x code maxLocals ret :: tables_1) h _ List.mem_cons_self)
    exact ⟨meth, c, h1, h2, h3, h4, h5, h6⟩
  · intro p e s m args below meth c s₁ B hml0 hP _
    obtain ⟨rfl, hx, hbd, hgv⟩ := hP
    obtain ⟨scr, harrAt, hlist, hof, hsmall⟩ := hx
    obtain ⟨hcb, hkn, -, -⟩ := State.arrayAt?_spec harrAt
    have hown : s.vm.findClass R_law = some m.cls := findClass_of_methodNamed B.named
    have hts0 : ∀ c ∈ (Jvm.Cond.code x code maxLocals ret :: tables_1), c.before #[Value.ref b] s = true := atoms_spec (ws := Jvm.Cond.code x code maxLocals ret :: tables_1) B.pre
    have hts : ∀ w ∈ lw_tbl, w.before #[Value.ref b] s = true := k2_hts_sels lw_privs (fun w hw => hts0 w (List.mem_cons_of_mem _ hw)) lw_privs_ok
    have hml : c.maxLocals = 8 := B.maxLocals_eq (hts0 _ List.mem_cons_self)
    have X₀ : Stand p l e room_1 s m #[Value.ref b] below meth c s₁ [] 0 0 := Stand.of_body B
    have hh0 : s₁.heap = s.heap := by rw [B.state]; rfl
    have hsz : scr.slots.size = xs.length := by rw [← Array.length_toList, hlist, List.length_map]
    have hval : ∀ j : Nat, j < xs.length → scr.slots[j]? = some (.int (xs.getD j 0)) := fun j hj => by
      rw [← Array.getElem?_toList, hlist]
      simp [hj]
    have hbl : b < s.heap.size := (Array.getElem?_eq_some_iff.mp hcb).1
    have hX : va_X b xs.length (fun j => xs.getD j 0) s s.heap := ⟨scr, hcb, hof, hkn, hsz, hval⟩
    have K : W p l e room_1 s m #[Value.ref b] below meth c s₁.heap [] 0 0 (lw_Z below #[Value.ref b] s) (entryFrame m ([Value.ref b] : List Value).toArray 8) := by
      rw [hh0]
      exact whole_start l hflags hbd ⟨B.exec, B.bytes, B.returns, hml, hown, hts, hX, hbl, B.notSynchronized, hgv⟩
    obtain ⟨t, a1, o, b1, b2, b3⟩ := K s₁ rfl X₀
    exact ⟨t, o, a1, b1, b2, b3⟩
theorem lw_pre_spec {args : Array Value} {s : State} (h : (Jvm.Cond.and given_1 narrow_1).before args s = true) (hr : rest_1_c.before args s = true) : ∃ (b : Addr) (xs : List Int32), lw_P b xs args s := by
  have hs := flat_of_before _ h
  have hq := flat_of_before _ hr
  have hc : (Cond.count 1).before args s = true := hs _ (by decide +kernel)
  have harr : (Cond.arrayOf (.arg 0) .int).before args s = true := hs _ (by decide +kernel)
  have hle : (Cond.le (.length (.arg 0)) (.int 3072)).before args s = true := hs _ (by decide +kernel)
  have hlen : (Cond.isInt (.length (.arg 0))).before args s = true := hq _ (by decide +kernel)
  have hall : (Cond.all (.arg 0) (.isInt (.elem (.arg 0) (.index 0)))).before args s = true := hq _ (by decide +kernel)
  obtain ⟨b, xs, hb, hx⟩ := State.ints_of_pre rfl harr hlen hall
  have hsm : xs.length < 2 ^ 31 := hx.choose_spec.2.2.2
  have hev : (Term.length (.arg 0)).eval args s none [] s = some (.int xs.length.toInt32) := hx.length_eval hb
  have hv := Cond.le_ints hev (show (Term.int 3072).eval args s none [] s = some (.int 3072) from rfl)
  have hd : xs.length.toInt32 ≤ 3072 := by
    simpa [Cond.before, Cond.holds, hv] using hle
  have hN : xs.length ≤ 3072 := (Int32.ofNat_le_ofNat hsm (by decide)).mp (show Int32.ofNat xs.length ≤ Int32.ofNat 3072 from hd)
  exact ⟨b, xs, Cond.one_arg hc (show args[0]? = some (.ref b) from hb), hx, hN, h⟩
theorem lw_comes (l : Launch) (hflags : l.flags = flags0) : Comes l x (Jvm.Cond.code x code maxLocals ret :: tables_1) room_1 (fun tb e args s => Calls_1 tb e args s ∧ rest_1 tb e args s ∧ Pre_1 tb e args s)
    (fun _ _ args s o t => lw_Q args s o t) := by
  intro p e ha hc hk s m args below hf hfit hheap happ hpre
  obtain ⟨b, xs, hP⟩ := lw_pre_spec hpre.2.2 hpre.2.1
  obtain ⟨k, o, h1, h2, h3, hQ⟩ := lw_walk l hflags b xs p e ha hc hk s m args below hf ((Spec.applies_iff_loose hf).mp happ).1 hP trivial
  exact ⟨k, o, h1, h2, h3, hQ⟩
theorem lw_frame {s t : State} {o : Outcome} {args : Array Value} (h : Framed s o t [] 601024 7293034) :
    Framed s o t (fieldLocs frame_1_writes args s ++ arrayLocs frame_1_arrays args s ++ staticLocs frame_1_statics s) 601024 7293034 := h
theorem lw_limb (L : Cond) (hL : ∀ (args : Array Value) (s t : State), L.after args s (.returned (some (.int 1))) t = true) :
    ArmFor flags0 classFile x code maxLocals ret World_1 tables_1 room_1 Calls_1 rest_1 Pre_1
      (fun tb e a s o t => postC L tb e a s o t ∧ Framed s o t (fieldLocs frame_1_writes a s ++ arrayLocs frame_1_arrays a s ++ staticLocs frame_1_statics s) 601024 7293034) := by
  intro l hflags _ _ p e ha hc hk s m args below hf hfit hheap happ hpre
  obtain ⟨k, o, h1, h2, h3, rfl, hF⟩ := lw_comes l hflags p e ha hc hk s m args below hf hfit hheap happ hpre
  exact ⟨k, _, h1, h2, h3, hL args s _, lw_frame hF⟩
theorem i_vc : Claimed_1_1 ∧ Claimed_1_2 := ⟨lw_limb limb_1_1 (fun args s t => by simp [limb_1_1, Cond.after, Cond.holds, Cond.value]), lw_limb limb_1_2 (fun args s t => Cond.after_iff.mpr (by
  first | (rw [show limb_1_2 = Cond.eq .result (.int 1) from rfl, Cond.eq_ints (x := 1) (y := 1) rfl rfl]; simp; done) | (simp [limb_1_2, Cond.value, Term.eval]; done)))⟩
