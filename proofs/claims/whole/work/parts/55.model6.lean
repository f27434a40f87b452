/-! LapBoardModel.work -/
/-- the least of what may follow, by the least of the rest -/
theorem Lst_row {C : Int → Int → Prop} {c R : Int → Int → Int} {T : Int → Int → Int → Prop} {F v : Int} (hc : ∀ n q, C n q → 0 ≤ c n q) (hT : ∀ n q, C n q → Lst (T n q) F (R n q)) (h : Lst (fun y => ∃ n q, C n q ∧ y = c n q + R n q) F v) : Lst (fun y => ∃ n q t, C n q ∧ T n q t ∧ y = c n q + t) F v := by
  obtain ⟨a, b, d⟩ := h
  refine ⟨?_, b, fun x hx => ?_⟩
  · rcases a with a | ⟨n, q, a1, a2⟩
    · exact .inl a
    · have e := hT n q a1
      have e2 := hc n q a1
      rcases e.1 with e1 | e1
      · exact .inl (by omega)
      · exact .inr ⟨n, q, _, a1, e1, a2⟩
  · obtain ⟨n, q, t, x1, x2, x3⟩ := hx
    have := (hT n q x1).2.2 t x2
    have := d _ ⟨n, q, x1, rfl⟩
    omega
def rwOK (I L : Int → Int → Int) (g i l p : Int) : Prop := (0 ≤ L 252 ((3 * i + l) * 61 + p) ∧ L 252 ((3 * i + l) * 61 + p) ≤ 1000000000000) ∧ (p ≤ lmv (VM I) g i l → Lst (AchE (VM I) g (I 240 3) (kk (VM I) i) i l p) 1000000000000 (L 252 ((3 * i + l) * 61 + p)))
def wlOK (I : Int → Int → Int) (g : Int) : Prop := (∀ p, 1 ≤ p → p ≤ 60 → I 253 p = rch (I 246) (I 247) p) ∧ ∀ i l, 0 ≤ i → i < I 240 1 → 0 ≤ l → l ≤ 2 → I 254 (3 * i + l) = lmv (VM I) g i l
def wrkOK (I L : Int → Int → Int) (g : Int) : Prop := wlOK I g ∧ ∀ i l p, 0 ≤ i → i < I 240 1 → 0 ≤ l → l ≤ 2 → 1 ≤ p → p ≤ 60 → rwOK I L g i l p
theorem wrk_RowE {I L : Int → Int → Int} {g : Int} (h : wrkOK I L g) : RowE (VM I) g (I 240 3) 1000000000000 (fun i l p => L 252 ((3 * i + l) * 61 + p)) := fun i l p i0 i1 l0 l1 p0 p1 hp => (h.2 i l p i0 i1 l0 l1 p0 p1).2 hp
theorem rw_rowM {I L : Int → Int → Int} {g i l : Int} (h : ∀ p, 1 ≤ p → p ≤ 60 → rwOK I L g i l p) : rowM L i l := fun q a b => (h q a b).1
/-- a row out of the rows of the next station -/
theorem rw_step {I L : Int → Int → Int} {g i l p v : Int} (ht : tOK (VM I)) (hw : wlOK I g) (i0 : 0 ≤ i) (i1 : i + 1 < I 240 1) (p0 : 1 ≤ p) (p1 : p ≤ 60) (hn : ∀ l p, 0 ≤ l → l ≤ 2 → 1 ≤ p → p ≤ 60 → rwOK I L g (i + 1) l p) (h : Lst (fun y => ∃ nx, 0 ≤ nx ∧ nx < 3 ∧ nr l nx ∧ onS2 I L i l p nx 61 y) 1000000000000 v) : Lst (AchE (VM I) g (I 240 3) (kk (VM I) i) i l p) 1000000000000 v := by
  have ek : kk (VM I) i = kk (VM I) (i + 1) + 1 := by unfold kk; rw [VM_31]; omega
  have y2 : I 240 1 ≤ 30 := ht.2.1
  have e1 := (VM_st (I := I) (i := i + 1) (by omega) (by omega)).2.1
  have hst := stM ht (i := i + 1) (by omega) i1
  have h' : Lst (fun y => ∃ nx q, (nr l nx ∧ 1 ≤ q ∧ p - I 240 3 ≤ q ∧ q ≤ rch (I 246) (I 247) p ∧ q ≤ lmv (VM I) g (i + 1) nx) ∧ y = tmv (I 242 (i + 1)) (dif l nx) q + L 252 ((3 * (i + 1) + nx) * 61 + q)) 1000000000000 v := h.cg (fun y => by
    constructor
    · rintro ⟨nx, q, ⟨a, b, c, d, e⟩, f⟩
      have r := lim_rng (VM I (5 + (i + 1)) 0) (VM I (5 + (i + 1)) 2) (VM I (5 + (i + 1)) 3) nx g
      have e' := e
      unfold lmv at e'
      exact ⟨nx, a.2.2.1, by have := a.2.2.2; omega, a, q, b, by omega, c, by rw [hw.1 p p0 p1]; exact d, by rw [hw.2 (i + 1) nx (by omega) i1 a.2.2.1 a.2.2.2]; exact e, f⟩
    · rintro ⟨nx, a0, a1, a, q, b, _, c, d, e, f⟩
      rw [hw.1 p p0 p1] at d
      rw [hw.2 (i + 1) nx (by omega) i1 a.2.2.1 a.2.2.2] at e
      exact ⟨nx, q, ⟨a, b, c, d, e⟩, f⟩)
  have := Lst_row (T := fun nx q t => AchE (VM I) g (I 240 3) (kk (VM I) (i + 1)) (i + 1) nx q t) (fun nx q hc => (tmv_rng (ch := dif l nx) (p := q) hst.2.2.1 hst.2.2.2.1 hc.2.1).1) (fun nx q hc => by
    have r := lim_rng (VM I (5 + (i + 1)) 0) (VM I (5 + (i + 1)) 2) (VM I (5 + (i + 1)) 3) nx g
    have e := hc.2.2.2.2
    have e' := e
    unfold lmv at e'
    exact (hn nx q hc.1.2.2.1 hc.1.2.2.2 hc.2.1 (by omega)).2 e) h'
  rw [ek]
  refine this.cg (fun y => ?_)
  constructor
  · rintro ⟨nx, q, t, a, ⟨b1, b2, b3, b4⟩, c, d⟩
    have d : y = tmv (VM I (5 + (i + 1)) 1) (dif l nx) q + t := d
    rw [e1] at d
    exact ⟨nx, q, t, ⟨a, b1, b2, b3, b4⟩, c, d⟩
  · rintro ⟨nx, q, t, ⟨a, b1, b2, b3, b4⟩, c, d⟩
    refine ⟨nx, q, t, a, ⟨b1, b2, b3, b4⟩, c, ?_⟩
    show y = tmv (VM I (5 + (i + 1)) 1) (dif l nx) q + t
    rw [e1]; exact d
theorem rw_last {I : Int → Int → Int} {g i l p : Int} (hi : i = I 240 1 - 1) : Lst (AchE (VM I) g (I 240 3) (kk (VM I) i) i l p) 1000000000000 0 := by
  rw [show kk (VM I) i = 0 by unfold kk; rw [VM_31]; omega]
  exact ⟨.inr rfl, by omega, fun x hx => by have : x = 0 := hx; omega⟩
def spX9_work (As : List MV) (σ : MS) (K : Option MV → MS → Prop) : Prop := pR As fun a r => pI r fun g r => pN r (a = 240 ∧ σ.2.1 = PF ∧ -20 ≤ g ∧ g ≤ 20 ∧ tOK (VM σ.2.2.1) ∧ carOK (VM σ.2.2.1) ∧
  ∀ (I' L' : Int → Int → Int) (v : Int), (∀ b k, b ≠ 253 → b ≠ 254 → I' b k = σ.2.2.1 b k) → (∀ b k, b ≠ 252 → L' b k = σ.2.2.2 b k) → wrkOK I' L' g → lapT (VM σ.2.2.1) g (σ.2.2.1 240 3) (σ.2.2.1 240 4) v → K (some (.inr (.inl v))) (σ.1, σ.2.1, I', L'))
def ciX9_work : CI := (2, 9, 0, 0, spX9_work)
def kX9_work (pc : Nat) : List ME := match pc with
  | 0 => [(.iconst 1, 1, []), (.istore_n 2, 1, [])]
  | 2 => [(.iload_n 2, 1, []), (.bipush 61, 2, []), (.if_icmp .ge 20, 3, [25]), (.aload_n 0, 1, []), (.getfield 67, 3, []), (.iload_n 2, 1, []), (.aload_n 0, 1, []), (.iload_n 2, 1, []), (.invokevirtual 152, 3, []), (.iastore, 1, []), (.iinc 2 1, 3, []), (.goto (-20), 3, [2])]
  | 25 => [(.iconst 0, 1, []), (.istore_n 2, 1, [])]
  | 27 => [(.iload_n 2, 1, []), (.aload_n 0, 1, []), (.getfield 13, 3, []), (.if_icmp .ge 39, 3, [71]), (.iconst 0, 1, []), (.istore_n 3, 1, [])]
  | 37 => [(.iload_n 3, 1, []), (.iconst 3, 1, []), (.if_icmp .ge 26, 3, [65]), (.aload_n 0, 1, []), (.getfield 70, 3, []), (.iconst 3, 1, []), (.iload_n 2, 1, []), (.imul, 1, []), (.iload_n 3, 1, []), (.iadd, 1, []), (.aload_n 0, 1, []), (.iload_n 2, 1, []), (.iload_n 3, 1, []), (.iload_n 1, 1, []), (.invokevirtual 148, 3, []), (.iastore, 1, []), (.iinc 3 1, 3, []), (.goto (-25), 3, [37])]
  | 65 => [(.iinc 2 1, 3, []), (.goto (-41), 3, [27])]
  | 71 => [(.aload_n 0, 1, []), (.getfield 13, 3, []), (.iconst 1, 1, []), (.isub, 1, []), (.istore_n 2, 1, [])]
  | 78 => [(.iload_n 2, 1, []), (.ifCond .lt 141, 3, [220]), (.iconst 0, 1, []), (.istore_n 3, 1, [])]
  | 84 => [(.iload_n 3, 1, []), (.iconst 3, 1, []), (.if_icmp .ge 128, 3, [214]), (.iconst 1, 1, []), (.istore 4, 2, [])]
  | 92 => [(.iload 4, 2, []), (.bipush 61, 2, []), (.if_icmp .ge 112, 3, [208]), (.iload_n 2, 1, []), (.aload_n 0, 1, []), (.getfield 13, 3, []), (.iconst 1, 1, []), (.isub, 1, []), (.if_icmp .ne 7, 3, [113]), (.lconst 0, 1, []), (.goto 6, 3, [116])]
  | 113 => [(.ldc2_w 174, 3, [])]
  | 116 => [(.lstore 5, 2, []), (.iconst 0, 1, []), (.istore 7, 2, [])]
  | 121 => [(.iload 7, 2, []), (.iconst 3, 1, []), (.if_icmp .ge 63, 3, [187]), (.iload_n 2, 1, []), (.aload_n 0, 1, []), (.getfield 13, 3, []), (.iconst 1, 1, []), (.isub, 1, []), (.if_icmp .ge 53, 3, [187]), (.iload 4, 2, []), (.aload_n 0, 1, []), (.getfield 70, 3, []), (.iconst 3, 1, []), (.iload_n 2, 1, []), (.imul, 1, []), (.iload_n 3, 1, []), (.iadd, 1, []), (.iaload, 1, []), (.if_icmp .gt 38, 3, [187]), (.aload_n 0, 1, []), (.iload_n 2, 1, []), (.iload_n 3, 1, []), (.iload 4, 2, []), (.iload 7, 2, []), (.invokevirtual 182, 3, []), (.lstore 8, 2, []), (.lload 8, 2, []), (.lload 5, 2, []), (.lcmp, 1, []), (.ifCond .ge 8, 3, [177]), (.lload 8, 2, []), (.goto 5, 3, [179])]
  | 177 => [(.lload 5, 2, [])]
  | 179 => [(.lstore 5, 2, []), (.iinc 7 1, 3, []), (.goto (-63), 3, [121])]
  | 187 => [(.aload_n 0, 1, []), (.getfield 64, 3, []), (.aload_n 0, 1, []), (.iload_n 2, 1, []), (.iload_n 3, 1, []), (.iload 4, 2, []), (.invokevirtual 179, 3, []), (.lload 5, 2, []), (.lastore, 1, []), (.iinc 4 1, 3, []), (.goto (-113), 3, [92])]
  | 208 => [(.iinc 3 1, 3, []), (.goto (-127), 3, [84])]
  | 214 => [(.iinc 2 (-1), 3, []), (.goto (-139), 3, [78])]
  | 220 => [(.aload_n 0, 1, []), (.getfield 13, 3, []), (.ifCond .ne 7, 3, [231]), (.lconst 0, 1, []), (.goto 6, 3, [234])]
  | 231 => [(.ldc2_w 174, 3, [])]
  | 234 => [(.lstore_n 2, 1, []), (.iconst 0, 1, []), (.istore 4, 2, [])]
  | 238 => [(.iload 4, 2, []), (.iconst 3, 1, []), (.if_icmp .ge 38, 3, [279]), (.aload_n 0, 1, []), (.getfield 13, 3, []), (.ifCond .le 31, 3, [279]), (.aload_n 0, 1, []), (.iload 4, 2, []), (.invokevirtual 186, 3, []), (.lstore 5, 2, []), (.lload 5, 2, []), (.lload_n 2, 1, []), (.lcmp, 1, []), (.ifCond .ge 8, 3, [271]), (.lload 5, 2, []), (.goto 4, 3, [272])]
  | 271 => [(.lload_n 2, 1, [])]
  | 272 => [(.lstore_n 2, 1, []), (.iinc 4 1, 3, []), (.goto (-38), 3, [238])]
  | 279 => [(.lload_n 2, 1, []), (.lreturn, 1, [])]
  | _ => []
theorem qX9_work : ∀ pc, chk cX9_work pc (kX9_work pc) = true := by
  intro pc
  unfold kX9_work
  split <;> first | decide +kernel | exact chk_nil
abbrev rmX9_work : Room := { frames := 2, cells := 0, slots := 0, locals := 54 }
def aX9_work (x : Nat) : Option CI := match x with
  | 152 => some ciX9_reachOf
  | 148 => some ciX9_limitOf
  | 182 => some ciX9_onTo
  | 179 => some ciX9_at
  | 186 => some ciX9_firstOn
  | _ => none
theorem aokX9_work : ∀ x ci, aX9_work x = some ci → CalOK RX9 rmX9_work x ci := by
  intro x ci h
  unfold aX9_work at h
  split at h
  · cases h; exact cal_V mX9_reachOf (by decide) rfl (List.forall_mem_cons.mpr ⟨(ws_mem (List.mem_of_getElem? (i := 1028) (by decide +kernel)) (by decide +kernel)), List.forall_mem_cons.mpr ⟨(ws_mem (List.mem_of_getElem? (i := 1030) (by decide +kernel)) (by decide +kernel)), List.forall_mem_cons.mpr ⟨(ws_mem (List.mem_of_getElem? (i := 26) (by decide +kernel)) (by decide +kernel)), List.forall_mem_cons.mpr ⟨(ws_mem (List.mem_of_getElem? (i := 64) (by decide +kernel)) (by decide +kernel)), List.forall_mem_cons.mpr ⟨(ws_mem (List.mem_of_getElem? (i := 1031) (by decide +kernel)) (by decide +kernel)), fun _ h => absurd h List.not_mem_nil⟩⟩⟩⟩⟩) rfl (by unfold nice; decide +kernel) (by unfold rfits; decide) ⟨rfl, rfl⟩
  · cases h; exact cal_V mX9_limitOf (by decide) rfl (List.forall_mem_cons.mpr ⟨(ws_mem (List.mem_of_getElem? (i := 1020) (by decide +kernel)) (by decide +kernel)), List.forall_mem_cons.mpr ⟨(ws_mem (List.mem_of_getElem? (i := 1022) (by decide +kernel)) (by decide +kernel)), List.forall_mem_cons.mpr ⟨(ws_mem (List.mem_of_getElem? (i := 25) (by decide +kernel)) (by decide +kernel)), List.forall_mem_cons.mpr ⟨(ws_mem (List.mem_of_getElem? (i := 64) (by decide +kernel)) (by decide +kernel)), List.forall_mem_cons.mpr ⟨(ws_mem (List.mem_of_getElem? (i := 1023) (by decide +kernel)) (by decide +kernel)), fun _ h => absurd h List.not_mem_nil⟩⟩⟩⟩⟩) rfl (by unfold nice; decide +kernel) (by unfold rfits; decide) ⟨rfl, rfl⟩
  · cases h; exact cal_V mX9_onTo (by decide) rfl (List.forall_mem_cons.mpr ⟨(ws_mem (List.mem_of_getElem? (i := 1077) (by decide +kernel)) (by decide +kernel)), List.forall_mem_cons.mpr ⟨(ws_mem (List.mem_of_getElem? (i := 1079) (by decide +kernel)) (by decide +kernel)), List.forall_mem_cons.mpr ⟨(ws_mem (List.mem_of_getElem? (i := 34) (by decide +kernel)) (by decide +kernel)), List.forall_mem_cons.mpr ⟨(ws_mem (List.mem_of_getElem? (i := 64) (by decide +kernel)) (by decide +kernel)), List.forall_mem_cons.mpr ⟨(ws_mem (List.mem_of_getElem? (i := 1080) (by decide +kernel)) (by decide +kernel)), fun _ h => absurd h List.not_mem_nil⟩⟩⟩⟩⟩) rfl (by unfold nice; decide +kernel) (by unfold rfits; decide) ⟨rfl, rfl⟩
  · cases h; exact cal_V mX9_at (by decide) rfl (List.forall_mem_cons.mpr ⟨(ws_mem (List.mem_of_getElem? (i := 1085) (by decide +kernel)) (by decide +kernel)), List.forall_mem_cons.mpr ⟨(ws_mem (List.mem_of_getElem? (i := 1087) (by decide +kernel)) (by decide +kernel)), List.forall_mem_cons.mpr ⟨(ws_mem (List.mem_of_getElem? (i := 36) (by decide +kernel)) (by decide +kernel)), List.forall_mem_cons.mpr ⟨(ws_mem (List.mem_of_getElem? (i := 64) (by decide +kernel)) (by decide +kernel)), List.forall_mem_cons.mpr ⟨(ws_mem (List.mem_of_getElem? (i := 1088) (by decide +kernel)) (by decide +kernel)), fun _ h => absurd h List.not_mem_nil⟩⟩⟩⟩⟩) rfl (by unfold nice; decide +kernel) (by unfold rfits; decide) ⟨rfl, rfl⟩
  · cases h; exact cal_V mX9_firstOn (by decide) rfl (List.forall_mem_cons.mpr ⟨(ws_mem (List.mem_of_getElem? (i := 1089) (by decide +kernel)) (by decide +kernel)), List.forall_mem_cons.mpr ⟨(ws_mem (List.mem_of_getElem? (i := 1091) (by decide +kernel)) (by decide +kernel)), List.forall_mem_cons.mpr ⟨(ws_mem (List.mem_of_getElem? (i := 37) (by decide +kernel)) (by decide +kernel)), List.forall_mem_cons.mpr ⟨(ws_mem (List.mem_of_getElem? (i := 64) (by decide +kernel)) (by decide +kernel)), List.forall_mem_cons.mpr ⟨(ws_mem (List.mem_of_getElem? (i := 1092) (by decide +kernel)) (by decide +kernel)), fun _ h => absurd h List.not_mem_nil⟩⟩⟩⟩⟩) rfl (by unfold nice; decide +kernel) (by unfold rfits; decide) ⟨rfl, rfl⟩
  · cases h
theorem ocX9_work_152 (f : Nat → Nat → Nat → Nat → (List MV → MS → (Option MV → MS → Prop) → Prop) → Prop) : oC aX9_work 152 f = f 2 9 0 0 spX9_reachOf := propext Iff.rfl
theorem ocX9_work_148 (f : Nat → Nat → Nat → Nat → (List MV → MS → (Option MV → MS → Prop) → Prop) → Prop) : oC aX9_work 148 f = f 4 9 0 0 spX9_limitOf := propext Iff.rfl
theorem ocX9_work_182 (f : Nat → Nat → Nat → Nat → (List MV → MS → (Option MV → MS → Prop) → Prop) → Prop) : oC aX9_work 182 f = f 5 9 0 0 spX9_onTo := propext Iff.rfl
theorem ocX9_work_179 (f : Nat → Nat → Nat → Nat → (List MV → MS → (Option MV → MS → Prop) → Prop) → Prop) : oC aX9_work 179 f = f 4 9 0 0 spX9_at := propext Iff.rfl
theorem ocX9_work_186 (f : Nat → Nat → Nat → Nat → (List MV → MS → (Option MV → MS → Prop) → Prop) → Prop) : oC aX9_work 186 f = f 2 9 0 0 spX9_firstOn := propext Iff.rfl
theorem mdX9_work : MD RX9 cX9_work rmX9_work kX9_work fX9 aX9_work zX9 uX9 := ⟨fokX9, zokX9, uokX9, aokX9_work, qX9_work⟩
set_option maxHeartbeats 1600000 in
set_option maxRecDepth 100000 in
/-- over the lanes of the next station -/
theorem lpX9_wd {post : Option MV → MS → Prop} {U : Pt → Prop} {N : Nat} {I L : Int → Int → Int} {g i l p : Int} (ht : tOK (VM I)) (hc : carOK (VM I)) (hw : wlOK I g) (i0 : 0 ≤ i) (i1 : i + 1 < I 240 1) (hl : 0 ≤ l ∧ l ≤ 2) (p0 : 1 ≤ p) (p1 : p ≤ 60) (hp : p ≤ I 254 (3 * i + l)) (hn : ∀ l p, 0 ≤ l → l ≤ 2 → 1 ≤ p → p ≤ 60 → rwOK I L g (i + 1) l p)
    (h : ∀ (v : Int) (t7 t8 t9 : Option MV), 0 ≤ v → v ≤ 1000000000000 → Lst (fun y => ∃ nx, 0 ≤ nx ∧ nx < 3 ∧ nr l nx ∧ onS2 I L i l p nx 61 y) 1000000000000 v → Ok RX9 cX9_work 10 rmX9_work false none post U (187, [some (.inr (.inr (some 240))), some (.inl g), some (.inl i), some (.inl l), some (.inl p), some (.inr (.inl v)), none, t7, t8, t9], [], (N, PF, I, L), 0, 0)) :
    ∀ (m : Nat) (x v : Int) (t8 t9 : Option MV), x + m = 3 → 0 ≤ x → 0 ≤ v → v ≤ 1000000000000 → Lst (fun y => ∃ nx, 0 ≤ nx ∧ nx < x ∧ nr l nx ∧ onS2 I L i l p nx 61 y) 1000000000000 v →
    Ok RX9 cX9_work 10 rmX9_work false none post U (121, [some (.inr (.inr (some 240))), some (.inl g), some (.inl i), some (.inl l), some (.inl p), some (.inr (.inl v)), none, some (.inl x), t8, t9], [], (N, PF, I, L), 0, 0)
  | 0, x, v, t8, t9, hx, x0, v0, v1, h1 => by
    refine Ok.seg mdX9_work [121, 187] 12 ?_
    simp only [wp_nil, wp_cons, ↓stp, ↓lI, ↓lL, ↓lR, ↓lIn_0, ↓lIn_1, ↓lIn_2, ↓lIn_3, ↓lLn_0, ↓lLn_1, ↓lLn_2, ↓lLn_3, ↓lRn_0, ↓lRn_1, ↓lRn_2, ↓lRn_3, ↓pI, ↓pL, ↓pR, ↓pA, ↓pN, ↓pV, ↓fp, ↓tsw, ↓oS, ↓spMax, ↓spMin, ↓spAbs, ↓spObj, RI, RLg, b2i_lo, b2i_hi, getL, setL, ltL, killL, isLong, inl, cnd, br, tgt, rcv, rpl, mputI, mputL, mputP, fv, fr, mcat, mcs, entL, entA, rfit, nf_0, nf_1, nf_2, nf_3, nf2_0, nf2_1, b2i_0, b2i_1, RI_b2i, b2i_fit, List.append, List.length, List.replicate, List.cons_append, List.nil_append, List.length_cons, List.length_nil, List.replicate_succ, List.replicate_zero, List.tail_cons, reduceIte, if_true, if_false, ite_true, ite_false, Bool.false_eq_true, true_and, and_true, and_self, false_and, and_false, or_self, or_true, true_or, or_false, false_or, not_true_eq_false, not_false_eq_true, ne_eq, forall_const, implies_true, imp_self, true_implies, false_implies, Nat.reduceAdd, Nat.reduceSub, Nat.reduceMul, Nat.reduceDiv, Nat.reduceMod, Nat.reduceEqDiff, Nat.reduceLT, Nat.reduceLeDiff, Nat.reduceBEq, Nat.add_zero, Nat.zero_add, Nat.le_refl, Nat.not_lt_zero, Nat.succ_eq_add_one, Int.reduceNatCast, Int.cast_ofNat_Int, Int.reduceSub, Int.reduceMul, Int.reduceNeg, Int.reduceLE, Int.reduceLT, Int.reduceToNat, Int.reduceEq, Int.reduceNe, Int.reduceAdd, Option.some.injEq, kX9_work, rmX9_work, ↓ofX9_13, ↓ofX9_64, ↓ofX9_67, ↓ofX9_70, ↓ozX9_174, ↓ocX9_work_152, ↓spX9_reachOf, ↓ocX9_work_148, ↓spX9_limitOf, ↓ocX9_work_182, ↓spX9_onTo, ↓ocX9_work_179, ↓spX9_at, ↓ocX9_work_186, ↓spX9_firstOn, G_240, G_241, G_242, G_243, G_244, G_245, G_246, G_247, G_248, G_249, G_250, G_251, G_252, G_253, G_254, G_255, G_256, G_257, G_258, G_259, G_260, G_261, G_262, G_263, G_264, G_265, G_266, G_267, G_268, G_269, G_270, G_271, G_272, PF_240_6, PF_240_7, PF_240_8, PF_240_9, PF_240_10, PF_240_11, PF_240_12, PF_240_13, PF_240_14, PF_240_15, PF_240_16, PF_240_17, PF_240_18, PF_240_19, PF_240_20, PF_240_21, PF_240_22, PF_240_23, PF_240_24, PF_240_26, PF_240_27, PF_240_28, PF_240_29, PF_240_30, PF_240_31, PF_240_32, PF_240_33, PF_240_34, PF_240_35, PF_240_36, PF_240_37]
    rw [show x = 3 by omega] at h1 ⊢
    exact ⟨by omega, fun _ => h v _ _ _ v0 v1 h1, fun q => by omega⟩
  | m + 1, x, v, t8, t9, hx, x0, v0, v1, h1 => by
    have ih := fun v => lpX9_wd (U := U) (post := post) ht hc hw i0 i1 hl p0 p1 hp hn h m (x + 1) v
    have y2 : I 240 1 ≤ 30 := ht.2.1
    have hst := stM ht (i := i + 1) (by omega) i1
    have hli := hw.2 (i + 1) x (by omega) i1 x0 (by omega)
    have hlr := lim_rng (VM I (5 + (i + 1)) 0) (VM I (5 + (i + 1)) 2) (VM I (5 + (i + 1)) 3) x g
    have hlm : lmv (VM I) g (i + 1) x = lim (VM I (5 + (i + 1)) 0) (VM I (5 + (i + 1)) 2) (VM I (5 + (i + 1)) 3) x g := rfl
    have hlo := hw.2 i l i0 (by omega) hl.1 hl.2
    have hlr0 := lim_rng (VM I (5 + i) 0) (VM I (5 + i) 2) (VM I (5 + i) 3) l g
    have hlm0 : lmv (VM I) g i l = lim (VM I (5 + i) 0) (VM I (5 + i) 2) (VM I (5 + i) 3) l g := rfl
    have hrp := hw.1 p p0 p1
    have hrr := rch_rng (p := p) (show gOK (I 246) (I 247) from hc.1.1) p1
    have hnn := hc.2
    unfold nOK at hnn
    rw [VM_36_0, VM_36_1, VM_36_2] at hnn
    have hrow : rowM L (i + 1) x := rw_rowM (fun q a b => hn x q x0 (by omega) a b)
    have step : ∀ r w, Lst (fun y => nr l x ∧ onS2 I L i l p x 61 y) 1000000000000 r → w ≤ v → w ≤ r → (w = v ∨ w = r) → 0 ≤ w → ∀ t8 t9, Ok RX9 cX9_work 10 rmX9_work false none post U (121, [some (.inr (.inr (some 240))), some (.inl g), some (.inl i), some (.inl l), some (.inl p), some (.inr (.inl w)), none, some (.inl (x + 1)), t8, t9], [], (N, PF, I, L), 0, 0) := fun r w hr a b c d t8 t9 => by
      refine ih w t8 t9 (by omega) (by omega) d (by omega) (h1.two hr (fun y => ?_) a b c)
      constructor
      · rintro ⟨nx, e1, e2, e3⟩
        by_cases z : nx = x
        · subst z; exact .inr e3
        · exact .inl ⟨nx, e1, by omega, e3⟩
      · rintro (⟨nx, e1, e2, e3⟩ | e3)
        · exact ⟨nx, e1, by omega, e3⟩
        · exact ⟨x, x0, by omega, e3⟩
    refine Ok.seg mdX9_work [121, 187] 60 ?_
    simp only [wp_nil, wp_cons, ↓stp, ↓lI, ↓lL, ↓lR, ↓lIn_0, ↓lIn_1, ↓lIn_2, ↓lIn_3, ↓lLn_0, ↓lLn_1, ↓lLn_2, ↓lLn_3, ↓lRn_0, ↓lRn_1, ↓lRn_2, ↓lRn_3, ↓pI, ↓pL, ↓pR, ↓pA, ↓pN, ↓pV, ↓fp, ↓tsw, ↓oS, ↓spMax, ↓spMin, ↓spAbs, ↓spObj, RI, RLg, b2i_lo, b2i_hi, getL, setL, ltL, killL, isLong, inl, cnd, br, tgt, rcv, rpl, mputI, mputL, mputP, fv, fr, mcat, mcs, entL, entA, rfit, nf_0, nf_1, nf_2, nf_3, nf2_0, nf2_1, b2i_0, b2i_1, RI_b2i, b2i_fit, List.append, List.length, List.replicate, List.cons_append, List.nil_append, List.length_cons, List.length_nil, List.replicate_succ, List.replicate_zero, List.tail_cons, reduceIte, if_true, if_false, ite_true, ite_false, Bool.false_eq_true, true_and, and_true, and_self, false_and, and_false, or_self, or_true, true_or, or_false, false_or, not_true_eq_false, not_false_eq_true, ne_eq, forall_const, implies_true, imp_self, true_implies, false_implies, Nat.reduceAdd, Nat.reduceSub, Nat.reduceMul, Nat.reduceDiv, Nat.reduceMod, Nat.reduceEqDiff, Nat.reduceLT, Nat.reduceLeDiff, Nat.reduceBEq, Nat.add_zero, Nat.zero_add, Nat.le_refl, Nat.not_lt_zero, Nat.succ_eq_add_one, Int.reduceNatCast, Int.cast_ofNat_Int, Int.reduceSub, Int.reduceMul, Int.reduceNeg, Int.reduceLE, Int.reduceLT, Int.reduceToNat, Int.reduceEq, Int.reduceNe, Int.reduceAdd, Option.some.injEq, kX9_work, rmX9_work, ↓ofX9_13, ↓ofX9_64, ↓ofX9_67, ↓ofX9_70, ↓ozX9_174, ↓ocX9_work_152, ↓spX9_reachOf, ↓ocX9_work_148, ↓spX9_limitOf, ↓ocX9_work_182, ↓spX9_onTo, ↓ocX9_work_179, ↓spX9_at, ↓ocX9_work_186, ↓spX9_firstOn, lcm_lo, lcm_hi, lcm_ge, hrow, G_240, G_241, G_242, G_243, G_244, G_245, G_246, G_247, G_248, G_249, G_250, G_251, G_252, G_253, G_254, G_255, G_256, G_257, G_258, G_259, G_260, G_261, G_262, G_263, G_264, G_265, G_266, G_267, G_268, G_269, G_270, G_271, G_272, PF_240_6, PF_240_7, PF_240_8, PF_240_9, PF_240_10, PF_240_11, PF_240_12, PF_240_13, PF_240_14, PF_240_15, PF_240_16, PF_240_17, PF_240_18, PF_240_19, PF_240_20, PF_240_21, PF_240_22, PF_240_23, PF_240_24, PF_240_26, PF_240_27, PF_240_28, PF_240_29, PF_240_30, PF_240_31, PF_240_32, PF_240_33, PF_240_34, PF_240_35, PF_240_36, PF_240_37]
    refine ⟨by omega, fun q => by omega, fun q => ⟨by omega, by omega, fun q2 => by omega, fun q2 => ⟨by omega, by omega, by omega, by omega, fun q3 => by omega, fun q3 => ?_⟩⟩⟩
    repeat refine ⟨by omega, ?_⟩
    refine fun r r0 r1 hr => ⟨by omega, by omega, fun z => ?_, fun z => ?_⟩
    · exact step r v hr (by omega) z (.inl rfl) v0 _ _
    · exact step r r hr (by omega) (by omega) (.inr rfl) r0 _ _
def upL (L : Int → Int → Int) (a i v : Int) : Int → Int → Int := upI L a i v
theorem rw_cg {I L L' : Int → Int → Int} {g i l p : Int} (h : L' 252 ((3 * i + l) * 61 + p) = L 252 ((3 * i + l) * 61 + p)) (hr : rwOK I L g i l p) : rwOK I L' g i l p := by unfold rwOK; rw [h]; exact hr
set_option maxHeartbeats 1600000 in
set_option maxRecDepth 100000 in
/-- over the paces -/
theorem lpX9_wc {post : Option MV → MS → Prop} {U : Pt → Prop} {N : Nat} {I L : Int → Int → Int} {g i l : Int} (ht : tOK (VM I)) (hc : carOK (VM I)) (hw : wlOK I g) (i0 : 0 ≤ i) (i1 : i < I 240 1) (hl : 0 ≤ l ∧ l ≤ 2)
    (h : ∀ (L1 : Int → Int → Int) (t4 t5 t6 t7 t8 t9 : Option MV), (∀ b k, ¬ (b = 252 ∧ (3 * i + l) * 61 < k ∧ k ≤ (3 * i + l) * 61 + 60) → L1 b k = L b k) → (∀ p, 1 ≤ p → p ≤ 60 → rwOK I L1 g i l p) → Ok RX9 cX9_work 10 rmX9_work false none post U (208, [some (.inr (.inr (some 240))), some (.inl g), some (.inl i), some (.inl l), t4, t5, t6, t7, t8, t9], [], (N, PF, I, L1), 0, 0)) (hn : i + 1 < I 240 1 → ∀ l p, 0 ≤ l → l ≤ 2 → 1 ≤ p → p ≤ 60 → rwOK I L g (i + 1) l p) :
    ∀ (m : Nat) (p : Int) (L1 : Int → Int → Int) (t5 t6 t7 t8 t9 : Option MV), p + m = 61 → 1 ≤ p → (∀ b k, ¬ (b = 252 ∧ (3 * i + l) * 61 < k ∧ k ≤ (3 * i + l) * 61 + 60) → L1 b k = L b k) → (∀ p', 1 ≤ p' → p' < p → rwOK I L1 g i l p') →
    Ok RX9 cX9_work 10 rmX9_work false none post U (92, [some (.inr (.inr (some 240))), some (.inl g), some (.inl i), some (.inl l), some (.inl p), t5, t6, t7, t8, t9], [], (N, PF, I, L1), 0, 0)
  | 0, p, L1, t5, t6, t7, t8, t9, hp, p0, h1, h2 => by
    refine Ok.seg mdX9_work [92, 208] 12 ?_
    simp only [wp_nil, wp_cons, ↓stp, ↓lI, ↓lL, ↓lR, ↓lIn_0, ↓lIn_1, ↓lIn_2, ↓lIn_3, ↓lLn_0, ↓lLn_1, ↓lLn_2, ↓lLn_3, ↓lRn_0, ↓lRn_1, ↓lRn_2, ↓lRn_3, ↓pI, ↓pL, ↓pR, ↓pA, ↓pN, ↓pV, ↓fp, ↓tsw, ↓oS, ↓spMax, ↓spMin, ↓spAbs, ↓spObj, RI, RLg, b2i_lo, b2i_hi, getL, setL, ltL, killL, isLong, inl, cnd, br, tgt, rcv, rpl, mputI, mputL, mputP, fv, fr, mcat, mcs, entL, entA, rfit, nf_0, nf_1, nf_2, nf_3, nf2_0, nf2_1, b2i_0, b2i_1, RI_b2i, b2i_fit, List.append, List.length, List.replicate, List.cons_append, List.nil_append, List.length_cons, List.length_nil, List.replicate_succ, List.replicate_zero, List.tail_cons, reduceIte, if_true, if_false, ite_true, ite_false, Bool.false_eq_true, true_and, and_true, and_self, false_and, and_false, or_self, or_true, true_or, or_false, false_or, not_true_eq_false, not_false_eq_true, ne_eq, forall_const, implies_true, imp_self, true_implies, false_implies, Nat.reduceAdd, Nat.reduceSub, Nat.reduceMul, Nat.reduceDiv, Nat.reduceMod, Nat.reduceEqDiff, Nat.reduceLT, Nat.reduceLeDiff, Nat.reduceBEq, Nat.add_zero, Nat.zero_add, Nat.le_refl, Nat.not_lt_zero, Nat.succ_eq_add_one, Int.reduceNatCast, Int.cast_ofNat_Int, Int.reduceSub, Int.reduceMul, Int.reduceNeg, Int.reduceLE, Int.reduceLT, Int.reduceToNat, Int.reduceEq, Int.reduceNe, Int.reduceAdd, Option.some.injEq, kX9_work, rmX9_work, ↓ofX9_13, ↓ofX9_64, ↓ofX9_67, ↓ofX9_70, ↓ozX9_174, ↓ocX9_work_152, ↓spX9_reachOf, ↓ocX9_work_148, ↓spX9_limitOf, ↓ocX9_work_182, ↓spX9_onTo, ↓ocX9_work_179, ↓spX9_at, ↓ocX9_work_186, ↓spX9_firstOn, G_240, G_241, G_242, G_243, G_244, G_245, G_246, G_247, G_248, G_249, G_250, G_251, G_252, G_253, G_254, G_255, G_256, G_257, G_258, G_259, G_260, G_261, G_262, G_263, G_264, G_265, G_266, G_267, G_268, G_269, G_270, G_271, G_272, PF_240_6, PF_240_7, PF_240_8, PF_240_9, PF_240_10, PF_240_11, PF_240_12, PF_240_13, PF_240_14, PF_240_15, PF_240_16, PF_240_17, PF_240_18, PF_240_19, PF_240_20, PF_240_21, PF_240_22, PF_240_23, PF_240_24, PF_240_26, PF_240_27, PF_240_28, PF_240_29, PF_240_30, PF_240_31, PF_240_32, PF_240_33, PF_240_34, PF_240_35, PF_240_36, PF_240_37]
    exact ⟨by omega, fun _ => h L1 _ _ _ _ _ _ h1 (fun p' a b => h2 p' a (by omega)), fun q => by omega⟩
  | m + 1, p, L1, t5, t6, t7, t8, t9, hp, p0, h1, h2 => by
    have ih := lpX9_wc (U := U) (post := post) (N := N) ht hc hw i0 i1 hl h hn m (p + 1)
    have y2 : I 240 1 ≤ 30 := ht.2.1
    have hlo := hw.2 i l i0 i1 hl.1 hl.2
    have hlr0 := lim_rng (VM I (5 + i) 0) (VM I (5 + i) 2) (VM I (5 + i) 3) l g
    have hlm0 : lmv (VM I) g i l = lim (VM I (5 + i) 0) (VM I (5 + i) 2) (VM I (5 + i) 3) l g := rfl
    have fin : ∀ (v : Int) (t7 t8 t9 : Option MV), 0 ≤ v → v ≤ 1000000000000 → (p ≤ lmv (VM I) g i l → Lst (AchE (VM I) g (I 240 3) (kk (VM I) i) i l p) 1000000000000 v) → Ok RX9 cX9_work 10 rmX9_work false none post U (187, [some (.inr (.inr (some 240))), some (.inl g), some (.inl i), some (.inl l), some (.inl p), some (.inr (.inl v)), none, t7, t8, t9], [], (N, PF, I, L1), 0, 0) := fun v t7 t8 t9 v0 v1 hv => by
      refine Ok.seg mdX9_work [92] 20 ?_
      simp only [wp_nil, wp_cons, ↓stp, ↓lI, ↓lL, ↓lR, ↓lIn_0, ↓lIn_1, ↓lIn_2, ↓lIn_3, ↓lLn_0, ↓lLn_1, ↓lLn_2, ↓lLn_3, ↓lRn_0, ↓lRn_1, ↓lRn_2, ↓lRn_3, ↓pI, ↓pL, ↓pR, ↓pA, ↓pN, ↓pV, ↓fp, ↓tsw, ↓oS, ↓spMax, ↓spMin, ↓spAbs, ↓spObj, RI, RLg, b2i_lo, b2i_hi, getL, setL, ltL, killL, isLong, inl, cnd, br, tgt, rcv, rpl, mputI, mputL, mputP, fv, fr, mcat, mcs, entL, entA, rfit, nf_0, nf_1, nf_2, nf_3, nf2_0, nf2_1, b2i_0, b2i_1, RI_b2i, b2i_fit, List.append, List.length, List.replicate, List.cons_append, List.nil_append, List.length_cons, List.length_nil, List.replicate_succ, List.replicate_zero, List.tail_cons, reduceIte, if_true, if_false, ite_true, ite_false, Bool.false_eq_true, true_and, and_true, and_self, false_and, and_false, or_self, or_true, true_or, or_false, false_or, not_true_eq_false, not_false_eq_true, ne_eq, forall_const, implies_true, imp_self, true_implies, false_implies, Nat.reduceAdd, Nat.reduceSub, Nat.reduceMul, Nat.reduceDiv, Nat.reduceMod, Nat.reduceEqDiff, Nat.reduceLT, Nat.reduceLeDiff, Nat.reduceBEq, Nat.add_zero, Nat.zero_add, Nat.le_refl, Nat.not_lt_zero, Nat.succ_eq_add_one, Int.reduceNatCast, Int.cast_ofNat_Int, Int.reduceSub, Int.reduceMul, Int.reduceNeg, Int.reduceLE, Int.reduceLT, Int.reduceToNat, Int.reduceEq, Int.reduceNe, Int.reduceAdd, Option.some.injEq, kX9_work, rmX9_work, ↓ofX9_13, ↓ofX9_64, ↓ofX9_67, ↓ofX9_70, ↓ozX9_174, ↓ocX9_work_152, ↓spX9_reachOf, ↓ocX9_work_148, ↓spX9_limitOf, ↓ocX9_work_182, ↓spX9_onTo, ↓ocX9_work_179, ↓spX9_at, ↓ocX9_work_186, ↓spX9_firstOn, G_240, G_241, G_242, G_243, G_244, G_245, G_246, G_247, G_248, G_249, G_250, G_251, G_252, G_253, G_254, G_255, G_256, G_257, G_258, G_259, G_260, G_261, G_262, G_263, G_264, G_265, G_266, G_267, G_268, G_269, G_270, G_271, G_272, PF_240_6, PF_240_7, PF_240_8, PF_240_9, PF_240_10, PF_240_11, PF_240_12, PF_240_13, PF_240_14, PF_240_15, PF_240_16, PF_240_17, PF_240_18, PF_240_19, PF_240_20, PF_240_21, PF_240_22, PF_240_23, PF_240_24, PF_240_26, PF_240_27, PF_240_28, PF_240_29, PF_240_30, PF_240_31, PF_240_32, PF_240_33, PF_240_34, PF_240_35, PF_240_36, PF_240_37]
      refine ⟨by omega, by omega, ih _ _ _ _ _ _ (by omega) (by omega) (fun b k hb => by rw [show upI L1 252 ((3 * i + l) * 61 + p) v b k = L1 b k from if_neg (fun z => hb (by omega))]; exact h1 b k hb) (fun p' a b => ?_)⟩
      by_cases z : p' = p
      · subst z
        unfold rwOK
        rw [upI_same]
        exact ⟨⟨v0, v1⟩, hv⟩
      · exact rw_cg (upI_nj (by omega)) (h2 p' a (by omega))
    by_cases hlast : i = I 240 1 - 1
    · refine Ok.seg mdX9_work [121, 187] 20 ?_
      simp only [wp_nil, wp_cons, ↓stp, ↓lI, ↓lL, ↓lR, ↓lIn_0, ↓lIn_1, ↓lIn_2, ↓lIn_3, ↓lLn_0, ↓lLn_1, ↓lLn_2, ↓lLn_3, ↓lRn_0, ↓lRn_1, ↓lRn_2, ↓lRn_3, ↓pI, ↓pL, ↓pR, ↓pA, ↓pN, ↓pV, ↓fp, ↓tsw, ↓oS, ↓spMax, ↓spMin, ↓spAbs, ↓spObj, RI, RLg, b2i_lo, b2i_hi, getL, setL, ltL, killL, isLong, inl, cnd, br, tgt, rcv, rpl, mputI, mputL, mputP, fv, fr, mcat, mcs, entL, entA, rfit, nf_0, nf_1, nf_2, nf_3, nf2_0, nf2_1, b2i_0, b2i_1, RI_b2i, b2i_fit, List.append, List.length, List.replicate, List.cons_append, List.nil_append, List.length_cons, List.length_nil, List.replicate_succ, List.replicate_zero, List.tail_cons, reduceIte, if_true, if_false, ite_true, ite_false, Bool.false_eq_true, true_and, and_true, and_self, false_and, and_false, or_self, or_true, true_or, or_false, false_or, not_true_eq_false, not_false_eq_true, ne_eq, forall_const, implies_true, imp_self, true_implies, false_implies, Nat.reduceAdd, Nat.reduceSub, Nat.reduceMul, Nat.reduceDiv, Nat.reduceMod, Nat.reduceEqDiff, Nat.reduceLT, Nat.reduceLeDiff, Nat.reduceBEq, Nat.add_zero, Nat.zero_add, Nat.le_refl, Nat.not_lt_zero, Nat.succ_eq_add_one, Int.reduceNatCast, Int.cast_ofNat_Int, Int.reduceSub, Int.reduceMul, Int.reduceNeg, Int.reduceLE, Int.reduceLT, Int.reduceToNat, Int.reduceEq, Int.reduceNe, Int.reduceAdd, Option.some.injEq, kX9_work, rmX9_work, ↓ofX9_13, ↓ofX9_64, ↓ofX9_67, ↓ofX9_70, ↓ozX9_174, ↓ocX9_work_152, ↓spX9_reachOf, ↓ocX9_work_148, ↓spX9_limitOf, ↓ocX9_work_182, ↓spX9_onTo, ↓ocX9_work_179, ↓spX9_at, ↓ocX9_work_186, ↓spX9_firstOn, G_240, G_241, G_242, G_243, G_244, G_245, G_246, G_247, G_248, G_249, G_250, G_251, G_252, G_253, G_254, G_255, G_256, G_257, G_258, G_259, G_260, G_261, G_262, G_263, G_264, G_265, G_266, G_267, G_268, G_269, G_270, G_271, G_272, PF_240_6, PF_240_7, PF_240_8, PF_240_9, PF_240_10, PF_240_11, PF_240_12, PF_240_13, PF_240_14, PF_240_15, PF_240_16, PF_240_17, PF_240_18, PF_240_19, PF_240_20, PF_240_21, PF_240_22, PF_240_23, PF_240_24, PF_240_26, PF_240_27, PF_240_28, PF_240_29, PF_240_30, PF_240_31, PF_240_32, PF_240_33, PF_240_34, PF_240_35, PF_240_36, PF_240_37]
      refine ⟨by omega, fun q => by omega, fun q => ⟨by omega, by omega, fun q2 => by omega, fun q2 => ?_⟩⟩
      refine Ok.seg mdX9_work [187] 20 ?_
      simp only [wp_nil, wp_cons, ↓stp, ↓lI, ↓lL, ↓lR, ↓lIn_0, ↓lIn_1, ↓lIn_2, ↓lIn_3, ↓lLn_0, ↓lLn_1, ↓lLn_2, ↓lLn_3, ↓lRn_0, ↓lRn_1, ↓lRn_2, ↓lRn_3, ↓pI, ↓pL, ↓pR, ↓pA, ↓pN, ↓pV, ↓fp, ↓tsw, ↓oS, ↓spMax, ↓spMin, ↓spAbs, ↓spObj, RI, RLg, b2i_lo, b2i_hi, getL, setL, ltL, killL, isLong, inl, cnd, br, tgt, rcv, rpl, mputI, mputL, mputP, fv, fr, mcat, mcs, entL, entA, rfit, nf_0, nf_1, nf_2, nf_3, nf2_0, nf2_1, b2i_0, b2i_1, RI_b2i, b2i_fit, List.append, List.length, List.replicate, List.cons_append, List.nil_append, List.length_cons, List.length_nil, List.replicate_succ, List.replicate_zero, List.tail_cons, reduceIte, if_true, if_false, ite_true, ite_false, Bool.false_eq_true, true_and, and_true, and_self, false_and, and_false, or_self, or_true, true_or, or_false, false_or, not_true_eq_false, not_false_eq_true, ne_eq, forall_const, implies_true, imp_self, true_implies, false_implies, Nat.reduceAdd, Nat.reduceSub, Nat.reduceMul, Nat.reduceDiv, Nat.reduceMod, Nat.reduceEqDiff, Nat.reduceLT, Nat.reduceLeDiff, Nat.reduceBEq, Nat.add_zero, Nat.zero_add, Nat.le_refl, Nat.not_lt_zero, Nat.succ_eq_add_one, Int.reduceNatCast, Int.cast_ofNat_Int, Int.reduceSub, Int.reduceMul, Int.reduceNeg, Int.reduceLE, Int.reduceLT, Int.reduceToNat, Int.reduceEq, Int.reduceNe, Int.reduceAdd, Option.some.injEq, kX9_work, rmX9_work, ↓ofX9_13, ↓ofX9_64, ↓ofX9_67, ↓ofX9_70, ↓ozX9_174, ↓ocX9_work_152, ↓spX9_reachOf, ↓ocX9_work_148, ↓spX9_limitOf, ↓ocX9_work_182, ↓spX9_onTo, ↓ocX9_work_179, ↓spX9_at, ↓ocX9_work_186, ↓spX9_firstOn, G_240, G_241, G_242, G_243, G_244, G_245, G_246, G_247, G_248, G_249, G_250, G_251, G_252, G_253, G_254, G_255, G_256, G_257, G_258, G_259, G_260, G_261, G_262, G_263, G_264, G_265, G_266, G_267, G_268, G_269, G_270, G_271, G_272, PF_240_6, PF_240_7, PF_240_8, PF_240_9, PF_240_10, PF_240_11, PF_240_12, PF_240_13, PF_240_14, PF_240_15, PF_240_16, PF_240_17, PF_240_18, PF_240_19, PF_240_20, PF_240_21, PF_240_22, PF_240_23, PF_240_24, PF_240_26, PF_240_27, PF_240_28, PF_240_29, PF_240_30, PF_240_31, PF_240_32, PF_240_33, PF_240_34, PF_240_35, PF_240_36, PF_240_37]
      exact ⟨by omega, by omega, fun _ => fin 0 _ _ _ (by omega) (by omega) (fun _ => rw_last hlast), fun q => by omega⟩
    · refine Ok.seg mdX9_work [121] 20 ?_
      simp only [wp_nil, wp_cons, ↓stp, ↓lI, ↓lL, ↓lR, ↓lIn_0, ↓lIn_1, ↓lIn_2, ↓lIn_3, ↓lLn_0, ↓lLn_1, ↓lLn_2, ↓lLn_3, ↓lRn_0, ↓lRn_1, ↓lRn_2, ↓lRn_3, ↓pI, ↓pL, ↓pR, ↓pA, ↓pN, ↓pV, ↓fp, ↓tsw, ↓oS, ↓spMax, ↓spMin, ↓spAbs, ↓spObj, RI, RLg, b2i_lo, b2i_hi, getL, setL, ltL, killL, isLong, inl, cnd, br, tgt, rcv, rpl, mputI, mputL, mputP, fv, fr, mcat, mcs, entL, entA, rfit, nf_0, nf_1, nf_2, nf_3, nf2_0, nf2_1, b2i_0, b2i_1, RI_b2i, b2i_fit, List.append, List.length, List.replicate, List.cons_append, List.nil_append, List.length_cons, List.length_nil, List.replicate_succ, List.replicate_zero, List.tail_cons, reduceIte, if_true, if_false, ite_true, ite_false, Bool.false_eq_true, true_and, and_true, and_self, false_and, and_false, or_self, or_true, true_or, or_false, false_or, not_true_eq_false, not_false_eq_true, ne_eq, forall_const, implies_true, imp_self, true_implies, false_implies, Nat.reduceAdd, Nat.reduceSub, Nat.reduceMul, Nat.reduceDiv, Nat.reduceMod, Nat.reduceEqDiff, Nat.reduceLT, Nat.reduceLeDiff, Nat.reduceBEq, Nat.add_zero, Nat.zero_add, Nat.le_refl, Nat.not_lt_zero, Nat.succ_eq_add_one, Int.reduceNatCast, Int.cast_ofNat_Int, Int.reduceSub, Int.reduceMul, Int.reduceNeg, Int.reduceLE, Int.reduceLT, Int.reduceToNat, Int.reduceEq, Int.reduceNe, Int.reduceAdd, Option.some.injEq, kX9_work, rmX9_work, ↓ofX9_13, ↓ofX9_64, ↓ofX9_67, ↓ofX9_70, ↓ozX9_174, ↓ocX9_work_152, ↓spX9_reachOf, ↓ocX9_work_148, ↓spX9_limitOf, ↓ocX9_work_182, ↓spX9_onTo, ↓ocX9_work_179, ↓spX9_at, ↓ocX9_work_186, ↓spX9_firstOn, G_240, G_241, G_242, G_243, G_244, G_245, G_246, G_247, G_248, G_249, G_250, G_251, G_252, G_253, G_254, G_255, G_256, G_257, G_258, G_259, G_260, G_261, G_262, G_263, G_264, G_265, G_266, G_267, G_268, G_269, G_270, G_271, G_272, PF_240_6, PF_240_7, PF_240_8, PF_240_9, PF_240_10, PF_240_11, PF_240_12, PF_240_13, PF_240_14, PF_240_15, PF_240_16, PF_240_17, PF_240_18, PF_240_19, PF_240_20, PF_240_21, PF_240_22, PF_240_23, PF_240_24, PF_240_26, PF_240_27, PF_240_28, PF_240_29, PF_240_30, PF_240_31, PF_240_32, PF_240_33, PF_240_34, PF_240_35, PF_240_36, PF_240_37]
      refine ⟨by omega, fun q => by omega, fun q => ⟨by omega, by omega, fun q2 => ?_, fun q2 => by omega⟩⟩
      by_cases hpl : p ≤ I 254 (3 * i + l)
      · have hn1 : ∀ l p, 0 ≤ l → l ≤ 2 → 1 ≤ p → p ≤ 60 → rwOK I L1 g (i + 1) l p := fun l' p' a b c d => rw_cg (h1 _ _ (by omega)) (hn (by omega) l' p' a b c d)
        exact lpX9_wd ht hc hw i0 (by omega) hl p0 (by omega) hpl hn1 (fun v t7 t8 t9 v0 v1 hv => fin v t7 t8 t9 v0 v1 (fun _ => rw_step ht hw i0 (by omega) p0 (by omega) hn1 hv)) 3 0 _ _ _ (by omega) (by omega) (by omega) (by omega) (Lst.none (fun y ⟨nx, a, b, _⟩ => by omega))
      · refine Ok.seg mdX9_work [187] 30 ?_
        simp only [wp_nil, wp_cons, ↓stp, ↓lI, ↓lL, ↓lR, ↓lIn_0, ↓lIn_1, ↓lIn_2, ↓lIn_3, ↓lLn_0, ↓lLn_1, ↓lLn_2, ↓lLn_3, ↓lRn_0, ↓lRn_1, ↓lRn_2, ↓lRn_3, ↓pI, ↓pL, ↓pR, ↓pA, ↓pN, ↓pV, ↓fp, ↓tsw, ↓oS, ↓spMax, ↓spMin, ↓spAbs, ↓spObj, RI, RLg, b2i_lo, b2i_hi, getL, setL, ltL, killL, isLong, inl, cnd, br, tgt, rcv, rpl, mputI, mputL, mputP, fv, fr, mcat, mcs, entL, entA, rfit, nf_0, nf_1, nf_2, nf_3, nf2_0, nf2_1, b2i_0, b2i_1, RI_b2i, b2i_fit, List.append, List.length, List.replicate, List.cons_append, List.nil_append, List.length_cons, List.length_nil, List.replicate_succ, List.replicate_zero, List.tail_cons, reduceIte, if_true, if_false, ite_true, ite_false, Bool.false_eq_true, true_and, and_true, and_self, false_and, and_false, or_self, or_true, true_or, or_false, false_or, not_true_eq_false, not_false_eq_true, ne_eq, forall_const, implies_true, imp_self, true_implies, false_implies, Nat.reduceAdd, Nat.reduceSub, Nat.reduceMul, Nat.reduceDiv, Nat.reduceMod, Nat.reduceEqDiff, Nat.reduceLT, Nat.reduceLeDiff, Nat.reduceBEq, Nat.add_zero, Nat.zero_add, Nat.le_refl, Nat.not_lt_zero, Nat.succ_eq_add_one, Int.reduceNatCast, Int.cast_ofNat_Int, Int.reduceSub, Int.reduceMul, Int.reduceNeg, Int.reduceLE, Int.reduceLT, Int.reduceToNat, Int.reduceEq, Int.reduceNe, Int.reduceAdd, Option.some.injEq, kX9_work, rmX9_work, ↓ofX9_13, ↓ofX9_64, ↓ofX9_67, ↓ofX9_70, ↓ozX9_174, ↓ocX9_work_152, ↓spX9_reachOf, ↓ocX9_work_148, ↓spX9_limitOf, ↓ocX9_work_182, ↓spX9_onTo, ↓ocX9_work_179, ↓spX9_at, ↓ocX9_work_186, ↓spX9_firstOn, G_240, G_241, G_242, G_243, G_244, G_245, G_246, G_247, G_248, G_249, G_250, G_251, G_252, G_253, G_254, G_255, G_256, G_257, G_258, G_259, G_260, G_261, G_262, G_263, G_264, G_265, G_266, G_267, G_268, G_269, G_270, G_271, G_272, PF_240_6, PF_240_7, PF_240_8, PF_240_9, PF_240_10, PF_240_11, PF_240_12, PF_240_13, PF_240_14, PF_240_15, PF_240_16, PF_240_17, PF_240_18, PF_240_19, PF_240_20, PF_240_21, PF_240_22, PF_240_23, PF_240_24, PF_240_26, PF_240_27, PF_240_28, PF_240_29, PF_240_30, PF_240_31, PF_240_32, PF_240_33, PF_240_34, PF_240_35, PF_240_36, PF_240_37]
        exact ⟨by omega, by omega, fun _ => by omega, fun _ => ⟨by omega, by omega, by omega, by omega, fun _ => fin _ _ _ _ (by omega) (by omega) (fun z => by omega), fun q => by omega⟩⟩
