/-! LapBoardModel.findBest -/
/-- what the mathematics of the best way asks of the model's rows -/
def mB (I L : Int → Int → Int) (g B : Int) : Prop := tOK (VM I) ∧ carOK (VM I) ∧ wrkOK I L g ∧ 0 < I 240 1 ∧ LapE (VM I) g (I 240 3) (I 240 4) B ∧ ∀ x, LapE (VM I) g (I 240 3) (I 240 4) x → B ≤ x
theorem mB_F {I L : Int → Int → Int} {g B : Int} (h : mB I L g B) : 0 ≤ B ∧ B ≤ 3030000 := by
  obtain ⟨ht, hc, hw, hn, hB, hB2⟩ := h
  have := LapE_rng ht hn hB
  have := ht.2.1
  omega
def HsM (I : Int → Int → Int) (g B : Int) (ln : Int → Int) (i : Nat) (p : Int) : Prop := HsE (VM I) g (I 240 3) (I 240 4) B ln i p
def PreM (I : Int → Int → Int) (g : Int) (ln : Int → Int) (i : Nat) (p a : Int) : Prop := PreE (VM I) g (I 240 3) (I 240 4) ln i p a
def ahdOK (I L : Int → Int → Int) (g : Int) (ln : Int → Int) (i : Nat) : Prop := ∀ p, 1 ≤ p → p ≤ 60 → Lst (PreM I g ln i p) 1000000000000 (L 255 p)
theorem VM5 {I : Int → Int → Int} : VM I 5 1 = I 242 0 := (VM_st (I := I) (i := 0) (by omega) (by omega)).2.1
theorem fir_B {I L : Int → Int → Int} {g B l v : Int} {ln : Int → Int} (h : mB I L g B) (l0 : 0 ≤ l) (l1 : l ≤ 2) (hv : firV I L l v) : v = B ↔ ∃ p, HsM I g B (updL ln 0 l) 0 p := by
  have hF := mB_F h
  obtain ⟨ht, hc, hw, hn, hB, hB2⟩ := h
  have hR := wrk_RowE hw
  have e4 := hw.1.2 0 l (by omega) hn l0 l1
  rw [show 3 * 0 + l = l by omega] at e4
  have key : ∀ y, firS I L l 61 y ↔ ∃ z, (1 ≤ z ∧ z ≤ I 240 4 ∧ z ≤ lmv (VM I) g 0 l) ∧ tmv (VM I 5 1) 0 z + L 252 ((3 * 0 + l) * 61 + z) = y := fun y => by
    rw [VM5, show 3 * 0 + l = l by omega]
    have r := lim_rng (VM I (5 + 0) 0) (VM I (5 + 0) 2) (VM I (5 + 0) 3) l g
    have er : lmv (VM I) g 0 l = lim (VM I (5 + 0) 0) (VM I (5 + 0) 2) (VM I (5 + 0) 3) l g := rfl
    constructor
    · rintro ⟨q, a, b, c, d, e⟩; exact ⟨q, ⟨a, d, by rw [← e4]; exact c⟩, e.symm⟩
    · rintro ⟨q, ⟨a, b, c⟩, d⟩; exact ⟨q, a, by omega, by rw [e4]; exact c, b, d.symm⟩
  have hs := fun z => hs_first (ln := ln) (z := z) ht hR hB2 (by omega) hn l0 l1
  have hEx : (∃ p, HsM I g B (updL ln 0 l) 0 p) ↔ firS I L l 61 B := by
    rw [key]
    constructor
    · rintro ⟨p, hp⟩; exact ⟨p, (hs p).mp hp⟩
    · rintro ⟨p, hp⟩; exact ⟨p, (hs p).mpr hp⟩
  rw [hEx]
  constructor
  · rintro rfl
    rcases hv.1 with q | q
    · omega
    · exact q
  · intro hb
    have h1 := hv.2.2 B hb
    rcases hv.1 with q | q
    · omega
    · obtain ⟨z, ⟨a, b, c⟩, d⟩ := (key v).mp q
      have r := lim_rng (VM I (5 + 0) 0) (VM I (5 + 0) 2) (VM I (5 + 0) 3) l g
      have er : lmv (VM I) g 0 l = lim (VM I (5 + 0) 0) (VM I (5 + 0) 2) (VM I (5 + 0) 3) l g := rfl
      have hrow := hR 0 l z (by omega) hn l0 l1 a (by omega) c
      have htm := (tm_rng ht 0 0 z (by omega) hn a).1
      rw [show (5 : Int) + 0 = 5 by rfl] at htm
      dsimp only at hrow
      rcases hrow.1 with u | u
      · omega
      · have := hB2 v ⟨l, z, _, l0, l1, ⟨a, b, c⟩, u, d.symm⟩
        omega
theorem lea_B {I L : Int → Int → Int} {g B nx : Int} {ln : Int → Int} {i : Nat} (h : mB I L g B) (hi : ((i + 1 : Nat) : Int) < I 240 1) (n0 : 0 ≤ nx) (n1 : nx ≤ 2) (hln : I 250 i = ln i) (hn : lnr ln i) (ha : ahdOK I L g ln i) : (∃ p, 1 ≤ p ∧ p ≤ 60 ∧ leaS I L i nx B p) ↔ nr (ln i) nx ∧ ∃ z, HsM I g B (updL ln ((i + 1 : Nat) : Int) nx) (i + 1) z := by
  have hF := mB_F h
  obtain ⟨ht, hc, hw, hn0, hB, hB2⟩ := h
  have hR := wrk_RowE hw
  have y2 : I 240 1 ≤ 30 := ht.2.1
  have ei : ((i + 1 : Nat) : Int) = (i : Int) + 1 := by omega
  rw [ei] at hi
  have ek : kk (VM I) i = kk (VM I) ((i : Int) + 1) + 1 := by unfold kk; rw [VM_31]; omega
  have e1 := (VM_st (I := I) (i := (i : Int) + 1) (by omega) (by omega)).2.1
  have u1 : updL ln ((i + 1 : Nat) : Int) nx ((i : Int) + 1) = nx := if_pos (by omega)
  have u0 : updL ln ((i + 1 : Nat) : Int) nx (i : Int) = ln i := if_neg (by omega)
  have pre : ∀ p a, PreE (VM I) g (I 240 3) (I 240 4) (updL ln ((i + 1 : Nat) : Int) nx) i p a ↔ PreE (VM I) g (I 240 3) (I 240 4) ln i p a := fun p a => PreE_cg i p a (fun j j0 j1 => if_neg (by omega))
  have rcE : ∀ p, 1 ≤ p → p ≤ 60 → I 253 p = rch (VM I 38) (VM I 39) p := fun p a b => hw.1.1 p a b
  have lmE : I 254 (3 * ((i : Int) + 1) + nx) = lmv (VM I) g ((i : Int) + 1) nx := hw.1.2 _ nx (by omega) hi n0 n1
  have lmR := lim_rng (VM I (5 + ((i : Int) + 1)) 0) (VM I (5 + ((i : Int) + 1)) 2) (VM I (5 + ((i : Int) + 1)) 3) nx g
  have lmD : lmv (VM I) g ((i : Int) + 1) nx = lim (VM I (5 + ((i : Int) + 1)) 0) (VM I (5 + ((i : Int) + 1)) 2) (VM I (5 + ((i : Int) + 1)) 3) nx g := rfl
  have row : ∀ q, 1 ≤ q → q ≤ lmv (VM I) g ((i : Int) + 1) nx → Lst (AchE (VM I) g (I 240 3) (kk (VM I) ((i : Int) + 1)) ((i : Int) + 1) nx q) 1000000000000 (L 252 ((3 * ((i : Int) + 1) + nx) * 61 + q)) := fun q a b => hR ((i : Int) + 1) nx q (by omega) hi n0 n1 a (by omega) b
  have tmz : ∀ q, 1 ≤ q → 0 ≤ tmv (I 242 ((i : Int) + 1)) (dif (ln i) nx) q := fun q a => by
    have := (tm_rng ht ((i : Int) + 1) (dif (ln i) nx) q (by omega) hi a).1
    rwa [e1] at this
  -- a lap through a pace here and a pace there
  have thr : ∀ p a q t, PreE (VM I) g (I 240 3) (I 240 4) ln i p a → nr (ln i) nx → (1 ≤ q ∧ p - I 240 3 ≤ q ∧ q ≤ rch (VM I 38) (VM I 39) p ∧ q ≤ lmv (VM I) g ((i : Int) + 1) nx) → AchE (VM I) g (I 240 3) (kk (VM I) ((i : Int) + 1)) ((i : Int) + 1) nx q t → B ≤ a + (tmv (I 242 ((i : Int) + 1)) (dif (ln i) nx) q + t) := fun p a q t h1 h2 h3 h4 => by
    refine hB2 _ (pre_lap (show (i : Int) < VM I 3 1 by rw [VM_31]; omega) hn h1 ?_)
    rw [ek]
    exact ⟨nx, q, t, h2, h3, h4, by show _ = tmv (VM I (5 + ((i : Int) + 1)) 1) (dif (ln i) nx) q + t; rw [e1]⟩
  constructor
  · rintro ⟨p, p0, p1, hlt, w, hw2, hs⟩
    have hp := ha p p0 p1
    have hpre : PreE (VM I) g (I 240 3) (I 240 4) ln i p (L 255 p) := by
      rcases hp.1 with z | z
      · omega
      · exact z
    have ha0 := PreE_0 ht (show (i : Int) < VM I 3 1 by rw [VM_31]; omega) hpre
    rcases hw2.1 with z | ⟨hnr, q, a, b, c, d, e, f⟩
    · omega
    · rw [hln] at hnr f
      rw [rcE p p0 p1] at d
      rw [lmE] at e
      have hrow := row q a e
      have tq := tmz q a
      rcases hrow.1 with u | u
      · omega
      · refine ⟨hnr, q, L 255 p + tmv (I 242 ((i : Int) + 1)) (dif (ln i) nx) q, L 252 ((3 * ((i : Int) + 1) + nx) * 61 + q), ⟨p, L 255 p, (pre p _).mpr hpre, ?_, ?_⟩, ?_, by omega⟩
        · rw [u1]; exact ⟨a, c, d, e⟩
        · rw [u0, u1, e1]
        · rw [ei, ← ei, show updL ln ((i + 1 : Nat) : Int) nx ((i + 1 : Nat) : Int) = nx from if_pos rfl, ei]; exact u
  · rintro ⟨hnr, z, a, t, ⟨p, a', h1, h2, h3⟩, h4, h5⟩
    rw [u1] at h2
    rw [u0, u1, e1] at h3
    rw [show updL ln ((i + 1 : Nat) : Int) nx ((i + 1 : Nat) : Int) = nx from if_pos rfl, ei] at h4
    have h1' := (pre p a').mp h1
    have hp := PreE_p h1'
    have hL := ha p hp.1 hp.2
    have hle := hL.2.2 a' h1'
    have ha0 := PreE_0 ht (show (i : Int) < VM I 3 1 by rw [VM_31]; omega) h1'
    have hrow := row z h2.1 h2.2.2.2
    have hrt := hrow.2.2 t h4
    have tq := tmz z h2.1
    have t0 : 0 ≤ t := (Ach_rng (n := VM I 3 1) (tm := fun i c q => tmv (VM I (5 + i) 1) c q) (fun i c q i0 i1 q1 => tm_rng ht i c q i0 i1 q1) _ _ _ _ _ (by omega) (by unfold kk; rw [VM_31]; omega) h4).1
    have hpre : PreE (VM I) g (I 240 3) (I 240 4) ln i p (L 255 p) := by
      rcases hL.1 with y | y
      · omega
      · exact y
    have hrz : AchE (VM I) g (I 240 3) (kk (VM I) ((i : Int) + 1)) ((i : Int) + 1) nx z (L 252 ((3 * ((i : Int) + 1) + nx) * 61 + z)) := by
      rcases hrow.1 with y | y
      · omega
      · exact y
    have hge := thr p _ z _ hpre hnr h2 hrz
    refine ⟨p, hp.1, hp.2, by omega, B - L 255 p, ⟨.inr ⟨by rw [hln]; exact hnr, z, h2.1, by omega, h2.2.1, by rw [rcE p hp.1 hp.2]; exact h2.2.2.1, by rw [lmE]; exact h2.2.2.2, by rw [hln]; omega⟩, by omega, fun x hx => ?_⟩, by omega⟩
    obtain ⟨_, q, a, b, c, d, e, f⟩ := hx
    rw [hln] at f
    rw [rcE p hp.1 hp.2] at d
    rw [lmE] at e
    have hrq := row q a e
    have tq2 := tmz q a
    rcases hrq.1 with y | y
    · omega
    · have := thr p _ q _ hpre hnr ⟨a, c, d, e⟩ y
      omega
theorem ahd_s {I L L' : Int → Int → Int} {g nx : Int} {ln : Int → Int} {i : Nat} (ht : tOK (VM I)) (hw : wrkOK I L g) (hi : ((i + 1 : Nat) : Int) < I 240 1) (n0 : 0 ≤ nx) (n1 : nx ≤ 2) (hln : I 250 i = ln i) (ha : ahdOK I L g ln i) (h : ∀ q, 1 ≤ q → q ≤ 60 → Lst (goS I L i nx 61 q) 1000000000000 (L' 255 q)) : ahdOK I L' g (updL ln ((i + 1 : Nat) : Int) nx) (i + 1) := fun q q0 q1 => by
  have y2 : I 240 1 ≤ 30 := ht.2.1
  have ei : ((i + 1 : Nat) : Int) = (i : Int) + 1 := by omega
  rw [ei] at hi
  have e1 := (VM_st (I := I) (i := (i : Int) + 1) (by omega) (by omega)).2.1
  have u1 : updL ln ((i + 1 : Nat) : Int) nx ((i : Int) + 1) = nx := if_pos (by omega)
  have u0 : updL ln ((i + 1 : Nat) : Int) nx (i : Int) = ln i := if_neg (by omega)
  have pre : ∀ p a, PreE (VM I) g (I 240 3) (I 240 4) (updL ln ((i + 1 : Nat) : Int) nx) i p a ↔ PreE (VM I) g (I 240 3) (I 240 4) ln i p a := fun p a => PreE_cg i p a (fun j j0 j1 => if_neg (by omega))
  have lmE : I 254 (3 * ((i : Int) + 1) + nx) = lmv (VM I) g ((i : Int) + 1) nx := hw.1.2 _ nx (by omega) hi n0 n1
  obtain ⟨a, b, d⟩ := h q q0 q1
  have tq : 0 ≤ tmv (I 242 ((i : Int) + 1)) (dif (ln i) nx) q := by
    have := (tm_rng ht ((i : Int) + 1) (dif (ln i) nx) q (by omega) hi q0).1
    rwa [e1] at this
  refine ⟨?_, b, ?_⟩
  · rcases a with a | ⟨p, p0, p1, z1, z2, z3, z4, z5⟩
    · exact .inl a
    refine .inr ?_
    have hpre : PreE (VM I) g (I 240 3) (I 240 4) ln i p (L 255 p) := by
      rcases (ha p p0 (by omega)).1 with y | y
      · omega
      · exact y
    refine ⟨p, L 255 p, (pre p _).mpr hpre, ?_, ?_⟩
    · rw [u1]
      exact ⟨q0, z2, by rw [hw.1.1 p p0 (by omega)] at z3; exact z3, by rw [← lmE]; exact z4⟩
    · rw [u0, u1, e1, ← hln]; exact z5
  · intro x hx
    obtain ⟨p, a', h1, h2, h3⟩ := hx
    rw [u1] at h2
    rw [u0, u1, e1] at h3
    have h1' := (pre p a').mp h1
    have hp := PreE_p h1'
    have hL := ha p hp.1 hp.2
    have hle := hL.2.2 a' h1'
    by_cases z : L 255 p < 1000000000000
    · have := d _ ⟨p, hp.1, by omega, z, h2.2.1, by rw [hw.1.1 p hp.1 hp.2]; exact h2.2.2.1, by rw [lmE]; exact h2.2.2.2, rfl⟩
      rw [hln] at this
      omega
    · have := hL.2.1
      omega
/-- the best way stands in the model's rows -/
def bestM (I : Int → Int → Int) : Prop := ∃ B, lapT (VM I) (I 240 2) (I 240 3) (I 240 4) B ∧ LexB (VM I) (I 240 2) (I 240 3) (I 240 4) B (I 250) ∧ mMx I (I 251)
def spX9_findBest (As : List MV) (σ : MS) (K : Option MV → MS → Prop) : Prop := pR As fun a r => pN r (a = 240 ∧ σ.2.1 = PF ∧ tOK (VM σ.2.2.1) ∧ carOK (VM σ.2.2.1) ∧ ∀ (I' L' : Int → Int → Int), (∀ b k, b ≠ 250 → b ≠ 251 → b ≠ 253 → b ≠ 254 → I' b k = σ.2.2.1 b k) → (∀ b k, b ≠ 252 → b ≠ 255 → b ≠ 256 → L' b k = σ.2.2.2 b k) → bestM I' → K none (σ.1, σ.2.1, I', L'))
def ciX9_findBest : CI := (1, 9, 0, 0, spX9_findBest)
def kX9_findBest (pc : Nat) : List ME := match pc with
  | 0 => [(.aload_n 0, 1, []), (.aload_n 0, 1, []), (.getfield 16, 3, []), (.invokevirtual 193, 3, []), (.lstore_n 1, 1, []), (.aload_n 0, 1, []), (.getfield 13, 3, []), (.ifCond .ne 4, 3, [17]), (.return_, 1, [])]
  | 17 => [(.iconst 0, 1, []), (.istore_n 3, 1, [])]
  | 19 => [(.aload_n 0, 1, []), (.iload_n 3, 1, []), (.invokevirtual 186, 3, []), (.lload_n 1, 1, []), (.lcmp, 1, []), (.ifCond .eq 9, 3, [35]), (.iinc 3 1, 3, []), (.goto (-13), 3, [19])]
  | 35 => [(.aload_n 0, 1, []), (.getfield 58, 3, []), (.iconst 0, 1, []), (.iload_n 3, 1, []), (.iastore, 1, []), (.iconst 0, 1, []), (.istore 4, 2, [])]
  | 45 => [(.iload 4, 2, []), (.bipush 61, 2, []), (.if_icmp .ge 46, 3, [95]), (.aload_n 0, 1, []), (.getfield 73, 3, []), (.iload 4, 2, []), (.iload 4, 2, []), (.ifCond .le 25, 3, [85]), (.iload 4, 2, []), (.aload_n 0, 1, []), (.iload_n 3, 1, []), (.invokevirtual 190, 3, []), (.if_icmp .gt 15, 3, [85]), (.aload_n 0, 1, []), (.iconst 0, 1, []), (.iconst 0, 1, []), (.iload 4, 2, []), (.invokevirtual 156, 3, []), (.i2l, 1, []), (.goto 6, 3, [88])]
  | 85 => [(.ldc2_w 174, 3, [])]
  | 88 => [(.lastore, 1, []), (.iinc 4 1, 3, []), (.goto (-47), 3, [45])]
  | 95 => [(.iconst 0, 1, []), (.istore 4, 2, [])]
  | 98 => [(.iload 4, 2, []), (.aload_n 0, 1, []), (.getfield 13, 3, []), (.iconst 1, 1, []), (.isub, 1, []), (.if_icmp .ge 49, 3, [155]), (.iconst 0, 1, []), (.istore 5, 2, [])]
  | 112 => [(.aload_n 0, 1, []), (.iload 4, 2, []), (.iload 5, 2, []), (.lload_n 1, 1, []), (.invokevirtual 196, 3, []), (.ifCond .ne 9, 3, [130]), (.iinc 5 1, 3, []), (.goto (-15), 3, [112])]
  | 130 => [(.aload_n 0, 1, []), (.getfield 58, 3, []), (.iload 4, 2, []), (.iconst 1, 1, []), (.iadd, 1, []), (.iload 5, 2, []), (.iastore, 1, []), (.aload_n 0, 1, []), (.iload 4, 2, []), (.iload 5, 2, []), (.invokevirtual 200, 3, []), (.iinc 4 1, 3, []), (.goto (-54), 3, [98])]
  | 155 => [(.aload_n 0, 1, []), (.invokevirtual 160, 3, []), (.return_, 1, [])]
  | _ => []
theorem qX9_findBest : ∀ pc, chk cX9_findBest pc (kX9_findBest pc) = true := by
  intro pc
  unfold kX9_findBest
  split <;> first | decide +kernel | exact chk_nil
abbrev rmX9_findBest : Room := { frames := 3, cells := 0, slots := 0, locals := 83 }
def aX9_findBest (x : Nat) : Option CI := match x with
  | 193 => some ciX9_work
  | 186 => some ciX9_firstOn
  | 190 => some ciX9_firstMost
  | 156 => some ciX9_timeOf
  | 196 => some ciX9_leads
  | 200 => some ciX9_goOn
  | 160 => some ciX9_quicken
  | _ => none
theorem aokX9_findBest : ∀ x ci, aX9_findBest x = some ci → CalOK RX9 rmX9_findBest x ci := by
  intro x ci h
  unfold aX9_findBest at h
  split at h
  · cases h; exact cal_V mX9_work (by decide) rfl (List.forall_mem_cons.mpr ⟨(ws_mem (List.mem_of_getElem? (i := 1072) (by decide +kernel)) (by decide +kernel)), List.forall_mem_cons.mpr ⟨(ws_mem (List.mem_of_getElem? (i := 1074) (by decide +kernel)) (by decide +kernel)), List.forall_mem_cons.mpr ⟨(ws_mem (List.mem_of_getElem? (i := 33) (by decide +kernel)) (by decide +kernel)), List.forall_mem_cons.mpr ⟨(ws_mem (List.mem_of_getElem? (i := 64) (by decide +kernel)) (by decide +kernel)), List.forall_mem_cons.mpr ⟨(ws_mem (List.mem_of_getElem? (i := 1075) (by decide +kernel)) (by decide +kernel)), fun _ h => absurd h List.not_mem_nil⟩⟩⟩⟩⟩) rfl (by unfold nice; decide +kernel) (by unfold rfits; decide) ⟨rfl, rfl⟩
  · cases h; exact cal_V mX9_firstOn (by decide) rfl (List.forall_mem_cons.mpr ⟨(ws_mem (List.mem_of_getElem? (i := 1089) (by decide +kernel)) (by decide +kernel)), List.forall_mem_cons.mpr ⟨(ws_mem (List.mem_of_getElem? (i := 1091) (by decide +kernel)) (by decide +kernel)), List.forall_mem_cons.mpr ⟨(ws_mem (List.mem_of_getElem? (i := 37) (by decide +kernel)) (by decide +kernel)), List.forall_mem_cons.mpr ⟨(ws_mem (List.mem_of_getElem? (i := 64) (by decide +kernel)) (by decide +kernel)), List.forall_mem_cons.mpr ⟨(ws_mem (List.mem_of_getElem? (i := 1092) (by decide +kernel)) (by decide +kernel)), fun _ h => absurd h List.not_mem_nil⟩⟩⟩⟩⟩) rfl (by unfold nice; decide +kernel) (by unfold rfits; decide) ⟨rfl, rfl⟩
  · cases h; exact cal_V mX9_firstMost (by decide) rfl (List.forall_mem_cons.mpr ⟨(ws_mem (List.mem_of_getElem? (i := 1093) (by decide +kernel)) (by decide +kernel)), List.forall_mem_cons.mpr ⟨(ws_mem (List.mem_of_getElem? (i := 1095) (by decide +kernel)) (by decide +kernel)), List.forall_mem_cons.mpr ⟨(ws_mem (List.mem_of_getElem? (i := 38) (by decide +kernel)) (by decide +kernel)), List.forall_mem_cons.mpr ⟨(ws_mem (List.mem_of_getElem? (i := 64) (by decide +kernel)) (by decide +kernel)), List.forall_mem_cons.mpr ⟨(ws_mem (List.mem_of_getElem? (i := 1096) (by decide +kernel)) (by decide +kernel)), fun _ h => absurd h List.not_mem_nil⟩⟩⟩⟩⟩) rfl (by unfold nice; decide +kernel) (by unfold rfits; decide) ⟨rfl, rfl⟩
  · cases h; exact cal_V mX9_timeOf (by decide) rfl (List.forall_mem_cons.mpr ⟨(ws_mem (List.mem_of_getElem? (i := 1060) (by decide +kernel)) (by decide +kernel)), List.forall_mem_cons.mpr ⟨(ws_mem (List.mem_of_getElem? (i := 1062) (by decide +kernel)) (by decide +kernel)), List.forall_mem_cons.mpr ⟨(ws_mem (List.mem_of_getElem? (i := 31) (by decide +kernel)) (by decide +kernel)), List.forall_mem_cons.mpr ⟨(ws_mem (List.mem_of_getElem? (i := 64) (by decide +kernel)) (by decide +kernel)), List.forall_mem_cons.mpr ⟨(ws_mem (List.mem_of_getElem? (i := 1063) (by decide +kernel)) (by decide +kernel)), fun _ h => absurd h List.not_mem_nil⟩⟩⟩⟩⟩) rfl (by unfold nice; decide +kernel) (by unfold rfits; decide) ⟨rfl, rfl⟩
  · cases h; exact cal_V mX9_leads (by decide) rfl (List.forall_mem_cons.mpr ⟨(ws_mem (List.mem_of_getElem? (i := 1097) (by decide +kernel)) (by decide +kernel)), List.forall_mem_cons.mpr ⟨(ws_mem (List.mem_of_getElem? (i := 1099) (by decide +kernel)) (by decide +kernel)), List.forall_mem_cons.mpr ⟨(ws_mem (List.mem_of_getElem? (i := 39) (by decide +kernel)) (by decide +kernel)), List.forall_mem_cons.mpr ⟨(ws_mem (List.mem_of_getElem? (i := 64) (by decide +kernel)) (by decide +kernel)), List.forall_mem_cons.mpr ⟨(ws_mem (List.mem_of_getElem? (i := 1100) (by decide +kernel)) (by decide +kernel)), fun _ h => absurd h List.not_mem_nil⟩⟩⟩⟩⟩) rfl (by unfold nice; decide +kernel) (by unfold rfits; decide) ⟨rfl, rfl⟩
  · cases h; exact cal_V mX9_goOn (by decide) rfl (List.forall_mem_cons.mpr ⟨(ws_mem (List.mem_of_getElem? (i := 1101) (by decide +kernel)) (by decide +kernel)), List.forall_mem_cons.mpr ⟨(ws_mem (List.mem_of_getElem? (i := 1103) (by decide +kernel)) (by decide +kernel)), List.forall_mem_cons.mpr ⟨(ws_mem (List.mem_of_getElem? (i := 40) (by decide +kernel)) (by decide +kernel)), List.forall_mem_cons.mpr ⟨(ws_mem (List.mem_of_getElem? (i := 64) (by decide +kernel)) (by decide +kernel)), List.forall_mem_cons.mpr ⟨(ws_mem (List.mem_of_getElem? (i := 1104) (by decide +kernel)) (by decide +kernel)), fun _ h => absurd h List.not_mem_nil⟩⟩⟩⟩⟩) rfl (by unfold nice; decide +kernel) (by unfold rfits; decide) ⟨rfl, rfl⟩
  · cases h; exact cal_V mX9_quicken (by decide) rfl (List.forall_mem_cons.mpr ⟨(ws_mem (List.mem_of_getElem? (i := 1044) (by decide +kernel)) (by decide +kernel)), List.forall_mem_cons.mpr ⟨(ws_mem (List.mem_of_getElem? (i := 1046) (by decide +kernel)) (by decide +kernel)), List.forall_mem_cons.mpr ⟨(ws_mem (List.mem_of_getElem? (i := 28) (by decide +kernel)) (by decide +kernel)), List.forall_mem_cons.mpr ⟨(ws_mem (List.mem_of_getElem? (i := 64) (by decide +kernel)) (by decide +kernel)), List.forall_mem_cons.mpr ⟨(ws_mem (List.mem_of_getElem? (i := 1047) (by decide +kernel)) (by decide +kernel)), fun _ h => absurd h List.not_mem_nil⟩⟩⟩⟩⟩) rfl (by unfold nice; decide +kernel) (by unfold rfits; decide) ⟨rfl, rfl⟩
  · cases h
theorem ocX9_findBest_193 (f : Nat → Nat → Nat → Nat → (List MV → MS → (Option MV → MS → Prop) → Prop) → Prop) : oC aX9_findBest 193 f = f 2 9 0 0 spX9_work := propext Iff.rfl
theorem ocX9_findBest_186 (f : Nat → Nat → Nat → Nat → (List MV → MS → (Option MV → MS → Prop) → Prop) → Prop) : oC aX9_findBest 186 f = f 2 9 0 0 spX9_firstOn := propext Iff.rfl
theorem ocX9_findBest_190 (f : Nat → Nat → Nat → Nat → (List MV → MS → (Option MV → MS → Prop) → Prop) → Prop) : oC aX9_findBest 190 f = f 2 9 0 0 spX9_firstMost := propext Iff.rfl
theorem ocX9_findBest_156 (f : Nat → Nat → Nat → Nat → (List MV → MS → (Option MV → MS → Prop) → Prop) → Prop) : oC aX9_findBest 156 f = f 4 9 0 0 spX9_timeOf := propext Iff.rfl
theorem ocX9_findBest_196 (f : Nat → Nat → Nat → Nat → (List MV → MS → (Option MV → MS → Prop) → Prop) → Prop) : oC aX9_findBest 196 f = f 4 9 0 0 spX9_leads := propext Iff.rfl
theorem ocX9_findBest_200 (f : Nat → Nat → Nat → Nat → (List MV → MS → (Option MV → MS → Prop) → Prop) → Prop) : oC aX9_findBest 200 f = f 3 9 0 0 spX9_goOn := propext Iff.rfl
theorem ocX9_findBest_160 (f : Nat → Nat → Nat → Nat → (List MV → MS → (Option MV → MS → Prop) → Prop) → Prop) : oC aX9_findBest 160 f = f 1 9 0 0 spX9_quicken := propext Iff.rfl
theorem mdX9_findBest : MD RX9 cX9_findBest rmX9_findBest kX9_findBest fX9 aX9_findBest zX9 uX9 := ⟨fokX9, zokX9, uokX9, aokX9_findBest, qX9_findBest⟩
theorem mB_cg {I J L L' : Int → Int → Int} {g B : Int} (h1 : ∀ b k, b ≠ 250 → J b k = I b k) (h2 : ∀ k, L' 252 k = L 252 k) (h : mB I L g B) : mB J L' g B ∧ VM J = VM I := by
  have eV : VM J = VM I := VM_cg (fun k _ => h1 _ _ (by omega)) (fun b k _ _ => h1 _ _ (by omega)) (fun b k _ _ => h1 _ _ (by omega))
  obtain ⟨a, b, ⟨⟨c1, c2⟩, c3⟩, d, e, f⟩ := h
  refine ⟨⟨by rw [eV]; exact a, by rw [eV]; exact b, ⟨⟨fun p p0 p1 => ?_, fun i l i0 i1 l0 l1 => ?_⟩, fun i l p i0 i1 l0 l1 p0 p1 => ?_⟩, by rw [h1 _ _ (by omega)]; exact d, ?_, ?_⟩, eV⟩
  · rw [h1 _ _ (by omega), show J 246 = I 246 from funext fun k => h1 _ _ (by omega), show J 247 = I 247 from funext fun k => h1 _ _ (by omega)]; exact c1 p p0 p1
  · rw [h1 _ _ (by omega), eV]; exact c2 i l i0 (by rw [← h1 240 1 (by omega)]; exact i1) l0 l1
  · unfold rwOK
    rw [eV, h2, h1 240 3 (by omega)]
    exact c3 i l p i0 (by rw [← h1 240 1 (by omega)]; exact i1) l0 l1 p0 p1
  · rw [eV, h1 240 3 (by omega), h1 240 4 (by omega)]; exact e
  · rw [eV, h1 240 3 (by omega), h1 240 4 (by omega)]; exact f
theorem mB_fir {I L : Int → Int → Int} {g B l : Int} (h : mB I L g B) (l0 : 0 ≤ l) (l1 : l ≤ 2) : (1 ≤ I 254 l ∧ I 254 l ≤ 60) ∧ (1 ≤ I 240 4 ∧ I 240 4 ≤ 60) ∧ (1 ≤ I 242 0 ∧ I 242 0 ≤ 99) ∧ rowM L 0 l := by
  obtain ⟨ht, hc, hw, hn, hB, hB2⟩ := h
  have hnn := hc.2
  unfold nOK at hnn
  rw [VM_36_0, VM_36_1, VM_36_2] at hnn
  have hst := stM ht (i := 0) (by omega) hn
  have hl := wlOK_r hw.1 (i := 0) (by omega) hn l0 l1
  rw [show 3 * 0 + l = l by omega] at hl
  exact ⟨hl, by omega, by omega, rw_rowM (fun p a b => hw.2 0 l p (by omega) hn l0 l1 a b)⟩
def lxM (I : Int → Int → Int) (g B : Int) (i : Nat) : Prop := lexC (VM I) g (I 240 3) (I 240 4) B (I 250) i
set_option maxHeartbeats 1600000 in
set_option maxRecDepth 100000 in
/-- the first lane -/
theorem lpX9_b1 {post : Option MV → MS → Prop} {U : Pt → Prop} {N : Nat} {I L : Int → Int → Int} {g B : Int} (hm : mB I L g B)
    (h : ∀ x, 0 ≤ x → x ≤ 2 → (∃ p, HsM I g B (updL (I 250) 0 x) 0 p) → (∀ l, 0 ≤ l → l < x → ¬ ∃ p, HsM I g B (updL (I 250) 0 l) 0 p) → Ok RX9 cX9_findBest 6 rmX9_findBest false none post U (35, [some (.inr (.inr (some 240))), some (.inr (.inl B)), none, some (.inl x), none, none], [], (N, PF, I, L), 0, 0)) :
    ∀ (m : Nat) (x : Int), x + m = 3 → 0 ≤ x → (∀ l, 0 ≤ l → l < x → ¬ ∃ p, HsM I g B (updL (I 250) 0 l) 0 p) →
    Ok RX9 cX9_findBest 6 rmX9_findBest false none post U (19, [some (.inr (.inr (some 240))), some (.inr (.inl B)), none, some (.inl x), none, none], [], (N, PF, I, L), 0, 0)
  | 0, x, hx, x0, h1 => by
    obtain ⟨l, a, b⟩ := hs_some0 (I 250) hm.2.2.2.2.1
    exact (h1 l a.1 (by omega) b).elim
  | m + 1, x, hx, x0, h1 => by
    have ih := lpX9_b1 (U := U) (post := post) (N := N) hm h m (x + 1) (by omega) (by omega)
    obtain ⟨f1, f2, f3, f4⟩ := mB_fir hm x0 (show x ≤ 2 by omega)
    have hF := mB_F hm
    refine Ok.seg mdX9_findBest [19, 35] 20 ?_
    simp only [wp_nil, wp_cons, ↓stp, ↓lI, ↓lL, ↓lR, ↓lIn_0, ↓lIn_1, ↓lIn_2, ↓lIn_3, ↓lLn_0, ↓lLn_1, ↓lLn_2, ↓lLn_3, ↓lRn_0, ↓lRn_1, ↓lRn_2, ↓lRn_3, ↓pI, ↓pL, ↓pR, ↓pA, ↓pN, ↓pV, ↓fp, ↓tsw, ↓oS, ↓spMax, ↓spMin, ↓spAbs, ↓spObj, RI, RLg, b2i_lo, b2i_hi, getL, setL, ltL, killL, isLong, inl, cnd, br, tgt, rcv, rpl, mputI, mputL, mputP, fv, fr, mcat, mcs, entL, entA, rfit, nf_0, nf_1, nf_2, nf_3, nf2_0, nf2_1, b2i_0, b2i_1, RI_b2i, b2i_fit, List.append, List.length, List.replicate, List.cons_append, List.nil_append, List.length_cons, List.length_nil, List.replicate_succ, List.replicate_zero, List.tail_cons, reduceIte, if_true, if_false, ite_true, ite_false, Bool.false_eq_true, true_and, and_true, and_self, false_and, and_false, or_self, or_true, true_or, or_false, false_or, not_true_eq_false, not_false_eq_true, ne_eq, forall_const, implies_true, imp_self, true_implies, false_implies, Nat.reduceAdd, Nat.reduceSub, Nat.reduceMul, Nat.reduceDiv, Nat.reduceMod, Nat.reduceEqDiff, Nat.reduceLT, Nat.reduceLeDiff, Nat.reduceBEq, Nat.add_zero, Nat.zero_add, Nat.le_refl, Nat.not_lt_zero, Nat.succ_eq_add_one, Int.reduceNatCast, Int.cast_ofNat_Int, Int.reduceSub, Int.reduceMul, Int.reduceNeg, Int.reduceLE, Int.reduceLT, Int.reduceToNat, Int.reduceEq, Int.reduceNe, Int.reduceAdd, Option.some.injEq, kX9_findBest, rmX9_findBest, ↓ofX9_13, ↓ofX9_16, ↓ofX9_58, ↓ofX9_73, ↓ozX9_174, ↓ocX9_findBest_193, ↓spX9_work, ↓ocX9_findBest_186, ↓spX9_firstOn, ↓ocX9_findBest_190, ↓spX9_firstMost, ↓ocX9_findBest_156, ↓spX9_timeOf, ↓ocX9_findBest_196, ↓spX9_leads, ↓ocX9_findBest_200, ↓spX9_goOn, ↓ocX9_findBest_160, ↓spX9_quicken, lcm_lo, lcm_hi, lcm_eq, f4, G_240, G_241, G_242, G_243, G_244, G_245, G_246, G_247, G_248, G_249, G_250, G_251, G_252, G_253, G_254, G_255, G_256, G_257, G_258, G_259, G_260, G_261, G_262, G_263, G_264, G_265, G_266, G_267, G_268, G_269, G_270, G_271, G_272, PF_240_6, PF_240_7, PF_240_8, PF_240_9, PF_240_10, PF_240_11, PF_240_12, PF_240_13, PF_240_14, PF_240_15, PF_240_16, PF_240_17, PF_240_18, PF_240_19, PF_240_20, PF_240_21, PF_240_22, PF_240_23, PF_240_24, PF_240_26, PF_240_27, PF_240_28, PF_240_29, PF_240_30, PF_240_31, PF_240_32, PF_240_33, PF_240_34, PF_240_35, PF_240_36, PF_240_37]
    refine ⟨by omega, by omega, by omega, by omega, by omega, fun r r0 r1 hr => ?_⟩
    have e := fir_B (ln := I 250) hm x0 (by omega) hr
    refine ⟨by omega, by omega, fun z => ?_, fun z => ?_⟩
    · exact h x x0 (by omega) (e.mp z) h1
    · refine ih (fun l a b => ?_)
      by_cases q : l = x
      · rw [q]; exact fun y => z (e.mpr y)
      · exact h1 l a (by omega)
set_option maxHeartbeats 1600000 in
set_option maxRecDepth 100000 in
/-- the first times ahead -/
theorem lpX9_b2 {post : Option MV → MS → Prop} {U : Pt → Prop} {N : Nat} {I L : Int → Int → Int} {g B x : Int} (hm : mB I L g B) (x0 : 0 ≤ x) (x1 : x ≤ 2) (hx : I 250 0 = x)
    (h : ∀ (L1 : Int → Int → Int), (∀ b k, b ≠ 255 → L1 b k = L b k) → ahdR L1 → ahdOK I L1 g (I 250) 0 → Ok RX9 cX9_findBest 6 rmX9_findBest false none post U (95, [some (.inr (.inr (some 240))), some (.inr (.inl B)), none, some (.inl x), some (.inl 61), none], [], (N, PF, I, L1), 0, 0)) :
    ∀ (m : Nat) (p : Int) (L1 : Int → Int → Int), p + m = 61 → 0 ≤ p → (∀ b k, b ≠ 255 → L1 b k = L b k) → (∀ p', 1 ≤ p' → p' < p → (0 ≤ L1 255 p' ∧ L1 255 p' ≤ 1000000000000) ∧ Lst (PreM I g (I 250) 0 p') 1000000000000 (L1 255 p')) →
    Ok RX9 cX9_findBest 6 rmX9_findBest false none post U (45, [some (.inr (.inr (some 240))), some (.inr (.inl B)), none, some (.inl x), some (.inl p), none], [], (N, PF, I, L1), 0, 0)
  | 0, p, L1, hp, p0, h1, h2 => by
    refine Ok.seg mdX9_findBest [45, 95] 12 ?_
    simp only [wp_nil, wp_cons, ↓stp, ↓lI, ↓lL, ↓lR, ↓lIn_0, ↓lIn_1, ↓lIn_2, ↓lIn_3, ↓lLn_0, ↓lLn_1, ↓lLn_2, ↓lLn_3, ↓lRn_0, ↓lRn_1, ↓lRn_2, ↓lRn_3, ↓pI, ↓pL, ↓pR, ↓pA, ↓pN, ↓pV, ↓fp, ↓tsw, ↓oS, ↓spMax, ↓spMin, ↓spAbs, ↓spObj, RI, RLg, b2i_lo, b2i_hi, getL, setL, ltL, killL, isLong, inl, cnd, br, tgt, rcv, rpl, mputI, mputL, mputP, fv, fr, mcat, mcs, entL, entA, rfit, nf_0, nf_1, nf_2, nf_3, nf2_0, nf2_1, b2i_0, b2i_1, RI_b2i, b2i_fit, List.append, List.length, List.replicate, List.cons_append, List.nil_append, List.length_cons, List.length_nil, List.replicate_succ, List.replicate_zero, List.tail_cons, reduceIte, if_true, if_false, ite_true, ite_false, Bool.false_eq_true, true_and, and_true, and_self, false_and, and_false, or_self, or_true, true_or, or_false, false_or, not_true_eq_false, not_false_eq_true, ne_eq, forall_const, implies_true, imp_self, true_implies, false_implies, Nat.reduceAdd, Nat.reduceSub, Nat.reduceMul, Nat.reduceDiv, Nat.reduceMod, Nat.reduceEqDiff, Nat.reduceLT, Nat.reduceLeDiff, Nat.reduceBEq, Nat.add_zero, Nat.zero_add, Nat.le_refl, Nat.not_lt_zero, Nat.succ_eq_add_one, Int.reduceNatCast, Int.cast_ofNat_Int, Int.reduceSub, Int.reduceMul, Int.reduceNeg, Int.reduceLE, Int.reduceLT, Int.reduceToNat, Int.reduceEq, Int.reduceNe, Int.reduceAdd, Option.some.injEq, kX9_findBest, rmX9_findBest, ↓ofX9_13, ↓ofX9_16, ↓ofX9_58, ↓ofX9_73, ↓ozX9_174, ↓ocX9_findBest_193, ↓spX9_work, ↓ocX9_findBest_186, ↓spX9_firstOn, ↓ocX9_findBest_190, ↓spX9_firstMost, ↓ocX9_findBest_156, ↓spX9_timeOf, ↓ocX9_findBest_196, ↓spX9_leads, ↓ocX9_findBest_200, ↓spX9_goOn, ↓ocX9_findBest_160, ↓spX9_quicken, G_240, G_241, G_242, G_243, G_244, G_245, G_246, G_247, G_248, G_249, G_250, G_251, G_252, G_253, G_254, G_255, G_256, G_257, G_258, G_259, G_260, G_261, G_262, G_263, G_264, G_265, G_266, G_267, G_268, G_269, G_270, G_271, G_272, PF_240_6, PF_240_7, PF_240_8, PF_240_9, PF_240_10, PF_240_11, PF_240_12, PF_240_13, PF_240_14, PF_240_15, PF_240_16, PF_240_17, PF_240_18, PF_240_19, PF_240_20, PF_240_21, PF_240_22, PF_240_23, PF_240_24, PF_240_26, PF_240_27, PF_240_28, PF_240_29, PF_240_30, PF_240_31, PF_240_32, PF_240_33, PF_240_34, PF_240_35, PF_240_36, PF_240_37]
    rw [show p = 61 by omega] at h2 ⊢
    exact ⟨by omega, fun _ => h L1 h1 (fun p' a b => (h2 p' a (by omega)).1) (fun p' a b => (h2 p' a (by omega)).2), fun q => by omega⟩
  | m + 1, p, L1, hp, p0, h1, h2 => by
    have ih := lpX9_b2 (U := U) (post := post) (N := N) hm x0 x1 hx h m (p + 1)
    obtain ⟨f1, f2, f3, f4⟩ := mB_fir hm x0 x1
    have hfm := @mn_le (I 254 x) (I 240 4)
    have hfd : fmo I x = mn (I 254 x) (I 240 4) := rfl
    have e4 := hm.2.2.1.1.2 0 x (by omega) hm.2.2.2.1 x0 x1
    rw [show 3 * 0 + x = x by omega] at e4
    have step : ∀ v, (1 ≤ p → (0 ≤ v ∧ v ≤ 1000000000000) ∧ Lst (PreM I g (I 250) 0 p) 1000000000000 v) → Ok RX9 cX9_findBest 6 rmX9_findBest false none post U (45, [some (.inr (.inr (some 240))), some (.inr (.inl B)), none, some (.inl x), some (.inl (p + 1)), none], [], (N, PF, I, upI L1 255 p v), 0, 0) := fun v hv => by
      refine ih _ (by omega) (by omega) (fun b k hb => by rw [upI_ne hb]; exact h1 b k hb) (fun p' a b => ?_)
      by_cases z : p' = p
      · subst z; rw [upI_same]; exact hv a
      · rw [upI_nj z]; exact h2 p' a (by omega)
    have yes : 1 ≤ p → p ≤ fmo I x → (0 ≤ tmv (I 242 0) 0 p ∧ tmv (I 242 0) 0 p ≤ 101000) ∧ Lst (PreM I g (I 250) 0 p) 1000000000000 (tmv (I 242 0) 0 p) := fun a b => by
      have t := tmv_rng (ch := 0) f3.1 f3.2 a
      refine ⟨t, .inr ⟨⟨a, by omega, by rw [hx, ← e4]; omega⟩, by rw [VM5]⟩, by omega, fun y hy => ?_⟩
      have := hy.2
      rw [VM5] at this
      omega
    have no : ¬ p ≤ fmo I x → Lst (PreM I g (I 250) 0 p) 1000000000000 1000000000000 := fun b => Lst.none (fun y hy => by
      obtain ⟨⟨u1, u2, u3⟩, _⟩ := hy
      rw [hx, ← e4] at u3
      omega)
    refine Ok.seg mdX9_findBest [45, 95] 60 ?_
    simp only [wp_nil, wp_cons, ↓stp, ↓lI, ↓lL, ↓lR, ↓lIn_0, ↓lIn_1, ↓lIn_2, ↓lIn_3, ↓lLn_0, ↓lLn_1, ↓lLn_2, ↓lLn_3, ↓lRn_0, ↓lRn_1, ↓lRn_2, ↓lRn_3, ↓pI, ↓pL, ↓pR, ↓pA, ↓pN, ↓pV, ↓fp, ↓tsw, ↓oS, ↓spMax, ↓spMin, ↓spAbs, ↓spObj, RI, RLg, b2i_lo, b2i_hi, getL, setL, ltL, killL, isLong, inl, cnd, br, tgt, rcv, rpl, mputI, mputL, mputP, fv, fr, mcat, mcs, entL, entA, rfit, nf_0, nf_1, nf_2, nf_3, nf2_0, nf2_1, b2i_0, b2i_1, RI_b2i, b2i_fit, List.append, List.length, List.replicate, List.cons_append, List.nil_append, List.length_cons, List.length_nil, List.replicate_succ, List.replicate_zero, List.tail_cons, reduceIte, if_true, if_false, ite_true, ite_false, Bool.false_eq_true, true_and, and_true, and_self, false_and, and_false, or_self, or_true, true_or, or_false, false_or, not_true_eq_false, not_false_eq_true, ne_eq, forall_const, implies_true, imp_self, true_implies, false_implies, Nat.reduceAdd, Nat.reduceSub, Nat.reduceMul, Nat.reduceDiv, Nat.reduceMod, Nat.reduceEqDiff, Nat.reduceLT, Nat.reduceLeDiff, Nat.reduceBEq, Nat.add_zero, Nat.zero_add, Nat.le_refl, Nat.not_lt_zero, Nat.succ_eq_add_one, Int.reduceNatCast, Int.cast_ofNat_Int, Int.reduceSub, Int.reduceMul, Int.reduceNeg, Int.reduceLE, Int.reduceLT, Int.reduceToNat, Int.reduceEq, Int.reduceNe, Int.reduceAdd, Option.some.injEq, kX9_findBest, rmX9_findBest, ↓ofX9_13, ↓ofX9_16, ↓ofX9_58, ↓ofX9_73, ↓ozX9_174, ↓ocX9_findBest_193, ↓spX9_work, ↓ocX9_findBest_186, ↓spX9_firstOn, ↓ocX9_findBest_190, ↓spX9_firstMost, ↓ocX9_findBest_156, ↓spX9_timeOf, ↓ocX9_findBest_196, ↓spX9_leads, ↓ocX9_findBest_200, ↓spX9_goOn, ↓ocX9_findBest_160, ↓spX9_quicken, G_240, G_241, G_242, G_243, G_244, G_245, G_246, G_247, G_248, G_249, G_250, G_251, G_252, G_253, G_254, G_255, G_256, G_257, G_258, G_259, G_260, G_261, G_262, G_263, G_264, G_265, G_266, G_267, G_268, G_269, G_270, G_271, G_272, PF_240_6, PF_240_7, PF_240_8, PF_240_9, PF_240_10, PF_240_11, PF_240_12, PF_240_13, PF_240_14, PF_240_15, PF_240_16, PF_240_17, PF_240_18, PF_240_19, PF_240_20, PF_240_21, PF_240_22, PF_240_23, PF_240_24, PF_240_26, PF_240_27, PF_240_28, PF_240_29, PF_240_30, PF_240_31, PF_240_32, PF_240_33, PF_240_34, PF_240_35, PF_240_36, PF_240_37]
    refine ⟨by omega, fun q => by omega, fun q => ⟨by omega, fun q2 => ⟨by omega, by omega, step _ (fun z => by omega)⟩, fun q2 => ?_⟩⟩
    refine ⟨by omega, by omega, by omega, by omega, by omega, by omega, fun q3 => ⟨by omega, by omega, step _ (fun z => ⟨by omega, no (by omega)⟩)⟩, fun q3 => ?_⟩
    have y := yes (by omega) (by omega)
    repeat refine ⟨by omega, ?_⟩
    exact step _ (fun z => ⟨by omega, y.2⟩)
set_option maxHeartbeats 1600000 in
set_option maxRecDepth 100000 in
/-- the next lane -/
theorem lpX9_b4 {post : Option MV → MS → Prop} {U : Pt → Prop} {N : Nat} {I L : Int → Int → Int} {g B x : Int} {i : Nat} (hm : mB I L g B) (hi : ((i + 1 : Nat) : Int) < I 240 1) (hlx : ∀ j : Nat, j ≤ i → lxM I g B j) (har : ahdR L) (ha : ahdOK I L g (I 250) i)
    (h : ∀ nx, nr (I 250 i) nx → (∃ z, HsM I g B (updL (I 250) ((i + 1 : Nat) : Int) nx) (i + 1) z) → (∀ l, 0 ≤ l → l < nx → nr (I 250 i) l → ¬ ∃ z, HsM I g B (updL (I 250) ((i + 1 : Nat) : Int) l) (i + 1) z) → Ok RX9 cX9_findBest 6 rmX9_findBest false none post U (130, [some (.inr (.inr (some 240))), some (.inr (.inl B)), none, some (.inl x), some (.inl i), some (.inl nx)], [], (N, PF, I, L), 0, 0)) :
    ∀ (m : Nat) (nx : Int), nx + m = 3 → 0 ≤ nx → (∀ l, 0 ≤ l → l < nx → nr (I 250 i) l → ¬ ∃ z, HsM I g B (updL (I 250) ((i + 1 : Nat) : Int) l) (i + 1) z) →
    Ok RX9 cX9_findBest 6 rmX9_findBest false none post U (112, [some (.inr (.inr (some 240))), some (.inr (.inl B)), none, some (.inl x), some (.inl i), some (.inl nx)], [], (N, PF, I, L), 0, 0)
  | 0, nx, hx, x0, h1 => by
    obtain ⟨l, a, b⟩ := hs_some (show ((i + 1 : Nat) : Int) < VM I 3 1 from hi) (hlx i (Nat.le_refl _)).2.2.1
    exact (h1 l a.2.2.1 (by have := a.2.2.2; omega) a b).elim
  | m + 1, nx, hx, x0, h1 => by
    have ih := lpX9_b4 (U := U) (post := post) (N := N) (x := x) hm hi hlx har ha h m (nx + 1) (by omega) (by omega)
    have hF := mB_F hm
    have hl := (hlx i (Nat.le_refl _)).1
    have hlnr : lnr (I 250) i := fun j hj => ⟨(hlx j hj).1, (hlx j hj).2.1⟩
    have e := lea_B hm hi x0 (show nx ≤ 2 by omega) rfl hlnr ha
    refine Ok.seg mdX9_findBest [112, 130] 20 ?_
    simp only [wp_nil, wp_cons, ↓stp, ↓lI, ↓lL, ↓lR, ↓lIn_0, ↓lIn_1, ↓lIn_2, ↓lIn_3, ↓lLn_0, ↓lLn_1, ↓lLn_2, ↓lLn_3, ↓lRn_0, ↓lRn_1, ↓lRn_2, ↓lRn_3, ↓pI, ↓pL, ↓pR, ↓pA, ↓pN, ↓pV, ↓fp, ↓tsw, ↓oS, ↓spMax, ↓spMin, ↓spAbs, ↓spObj, RI, RLg, b2i_lo, b2i_hi, getL, setL, ltL, killL, isLong, inl, cnd, br, tgt, rcv, rpl, mputI, mputL, mputP, fv, fr, mcat, mcs, entL, entA, rfit, nf_0, nf_1, nf_2, nf_3, nf2_0, nf2_1, b2i_0, b2i_1, RI_b2i, b2i_fit, List.append, List.length, List.replicate, List.cons_append, List.nil_append, List.length_cons, List.length_nil, List.replicate_succ, List.replicate_zero, List.tail_cons, reduceIte, if_true, if_false, ite_true, ite_false, Bool.false_eq_true, true_and, and_true, and_self, false_and, and_false, or_self, or_true, true_or, or_false, false_or, not_true_eq_false, not_false_eq_true, ne_eq, forall_const, implies_true, imp_self, true_implies, false_implies, Nat.reduceAdd, Nat.reduceSub, Nat.reduceMul, Nat.reduceDiv, Nat.reduceMod, Nat.reduceEqDiff, Nat.reduceLT, Nat.reduceLeDiff, Nat.reduceBEq, Nat.add_zero, Nat.zero_add, Nat.le_refl, Nat.not_lt_zero, Nat.succ_eq_add_one, Int.reduceNatCast, Int.cast_ofNat_Int, Int.reduceSub, Int.reduceMul, Int.reduceNeg, Int.reduceLE, Int.reduceLT, Int.reduceToNat, Int.reduceEq, Int.reduceNe, Int.reduceAdd, Option.some.injEq, kX9_findBest, rmX9_findBest, ↓ofX9_13, ↓ofX9_16, ↓ofX9_58, ↓ofX9_73, ↓ozX9_174, ↓ocX9_findBest_193, ↓spX9_work, ↓ocX9_findBest_186, ↓spX9_firstOn, ↓ocX9_findBest_190, ↓spX9_firstMost, ↓ocX9_findBest_156, ↓spX9_timeOf, ↓ocX9_findBest_196, ↓spX9_leads, ↓ocX9_findBest_200, ↓spX9_goOn, ↓ocX9_findBest_160, ↓spX9_quicken, G_240, G_241, G_242, G_243, G_244, G_245, G_246, G_247, G_248, G_249, G_250, G_251, G_252, G_253, G_254, G_255, G_256, G_257, G_258, G_259, G_260, G_261, G_262, G_263, G_264, G_265, G_266, G_267, G_268, G_269, G_270, G_271, G_272, PF_240_6, PF_240_7, PF_240_8, PF_240_9, PF_240_10, PF_240_11, PF_240_12, PF_240_13, PF_240_14, PF_240_15, PF_240_16, PF_240_17, PF_240_18, PF_240_19, PF_240_20, PF_240_21, PF_240_22, PF_240_23, PF_240_24, PF_240_26, PF_240_27, PF_240_28, PF_240_29, PF_240_30, PF_240_31, PF_240_32, PF_240_33, PF_240_34, PF_240_35, PF_240_36, PF_240_37]
    refine ⟨x0, by omega, by omega, by omega, har, g, ⟨hm.1, hm.2.1, hm.2.2.1, by omega, by omega, hl⟩, fun v hv hv2 => ?_⟩
    rcases hv with rfl | rfl
    · refine ⟨by omega, fun z => by omega, fun _ => ih (fun l a b c => ?_)⟩
      by_cases q : l = nx
      · subst q
        intro y
        have := hv2.mpr (e.mpr ⟨c, y⟩)
        omega
      · exact h1 l a (by omega) c
    · have y := e.mp (hv2.mp rfl)
      exact ⟨by omega, fun _ => h nx y.1 y.2 h1, fun z => by omega⟩
