/-! constructors: Ways -/
theorem nfs_0 : nfs 0 = 4 := rfl
theorem nfs_1 : nfs 1 = 12 := rfl
theorem nfs_2 : nfs 2 = 5 := rfl
theorem nfs_4 : nfs 4 = 2 := rfl
theorem nfs_5 : nfs 5 = 2 := rfl
theorem nfs_6 : nfs 6 = 4 := rfl
theorem nfs_7 : nfs 7 = 12 := rfl
theorem nfs_8 : nfs 8 = 4 := rfl
theorem nfs_9 : nfs 9 = 38 := rfl
theorem upP_same {P : Int → Int → Option Int} {a i : Int} {v : Option Int} : upP P a i v a i = v := if_pos ⟨rfl, rfl⟩
theorem upP_nj {P : Int → Int → Option Int} {a i b j : Int} {v : Option Int} (h : j ≠ i) : upP P a i v b j = P b j := if_neg (fun z => h z.2)
theorem upP_nb {P : Int → Int → Option Int} {a i b j : Int} {v : Option Int} (h : b ≠ a) : upP P a i v b j = P b j := if_neg (fun z => h z.1)
/-- a constructor of cell a on its way: cells N0 .. N - 1 are made, a's references below f -/
def ST (a N0 : Int) (P0 : Int → Int → Option Int) (I0 L0 : Int → Int → Int) (N f : Int) (P : Int → Int → Option Int) (I L : Int → Int → Int) : Prop :=
  (∀ b k, N0 ≤ b → b < N → P b k = PF b k) ∧ (∀ k, P a k = if k < f then PF a k else none) ∧ ∀ b k, ¬ (N0 ≤ b ∧ b < N) → b ≠ a → P b k = P0 b k ∧ I b k = I0 b k ∧ L b k = L0 b k
theorem ST.step {a N0 : Int} {P0 : Int → Int → Option Int} {I0 L0 : Int → Int → Int} {N f : Int} {P : Int → Int → Option Int} {I L : Int → Int → Int} {N' : Int} {P1 : Int → Int → Option Int} {I1 L1 : Int → Int → Int} (x : Int) (h : ST a N0 P0 I0 L0 N f P I L) (ha : a < N0) (h0 : N0 ≤ N) (hN : N < N') (hf : f ≤ x) (hp : ∀ k, f ≤ k → k < x → PF a k = none) (hx : PF a x = some N)
    (h1 : ∀ b k, N ≤ b → b < N' → P1 b k = PF b k) (h2 : ∀ b k, b < N ∨ N' ≤ b → P1 b k = P b k ∧ I1 b k = I b k ∧ L1 b k = L b k) : ST a N0 P0 I0 L0 N' (x + 1) (upP P1 a x (some N)) I1 L1 := by
  refine ⟨fun b k b0 b1 => ?_, fun k => ?_, fun b k hb hba => ?_⟩
  · rw [upP_nb (by omega)]
    by_cases q : b < N
    · rw [(h2 b k (.inl q)).1]; exact h.1 b k b0 q
    · exact h1 b k (by omega) b1
  · by_cases q : k = x
    · subst q; rw [upP_same, if_pos (by omega), hx]
    · rw [upP_nj q, (h2 a k (.inl (by omega))).1, h.2.1 k]
      by_cases q1 : k < f
      · rw [if_pos q1, if_pos (by omega)]
      · rw [if_neg q1]
        by_cases q2 : k < x + 1
        · rw [if_pos q2, hp k (by omega) (by omega)]
        · rw [if_neg q2]
  · rw [upP_nb hba]
    obtain ⟨e1, e2, e3⟩ := h2 b k (by omega)
    rw [e1, e2, e3]
    exact h.2.2 b k (by omega) hba
theorem ST.arr {a N0 : Int} {P0 : Int → Int → Option Int} {I0 L0 : Int → Int → Int} {N f : Int} {P : Int → Int → Option Int} {I L : Int → Int → Int} (x : Int) (h : ST a N0 P0 I0 L0 N f P I L) (ha : a < N0) (h0 : N0 ≤ N) (hf : f ≤ x) (hp : ∀ k, f ≤ k → k < x → PF a k = none) (hx : PF a x = some N) (hr : ∀ k, PF N k = none) :
    ST a N0 P0 I0 L0 (N + 1) (x + 1) (upP (fun b i => if b = N then none else P b i) a x (some N)) (fun b i => if b = N then 0 else I b i) (fun b i => if b = N then 0 else L b i) :=
  ST.step x h ha h0 (by omega) hf hp hx (fun b k b0 b1 => by
    have e : b = N := by omega
    subst e
    rw [hr]
    exact if_pos rfl) (fun b k hb => ⟨if_neg (by omega), if_neg (by omega), if_neg (by omega)⟩)
theorem ST.obj {a N0 : Int} {P0 : Int → Int → Option Int} {I0 L0 : Int → Int → Int} {N f : Int} {P : Int → Int → Option Int} {I L : Int → Int → Int} {N' : Int} {P1 : Int → Int → Option Int} {I1 L1 : Int → Int → Int} (x : Int) (h : ST a N0 P0 I0 L0 N f P I L) (ha : a < N0) (h0 : N0 ≤ N) (hN : N < N') (hf : f ≤ x) (hp : ∀ k, f ≤ k → k < x → PF a k = none) (hx : PF a x = some N)
    (hm : mkd N (N + 1) N' (fun b i => if b = N then none else P b i) P1 (fun b i => if b = N then 0 else I b i) I1 (fun b i => if b = N then 0 else L b i) L1) : ST a N0 P0 I0 L0 N' (x + 1) (upP P1 a x (some N)) I1 L1 :=
  ST.step x h ha h0 hN hf hp hx (fun b k b0 b1 => hm.1 b k (by omega)) (fun b k hb => ⟨(hm.2.1 b k (by omega) (by omega)).trans (if_neg (by omega)), (hm.2.2.1 b k (by omega) (by omega)).trans (if_neg (by omega)), (hm.2.2.2 b k (by omega) (by omega)).trans (if_neg (by omega))⟩)
/-- n rows behind a row of rows -/
theorem ST.mar {a N0 : Int} {P0 : Int → Int → Option Int} {I0 L0 : Int → Int → Int} {N f : Int} {P : Int → Int → Option Int} {I L : Int → Int → Int} (x n M : Int) (hfr : frsh N0 P0 I0 L0) (h : ST a N0 P0 I0 L0 N f P I L) (ha : a < N0) (h0 : N0 ≤ N) (hn : 0 ≤ n) (hM : M = N + 1) (hf : f ≤ x) (hp : ∀ k, f ≤ k → k < x → PF a k = none) (hx : PF a x = some N) (hr : ∀ b k, N < b → b < N + 1 + n → PF b k = none) (hr0 : ∀ k, PF N k = if 0 ≤ k ∧ k < n then some (M + k) else none) :
    ST a N0 P0 I0 L0 (N + 1 + n) (x + 1) (upP (fun b i => if N ≤ b then (if b = N ∧ 0 ≤ i ∧ i < n then some (M + i) else none) else P b i) a x (some N)) (fun b i => if N ≤ b then 0 else I b i) (fun b i => if N ≤ b then 0 else L b i) :=
  ST.step x h ha h0 (by omega) hf hp hx (fun b k b0 b1 => by
    try dsimp only
    rw [if_pos b0]
    by_cases e : b = N
    · subst e
      rw [hr0]
      by_cases q : 0 ≤ k ∧ k < n
      · rw [if_pos q, if_pos ⟨rfl, q⟩]
      · rw [if_neg q, if_neg (fun z => q z.2)]
    · rw [if_neg (fun z => e z.1), hr b k (by omega) b1]) (fun b k hb => by
    try dsimp only
    by_cases q : N ≤ b
    · obtain ⟨z1, z2, z3⟩ := h.2.2 b k (by omega) (by omega)
      obtain ⟨y1, y2, y3⟩ := hfr b k (by omega)
      rw [if_pos q, if_pos q, if_pos q, if_neg (by omega), z1, z2, z3, y1, y2, y3]
      exact ⟨rfl, rfl, rfl⟩
    · rw [if_neg q, if_neg q, if_neg q]
      exact ⟨rfl, rfl, rfl⟩)
theorem ST.mkd {a N0 : Int} {P0 : Int → Int → Option Int} {I0 L0 : Int → Int → Int} {N f : Int} {P : Int → Int → Option Int} {I L : Int → Int → Int} (h : ST a N0 P0 I0 L0 N f P I L) (hf : ∀ k, f ≤ k → PF a k = none) : mkd a N0 N P0 P I0 I L0 L :=
  ⟨fun b k hb => by
    by_cases e : b = a
    · subst e
      rw [h.2.1 k]
      by_cases q : k < f
      · rw [if_pos q]
      · rw [if_neg q, hf k (by omega)]
    · exact h.1 b k (by omega) (by omega), fun b k b0 b1 => (h.2.2 b k b0 b1).1, fun b k b0 b1 => (h.2.2 b k b0 b1).2.1, fun b k b0 b1 => (h.2.2 b k b0 b1).2.2⟩
theorem car0_cg {I J : Int → Int → Int} (h : ∀ b k, 36 ≤ b → b ≤ 39 → J b k = I b k) (hc : car0 I) : car0 J := by
  have e6 : J 36 = I 36 := funext fun k => h _ k (by omega) (by omega)
  have e7 : J 37 = I 37 := funext fun k => h _ k (by omega) (by omega)
  have e8 : J 38 = I 38 := funext fun k => h _ k (by omega) (by omega)
  have e9 : J 39 = I 39 := funext fun k => h _ k (by omega) (by omega)
  unfold car0
  rw [e6, e7, e8, e9]
  exact hc
theorem PF_2 (k : Int) : PF 2 k = if k = 0 then some 3 else if k = 1 then some 35 else if k = 3 then some 40 else if k = 4 then some 44 else if k = 5 then some 48 else if k = 6 then some 49 else if k = 7 then some 140 else if k = 8 then some 141 else if k = 9 then some 142 else if k = 10 then some 143 else if k = 11 then some 144 else none := by
  unfold PF
  simp
theorem PF_49 (k : Int) : PF 49 k = if 0 ≤ k ∧ k < 90 then some (50 + k) else none := by
  unfold PF
  simp
theorem PF_wrow {b : Int} (h : b = 48 ∨ (50 ≤ b ∧ b ≤ 144)) (k : Int) : PF b k = none := by
  unfold PF
  repeat rw [if_neg (by omega)]
theorem G_rsts {a : Int} (h0 : 50 ≤ a) (h1 : a ≤ 139) : G a = (10, 61) :=
  G_rng (fun a => 50 ≤ a ∧ a ≤ 139) (by decide +kernel) (by omega) (by omega) ⟨h0, h1⟩
/-- the numbers of new Ways, as far as cell N -/
def v7 (N : Int) (I : Int → Int → Int) : Prop := (∀ b k, 2 ≤ b → b ≤ 34 → b < N → I b k = 0) ∧ (40 ≤ N → car0 I) ∧ ∀ b k, 40 ≤ b → b < N → I b k = 0
theorem v7.step {N N' : Int} {I J : Int → Int → Int} (h : v7 N I) (h0 : 40 ≤ N) (hJ : ∀ b k, b < N → J b k = I b k) (hz : ∀ b k, N ≤ b → b < N' → J b k = 0) : v7 N' J := by
  refine ⟨fun b k b0 b1 b2 => ?_, fun _ => car0_cg (fun b k b0 b1 => hJ b k (by omega)) (h.2.1 h0), fun b k b0 b1 => ?_⟩
  · rw [hJ b k (by omega)]; exact h.1 b k b0 b1 (by omega)
  · by_cases q : b < N
    · rw [hJ b k q]; exact h.2.2 b k b0 q
    · exact hz b k (by omega) b1
def way0 (I : Int → Int → Int) : Prop := (∀ b k, 2 ≤ b → b ≤ 34 → I b k = 0) ∧ car0 I ∧ (∀ b k, 40 ≤ b → b ≤ 143 → I b k = 0) ∧ ∀ k, 0 ≤ k → k < 41 → I 144 k = -1
def spX7_init (As : List MV) (σ : MS) (K : Option MV → MS → Prop) : Prop := pR As fun a r => pN r (a = 2 ∧ σ.1 = 3 ∧ frsh 3 σ.2.1 σ.2.2.1 σ.2.2.2 ∧ (∀ k, σ.2.1 a k = none) ∧ (∀ k, σ.2.2.1 a k = 0) ∧ ∀ P' I' L', mkd a 3 145 σ.2.1 P' σ.2.2.1 I' σ.2.2.2 L' → way0 I' → K none (145, P', I', L'))
def ciX7_init : CI := (1, 20, 142, 6407, spX7_init)
theorem rcX7_init : ∀ (As : List MV) (σ : MS) (K : Option MV → MS → Prop), ciX7_init.2.2.2.2 As σ K → ∃ a As', As = .inr (.inr (some a)) :: As' := fun _ _ _ h => pR_fst h
def kX7_init (pc : Nat) : List ME := match pc with
  | 0 => [(.aload_n 0, 1, []), (.invokespecial 3, 3, []), (.aload_n 0, 1, []), (.new 9, 3, []), (.dup, 1, []), (.invokespecial 11, 3, []), (.putfield 12, 3, [])]
  | 15 => [(.aload_n 0, 1, []), (.new 18, 3, []), (.dup, 1, []), (.invokespecial 20, 3, []), (.putfield 21, 3, [])]
  | 26 => [(.aload_n 0, 1, []), (.new 25, 3, []), (.dup, 1, []), (.invokespecial 27, 3, []), (.putfield 28, 3, [])]
  | 37 => [(.aload_n 0, 1, []), (.new 25, 3, []), (.dup, 1, []), (.invokespecial 27, 3, []), (.putfield 32, 3, [])]
  | 48 => [(.aload_n 0, 1, []), (.bipush 90, 2, []), (.newarray .int, 2, []), (.putfield 35, 3, [])]
  | 56 => [(.aload_n 0, 1, []), (.bipush 90, 2, []), (.bipush 61, 2, []), (.multianewarray 39 2, 4, []), (.putfield 41, 3, [])]
  | 68 => [(.aload_n 0, 1, []), (.bipush 61, 2, []), (.newarray .int, 2, []), (.putfield 44, 3, [])]
  | 76 => [(.aload_n 0, 1, []), (.bipush 61, 2, []), (.newarray .int, 2, []), (.putfield 47, 3, [])]
  | 84 => [(.aload_n 0, 1, []), (.bipush 61, 2, []), (.newarray .int, 2, []), (.putfield 50, 3, [])]
  | 92 => [(.aload_n 0, 1, []), (.bipush 61, 2, []), (.newarray .int, 2, []), (.putfield 53, 3, [])]
  | 100 => [(.aload_n 0, 1, []), (.bipush 41, 2, []), (.newarray .int, 2, []), (.putfield 56, 3, [])]
  | 108 => [(.aload_n 0, 1, []), (.getfield 56, 3, []), (.iconst (-1), 1, []), (.invokestatic 59, 3, []), (.return_, 1, [])]
  | _ => []
theorem qX7_init : ∀ pc, chk cX7_init pc (kX7_init pc) = true := by
  intro pc
  unfold kX7_init
  split <;> first | decide +kernel | exact chk_nil
abbrev rmX7_init : Room := { frames := 4, cells := 142, slots := 6407, locals := 87 }
def aX7_init (x : Nat) : Option CI := match x with
  | 3 => some ciObj
  | 11 => some ciX5_init
  | 20 => some ciX0_init
  | 27 => some ciX6_init
  | 59 => some ciJ7_fill_53178
  | _ => none
theorem aokX7_init : ∀ x ci, aX7_init x = some ci → CalOK RX7 rmX7_init x ci := by
  intro x ci h
  unfold aX7_init at h
  split at h
  · cases h; exact cal_obj (List.forall_mem_cons.mpr ⟨(ws_mem (List.mem_of_getElem? (i := 84) (by decide +kernel)) (by decide +kernel)), List.forall_mem_cons.mpr ⟨(ws_mem (List.mem_of_getElem? (i := 77) (by decide +kernel)) (by decide +kernel)), List.forall_mem_cons.mpr ⟨(ws_mem (List.mem_of_getElem? (i := 78) (by decide +kernel)) (by decide +kernel)), fun _ h => absurd h List.not_mem_nil⟩⟩⟩) (by decide)
  · cases h; exact cal_I mX5_init (by decide) rfl (List.forall_mem_cons.mpr ⟨(ws_mem (List.mem_of_getElem? (i := 87) (by decide +kernel)) (by decide +kernel)), List.forall_mem_cons.mpr ⟨(ws_mem (List.mem_of_getElem? (i := 88) (by decide +kernel)) (by decide +kernel)), List.forall_mem_cons.mpr ⟨(ws_mem (List.mem_of_getElem? (i := 55) (by decide +kernel)) (by decide +kernel)), List.forall_mem_cons.mpr ⟨(ws_mem (List.mem_of_getElem? (i := 89) (by decide +kernel)) (by decide +kernel)), fun _ h => absurd h List.not_mem_nil⟩⟩⟩⟩) rfl (by unfold nice; decide +kernel) (by unfold rfits; decide) ⟨rfl, rfl⟩ rcX5_init
  · cases h; exact cal_I mX0_init (by decide) rfl (List.forall_mem_cons.mpr ⟨(ws_mem (List.mem_of_getElem? (i := 141) (by decide +kernel)) (by decide +kernel)), List.forall_mem_cons.mpr ⟨(ws_mem (List.mem_of_getElem? (i := 142) (by decide +kernel)) (by decide +kernel)), List.forall_mem_cons.mpr ⟨(ws_mem (List.mem_of_getElem? (i := 57) (by decide +kernel)) (by decide +kernel)), List.forall_mem_cons.mpr ⟨(ws_mem (List.mem_of_getElem? (i := 143) (by decide +kernel)) (by decide +kernel)), fun _ h => absurd h List.not_mem_nil⟩⟩⟩⟩) rfl (by unfold nice; decide +kernel) (by unfold rfits; decide) ⟨rfl, rfl⟩ rcX0_init
  · cases h; exact cal_I mX6_init (by decide) rfl (List.forall_mem_cons.mpr ⟨(ws_mem (List.mem_of_getElem? (i := 181) (by decide +kernel)) (by decide +kernel)), List.forall_mem_cons.mpr ⟨(ws_mem (List.mem_of_getElem? (i := 182) (by decide +kernel)) (by decide +kernel)), List.forall_mem_cons.mpr ⟨(ws_mem (List.mem_of_getElem? (i := 59) (by decide +kernel)) (by decide +kernel)), List.forall_mem_cons.mpr ⟨(ws_mem (List.mem_of_getElem? (i := 183) (by decide +kernel)) (by decide +kernel)), fun _ h => absurd h List.not_mem_nil⟩⟩⟩⟩) rfl (by unfold nice; decide +kernel) (by unfold rfits; decide) ⟨rfl, rfl⟩ rcX6_init
  · cases h; exact cal_S mJ7_fill_53178 rfl (List.forall_mem_cons.mpr ⟨(ws_mem (List.mem_of_getElem? (i := 207) (by decide +kernel)) (by decide +kernel)), List.forall_mem_cons.mpr ⟨(ws_mem (List.mem_of_getElem? (i := 208) (by decide +kernel)) (by decide +kernel)), List.forall_mem_cons.mpr ⟨(ws_mem (List.mem_of_getElem? (i := 60) (by decide +kernel)) (by decide +kernel)), List.forall_mem_cons.mpr ⟨(ws_mem (List.mem_of_getElem? (i := 209) (by decide +kernel)) (by decide +kernel)), fun _ h => absurd h List.not_mem_nil⟩⟩⟩⟩) rfl (by unfold nice; decide +kernel) (by unfold rfits; decide) ⟨rfl, rfl⟩
  · cases h
theorem ocX7_init_3 (f : Nat → Nat → Nat → Nat → (List MV → MS → (Option MV → MS → Prop) → Prop) → Prop) : oC aX7_init 3 f = f 1 20 0 0 spObj := propext Iff.rfl
theorem ocX7_init_11 (f : Nat → Nat → Nat → Nat → (List MV → MS → (Option MV → MS → Prop) → Prop) → Prop) : oC aX7_init 11 f = f 1 20 31 180 spX5_init := propext Iff.rfl
theorem ocX7_init_20 (f : Nat → Nat → Nat → Nat → (List MV → MS → (Option MV → MS → Prop) → Prop) → Prop) : oC aX7_init 20 f = f 1 20 4 78 spX0_init := propext Iff.rfl
theorem ocX7_init_27 (f : Nat → Nat → Nat → Nat → (List MV → MS → (Option MV → MS → Prop) → Prop) → Prop) : oC aX7_init 27 f = f 1 20 3 90 spX6_init := propext Iff.rfl
theorem ocX7_init_59 (f : Nat → Nat → Nat → Nat → (List MV → MS → (Option MV → MS → Prop) → Prop) → Prop) : oC aX7_init 59 f = f 2 10 0 0 spJ7_fill_53178 := propext Iff.rfl
theorem mdX7_init : MD RX7 cX7_init rmX7_init kX7_init fX7 aX7_init zX7 uX7 := ⟨fokX7, zokX7, uokX7, aokX7_init, qX7_init⟩
theorem X7_108 {post : Option MV → MS → Prop} {U : Pt → Prop} {P0 : Int → Int → Option Int} {I0 L0 : Int → Int → Int} (H : ∀ P' I' L', mkd 2 3 145 P0 P' I0 I' L0 L' → way0 I' → post none (145, P', I', L')) {P : Int → Int → Option Int} {I L : Int → Int → Int} (h : ST 2 3 P0 I0 L0 145 12 P I L) (v : v7 145 I) : Ok RX7 cX7_init 1 rmX7_init true none post U (108, [some (.inr (.inr (some 2)))], [], (145, P, I, L), 142, 6407) := by
  have p : P 2 11 = some 144 := by rw [h.2.1, if_pos (by omega), PF_2]; rfl
  refine Ok.seg mdX7_init [] 20 ?_
  simp only [wp_nil, wp_cons, ↓stp, ↓lI, ↓lL, ↓lR, ↓lIn_0, ↓lIn_1, ↓lIn_2, ↓lIn_3, ↓lLn_0, ↓lLn_1, ↓lLn_2, ↓lLn_3, ↓lRn_0, ↓lRn_1, ↓lRn_2, ↓lRn_3, ↓pI, ↓pL, ↓pR, ↓pA, ↓pN, ↓pV, ↓fp, ↓tsw, ↓oS, ↓spMax, ↓spMin, ↓spAbs, ↓spObj, RI, RLg, b2i_lo, b2i_hi, getL, setL, ltL, killL, isLong, inl, cnd, br, tgt, rcv, rpl, mputI, mputL, mputP, fv, fr, mcat, mcs, entL, entA, rfit, nf_0, nf_1, nf_2, nf_3, nf2_0, nf2_1, b2i_0, b2i_1, RI_b2i, b2i_fit, List.append, List.length, List.replicate, List.cons_append, List.nil_append, List.length_cons, List.length_nil, List.replicate_succ, List.replicate_zero, List.tail_cons, reduceIte, if_true, if_false, ite_true, ite_false, Bool.false_eq_true, true_and, and_true, and_self, false_and, and_false, or_self, or_true, true_or, or_false, false_or, not_true_eq_false, not_false_eq_true, ne_eq, forall_const, implies_true, imp_self, true_implies, false_implies, Nat.reduceAdd, Nat.reduceSub, Nat.reduceMul, Nat.reduceDiv, Nat.reduceMod, Nat.reduceEqDiff, Nat.reduceLT, Nat.reduceLeDiff, Nat.reduceBEq, Nat.add_zero, Nat.zero_add, Nat.le_refl, Nat.not_lt_zero, Nat.succ_eq_add_one, Int.reduceNatCast, Int.cast_ofNat_Int, Int.reduceSub, Int.reduceMul, Int.reduceNeg, Int.reduceLE, Int.reduceLT, Int.reduceToNat, Int.reduceEq, Int.reduceNe, Int.reduceAdd, Option.some.injEq, kX7_init, rmX7_init, ↓ofX7_12, ↓ofX7_21, ↓ofX7_28, ↓ofX7_32, ↓ofX7_35, ↓ofX7_41, ↓ofX7_44, ↓ofX7_47, ↓ofX7_50, ↓ofX7_53, ↓ofX7_56, ↓onX7_18, ↓onX7_25, ↓onX7_39, ↓onX7_9, ↓ocX7_init_3, ↓ocX7_init_11, ↓spX5_init, ↓ocX7_init_20, ↓spX0_init, ↓ocX7_init_27, ↓spX6_init, ↓ocX7_init_59, ↓spJ7_fill_53178, p, G_2, G_144]
  refine H _ _ _ (ST.mkd ⟨h.1, h.2.1, fun b k b0 b1 => ?_⟩ (fun k k0 => by rw [PF_2]; repeat rw [if_neg (by omega)])) ⟨fun b k b0 b1 => ?_, car0_cg (fun b k b0 b1 => if_neg (by omega)) (v.2.1 (by omega)), fun b k b0 b1 => ?_, fun k k0 k1 => if_pos ⟨rfl, k0, k1⟩⟩
  · rw [show filI I 144 (-1) 41 b k = I b k from if_neg (by omega)]; exact h.2.2 b k b0 b1
  · rw [show filI I 144 (-1) 41 b k = I b k from if_neg (by omega)]; exact v.1 b k b0 b1 (by omega)
  · rw [show filI I 144 (-1) 41 b k = I b k from if_neg (by omega)]; exact v.2.2 b k b0 (by omega)
theorem X7_100 {post : Option MV → MS → Prop} {U : Pt → Prop} {P0 : Int → Int → Option Int} {I0 L0 : Int → Int → Int} (H : ∀ P' I' L', mkd 2 3 145 P0 P' I0 I' L0 L' → way0 I' → post none (145, P', I', L')) {P : Int → Int → Option Int} {I L : Int → Int → Int} (h : ST 2 3 P0 I0 L0 144 11 P I L) (v : v7 144 I) : Ok RX7 cX7_init 1 rmX7_init true none post U (100, [some (.inr (.inr (some 2)))], [], (144, P, I, L), 141, 6366) := by
  refine Ok.seg mdX7_init [108] 20 ?_
  simp only [wp_nil, wp_cons, ↓stp, ↓lI, ↓lL, ↓lR, ↓lIn_0, ↓lIn_1, ↓lIn_2, ↓lIn_3, ↓lLn_0, ↓lLn_1, ↓lLn_2, ↓lLn_3, ↓lRn_0, ↓lRn_1, ↓lRn_2, ↓lRn_3, ↓pI, ↓pL, ↓pR, ↓pA, ↓pN, ↓pV, ↓fp, ↓tsw, ↓oS, ↓spMax, ↓spMin, ↓spAbs, ↓spObj, RI, RLg, b2i_lo, b2i_hi, getL, setL, ltL, killL, isLong, inl, cnd, br, tgt, rcv, rpl, mputI, mputL, mputP, fv, fr, mcat, mcs, entL, entA, rfit, nf_0, nf_1, nf_2, nf_3, nf2_0, nf2_1, b2i_0, b2i_1, RI_b2i, b2i_fit, List.append, List.length, List.replicate, List.cons_append, List.nil_append, List.length_cons, List.length_nil, List.replicate_succ, List.replicate_zero, List.tail_cons, reduceIte, if_true, if_false, ite_true, ite_false, Bool.false_eq_true, true_and, and_true, and_self, false_and, and_false, or_self, or_true, true_or, or_false, false_or, not_true_eq_false, not_false_eq_true, ne_eq, forall_const, implies_true, imp_self, true_implies, false_implies, Nat.reduceAdd, Nat.reduceSub, Nat.reduceMul, Nat.reduceDiv, Nat.reduceMod, Nat.reduceEqDiff, Nat.reduceLT, Nat.reduceLeDiff, Nat.reduceBEq, Nat.add_zero, Nat.zero_add, Nat.le_refl, Nat.not_lt_zero, Nat.succ_eq_add_one, Int.reduceNatCast, Int.cast_ofNat_Int, Int.reduceSub, Int.reduceMul, Int.reduceNeg, Int.reduceLE, Int.reduceLT, Int.reduceToNat, Int.reduceEq, Int.reduceNe, Int.reduceAdd, Option.some.injEq, kX7_init, rmX7_init, ↓ofX7_12, ↓ofX7_21, ↓ofX7_28, ↓ofX7_32, ↓ofX7_35, ↓ofX7_41, ↓ofX7_44, ↓ofX7_47, ↓ofX7_50, ↓ofX7_53, ↓ofX7_56, ↓onX7_18, ↓onX7_25, ↓onX7_39, ↓onX7_9, ↓ocX7_init_3, ↓ocX7_init_11, ↓spX5_init, ↓ocX7_init_20, ↓spX0_init, ↓ocX7_init_27, ↓spX6_init, ↓ocX7_init_59, ↓spJ7_fill_53178, mnew, G_2, G_144]
  refine ⟨by decide, rfl, X7_108 H (h.arr 11 (by omega) (by omega) (by omega) (fun k a b => by omega) (by rw [PF_2]; rfl) (PF_wrow (by omega))) (v.step (by omega) (fun b k hb => if_neg (by omega)) (fun b k b0 b1 => if_pos (by omega)))⟩
theorem X7_92 {post : Option MV → MS → Prop} {U : Pt → Prop} {P0 : Int → Int → Option Int} {I0 L0 : Int → Int → Int} (H : ∀ P' I' L', mkd 2 3 145 P0 P' I0 I' L0 L' → way0 I' → post none (145, P', I', L')) {P : Int → Int → Option Int} {I L : Int → Int → Int} (h : ST 2 3 P0 I0 L0 143 10 P I L) (v : v7 143 I) : Ok RX7 cX7_init 1 rmX7_init true none post U (92, [some (.inr (.inr (some 2)))], [], (143, P, I, L), 140, 6305) := by
  refine Ok.seg mdX7_init [100] 20 ?_
  simp only [wp_nil, wp_cons, ↓stp, ↓lI, ↓lL, ↓lR, ↓lIn_0, ↓lIn_1, ↓lIn_2, ↓lIn_3, ↓lLn_0, ↓lLn_1, ↓lLn_2, ↓lLn_3, ↓lRn_0, ↓lRn_1, ↓lRn_2, ↓lRn_3, ↓pI, ↓pL, ↓pR, ↓pA, ↓pN, ↓pV, ↓fp, ↓tsw, ↓oS, ↓spMax, ↓spMin, ↓spAbs, ↓spObj, RI, RLg, b2i_lo, b2i_hi, getL, setL, ltL, killL, isLong, inl, cnd, br, tgt, rcv, rpl, mputI, mputL, mputP, fv, fr, mcat, mcs, entL, entA, rfit, nf_0, nf_1, nf_2, nf_3, nf2_0, nf2_1, b2i_0, b2i_1, RI_b2i, b2i_fit, List.append, List.length, List.replicate, List.cons_append, List.nil_append, List.length_cons, List.length_nil, List.replicate_succ, List.replicate_zero, List.tail_cons, reduceIte, if_true, if_false, ite_true, ite_false, Bool.false_eq_true, true_and, and_true, and_self, false_and, and_false, or_self, or_true, true_or, or_false, false_or, not_true_eq_false, not_false_eq_true, ne_eq, forall_const, implies_true, imp_self, true_implies, false_implies, Nat.reduceAdd, Nat.reduceSub, Nat.reduceMul, Nat.reduceDiv, Nat.reduceMod, Nat.reduceEqDiff, Nat.reduceLT, Nat.reduceLeDiff, Nat.reduceBEq, Nat.add_zero, Nat.zero_add, Nat.le_refl, Nat.not_lt_zero, Nat.succ_eq_add_one, Int.reduceNatCast, Int.cast_ofNat_Int, Int.reduceSub, Int.reduceMul, Int.reduceNeg, Int.reduceLE, Int.reduceLT, Int.reduceToNat, Int.reduceEq, Int.reduceNe, Int.reduceAdd, Option.some.injEq, kX7_init, rmX7_init, ↓ofX7_12, ↓ofX7_21, ↓ofX7_28, ↓ofX7_32, ↓ofX7_35, ↓ofX7_41, ↓ofX7_44, ↓ofX7_47, ↓ofX7_50, ↓ofX7_53, ↓ofX7_56, ↓onX7_18, ↓onX7_25, ↓onX7_39, ↓onX7_9, ↓ocX7_init_3, ↓ocX7_init_11, ↓spX5_init, ↓ocX7_init_20, ↓spX0_init, ↓ocX7_init_27, ↓spX6_init, ↓ocX7_init_59, ↓spJ7_fill_53178, mnew, G_2, G_143]
  refine ⟨by decide, rfl, X7_100 H (h.arr 10 (by omega) (by omega) (by omega) (fun k a b => by omega) (by rw [PF_2]; rfl) (PF_wrow (by omega))) (v.step (by omega) (fun b k hb => if_neg (by omega)) (fun b k b0 b1 => if_pos (by omega)))⟩
theorem X7_84 {post : Option MV → MS → Prop} {U : Pt → Prop} {P0 : Int → Int → Option Int} {I0 L0 : Int → Int → Int} (H : ∀ P' I' L', mkd 2 3 145 P0 P' I0 I' L0 L' → way0 I' → post none (145, P', I', L')) {P : Int → Int → Option Int} {I L : Int → Int → Int} (h : ST 2 3 P0 I0 L0 142 9 P I L) (v : v7 142 I) : Ok RX7 cX7_init 1 rmX7_init true none post U (84, [some (.inr (.inr (some 2)))], [], (142, P, I, L), 139, 6244) := by
  refine Ok.seg mdX7_init [92] 20 ?_
  simp only [wp_nil, wp_cons, ↓stp, ↓lI, ↓lL, ↓lR, ↓lIn_0, ↓lIn_1, ↓lIn_2, ↓lIn_3, ↓lLn_0, ↓lLn_1, ↓lLn_2, ↓lLn_3, ↓lRn_0, ↓lRn_1, ↓lRn_2, ↓lRn_3, ↓pI, ↓pL, ↓pR, ↓pA, ↓pN, ↓pV, ↓fp, ↓tsw, ↓oS, ↓spMax, ↓spMin, ↓spAbs, ↓spObj, RI, RLg, b2i_lo, b2i_hi, getL, setL, ltL, killL, isLong, inl, cnd, br, tgt, rcv, rpl, mputI, mputL, mputP, fv, fr, mcat, mcs, entL, entA, rfit, nf_0, nf_1, nf_2, nf_3, nf2_0, nf2_1, b2i_0, b2i_1, RI_b2i, b2i_fit, List.append, List.length, List.replicate, List.cons_append, List.nil_append, List.length_cons, List.length_nil, List.replicate_succ, List.replicate_zero, List.tail_cons, reduceIte, if_true, if_false, ite_true, ite_false, Bool.false_eq_true, true_and, and_true, and_self, false_and, and_false, or_self, or_true, true_or, or_false, false_or, not_true_eq_false, not_false_eq_true, ne_eq, forall_const, implies_true, imp_self, true_implies, false_implies, Nat.reduceAdd, Nat.reduceSub, Nat.reduceMul, Nat.reduceDiv, Nat.reduceMod, Nat.reduceEqDiff, Nat.reduceLT, Nat.reduceLeDiff, Nat.reduceBEq, Nat.add_zero, Nat.zero_add, Nat.le_refl, Nat.not_lt_zero, Nat.succ_eq_add_one, Int.reduceNatCast, Int.cast_ofNat_Int, Int.reduceSub, Int.reduceMul, Int.reduceNeg, Int.reduceLE, Int.reduceLT, Int.reduceToNat, Int.reduceEq, Int.reduceNe, Int.reduceAdd, Option.some.injEq, kX7_init, rmX7_init, ↓ofX7_12, ↓ofX7_21, ↓ofX7_28, ↓ofX7_32, ↓ofX7_35, ↓ofX7_41, ↓ofX7_44, ↓ofX7_47, ↓ofX7_50, ↓ofX7_53, ↓ofX7_56, ↓onX7_18, ↓onX7_25, ↓onX7_39, ↓onX7_9, ↓ocX7_init_3, ↓ocX7_init_11, ↓spX5_init, ↓ocX7_init_20, ↓spX0_init, ↓ocX7_init_27, ↓spX6_init, ↓ocX7_init_59, ↓spJ7_fill_53178, mnew, G_2, G_142]
  refine ⟨by decide, rfl, X7_92 H (h.arr 9 (by omega) (by omega) (by omega) (fun k a b => by omega) (by rw [PF_2]; rfl) (PF_wrow (by omega))) (v.step (by omega) (fun b k hb => if_neg (by omega)) (fun b k b0 b1 => if_pos (by omega)))⟩
theorem X7_76 {post : Option MV → MS → Prop} {U : Pt → Prop} {P0 : Int → Int → Option Int} {I0 L0 : Int → Int → Int} (H : ∀ P' I' L', mkd 2 3 145 P0 P' I0 I' L0 L' → way0 I' → post none (145, P', I', L')) {P : Int → Int → Option Int} {I L : Int → Int → Int} (h : ST 2 3 P0 I0 L0 141 8 P I L) (v : v7 141 I) : Ok RX7 cX7_init 1 rmX7_init true none post U (76, [some (.inr (.inr (some 2)))], [], (141, P, I, L), 138, 6183) := by
  refine Ok.seg mdX7_init [84] 20 ?_
  simp only [wp_nil, wp_cons, ↓stp, ↓lI, ↓lL, ↓lR, ↓lIn_0, ↓lIn_1, ↓lIn_2, ↓lIn_3, ↓lLn_0, ↓lLn_1, ↓lLn_2, ↓lLn_3, ↓lRn_0, ↓lRn_1, ↓lRn_2, ↓lRn_3, ↓pI, ↓pL, ↓pR, ↓pA, ↓pN, ↓pV, ↓fp, ↓tsw, ↓oS, ↓spMax, ↓spMin, ↓spAbs, ↓spObj, RI, RLg, b2i_lo, b2i_hi, getL, setL, ltL, killL, isLong, inl, cnd, br, tgt, rcv, rpl, mputI, mputL, mputP, fv, fr, mcat, mcs, entL, entA, rfit, nf_0, nf_1, nf_2, nf_3, nf2_0, nf2_1, b2i_0, b2i_1, RI_b2i, b2i_fit, List.append, List.length, List.replicate, List.cons_append, List.nil_append, List.length_cons, List.length_nil, List.replicate_succ, List.replicate_zero, List.tail_cons, reduceIte, if_true, if_false, ite_true, ite_false, Bool.false_eq_true, true_and, and_true, and_self, false_and, and_false, or_self, or_true, true_or, or_false, false_or, not_true_eq_false, not_false_eq_true, ne_eq, forall_const, implies_true, imp_self, true_implies, false_implies, Nat.reduceAdd, Nat.reduceSub, Nat.reduceMul, Nat.reduceDiv, Nat.reduceMod, Nat.reduceEqDiff, Nat.reduceLT, Nat.reduceLeDiff, Nat.reduceBEq, Nat.add_zero, Nat.zero_add, Nat.le_refl, Nat.not_lt_zero, Nat.succ_eq_add_one, Int.reduceNatCast, Int.cast_ofNat_Int, Int.reduceSub, Int.reduceMul, Int.reduceNeg, Int.reduceLE, Int.reduceLT, Int.reduceToNat, Int.reduceEq, Int.reduceNe, Int.reduceAdd, Option.some.injEq, kX7_init, rmX7_init, ↓ofX7_12, ↓ofX7_21, ↓ofX7_28, ↓ofX7_32, ↓ofX7_35, ↓ofX7_41, ↓ofX7_44, ↓ofX7_47, ↓ofX7_50, ↓ofX7_53, ↓ofX7_56, ↓onX7_18, ↓onX7_25, ↓onX7_39, ↓onX7_9, ↓ocX7_init_3, ↓ocX7_init_11, ↓spX5_init, ↓ocX7_init_20, ↓spX0_init, ↓ocX7_init_27, ↓spX6_init, ↓ocX7_init_59, ↓spJ7_fill_53178, mnew, G_2, G_141]
  refine ⟨by decide, rfl, X7_84 H (h.arr 8 (by omega) (by omega) (by omega) (fun k a b => by omega) (by rw [PF_2]; rfl) (PF_wrow (by omega))) (v.step (by omega) (fun b k hb => if_neg (by omega)) (fun b k b0 b1 => if_pos (by omega)))⟩
theorem X7_68 {post : Option MV → MS → Prop} {U : Pt → Prop} {P0 : Int → Int → Option Int} {I0 L0 : Int → Int → Int} (H : ∀ P' I' L', mkd 2 3 145 P0 P' I0 I' L0 L' → way0 I' → post none (145, P', I', L')) {P : Int → Int → Option Int} {I L : Int → Int → Int} (h : ST 2 3 P0 I0 L0 140 7 P I L) (v : v7 140 I) : Ok RX7 cX7_init 1 rmX7_init true none post U (68, [some (.inr (.inr (some 2)))], [], (140, P, I, L), 137, 6122) := by
  refine Ok.seg mdX7_init [76] 20 ?_
  simp only [wp_nil, wp_cons, ↓stp, ↓lI, ↓lL, ↓lR, ↓lIn_0, ↓lIn_1, ↓lIn_2, ↓lIn_3, ↓lLn_0, ↓lLn_1, ↓lLn_2, ↓lLn_3, ↓lRn_0, ↓lRn_1, ↓lRn_2, ↓lRn_3, ↓pI, ↓pL, ↓pR, ↓pA, ↓pN, ↓pV, ↓fp, ↓tsw, ↓oS, ↓spMax, ↓spMin, ↓spAbs, ↓spObj, RI, RLg, b2i_lo, b2i_hi, getL, setL, ltL, killL, isLong, inl, cnd, br, tgt, rcv, rpl, mputI, mputL, mputP, fv, fr, mcat, mcs, entL, entA, rfit, nf_0, nf_1, nf_2, nf_3, nf2_0, nf2_1, b2i_0, b2i_1, RI_b2i, b2i_fit, List.append, List.length, List.replicate, List.cons_append, List.nil_append, List.length_cons, List.length_nil, List.replicate_succ, List.replicate_zero, List.tail_cons, reduceIte, if_true, if_false, ite_true, ite_false, Bool.false_eq_true, true_and, and_true, and_self, false_and, and_false, or_self, or_true, true_or, or_false, false_or, not_true_eq_false, not_false_eq_true, ne_eq, forall_const, implies_true, imp_self, true_implies, false_implies, Nat.reduceAdd, Nat.reduceSub, Nat.reduceMul, Nat.reduceDiv, Nat.reduceMod, Nat.reduceEqDiff, Nat.reduceLT, Nat.reduceLeDiff, Nat.reduceBEq, Nat.add_zero, Nat.zero_add, Nat.le_refl, Nat.not_lt_zero, Nat.succ_eq_add_one, Int.reduceNatCast, Int.cast_ofNat_Int, Int.reduceSub, Int.reduceMul, Int.reduceNeg, Int.reduceLE, Int.reduceLT, Int.reduceToNat, Int.reduceEq, Int.reduceNe, Int.reduceAdd, Option.some.injEq, kX7_init, rmX7_init, ↓ofX7_12, ↓ofX7_21, ↓ofX7_28, ↓ofX7_32, ↓ofX7_35, ↓ofX7_41, ↓ofX7_44, ↓ofX7_47, ↓ofX7_50, ↓ofX7_53, ↓ofX7_56, ↓onX7_18, ↓onX7_25, ↓onX7_39, ↓onX7_9, ↓ocX7_init_3, ↓ocX7_init_11, ↓spX5_init, ↓ocX7_init_20, ↓spX0_init, ↓ocX7_init_27, ↓spX6_init, ↓ocX7_init_59, ↓spJ7_fill_53178, mnew, G_2, G_140]
  refine ⟨by decide, rfl, X7_76 H (h.arr 7 (by omega) (by omega) (by omega) (fun k a b => by omega) (by rw [PF_2]; rfl) (PF_wrow (by omega))) (v.step (by omega) (fun b k hb => if_neg (by omega)) (fun b k b0 b1 => if_pos (by omega)))⟩
theorem X7_56 {post : Option MV → MS → Prop} {U : Pt → Prop} {P0 : Int → Int → Option Int} {I0 L0 : Int → Int → Int} (H : ∀ P' I' L', mkd 2 3 145 P0 P' I0 I' L0 L' → way0 I' → post none (145, P', I', L')) {P : Int → Int → Option Int} {I L : Int → Int → Int} (hfr : frsh 3 P0 I0 L0) (h : ST 2 3 P0 I0 L0 49 6 P I L) (v : v7 49 I) : Ok RX7 cX7_init 1 rmX7_init true none post U (56, [some (.inr (.inr (some 2)))], [], (49, P, I, L), 46, 542) := by
  refine Ok.seg mdX7_init [68] 20 ?_
  simp only [wp_nil, wp_cons, ↓stp, ↓lI, ↓lL, ↓lR, ↓lIn_0, ↓lIn_1, ↓lIn_2, ↓lIn_3, ↓lLn_0, ↓lLn_1, ↓lLn_2, ↓lLn_3, ↓lRn_0, ↓lRn_1, ↓lRn_2, ↓lRn_3, ↓pI, ↓pL, ↓pR, ↓pA, ↓pN, ↓pV, ↓fp, ↓tsw, ↓oS, ↓spMax, ↓spMin, ↓spAbs, ↓spObj, RI, RLg, b2i_lo, b2i_hi, getL, setL, ltL, killL, isLong, inl, cnd, br, tgt, rcv, rpl, mputI, mputL, mputP, fv, fr, mcat, mcs, entL, entA, rfit, nf_0, nf_1, nf_2, nf_3, nf2_0, nf2_1, b2i_0, b2i_1, RI_b2i, b2i_fit, List.append, List.length, List.replicate, List.cons_append, List.nil_append, List.length_cons, List.length_nil, List.replicate_succ, List.replicate_zero, List.tail_cons, reduceIte, if_true, if_false, ite_true, ite_false, Bool.false_eq_true, true_and, and_true, and_self, false_and, and_false, or_self, or_true, true_or, or_false, false_or, not_true_eq_false, not_false_eq_true, ne_eq, forall_const, implies_true, imp_self, true_implies, false_implies, Nat.reduceAdd, Nat.reduceSub, Nat.reduceMul, Nat.reduceDiv, Nat.reduceMod, Nat.reduceEqDiff, Nat.reduceLT, Nat.reduceLeDiff, Nat.reduceBEq, Nat.add_zero, Nat.zero_add, Nat.le_refl, Nat.not_lt_zero, Nat.succ_eq_add_one, Int.reduceNatCast, Int.cast_ofNat_Int, Int.reduceSub, Int.reduceMul, Int.reduceNeg, Int.reduceLE, Int.reduceLT, Int.reduceToNat, Int.reduceEq, Int.reduceNe, Int.reduceAdd, Option.some.injEq, kX7_init, rmX7_init, ↓ofX7_12, ↓ofX7_21, ↓ofX7_28, ↓ofX7_32, ↓ofX7_35, ↓ofX7_41, ↓ofX7_44, ↓ofX7_47, ↓ofX7_50, ↓ofX7_53, ↓ofX7_56, ↓onX7_18, ↓onX7_25, ↓onX7_39, ↓onX7_9, ↓ocX7_init_3, ↓ocX7_init_11, ↓spX5_init, ↓ocX7_init_20, ↓spX0_init, ↓ocX7_init_27, ↓spX6_init, ↓ocX7_init_59, ↓spJ7_fill_53178, mnewM, G_2, G_49]
  refine ⟨fun i hi => G_rsts (by omega) (by omega), X7_68 H (h.mar 6 90 50 hfr (by omega) (by omega) (by omega) (by omega) (by omega) (fun k a b => by omega) (by rw [PF_2]; rfl) (fun b k b0 b1 => PF_wrow (by omega) k) PF_49) (v.step (by omega) (fun b k hb => if_neg (by omega)) (fun b k b0 b1 => if_pos (by omega)))⟩
theorem X7_48 {post : Option MV → MS → Prop} {U : Pt → Prop} {P0 : Int → Int → Option Int} {I0 L0 : Int → Int → Int} (H : ∀ P' I' L', mkd 2 3 145 P0 P' I0 I' L0 L' → way0 I' → post none (145, P', I', L')) {P : Int → Int → Option Int} {I L : Int → Int → Int} (hfr : frsh 3 P0 I0 L0) (h : ST 2 3 P0 I0 L0 48 5 P I L) (v : v7 48 I) : Ok RX7 cX7_init 1 rmX7_init true none post U (48, [some (.inr (.inr (some 2)))], [], (48, P, I, L), 45, 452) := by
  refine Ok.seg mdX7_init [56] 20 ?_
  simp only [wp_nil, wp_cons, ↓stp, ↓lI, ↓lL, ↓lR, ↓lIn_0, ↓lIn_1, ↓lIn_2, ↓lIn_3, ↓lLn_0, ↓lLn_1, ↓lLn_2, ↓lLn_3, ↓lRn_0, ↓lRn_1, ↓lRn_2, ↓lRn_3, ↓pI, ↓pL, ↓pR, ↓pA, ↓pN, ↓pV, ↓fp, ↓tsw, ↓oS, ↓spMax, ↓spMin, ↓spAbs, ↓spObj, RI, RLg, b2i_lo, b2i_hi, getL, setL, ltL, killL, isLong, inl, cnd, br, tgt, rcv, rpl, mputI, mputL, mputP, fv, fr, mcat, mcs, entL, entA, rfit, nf_0, nf_1, nf_2, nf_3, nf2_0, nf2_1, b2i_0, b2i_1, RI_b2i, b2i_fit, List.append, List.length, List.replicate, List.cons_append, List.nil_append, List.length_cons, List.length_nil, List.replicate_succ, List.replicate_zero, List.tail_cons, reduceIte, if_true, if_false, ite_true, ite_false, Bool.false_eq_true, true_and, and_true, and_self, false_and, and_false, or_self, or_true, true_or, or_false, false_or, not_true_eq_false, not_false_eq_true, ne_eq, forall_const, implies_true, imp_self, true_implies, false_implies, Nat.reduceAdd, Nat.reduceSub, Nat.reduceMul, Nat.reduceDiv, Nat.reduceMod, Nat.reduceEqDiff, Nat.reduceLT, Nat.reduceLeDiff, Nat.reduceBEq, Nat.add_zero, Nat.zero_add, Nat.le_refl, Nat.not_lt_zero, Nat.succ_eq_add_one, Int.reduceNatCast, Int.cast_ofNat_Int, Int.reduceSub, Int.reduceMul, Int.reduceNeg, Int.reduceLE, Int.reduceLT, Int.reduceToNat, Int.reduceEq, Int.reduceNe, Int.reduceAdd, Option.some.injEq, kX7_init, rmX7_init, ↓ofX7_12, ↓ofX7_21, ↓ofX7_28, ↓ofX7_32, ↓ofX7_35, ↓ofX7_41, ↓ofX7_44, ↓ofX7_47, ↓ofX7_50, ↓ofX7_53, ↓ofX7_56, ↓onX7_18, ↓onX7_25, ↓onX7_39, ↓onX7_9, ↓ocX7_init_3, ↓ocX7_init_11, ↓spX5_init, ↓ocX7_init_20, ↓spX0_init, ↓ocX7_init_27, ↓spX6_init, ↓ocX7_init_59, ↓spJ7_fill_53178, mnew, G_2, G_48]
  refine ⟨by decide, rfl, X7_56 H hfr (h.arr 5 (by omega) (by omega) (by omega) (fun k a b => by omega) (by rw [PF_2]; rfl) (PF_wrow (by omega))) (v.step (by omega) (fun b k hb => if_neg (by omega)) (fun b k b0 b1 => if_pos (by omega)))⟩
theorem X7_37 {post : Option MV → MS → Prop} {U : Pt → Prop} {P0 : Int → Int → Option Int} {I0 L0 : Int → Int → Int} (H : ∀ P' I' L', mkd 2 3 145 P0 P' I0 I' L0 L' → way0 I' → post none (145, P', I', L')) {P : Int → Int → Option Int} {I L : Int → Int → Int} (hfr : frsh 3 P0 I0 L0) (h : ST 2 3 P0 I0 L0 44 4 P I L) (v : v7 44 I) : Ok RX7 cX7_init 1 rmX7_init true none post U (37, [some (.inr (.inr (some 2)))], [], (44, P, I, L), 41, 358) := by
  refine Ok.seg mdX7_init [48] 20 ?_
  simp only [wp_nil, wp_cons, ↓stp, ↓lI, ↓lL, ↓lR, ↓lIn_0, ↓lIn_1, ↓lIn_2, ↓lIn_3, ↓lLn_0, ↓lLn_1, ↓lLn_2, ↓lLn_3, ↓lRn_0, ↓lRn_1, ↓lRn_2, ↓lRn_3, ↓pI, ↓pL, ↓pR, ↓pA, ↓pN, ↓pV, ↓fp, ↓tsw, ↓oS, ↓spMax, ↓spMin, ↓spAbs, ↓spObj, RI, RLg, b2i_lo, b2i_hi, getL, setL, ltL, killL, isLong, inl, cnd, br, tgt, rcv, rpl, mputI, mputL, mputP, fv, fr, mcat, mcs, entL, entA, rfit, nf_0, nf_1, nf_2, nf_3, nf2_0, nf2_1, b2i_0, b2i_1, RI_b2i, b2i_fit, List.append, List.length, List.replicate, List.cons_append, List.nil_append, List.length_cons, List.length_nil, List.replicate_succ, List.replicate_zero, List.tail_cons, reduceIte, if_true, if_false, ite_true, ite_false, Bool.false_eq_true, true_and, and_true, and_self, false_and, and_false, or_self, or_true, true_or, or_false, false_or, not_true_eq_false, not_false_eq_true, ne_eq, forall_const, implies_true, imp_self, true_implies, false_implies, Nat.reduceAdd, Nat.reduceSub, Nat.reduceMul, Nat.reduceDiv, Nat.reduceMod, Nat.reduceEqDiff, Nat.reduceLT, Nat.reduceLeDiff, Nat.reduceBEq, Nat.add_zero, Nat.zero_add, Nat.le_refl, Nat.not_lt_zero, Nat.succ_eq_add_one, Int.reduceNatCast, Int.cast_ofNat_Int, Int.reduceSub, Int.reduceMul, Int.reduceNeg, Int.reduceLE, Int.reduceLT, Int.reduceToNat, Int.reduceEq, Int.reduceNe, Int.reduceAdd, Option.some.injEq, kX7_init, rmX7_init, ↓ofX7_12, ↓ofX7_21, ↓ofX7_28, ↓ofX7_32, ↓ofX7_35, ↓ofX7_41, ↓ofX7_44, ↓ofX7_47, ↓ofX7_50, ↓ofX7_53, ↓ofX7_56, ↓onX7_18, ↓onX7_25, ↓onX7_39, ↓onX7_9, ↓ocX7_init_3, ↓ocX7_init_11, ↓spX5_init, ↓ocX7_init_20, ↓spX0_init, ↓ocX7_init_27, ↓spX6_init, ↓ocX7_init_59, ↓spJ7_fill_53178, mnew, nfs_6, G_2, G_44]
  refine fun P' I' L' hm hi => X7_48 H hfr (h.obj 4 (by omega) (by omega) (by omega) (by omega) (fun k a b => by omega) (by rw [PF_2]; rfl) hm) (v.step (by omega) (fun b k hb => (hm.2.2.1 b k (by omega) (by omega)).trans (if_neg (by omega))) (fun b k b0 b1 => hi b k (by omega) (by omega)))
theorem X7_26 {post : Option MV → MS → Prop} {U : Pt → Prop} {P0 : Int → Int → Option Int} {I0 L0 : Int → Int → Int} (H : ∀ P' I' L', mkd 2 3 145 P0 P' I0 I' L0 L' → way0 I' → post none (145, P', I', L')) {P : Int → Int → Option Int} {I L : Int → Int → Int} (hfr : frsh 3 P0 I0 L0) (h : ST 2 3 P0 I0 L0 40 2 P I L) (v : v7 40 I) : Ok RX7 cX7_init 1 rmX7_init true none post U (26, [some (.inr (.inr (some 2)))], [], (40, P, I, L), 37, 264) := by
  refine Ok.seg mdX7_init [37] 20 ?_
  simp only [wp_nil, wp_cons, ↓stp, ↓lI, ↓lL, ↓lR, ↓lIn_0, ↓lIn_1, ↓lIn_2, ↓lIn_3, ↓lLn_0, ↓lLn_1, ↓lLn_2, ↓lLn_3, ↓lRn_0, ↓lRn_1, ↓lRn_2, ↓lRn_3, ↓pI, ↓pL, ↓pR, ↓pA, ↓pN, ↓pV, ↓fp, ↓tsw, ↓oS, ↓spMax, ↓spMin, ↓spAbs, ↓spObj, RI, RLg, b2i_lo, b2i_hi, getL, setL, ltL, killL, isLong, inl, cnd, br, tgt, rcv, rpl, mputI, mputL, mputP, fv, fr, mcat, mcs, entL, entA, rfit, nf_0, nf_1, nf_2, nf_3, nf2_0, nf2_1, b2i_0, b2i_1, RI_b2i, b2i_fit, List.append, List.length, List.replicate, List.cons_append, List.nil_append, List.length_cons, List.length_nil, List.replicate_succ, List.replicate_zero, List.tail_cons, reduceIte, if_true, if_false, ite_true, ite_false, Bool.false_eq_true, true_and, and_true, and_self, false_and, and_false, or_self, or_true, true_or, or_false, false_or, not_true_eq_false, not_false_eq_true, ne_eq, forall_const, implies_true, imp_self, true_implies, false_implies, Nat.reduceAdd, Nat.reduceSub, Nat.reduceMul, Nat.reduceDiv, Nat.reduceMod, Nat.reduceEqDiff, Nat.reduceLT, Nat.reduceLeDiff, Nat.reduceBEq, Nat.add_zero, Nat.zero_add, Nat.le_refl, Nat.not_lt_zero, Nat.succ_eq_add_one, Int.reduceNatCast, Int.cast_ofNat_Int, Int.reduceSub, Int.reduceMul, Int.reduceNeg, Int.reduceLE, Int.reduceLT, Int.reduceToNat, Int.reduceEq, Int.reduceNe, Int.reduceAdd, Option.some.injEq, kX7_init, rmX7_init, ↓ofX7_12, ↓ofX7_21, ↓ofX7_28, ↓ofX7_32, ↓ofX7_35, ↓ofX7_41, ↓ofX7_44, ↓ofX7_47, ↓ofX7_50, ↓ofX7_53, ↓ofX7_56, ↓onX7_18, ↓onX7_25, ↓onX7_39, ↓onX7_9, ↓ocX7_init_3, ↓ocX7_init_11, ↓spX5_init, ↓ocX7_init_20, ↓spX0_init, ↓ocX7_init_27, ↓spX6_init, ↓ocX7_init_59, ↓spJ7_fill_53178, mnew, nfs_6, G_2, G_40]
  refine fun P' I' L' hm hi => X7_37 H hfr (h.obj 3 (by omega) (by omega) (by omega) (by omega) (fun k a b => by rw [PF_2]; repeat rw [if_neg (by omega)]) (by rw [PF_2]; rfl) hm) (v.step (by omega) (fun b k hb => (hm.2.2.1 b k (by omega) (by omega)).trans (if_neg (by omega))) (fun b k b0 b1 => hi b k (by omega) (by omega)))
theorem X7_15 {post : Option MV → MS → Prop} {U : Pt → Prop} {P0 : Int → Int → Option Int} {I0 L0 : Int → Int → Int} (H : ∀ P' I' L', mkd 2 3 145 P0 P' I0 I' L0 L' → way0 I' → post none (145, P', I', L')) {P : Int → Int → Option Int} {I L : Int → Int → Int} (hfr : frsh 3 P0 I0 L0) (h : ST 2 3 P0 I0 L0 35 1 P I L) (v : v7 35 I) : Ok RX7 cX7_init 1 rmX7_init true none post U (15, [some (.inr (.inr (some 2)))], [], (35, P, I, L), 32, 182) := by
  refine Ok.seg mdX7_init [26] 20 ?_
  simp only [wp_nil, wp_cons, ↓stp, ↓lI, ↓lL, ↓lR, ↓lIn_0, ↓lIn_1, ↓lIn_2, ↓lIn_3, ↓lLn_0, ↓lLn_1, ↓lLn_2, ↓lLn_3, ↓lRn_0, ↓lRn_1, ↓lRn_2, ↓lRn_3, ↓pI, ↓pL, ↓pR, ↓pA, ↓pN, ↓pV, ↓fp, ↓tsw, ↓oS, ↓spMax, ↓spMin, ↓spAbs, ↓spObj, RI, RLg, b2i_lo, b2i_hi, getL, setL, ltL, killL, isLong, inl, cnd, br, tgt, rcv, rpl, mputI, mputL, mputP, fv, fr, mcat, mcs, entL, entA, rfit, nf_0, nf_1, nf_2, nf_3, nf2_0, nf2_1, b2i_0, b2i_1, RI_b2i, b2i_fit, List.append, List.length, List.replicate, List.cons_append, List.nil_append, List.length_cons, List.length_nil, List.replicate_succ, List.replicate_zero, List.tail_cons, reduceIte, if_true, if_false, ite_true, ite_false, Bool.false_eq_true, true_and, and_true, and_self, false_and, and_false, or_self, or_true, true_or, or_false, false_or, not_true_eq_false, not_false_eq_true, ne_eq, forall_const, implies_true, imp_self, true_implies, false_implies, Nat.reduceAdd, Nat.reduceSub, Nat.reduceMul, Nat.reduceDiv, Nat.reduceMod, Nat.reduceEqDiff, Nat.reduceLT, Nat.reduceLeDiff, Nat.reduceBEq, Nat.add_zero, Nat.zero_add, Nat.le_refl, Nat.not_lt_zero, Nat.succ_eq_add_one, Int.reduceNatCast, Int.cast_ofNat_Int, Int.reduceSub, Int.reduceMul, Int.reduceNeg, Int.reduceLE, Int.reduceLT, Int.reduceToNat, Int.reduceEq, Int.reduceNe, Int.reduceAdd, Option.some.injEq, kX7_init, rmX7_init, ↓ofX7_12, ↓ofX7_21, ↓ofX7_28, ↓ofX7_32, ↓ofX7_35, ↓ofX7_41, ↓ofX7_44, ↓ofX7_47, ↓ofX7_50, ↓ofX7_53, ↓ofX7_56, ↓onX7_18, ↓onX7_25, ↓onX7_39, ↓onX7_9, ↓ocX7_init_3, ↓ocX7_init_11, ↓spX5_init, ↓ocX7_init_20, ↓spX0_init, ↓ocX7_init_27, ↓spX6_init, ↓ocX7_init_59, ↓spJ7_fill_53178, mnew, nfs_0, G_2, G_35]
  refine fun P' I' L' hm hi => X7_26 H hfr (h.obj 1 (by omega) (by omega) (by omega) (by omega) (fun k a b => by omega) (by rw [PF_2]; rfl) hm) ⟨fun b k b0 b1 b2 => ?_, fun _ => hi, fun b k b0 b1 => by omega⟩
  rw [hm.2.2.1 b k (by omega) (by omega)]
  exact (if_neg (by omega)).trans (v.1 b k b0 b1 (by omega))
set_option maxRecDepth 100000 in
set_option maxHeartbeats 800000 in
theorem mX7_init : MOK yX7_init cX7_init 1 none rmX7_init ciX7_init := by
  refine mok_of (ini := true) (by decide +kernel) (by decide) rfl rfl ?_
  intro σ As K hrc hl h
  obtain ⟨N, P, I, L⟩ := σ
  have h9 := pR_iff.mp h
  clear h
  obtain ⟨a, r, e9, h⟩ := h9
  subst e9
  have h9 := pN_iff.mp h
  clear h
  obtain ⟨e9, h⟩ := h9
  subst e9
  try dsimp only at h
  obtain ⟨rfl, rfl, hf, hp, hi, h⟩ := h
  refine ⟨Nat.le_of_ble_eq_true rfl, Ok.seg mdX7_init [15] 50 ?_⟩
  simp only [wp_nil, wp_cons, ↓stp, ↓lI, ↓lL, ↓lR, ↓lIn_0, ↓lIn_1, ↓lIn_2, ↓lIn_3, ↓lLn_0, ↓lLn_1, ↓lLn_2, ↓lLn_3, ↓lRn_0, ↓lRn_1, ↓lRn_2, ↓lRn_3, ↓pI, ↓pL, ↓pR, ↓pA, ↓pN, ↓pV, ↓fp, ↓tsw, ↓oS, ↓spMax, ↓spMin, ↓spAbs, ↓spObj, RI, RLg, b2i_lo, b2i_hi, getL, setL, ltL, killL, isLong, inl, cnd, br, tgt, rcv, rpl, mputI, mputL, mputP, fv, fr, mcat, mcs, entL, entA, rfit, nf_0, nf_1, nf_2, nf_3, nf2_0, nf2_1, b2i_0, b2i_1, RI_b2i, b2i_fit, List.append, List.length, List.replicate, List.cons_append, List.nil_append, List.length_cons, List.length_nil, List.replicate_succ, List.replicate_zero, List.tail_cons, reduceIte, if_true, if_false, ite_true, ite_false, Bool.false_eq_true, true_and, and_true, and_self, false_and, and_false, or_self, or_true, true_or, or_false, false_or, not_true_eq_false, not_false_eq_true, ne_eq, forall_const, implies_true, imp_self, true_implies, false_implies, Nat.reduceAdd, Nat.reduceSub, Nat.reduceMul, Nat.reduceDiv, Nat.reduceMod, Nat.reduceEqDiff, Nat.reduceLT, Nat.reduceLeDiff, Nat.reduceBEq, Nat.add_zero, Nat.zero_add, Nat.le_refl, Nat.not_lt_zero, Nat.succ_eq_add_one, Int.reduceNatCast, Int.cast_ofNat_Int, Int.reduceSub, Int.reduceMul, Int.reduceNeg, Int.reduceLE, Int.reduceLT, Int.reduceToNat, Int.reduceEq, Int.reduceNe, Int.reduceAdd, Option.some.injEq, kX7_init, rmX7_init, ↓ofX7_12, ↓ofX7_21, ↓ofX7_28, ↓ofX7_32, ↓ofX7_35, ↓ofX7_41, ↓ofX7_44, ↓ofX7_47, ↓ofX7_50, ↓ofX7_53, ↓ofX7_56, ↓onX7_18, ↓onX7_25, ↓onX7_39, ↓onX7_9, ↓ocX7_init_3, ↓ocX7_init_11, ↓spX5_init, ↓ocX7_init_20, ↓spX0_init, ↓ocX7_init_27, ↓spX6_init, ↓ocX7_init_59, ↓spJ7_fill_53178, mnew, nfs_5, G_2, G_3]
  refine fun P' I' L' hm hz => X7_15 (post := fun r σ' => rfit none r ∧ K r σ') (fun P1 I1 L1 a b => ⟨trivial, h P1 I1 L1 a b⟩) hf (ST.obj (f := 0) (P := P) (I := I) (L := L) 0 ⟨fun b k b0 b1 => by omega, fun k => ?_, fun b k _ _ => ⟨rfl, rfl, rfl⟩⟩ (by omega) (by omega) (by omega) (by omega) (fun k a b => by omega) (by rw [PF_2]; rfl) hm) ⟨fun b k b0 b1 b2 => ?_, fun z => by omega, fun b k b0 b1 => by omega⟩
  · rw [hp]
    split
    · rw [PF_2]; repeat rw [if_neg (by omega)]
    · rfl
  · by_cases e : b = 2
    · subst e
      rw [hm.2.2.1 2 k (by omega) (by omega)]
      exact (if_neg (by omega)).trans (hi k)
    · exact hz b k (by omega) b1
