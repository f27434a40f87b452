/-! what the board and the model have in common -/
theorem mOK_hi {I J L : Int → Int → Int} (h : ∀ b k, 240 ≤ b → J b k = I b k) (hm : mOK I L) : mOK J L := by
  have v : VM J = VM I := VM_cg (fun k _ => h _ _ (by omega)) (fun b k b0 _ => h _ _ (by omega)) (fun b k b0 _ => h _ _ (by omega))
  obtain ⟨a, b, c, d, e⟩ := hm
  refine ⟨by rw [v]; exact a, by rw [v]; exact b, by rw [v]; exact c, fun g g0 g1 => ?_, fun i d0 d1 => msh_cg (fun b k b0 _ => h _ _ (by omega)) (e i d0 d1)⟩
  rw [h 248 _ (by omega), h 240 3 (by omega), h 240 4 (by omega), v]
  exact d g g0 g1
theorem xOK_lo {I J : Int → Int → Int} (h : ∀ b k, b < 240 → J b k = I b k) (hx : xOK I) : xOK J := by
  obtain ⟨a, b, c, d, e, f, g⟩ := hx
  have h3 : c3 I J := fun b k _ b1 => h b k (by omega)
  have hn := a.2.1
  exact ⟨tOK_c3 h3 a, carOK_c3 h3 b, capOK_c3 h3 hn (fun k => h _ _ (by omega)) c, bst_c3 h3 hn (h _ _ (by omega)) (fun b k _ b1 => h b k (by omega)) d, raceOK_ts (tsame_c3 h3 hn) (h _ _ (by omega)) (h _ _ (by omega)) (fun b k _ b1 => h b k (by omega)) e, fun k k0 k1 => by rw [h _ _ (by omega)]; exact f k k0 k1, fun b hb => shOK_cg (fun c k c0 c1 => h c k (by obtain ⟨d, d0, d1, rfl⟩ := hb; omega)) (g b hb)⟩
def RT (I : Int → Int → Int) : Prop := I 3 1 = I 240 1 ∧ ∀ i, 0 ≤ i → i < I 3 1 → I (5 + i) 0 = I 241 i ∧ I (5 + i) 1 = I 242 i ∧ I (5 + i) 2 = I 243 i ∧ I (5 + i) 3 = I 244 i ∧ I (5 + i) 4 = I 245 i
def RC (I : Int → Int → Int) : Prop := ∀ k, I 38 k = I 246 k ∧ I 39 k = I 247 k
def RN (I : Int → Int → Int) : Prop := I 36 0 = I 240 2 ∧ I 36 1 = I 240 3 ∧ I 36 2 = I 240 4
def RQ (I : Int → Int → Int) : Prop := I 179 4 = I 240 5 ∧ I 179 5 = I 240 25 ∧ ∀ k, I 180 k = I 258 k ∧ I 181 k = I 259 k
def shR (I : Int → Int → Int) (d : Int) : Prop := I (208 + 4 * d) 0 = I 264 d ∧ (3 ≤ I 264 d → I (208 + 4 * d) 1 = I 269 d ∧ ∀ i, 0 ≤ i → i < I 269 d → itm I (208 + 4 * d) i = I 270 (60 * d + i)) ∧ (I 264 d = 1 → I (208 + 4 * d + 1) 0 = I 265 d ∧ I (208 + 4 * d + 1) 1 = I 266 d ∧ I (208 + 4 * d + 1) 2 = I 267 d ∧ I (208 + 4 * d + 1) 3 = I 268 d)
def RS (I : Int → Int → Int) : Prop := ∀ d, 0 ≤ d → d ≤ 7 → shR I d
def REL (I L : Int → Int → Int) : Prop := xOK I ∧ mOK I L ∧ RT I ∧ RC I ∧ RN I ∧ RQ I ∧ RS I
theorem RT.cg {I K : Int → Int → Int} (hn : I 3 1 ≤ 30) (h1 : ∀ b k, 3 ≤ b → b ≤ 34 → K b k = I b k) (h2 : K 240 1 = I 240 1) (h3 : ∀ b k, 241 ≤ b → b ≤ 245 → K b k = I b k) (h : RT I) : RT K := by
  have e : K 3 1 = I 3 1 := h1 _ _ (by omega) (by omega)
  refine ⟨by rw [e, h2]; exact h.1, fun i i0 i1 => ?_⟩
  have := h.2 i i0 (by omega)
  rw [h1 _ 0 (by omega) (by omega), h1 _ 1 (by omega) (by omega), h1 _ 2 (by omega) (by omega), h1 _ 3 (by omega) (by omega), h1 _ 4 (by omega) (by omega), h3 241 i (by omega) (by omega), h3 242 i (by omega) (by omega), h3 243 i (by omega) (by omega), h3 244 i (by omega) (by omega), h3 245 i (by omega) (by omega)]
  exact this
theorem RC.cg {I K : Int → Int → Int} (h1 : ∀ b k, 38 ≤ b → b ≤ 39 → K b k = I b k) (h2 : ∀ b k, 246 ≤ b → b ≤ 247 → K b k = I b k) (h : RC I) : RC K := fun k => by
  rw [h1 38 k (by omega) (by omega), h1 39 k (by omega) (by omega), h2 246 k (by omega) (by omega), h2 247 k (by omega) (by omega)]
  exact h k
theorem RN.cg {I K : Int → Int → Int} (h1 : ∀ k, 0 ≤ k → k ≤ 2 → K 36 k = I 36 k) (h2 : ∀ k, 2 ≤ k → k ≤ 4 → K 240 k = I 240 k) (h : RN I) : RN K := by
  unfold RN
  rw [h1 0 (by omega) (by omega), h1 1 (by omega) (by omega), h1 2 (by omega) (by omega), h2 2 (by omega) (by omega), h2 3 (by omega) (by omega), h2 4 (by omega) (by omega)]
  exact h
theorem RQ.cg {I K : Int → Int → Int} (h1 : ∀ k, 4 ≤ k → k ≤ 5 → K 179 k = I 179 k) (h2 : ∀ b k, 180 ≤ b → b ≤ 181 → K b k = I b k) (h3 : ∀ k, k = 5 ∨ k = 25 → K 240 k = I 240 k) (h4 : ∀ b k, 258 ≤ b → b ≤ 259 → K b k = I b k) (h : RQ I) : RQ K := by
  unfold RQ
  rw [h1 4 (by omega) (by omega), h1 5 (by omega) (by omega), h3 5 (by omega), h3 25 (by omega)]
  refine ⟨h.1, h.2.1, fun k => ?_⟩
  rw [h2 180 k (by omega) (by omega), h2 181 k (by omega) (by omega), h4 258 k (by omega) (by omega), h4 259 k (by omega) (by omega)]
  exact h.2.2 k
theorem itm_cg {I K : Int → Int → Int} {b i : Int} (h : ∀ c k, b ≤ c → c ≤ b + 3 → K c k = I c k) : itm K b i = itm I b i := by
  unfold itm
  rw [h b 0 (by omega) (by omega), h (b + 2) i (by omega) (by omega), h (b + 3) i (by omega) (by omega)]
theorem shR.cg {I K : Int → Int → Int} {d : Int} (h1 : ∀ b k, 208 + 4 * d ≤ b → b ≤ 208 + 4 * d + 3 → K b k = I b k) (h2 : ∀ b, 264 ≤ b → b ≤ 269 → K b d = I b d) (h3 : ∀ i, 0 ≤ i → i < 60 → K 270 (60 * d + i) = I 270 (60 * d + i)) (hs : 3 ≤ I 264 d → I 269 d ≤ 60) (h : shR I d) : shR K d := by
  unfold shR
  rw [h1 _ 0 (by omega) (by omega), h1 (208 + 4 * d) 1 (by omega) (by omega), h1 (208 + 4 * d + 1) 0 (by omega) (by omega), h1 (208 + 4 * d + 1) 1 (by omega) (by omega), h1 (208 + 4 * d + 1) 2 (by omega) (by omega), h1 (208 + 4 * d + 1) 3 (by omega) (by omega), h2 264 (by omega) (by omega), h2 265 (by omega) (by omega), h2 266 (by omega) (by omega), h2 267 (by omega) (by omega), h2 268 (by omega) (by omega), h2 269 (by omega) (by omega)]
  refine ⟨h.1, fun q => ⟨(h.2.1 q).1, fun i i0 i1 => ?_⟩, h.2.2⟩
  have := hs q
  rw [itm_cg (fun c k c0 c1 => h1 c k c0 c1), h3 i i0 (by omega)]
  exact (h.2.1 q).2 i i0 i1
/-- what both sides tell of themselves -/
def rlv (b k : Int) : Prop := (3 ≤ b ∧ b < 40) ∨ (b = 179 ∧ (k = 4 ∨ k = 5)) ∨ (180 ≤ b ∧ b ≤ 181) ∨ (208 ≤ b ∧ b ≤ 239) ∨ (b = 240 ∧ k ≠ 0) ∨ (241 ≤ b ∧ b ≤ 247) ∨ (258 ≤ b ∧ b ≤ 259) ∨ (264 ≤ b ∧ b ≤ 270)
theorem REL.cg {I K L L' : Int → Int → Int} (h : REL I L) (r : ∀ b k, rlv b k → K b k = I b k) (x : xOK K) (m : mOK K L') : REL K L' := by
  obtain ⟨x0, m0, t, c, n, q, s⟩ := h
  unfold rlv at r
  exact ⟨x, m, t.cg x0.1.2.1 (fun b k _ _ => r b k (by omega)) (r _ _ (by omega)) (fun b k _ _ => r b k (by omega)), c.cg (fun b k _ _ => r b k (by omega)) (fun b k _ _ => r b k (by omega)), n.cg (fun k _ _ => r _ _ (by omega)) (fun k _ _ => r _ _ (by omega)), q.cg (fun k _ _ => r _ _ (by omega)) (fun b k _ _ => r _ _ (by omega)) (fun k _ => r _ _ (by omega)) (fun b k _ _ => r _ _ (by omega)),
    fun d d0 d1 => (s d d0 d1).cg (fun b k _ _ => r b k (by omega)) (fun b _ _ => r b _ (by omega)) (fun i _ _ => r _ _ (by omega)) (fun _ => (m0.2.2.2.2 d d0 d1).2.1.2)⟩
theorem frQ.r {I J : Int → Int → Int} (h : frQ I J) : ∀ b k, rlv b k → J b k = I b k := fun b k q => by unfold rlv at q; exact h b k (by omega) (by omega) (by omega) (by omega)
theorem frQ.hi {I J : Int → Int → Int} (h : frQ I J) : ∀ b k, 240 ≤ b → J b k = I b k := fun b k q => h b k (by omega) (by omega) (by omega) (by omega)
theorem frW.r {I J : Int → Int → Int} (h : frW I J) : ∀ b k, rlv b k → J b k = I b k := fun b k q => by unfold rlv at q; exact h b k (by omega) (by omega) (by omega) (by omega)
theorem frW.lo {I J : Int → Int → Int} (h : frW I J) : ∀ b k, b < 240 → J b k = I b k := fun b k q => h b k (by omega) (by omega) (by omega) (by omega)
/-- a call that asks -/
theorem REL.q {I J K L L' : Int → Int → Int} (h : REL I L) (f : frQ I J) (x : xOK J) (g : frW J K) (m : mOK K L') : REL K L' :=
  h.cg (fun b k r => (g.r b k r).trans (f.r b k r)) (xOK_lo g.lo x) m
theorem REL.q1 {I J L : Int → Int → Int} (h : REL I L) (f : frQ I J) (x : xOK J) : REL J L := h.cg f.r x (mOK_hi f.hi h.2.1)
theorem REL.q2 {I K L L' : Int → Int → Int} (h : REL I L) (g : frW I K) (m : mOK K L') : REL K L' := h.cg g.r (xOK_lo g.lo h.1) m
theorem REL.chL {I L L' : Int → Int → Int} (h : REL I L) (hl : ∀ b k, 240 ≤ b → b ≤ 271 → L' b k = L b k) : REL I L' := by
  obtain ⟨x0, m0, t, c, n, q, s⟩ := h
  obtain ⟨a, b, c', d, e⟩ := m0
  refine ⟨x0, ⟨a, b, c', fun g g0 g1 => ?_, e⟩, t, c, n, q, s⟩
  rw [hl 249 _ (by omega) (by omega)]
  exact d g g0 g1
/-- the board's track and car are the model's -/
theorem REL.ts {I L : Int → Int → Int} (h : REL I L) : tsame I (VM I) := by
  obtain ⟨x0, m0, t, c, n, q, s⟩ := h
  have hn := x0.1.2.1
  refine ⟨t.1.symm, fun i k i0 i1 k0 k1 => ?_, fun k => ?_, fun k => ?_⟩
  · obtain ⟨e0, e1, e2, e3, e4⟩ := VM_st (I := I) i0 (by omega)
    obtain ⟨f0, f1, f2, f3, f4⟩ := t.2 i i0 i1
    rcases (show k = 0 ∨ k = 1 ∨ k = 2 ∨ k = 3 by omega) with rfl | rfl | rfl | rfl
    · rw [e0, f0]
    · rw [e1, f1]
    · rw [e2, f2]
    · rw [e3, f3]
  · rw [VM_38]; exact (c k).1.symm
  · rw [VM_39]; exact (c k).2.symm
theorem REL.e38 {I L : Int → Int → Int} (h : REL I L) : I 38 = I 246 := funext fun k => (h.2.2.2.1 k).1
theorem REL.e39 {I L : Int → Int → Int} (h : REL I L) : I 39 = I 247 := funext fun k => (h.2.2.2.1 k).2
theorem REL.lmvE {I L : Int → Int → Int} (h : REL I L) {g s l : Int} (s0 : 0 ≤ s) (s1 : s < I 3 1) : lmv (VM I) g s l = lmv I g s l := by
  obtain ⟨_, _, _⟩ := h.ts
  have ts := h.ts
  unfold lmv
  rw [ts.2.1 s 0 s0 s1 (by omega) (by omega), ts.2.1 s 2 s0 s1 (by omega) (by omega), ts.2.1 s 3 s0 s1 (by omega) (by omega)]
theorem REL.stay {I L : Int → Int → Int} (h : REL I L) {l : Int} {q q' : Int → Int} (a : stayV I l q) (b : stayV (VM I) l q') : ∀ i, 0 ≤ i → i < I 3 1 → q i = q' i := by
  have n := h.2.2.2.2.1
  unfold stayV at a b
  rw [VM_38, VM_39, VM_36_0, VM_36_1, VM_36_2, VM_31, ← h.e38, ← h.e39, ← n.1, ← n.2.1, ← n.2.2, ← h.2.2.1.1] at b
  exact a.uniq (b.cg (fun i i0 i1 => h.lmvE i0 i1) (fun _ _ _ => rfl))
theorem REL.lap {I L : Int → Int → Int} (h : REL I L) {g bk st v w : Int} (a : lapT I g bk st v) (b : lapT (VM I) g bk st w) : v = w := (lapT_cg h.ts a).uniq b
theorem REL.best {I L : Int → Int → Int} (h : REL I L) (a : bestOK I) (b : bestM I) : ∀ i, 0 ≤ i → i < I 3 1 → I 41 i = I 250 i ∧ I 42 i = I 251 i ∧ I 43 i = tmM I i := by
  obtain ⟨B, a1, a2, a3, a4⟩ := a
  obtain ⟨B', b1, b2, b3⟩ := b
  have n := h.2.2.2.2.1
  have t := h.2.2.1
  rw [← n.1, ← n.2.1, ← n.2.2] at b1 b2
  have e := h.lap a1 b1
  subst e
  have hl := (LexB_ts h.ts a2).uniq b2
  have hl : ∀ j, 0 ≤ j → j < I 3 1 → I 41 j = I 250 j := fun j j0 j1 => hl (j.toNat + 1) j j0 (by omega) (by rw [VM_31, ← t.1]; exact j1)
  obtain ⟨c1, c2⟩ := a3
  unfold mMx at b3
  rw [← h.e38, ← h.e39, ← n.2.1, ← n.2.2, ← t.1] at b3
  have hq := c1.uniq (b3.cg (lm' := fun j => lmv I (I 36 0) j (I 41 j)) (fun i i0 i1 => ?_) (fun _ _ _ => rfl))
  · intro i i0 i1
    refine ⟨hl i i0 i1, hq i i0 i1, ?_⟩
    have := c2 i i0 i1
    rw [show (40 : Int) + 3 = 43 by rfl, show (40 : Int) + 1 = 41 by rfl, show (40 : Int) + 2 = 42 by rfl] at this
    rw [this]
    unfold tmM
    rw [(t.2 i i0 i1).2.1, show I 42 i = I 251 i from hq i i0 i1]
    congr 1
    unfold lch
    by_cases z : 0 < i
    · rw [hl i i0 i1, hl (i - 1) (by omega) (by omega)]
    · rw [if_neg (fun y => z y.1), if_neg (fun y => z y.1)]
  · show mlm I i = _
    unfold mlm
    rw [h.lmvE i0 i1, ← n.1, hl i i0 i1]
theorem REL.lpfE {I L : Int → Int → Int} (h : REL I L) : lpf (VM I) = lpf I :=
  lpf_ts h.ts (by rw [VM_36_1]; exact h.2.2.2.2.1.2.1.symm) (by rw [VM_36_2]; exact h.2.2.2.2.1.2.2.symm) (fun k => by rw [VM_180]; exact (h.2.2.2.2.2.1.2.2 k).1.symm) (fun k => by rw [VM_181]; exact (h.2.2.2.2.2.1.2.2 k).2.symm)
theorem REL.plan {I L : Int → Int → Int} (h : REL I L) {n x : Int} (a : planI I n) (b : PlanOK (lpf (VM I)) (I 240 5) (mus (VM I) n) n (I 261) (I 262) x) : I 179 7 = x ∧ ∀ j, 0 ≤ j → j < n → I 182 j = I 261 j ∧ I 183 j = I 262 j := by
  have q := h.2.2.2.2.2.1
  unfold mus at b
  rw [h.lpfE, VM_179_5, ← q.1, ← q.2.1] at b
  exact PlanOK.uniq a b
theorem lostV.uniq {T D : Int → Int} {m v w : Int} (h : lostV T D m v) (h' : lostV T D m w) : v = w := by
  rcases h with ⟨a, b⟩ | ⟨a, b, c, d, e⟩ <;> rcases h' with ⟨a', b'⟩ | ⟨a', b', c', d', e'⟩
  · omega
  · exact (b w a' b' c').elim
  · exact (b' v a b c).elim
  · rcases Int.lt_trichotomy v w with q | q | q
    · have := d' v a q c
      have := e w (by omega) b' c'
      omega
    · exact q
    · have := d w a' q c'
      have := e' v (by omega) b c
      omega
theorem wnt.uniq {T : Int} {R : Int → Int} {n v w : Int} (h : wnt T R n v) (h' : wnt T R n w) : v = w := by
  rcases h with ⟨a, b⟩ | ⟨a, b, c, d, e⟩ <;> rcases h' with ⟨a', b'⟩ | ⟨a', b', c', d', e'⟩
  · omega
  · have := b w a' b'; omega
  · have := b' v a b; omega
  · rcases Int.lt_trichotomy v w with q | q | q
    · have := d' v a q
      have := e w (by omega) b'
      omega
    · exact q
    · have := d w a' q
      have := e' v (by omega) b
      omega
theorem REL.wants {I L : Int → Int → Int} (h : REL I L) {v w : Int} (a : wantV I v) (b : wantV (VM I) w) : v = w := by
  obtain ⟨T, R, a1, a2, a3⟩ := a
  obtain ⟨T', R', b1, b2, b3⟩ := b
  have n := h.2.2.2.2.1
  have t := h.2.2.1
  have ts := h.ts
  have hn := h.1.1.2.1
  rw [VM_36_0, VM_36_1, VM_36_2, ← n.1, ← n.2.1, ← n.2.2] at b1 b2
  rw [VM_31, ← t.1] at b2 b3
  have e := h.lap a1 b1
  subst e
  refine a3.uniq (wnt_cg (fun i i0 i1 => ?_) b3)
  refine ((lapT_cg (J := rais (VM I) i) ⟨?_, fun j k j0 j1 k0 k1 => ?_, fun k => ?_, fun k => ?_⟩ (a2 i i0 i1)).uniq (b2 i i0 i1)).symm
  · exact (upI_ne (by omega)).trans (ts.1.trans (upI_ne (by omega)).symm)
  · rw [show rais I i 3 1 = I 3 1 from upI_ne (by omega)] at j1
    unfold rais
    rw [ts.2.1 i 2 i0 i1 (by omega) (by omega)]
    by_cases z : 5 + j = 5 + i ∧ k = 2
    · rw [z.1, z.2, upI_same, upI_same]
    · rw [show upI (VM I) (5 + i) 2 (mn 60 (I (5 + i) 2 + 1)) (5 + j) k = VM I (5 + j) k from if_neg z, show upI I (5 + i) 2 (mn 60 (I (5 + i) 2 + 1)) (5 + j) k = I (5 + j) k from if_neg z]
      exact ts.2.1 j k j0 j1 k0 k1
  · exact (upI_ne (by omega)).trans ((ts.2.2.1 k).trans (upI_ne (by omega)).symm)
  · exact (upI_ne (by omega)).trans ((ts.2.2.2 k).trans (upI_ne (by omega)).symm)
/-- the best way behind both calls -/
theorem bestOK_lo {I K : Int → Int → Int} (hn : I 3 1 ≤ 30) (h : ∀ b k, b < 240 → K b k = I b k) (hb : bestOK I) : bestOK K := bestOK_c3 (fun b k _ b1 => h b k (by omega)) hn (fun b k _ b1 => h b k (by omega)) hb
