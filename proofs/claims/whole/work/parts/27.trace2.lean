/-! LapBoard$Ways.trace -/
def RowI (I : Int → Int → Int) : Int → Int → Int → Int := fun i l p => I (50 + (3 * i + l)) p
theorem RowE_of {I : Int → Int → Int} {g bk : Int} (hc : carOK I) (h : slvOK I g bk) : RowE I g bk 536870912 (RowI I) := fun i l p i0 i1 l0 l1 p0 p1 _ =>
  (h.2 i l i0 i1 l0 l1 p p0 p1).2.cg (fun y => (AchI_E hc h.1 y i0 (by unfold kk; omega) p0 p1).symm)
def frT (I J : Int → Int → Int) : Prop := ∀ b k, b ≠ 41 → b ≠ 142 → b ≠ 143 → J b k = I b k
def spX7_trace (As : List MV) (σ : MS) (K : Option MV → MS → Prop) : Prop := pR As fun s r => pI r fun B r => pN r (s = 2 ∧ σ.2.1 = PF ∧ tOK σ.2.2.1 ∧ carOK σ.2.2.1 ∧ slvOK σ.2.2.1 (σ.2.2.1 36 0) (σ.2.2.1 36 1) ∧ lapT σ.2.2.1 (σ.2.2.1 36 0) (σ.2.2.1 36 1) (σ.2.2.1 36 2) B ∧
  ∀ I' : Int → Int → Int, frT σ.2.2.1 I' → LexB I' (I' 36 0) (I' 36 1) (I' 36 2) B (I' 41) → K none (σ.1, σ.2.1, I', σ.2.2.2))
def ciX7_trace : CI := (2, 7, 0, 0, spX7_trace)
def kX7_trace (pc : Nat) : List ME := match pc with
  | 0 => [(.iconst 0, 1, []), (.istore_n 2, 1, [])]
  | 2 => [(.iload_n 2, 1, []), (.aload_n 0, 1, []), (.getfield 12, 3, []), (.getfield 108, 3, []), (.if_icmp .ge 116, 3, [126]), (.iload_n 2, 1, []), (.ifCond .ne 7, 3, [21]), (.iconst 1, 1, []), (.goto 14, 3, [32])]
  | 21 => [(.aload_n 0, 1, []), (.getfield 28, 3, []), (.getfield 69, 3, []), (.iload_n 2, 1, []), (.iconst 1, 1, []), (.isub, 1, []), (.iaload, 1, [])]
  | 32 => [(.istore_n 3, 1, []), (.iconst 0, 1, []), (.istore 4, 2, []), (.iconst 0, 1, []), (.iload_n 3, 1, []), (.iconst 1, 1, []), (.isub, 1, []), (.invokestatic 140, 3, []), (.istore 5, 2, [])]
  | 45 => [(.iload 4, 2, []), (.ifCond .ne 58, 3, [105]), (.iload 5, 2, []), (.iconst 3, 1, []), (.if_icmp .ge 52, 3, [105]), (.iload 5, 2, []), (.iload_n 3, 1, []), (.iconst 1, 1, []), (.iadd, 1, []), (.if_icmp .gt 44, 3, [105]), (.aload_n 0, 1, []), (.getfield 28, 3, []), (.getfield 69, 3, []), (.iload_n 2, 1, []), (.iload 5, 2, []), (.iastore, 1, []), (.iload_n 2, 1, []), (.ifCond .ne 13, 3, [89]), (.aload_n 0, 1, []), (.iload 5, 2, []), (.iload_n 1, 1, []), (.invokevirtual 150, 3, []), (.goto 11, 3, [97])]
  | 89 => [(.aload_n 0, 1, []), (.iload_n 2, 1, []), (.iload_n 3, 1, []), (.iload 5, 2, []), (.invokevirtual 154, 3, [])]
  | 97 => [(.istore 4, 2, []), (.iinc 5 1, 3, []), (.goto (-57), 3, [45])]
  | 105 => [(.aload_n 0, 1, []), (.getfield 53, 3, []), (.iconst 0, 1, []), (.aload_n 0, 1, []), (.getfield 50, 3, []), (.iconst 0, 1, []), (.bipush 61, 2, []), (.invokestatic 158, 3, []), (.iinc 2 1, 3, []), (.goto (-121), 3, [2])]
  | 126 => [(.return_, 1, [])]
  | _ => []
theorem qX7_trace : ∀ pc, chk cX7_trace pc (kX7_trace pc) = true := by
  intro pc
  unfold kX7_trace
  split <;> first | decide +kernel | exact chk_nil
abbrev rmX7_trace : Room := { frames := 2, cells := 0, slots := 0, locals := 52 }
def aX7_trace (x : Nat) : Option CI := match x with
  | 140 => some ciMax
  | 150 => some ciX7_begins
  | 154 => some ciX7_leads
  | 158 => some ciCopy
  | _ => none
theorem aokX7_trace : ∀ x ci, aX7_trace x = some ci → CalOK RX7 rmX7_trace x ci := by
  intro x ci h
  unfold aX7_trace at h
  split at h
  · cases h; exact cal_max (List.forall_mem_cons.mpr ⟨(ws_mem (List.mem_of_getElem? (i := 487) (by decide +kernel)) (by decide +kernel)), List.forall_mem_cons.mpr ⟨(ws_mem (List.mem_of_getElem? (i := 157) (by decide +kernel)) (by decide +kernel)), List.forall_mem_cons.mpr ⟨(ws_mem (List.mem_of_getElem? (i := 58) (by decide +kernel)) (by decide +kernel)), List.forall_mem_cons.mpr ⟨(ws_mem (List.mem_of_getElem? (i := 158) (by decide +kernel)) (by decide +kernel)), fun _ h => absurd h List.not_mem_nil⟩⟩⟩⟩) (by decide)
  · cases h; exact cal_V mX7_begins (by decide) rfl (List.forall_mem_cons.mpr ⟨(ws_mem (List.mem_of_getElem? (i := 502) (by decide +kernel)) (by decide +kernel)), List.forall_mem_cons.mpr ⟨(ws_mem (List.mem_of_getElem? (i := 504) (by decide +kernel)) (by decide +kernel)), List.forall_mem_cons.mpr ⟨(ws_mem (List.mem_of_getElem? (i := 10) (by decide +kernel)) (by decide +kernel)), List.forall_mem_cons.mpr ⟨(ws_mem (List.mem_of_getElem? (i := 54) (by decide +kernel)) (by decide +kernel)), List.forall_mem_cons.mpr ⟨(ws_mem (List.mem_of_getElem? (i := 505) (by decide +kernel)) (by decide +kernel)), fun _ h => absurd h List.not_mem_nil⟩⟩⟩⟩⟩) rfl (by unfold nice; decide +kernel) (by unfold rfits; decide) ⟨rfl, rfl⟩
  · cases h; exact cal_V mX7_leads (by decide) rfl (List.forall_mem_cons.mpr ⟨(ws_mem (List.mem_of_getElem? (i := 506) (by decide +kernel)) (by decide +kernel)), List.forall_mem_cons.mpr ⟨(ws_mem (List.mem_of_getElem? (i := 508) (by decide +kernel)) (by decide +kernel)), List.forall_mem_cons.mpr ⟨(ws_mem (List.mem_of_getElem? (i := 11) (by decide +kernel)) (by decide +kernel)), List.forall_mem_cons.mpr ⟨(ws_mem (List.mem_of_getElem? (i := 54) (by decide +kernel)) (by decide +kernel)), List.forall_mem_cons.mpr ⟨(ws_mem (List.mem_of_getElem? (i := 509) (by decide +kernel)) (by decide +kernel)), fun _ h => absurd h List.not_mem_nil⟩⟩⟩⟩⟩) rfl (by unfold nice; decide +kernel) (by unfold rfits; decide) ⟨rfl, rfl⟩
  · cases h; exact cal_copy (List.forall_mem_cons.mpr ⟨(ws_mem (List.mem_of_getElem? (i := 510) (by decide +kernel)) (by decide +kernel)), List.forall_mem_cons.mpr ⟨(ws_mem (List.mem_of_getElem? (i := 512) (by decide +kernel)) (by decide +kernel)), List.forall_mem_cons.mpr ⟨(ws_mem (List.mem_of_getElem? (i := 511) (by decide +kernel)) (by decide +kernel)), List.forall_mem_cons.mpr ⟨(ws_mem (List.mem_of_getElem? (i := 69) (by decide +kernel)) (by decide +kernel)), fun _ h => absurd h List.not_mem_nil⟩⟩⟩⟩) (by decide +kernel)
  · cases h
theorem ocX7_trace_140 (f : Nat → Nat → Nat → Nat → (List MV → MS → (Option MV → MS → Prop) → Prop) → Prop) : oC aX7_trace 140 f = f 2 10 0 0 spMax := propext Iff.rfl
theorem ocX7_trace_150 (f : Nat → Nat → Nat → Nat → (List MV → MS → (Option MV → MS → Prop) → Prop) → Prop) : oC aX7_trace 150 f = f 3 7 0 0 spX7_begins := propext Iff.rfl
theorem ocX7_trace_154 (f : Nat → Nat → Nat → Nat → (List MV → MS → (Option MV → MS → Prop) → Prop) → Prop) : oC aX7_trace 154 f = f 4 7 0 0 spX7_leads := propext Iff.rfl
theorem ocX7_trace_158 (f : Nat → Nat → Nat → Nat → (List MV → MS → (Option MV → MS → Prop) → Prop) → Prop) : oC aX7_trace 158 f = f 5 10 0 0 spCopy := propext Iff.rfl
theorem mdX7_trace : MD RX7 cX7_trace rmX7_trace kX7_trace fX7 aX7_trace zX7 uX7 := ⟨fokX7, zokX7, uokX7, aokX7_trace, qX7_trace⟩
theorem updL_of {J : Int → Int → Int} {ln : Int → Int} {i x : Int} (h1 : J 41 i = x) (h2 : ∀ j, j ≠ i → J 41 j = ln j) : J 41 = updL ln i x := funext fun j => by
  unfold updL
  by_cases e : j = i
  · rw [if_pos e, e]; exact h1
  · rw [if_neg e]; exact h2 j e
theorem updL_two (ln : Int → Int) (i x l : Int) : updL (updL ln i x) i l = updL ln i l := funext fun j => by
  unfold updL
  by_cases e : j = i
  · rw [if_pos e, if_pos e]
  · rw [if_neg e, if_neg e, if_neg e]
theorem updL_me (ln : Int → Int) (i x : Int) : updL ln i x i = x := if_pos rfl
theorem updL_ne {ln : Int → Int} {i x j : Int} (h : j ≠ i) : updL ln i x j = ln j := if_neg h
theorem slv_rowR {I : Int → Int → Int} {g bk i l : Int} (h : slvOK I g bk) (i0 : 0 ≤ i) (i1 : i < I 3 1) (l0 : 0 ≤ l) (l1 : l ≤ 2) : rowR I i l := fun q a b => ⟨(h.2 i l i0 i1 l0 l1 q a b).1, (h.2 i l i0 i1 l0 l1 q a b).2.2.1⟩
theorem tr_0 {I J J' : Int → Int → Int} {ln : Int → Int} {B x : Int} (ht : tOK I) (hc : carOK I) (hs : slvOK I (I 36 0) (I 36 1)) (hB : ∀ x, LapE I (I 36 0) (I 36 1) (I 36 2) x → B ≤ x) (hF : B < 536870912) (hn : 0 < I 3 1) (x0 : 0 ≤ x) (x1 : x ≤ 2) (hJ : ∀ b k, b ≠ 41 → b ≠ 142 → b ≠ 143 → J b k = I b k)
    (hm : ∀ p, 1 ≤ p → p ≤ 60 → (0 < J' 143 p ↔ begP J x B p)) : ∀ p, 1 ≤ p → p ≤ 60 → (0 < J' 143 p ↔ HsE I (I 36 0) (I 36 1) (I 36 2) B (updL ln 0 x) 0 p) := fun p p0 p1 => by
  rw [hm p p0 p1, hs_first ht (RowE_of hc hs) hB hF hn x0 x1]
  have hlx := hs.1 0 x (by omega) hn x0 x1
  rw [show 3 * 0 + x = x by omega] at hlx
  unfold begP RowI
  rw [hJ 36 2 (by omega) (by omega) (by omega), hJ 48 x (by omega) (by omega) (by omega), hJ 5 1 (by omega) (by omega) (by omega), hJ (50 + x) p (by omega) (by omega) (by omega), hlx, show 50 + (3 * 0 + x) = 50 + x by omega]
  exact ⟨fun ⟨a, b, c⟩ => ⟨⟨p0, a, b⟩, c⟩, fun ⟨⟨_, a, b⟩, c⟩ => ⟨a, b, c⟩⟩
theorem tr_1 {I J J' : Int → Int → Int} {ln hr : Int → Int} {B x : Int} {j : Nat} (ht : tOK I) (hc : carOK I) (hs : slvOK I (I 36 0) (I 36 1)) (hB : ∀ x, LapE I (I 36 0) (I 36 1) (I 36 2) x → B ≤ x) (hF : B < 536870912) (hi : ((j + 1 : Nat) : Int) < I 3 1) (hn : lnr ln j) (hx : nr (ln j) x) (hJ : ∀ b k, b ≠ 41 → b ≠ 142 → b ≠ 143 → J b k = I b k) (hJ2 : ∀ k, J 142 k = hr k)
    (hh : ∀ p, 1 ≤ p → p ≤ 60 → (0 < hr p ↔ HsE I (I 36 0) (I 36 1) (I 36 2) B ln j p))
    (hm : ∀ z, 1 ≤ z → z ≤ 60 → (0 < J' 143 z ↔ ∃ p, 1 ≤ p ∧ p ≤ 60 ∧ leaP J ((j + 1 : Nat) : Int) (ln j) x p z)) : ∀ p, 1 ≤ p → p ≤ 60 → (0 < J' 143 p ↔ HsE I (I 36 0) (I 36 1) (I 36 2) B (updL ln ((j + 1 : Nat) : Int) x) (j + 1) p) := fun z z0 z1 => by
  have h30 := ht.2.1
  have hl0 := (hn j (by omega)).1
  have hx0 := hx.2.2.1
  have hx1 := hx.2.2.2
  rw [hm z z0 z1, hs_next ht (RowE_of hc hs) hB hF hi hn hx]
  have hlx := hs.1 ((j : Int) + 1) x (by omega) (by omega) hx.2.2.1 hx.2.2.2
  have e : ∀ p, leaP J ((j + 1 : Nat) : Int) (ln j) x p z ↔ (0 < hr p ∧ p - I 36 1 ≤ z ∧ z ≤ I 37 p ∧ z ≤ lmv I (I 36 0) ((j : Int) + 1) x ∧ tmv (I (5 + ((j : Int) + 1)) 1) (dif (ln j) x) z + I (50 + (3 * ((j : Int) + 1) + x)) z = I (50 + (3 * (j : Int) + ln j)) p) := fun p => by
    unfold leaP
    rw [show ((j + 1 : Nat) : Int) = (j : Int) + 1 by omega, show (j : Int) + 1 - 1 = j by omega, ← hlx, hJ2 p, hJ 36 1 (by omega) (by omega) (by omega), hJ 37 p (by omega) (by omega) (by omega), hJ 48 _ (by omega) (by omega) (by omega), hJ (5 + ((j : Int) + 1)) 1 (by omega) (by omega) (by omega), hJ (50 + (3 * ((j : Int) + 1) + x)) z (by omega) (by omega) (by omega), hJ (50 + (3 * (j : Int) + ln j)) p (by omega) (by omega) (by omega)]
  constructor
  · rintro ⟨p, p0, p1, w⟩
    obtain ⟨a, b, c, d, f⟩ := (e p).mp w
    rw [hc.1.2 p p0 p1] at c
    exact ⟨p, (hh p p0 p1).mp a, ⟨z0, b, c, d⟩, f⟩
  · rintro ⟨p, a, ⟨_, b, c, d⟩, f⟩
    obtain ⟨a1, t, q, _⟩ := a
    have hp := PreE_p q
    rw [← hc.1.2 p hp.1 hp.2] at c
    exact ⟨p, hp.1, hp.2, (e p).mpr ⟨(hh p hp.1 hp.2).mpr ⟨a1, t, q, by assumption⟩, b, c, d, f⟩⟩
set_option maxHeartbeats 1600000 in
set_option maxRecDepth 100000 in
theorem lpX7_t1 {post : Option MV → MS → Prop} {U : Pt → Prop} {N : Nat} {I L : Int → Int → Int} {ln hr : Int → Int} {B f : Int} {i : Nat} (hi : (i : Int) < I 3 1) (ht : tOK I) (hc : carOK I) (hs : slvOK I (I 36 0) (I 36 1)) (hB : ∀ x, LapE I (I 36 0) (I 36 1) (I 36 2) x → B ≤ x) (hB2 : LapE I (I 36 0) (I 36 1) (I 36 2) B)
    (hf : f = if i = 0 then 1 else ln (i - 1)) (hl : ∀ j : Nat, j < i → lexC I (I 36 0) (I 36 1) (I 36 2) B ln j) (h142 : 0 < i → ∀ p, 1 ≤ p → p ≤ 60 → RI (hr p)) (hhere : 0 < i → ∀ p, 1 ≤ p → p ≤ 60 → (0 < hr p ↔ HsE I (I 36 0) (I 36 1) (I 36 2) B ln (i - 1) p))
    (h : ∀ (I1 : Int → Int → Int) (t : Option MV), (∀ b k, b ≠ 41 → b ≠ 142 → b ≠ 143 → I1 b k = I b k) → (∀ k, I1 142 k = hr k) → (∀ j : Int, j ≠ i → I1 41 j = ln j) → lexC I (I 36 0) (I 36 1) (I 36 2) B (I1 41) i → (∀ p, 1 ≤ p → p ≤ 60 → I1 143 p = 0 ∨ I1 143 p = 1) → (∀ p, 1 ≤ p → p ≤ 60 → (0 < I1 143 p ↔ HsE I (I 36 0) (I 36 1) (I 36 2) B (I1 41) i p)) → Ok RX7 cX7_trace 6 rmX7_trace false none post U (105, [some (.inr (.inr (some 2))), some (.inl B), some (.inl i), some (.inl f), some (.inl 1), t], [], (N, PF, I1, L), 0, 0)) :
    ∀ (m : Nat) (x : Int) (I1 : Int → Int → Int), x + m = 3 → f - 1 ≤ x → 0 ≤ x → (∀ b k, b ≠ 41 → b ≠ 142 → b ≠ 143 → I1 b k = I b k) → (∀ k, I1 142 k = hr k) → (∀ j : Int, j ≠ i → I1 41 j = ln j) → (∀ l', 0 ≤ l' → l' < x → (0 < i → nr (ln (i - 1)) l') → ¬ ∃ p, HsE I (I 36 0) (I 36 1) (I 36 2) B (updL ln i l') i p) →
    Ok RX7 cX7_trace 6 rmX7_trace false none post U (45, [some (.inr (.inr (some 2))), some (.inl B), some (.inl i), some (.inl f), some (.inl 0), some (.inl x)], [], (N, PF, I1, L), 0, 0) := by
  have hrow := RowE_of hc hs
  have hBr := LapE_rng ht (by omega) hB2
  have ht2 := ht.2.1
  have hfr : 0 ≤ f ∧ f ≤ 2 := by
    rw [hf]
    split
    · omega
    · have := (hl (i - 1) (by omega)).1
      rw [show ((i - 1 : Nat) : Int) = (i : Int) - 1 by omega] at this
      exact this
  have hBF : B < 536870912 := by omega
  have exl : ∃ l, (0 ≤ l ∧ l ≤ 2) ∧ (0 < i → nr (ln (i - 1)) l) ∧ ∃ p, HsE I (I 36 0) (I 36 1) (I 36 2) B (updL ln i l) i p := by
    by_cases e : i = 0
    · subst e
      obtain ⟨l, a, b⟩ := hs_some0 ln hB2
      exact ⟨l, a, fun q => by omega, b⟩
    · obtain ⟨j, rfl⟩ : ∃ j, i = j + 1 := ⟨i - 1, by omega⟩
      obtain ⟨l, a, b⟩ := hs_some hi (hl j (by omega)).2.2.1
      exact ⟨l, ⟨a.2.2.1, a.2.2.2⟩, fun _ => by rw [show ((j + 1 : Nat) : Int) - 1 = j by omega]; exact a, b⟩
  intro m
  induction m with
  | zero =>
    intro x I1 hm x1 x0 h1 h142e h2 h3
    obtain ⟨l, a, b, c⟩ := exl
    exact (h3 l a.1 (by omega) b c).elim
  | succ m ih =>
    intro x I1 hm x1 x0 h1 h142e h2 h3
    by_cases hx : x ≤ f + 1
    · have hJ : ∀ b k, b ≠ 41 → b ≠ 142 → b ≠ 143 → upI I1 41 i x b k = I b k := fun b k b1 b2 b3 => by rw [upI_ne b1]; exact h1 b k b1 b2 b3
      have lo : ∀ b k, b < 40 → upI I1 41 i x b k = I b k := fun b k hb => hJ b k (by omega) (by omega) (by omega)
      have htJ := tOK_cg lo ht
      have hcJ := carOK_cg lo hc
      have hlJ : limR (upI I1 41 i x) := fun a l q0 q1 q2 q3 => by rw [hJ 48 _ (by omega) (by omega) (by omega)]; exact hs.1.R a l q0 (by rw [← lo 3 1 (by omega)]; exact q1) q2 q3
      have hrJ : ∀ c l, 0 ≤ c → c < I 3 1 → 0 ≤ l → l ≤ 2 → rowR (upI I1 41 i x) c l := fun c l q0 q1 q2 q3 q a b => by rw [hJ _ _ (by omega) (by omega) (by omega)]; exact slv_rowR hs q0 q1 q2 q3 q a b
      have e31 : upI I1 41 i x 3 1 = I 3 1 := lo 3 1 (by omega)
      have go : ∀ (J : Int → Int → Int) (r : Int), (∀ b k, b ≠ 143 → J b k = upI I1 41 i x b k) → (∀ p, 1 ≤ p → p ≤ 60 → J 143 p = 0 ∨ J 143 p = 1) → (∀ p, 1 ≤ p → p ≤ 60 → (0 < J 143 p ↔ HsE I (I 36 0) (I 36 1) (I 36 2) B (updL ln i x) i p)) → mrk (J 143) r → Ok RX7 cX7_trace 6 rmX7_trace false none post U (45, [some (.inr (.inr (some 2))), some (.inl B), some (.inl i), some (.inl f), some (.inl r), some (.inl (x + 1))], [], (N, PF, J, L), 0, 0) := fun J r j1 j2 j3 j4 => by
        have e41 : J 41 = updL ln i x := updL_of (by rw [j1 41 _ (by omega)]; exact upI_same) (fun j hj => by rw [j1 41 _ (by omega), upI_nj hj]; exact h2 j hj)
        have k1 : ∀ b k, b ≠ 41 → b ≠ 142 → b ≠ 143 → J b k = I b k := fun b k b1 b2 b3 => (j1 b k b3).trans (hJ b k b1 b2 b3)
        have k3 : ∀ k, J 142 k = hr k := fun k => by rw [j1 142 k (by omega), upI_ne (by omega)]; exact h142e k
        have k2 : ∀ j : Int, j ≠ i → J 41 j = ln j := fun j hj => by rw [e41]; exact updL_ne hj
        rcases j4 with ⟨rfl | rfl, j5⟩
        · refine ih (x + 1) J (by omega) (by omega) (by omega) k1 k3 k2 (fun l' l0 l1 l2 => ?_)
          by_cases e : l' = x
          · subst e
            rintro ⟨p, hp⟩
            obtain ⟨a, t, q, w⟩ := id hp
            have hq := PreE_p q
            have := j5.mpr ⟨p, hq.1, hq.2, (j3 p hq.1 hq.2).mpr hp⟩
            omega
          · exact h3 l' l0 (by omega) l2
        · refine Ok.seg mdX7_trace [45, 105] 10 ?_
          simp only [wp_nil, wp_cons, ↓stp, ↓lI, ↓lL, ↓lR, ↓lIn_0, ↓lIn_1, ↓lIn_2, ↓lIn_3, ↓lLn_0, ↓lLn_1, ↓lLn_2, ↓lLn_3, ↓lRn_0, ↓lRn_1, ↓lRn_2, ↓lRn_3, ↓pI, ↓pL, ↓pR, ↓pA, ↓pN, ↓pV, ↓fp, ↓tsw, ↓oS, ↓spMax, ↓spMin, ↓spAbs, ↓spObj, RI, RLg, b2i_lo, b2i_hi, getL, setL, ltL, killL, isLong, inl, cnd, br, tgt, rcv, rpl, mputI, mputL, mputP, fv, fr, mcat, mcs, entL, entA, rfit, nf_0, nf_1, nf_2, nf_3, nf2_0, nf2_1, b2i_0, b2i_1, RI_b2i, b2i_fit, List.append, List.length, List.replicate, List.cons_append, List.nil_append, List.length_cons, List.length_nil, List.replicate_succ, List.replicate_zero, List.tail_cons, reduceIte, if_true, if_false, ite_true, ite_false, Bool.false_eq_true, true_and, and_true, and_self, false_and, and_false, or_self, or_true, true_or, or_false, false_or, not_true_eq_false, not_false_eq_true, ne_eq, forall_const, implies_true, imp_self, true_implies, false_implies, Nat.reduceAdd, Nat.reduceSub, Nat.reduceMul, Nat.reduceDiv, Nat.reduceMod, Nat.reduceEqDiff, Nat.reduceLT, Nat.reduceLeDiff, Nat.reduceBEq, Nat.add_zero, Nat.zero_add, Nat.le_refl, Nat.not_lt_zero, Nat.succ_eq_add_one, Int.reduceNatCast, Int.cast_ofNat_Int, Int.reduceSub, Int.reduceMul, Int.reduceNeg, Int.reduceLE, Int.reduceLT, Int.reduceToNat, Int.reduceEq, Int.reduceNe, Int.reduceAdd, Option.some.injEq, kX7_trace, rmX7_trace, ↓ofX7_108, ↓ofX7_12, ↓ofX7_28, ↓ofX7_50, ↓ofX7_53, ↓ofX7_69, ↓ocX7_trace_140, ↓ocX7_trace_150, ↓spX7_begins, ↓ocX7_trace_154, ↓spX7_leads, ↓ocX7_trace_158, ↓spCopy, G_1, G_2, G_3, G_4, G_35, G_36, G_37, G_38, G_39, G_40, G_41, G_42, G_43, G_44, G_45, G_46, G_47, G_48, G_49, G_140, G_141, G_142, G_143, G_144, G_145, G_146, G_178, G_179, G_180, G_181, G_182, G_183, G_184, G_189, G_198, G_207, PF_1_0, PF_1_1, PF_1_2, PF_1_3, PF_2_0, PF_2_1, PF_2_3, PF_2_4, PF_2_5, PF_2_6, PF_2_7, PF_2_8, PF_2_9, PF_2_10, PF_2_11, PF_3_0, PF_35_0, PF_35_1, PF_35_2, PF_35_3, PF_40_0, PF_40_1, PF_40_2, PF_44_0, PF_44_1, PF_44_2, PF_145_0, PF_145_1, PF_179_0, PF_179_1, PF_179_2, PF_179_3, PF_179_8, PF_179_9, PF_179_10]
          refine h J _ k1 k3 k2 ?_ j2 (by rw [e41]; exact j3)
          rw [e41]
          obtain ⟨z, z0, z1, z2⟩ := j5.mp rfl
          refine ⟨by rw [updL_me]; omega, fun q => ?_, ⟨z, (j3 z z0 z1).mp z2⟩, fun l' l0 l1 l2 => ?_⟩
          · rw [updL_me, updL_ne (by omega)]
            rw [if_neg (by omega)] at hf
            exact ⟨by omega, by omega, by omega, by omega⟩
          · rw [updL_me] at l1
            rw [updL_two]
            exact h3 l' l0 l1 (fun q => by have := l2 q; rwa [updL_ne (by omega)] at this)
      refine Ok.seg mdX7_trace [45, 105] 40 ?_
      simp only [wp_nil, wp_cons, ↓stp, ↓lI, ↓lL, ↓lR, ↓lIn_0, ↓lIn_1, ↓lIn_2, ↓lIn_3, ↓lLn_0, ↓lLn_1, ↓lLn_2, ↓lLn_3, ↓lRn_0, ↓lRn_1, ↓lRn_2, ↓lRn_3, ↓pI, ↓pL, ↓pR, ↓pA, ↓pN, ↓pV, ↓fp, ↓tsw, ↓oS, ↓spMax, ↓spMin, ↓spAbs, ↓spObj, RI, RLg, b2i_lo, b2i_hi, getL, setL, ltL, killL, isLong, inl, cnd, br, tgt, rcv, rpl, mputI, mputL, mputP, fv, fr, mcat, mcs, entL, entA, rfit, nf_0, nf_1, nf_2, nf_3, nf2_0, nf2_1, b2i_0, b2i_1, RI_b2i, b2i_fit, List.append, List.length, List.replicate, List.cons_append, List.nil_append, List.length_cons, List.length_nil, List.replicate_succ, List.replicate_zero, List.tail_cons, reduceIte, if_true, if_false, ite_true, ite_false, Bool.false_eq_true, true_and, and_true, and_self, false_and, and_false, or_self, or_true, true_or, or_false, false_or, not_true_eq_false, not_false_eq_true, ne_eq, forall_const, implies_true, imp_self, true_implies, false_implies, Nat.reduceAdd, Nat.reduceSub, Nat.reduceMul, Nat.reduceDiv, Nat.reduceMod, Nat.reduceEqDiff, Nat.reduceLT, Nat.reduceLeDiff, Nat.reduceBEq, Nat.add_zero, Nat.zero_add, Nat.le_refl, Nat.not_lt_zero, Nat.succ_eq_add_one, Int.reduceNatCast, Int.cast_ofNat_Int, Int.reduceSub, Int.reduceMul, Int.reduceNeg, Int.reduceLE, Int.reduceLT, Int.reduceToNat, Int.reduceEq, Int.reduceNe, Int.reduceAdd, Option.some.injEq, kX7_trace, rmX7_trace, ↓ofX7_108, ↓ofX7_12, ↓ofX7_28, ↓ofX7_50, ↓ofX7_53, ↓ofX7_69, ↓ocX7_trace_140, ↓ocX7_trace_150, ↓spX7_begins, ↓ocX7_trace_154, ↓spX7_leads, ↓ocX7_trace_158, ↓spCopy, htJ, hcJ, hlJ, e31, G_1, G_2, G_3, G_4, G_35, G_36, G_37, G_38, G_39, G_40, G_41, G_42, G_43, G_44, G_45, G_46, G_47, G_48, G_49, G_140, G_141, G_142, G_143, G_144, G_145, G_146, G_178, G_179, G_180, G_181, G_182, G_183, G_184, G_189, G_198, G_207, PF_1_0, PF_1_1, PF_1_2, PF_1_3, PF_2_0, PF_2_1, PF_2_3, PF_2_4, PF_2_5, PF_2_6, PF_2_7, PF_2_8, PF_2_9, PF_2_10, PF_2_11, PF_3_0, PF_35_0, PF_35_1, PF_35_2, PF_35_3, PF_40_0, PF_40_1, PF_40_2, PF_44_0, PF_44_1, PF_44_2, PF_145_0, PF_145_1, PF_179_0, PF_179_1, PF_179_2, PF_179_3, PF_179_8, PF_179_9, PF_179_10]
      unfold RI at h142
      refine ⟨by omega, fun q => by omega, fun q => ⟨by omega, by omega, fun q2 => by omega, fun q2 => ⟨by omega, by omega, by omega, fun q3 => ?_, fun q3 => ?_⟩⟩⟩
      · obtain ⟨j, rfl⟩ : ∃ j, i = j + 1 := ⟨i - 1, by omega⟩
        have ef : f = ln j := by rw [hf, if_neg (by omega), show ((j + 1 : Nat) : Int) - 1 = j by omega]
        have hnx : nr (ln j) x := ⟨by omega, by omega, by omega, by omega⟩
        have hlnr : lnr ln j := fun y hy => ⟨(hl y (by omega)).1, (hl y (by omega)).2.1⟩
        refine ⟨by omega, by omega, by omega, by omega, by omega, by omega, hrJ _ _ (by omega) (by omega) (by omega) (by omega), hrJ _ _ (by omega) (by omega) (by omega) (by omega), fun p p0 p1 => ?_, fun J r j1 j2 j3 j4 => go J r j1 j3 ?_ j4⟩
        · rw [upI_ne (by omega), h142e]; exact h142 (by omega) p p0 p1
        · rw [ef] at j2
          exact tr_1 (hr := hr) ht hc hs hB (by omega) hi hlnr hnx hJ (fun k => by rw [upI_ne (by omega)]; exact h142e k) (fun p p0 p1 => hhere (by omega) p p0 p1) j2
      · have e0 : i = 0 := by omega
        subst e0
        exact ⟨by omega, by omega, by omega, by omega, hrJ _ _ (by omega) (by omega) (by omega) (by omega), fun J r j1 j2 j3 j4 => go J r j1 j3 (tr_0 ht hc hs hB (by omega) (by omega) (by omega) (by omega) hJ j2) j4⟩
    · obtain ⟨l, a, b, c⟩ := exl
      refine (h3 l a.1 ?_ b c).elim
      by_cases e : i = 0
      · rw [if_pos e] at hf; omega
      · rw [if_neg e] at hf
        have := (b (by omega)).2.1
        omega
set_option maxHeartbeats 1600000 in
set_option maxRecDepth 100000 in
theorem lpX7_t2 {post : Option MV → MS → Prop} {U : Pt → Prop} {N : Nat} {I L : Int → Int → Int} {B : Int} (hn : 0 < I 3 1) (ht : tOK I) (hc : carOK I) (hs : slvOK I (I 36 0) (I 36 1)) (hB : ∀ x, LapE I (I 36 0) (I 36 1) (I 36 2) x → B ≤ x) (hB2 : LapE I (I 36 0) (I 36 1) (I 36 2) B)
    (h : ∀ (I1 : Int → Int → Int), frT I I1 → LexB I (I 36 0) (I 36 1) (I 36 2) B (I1 41) → post none (N, PF, I1, L)) :
    ∀ (m i : Nat) (I1 : Int → Int → Int) (t3 t4 t5 : Option MV), ((i + m : Nat) : Int) = I 3 1 → frT I I1 → (∀ j : Nat, j < i → lexC I (I 36 0) (I 36 1) (I 36 2) B (I1 41) j) → (0 < i → ∀ p, 1 ≤ p → p ≤ 60 → RI (I1 142 p)) → (0 < i → ∀ p, 1 ≤ p → p ≤ 60 → (0 < I1 142 p ↔ HsE I (I 36 0) (I 36 1) (I 36 2) B (I1 41) (i - 1) p)) →
    Ok RX7 cX7_trace 6 rmX7_trace false none post U (2, [some (.inr (.inr (some 2))), some (.inl B), some (.inl i), t3, t4, t5], [], (N, PF, I1, L), 0, 0)
  | 0, i, I1, t3, t4, t5, hm, h1, h2, h3, h4 => by
    have ht2 := ht.2.1
    have e31 : I1 3 1 = I 3 1 := h1 3 1 (by omega) (by omega) (by omega)
    refine Ok.seg mdX7_trace [2, 45, 105] 10 ?_
    simp only [wp_nil, wp_cons, ↓stp, ↓lI, ↓lL, ↓lR, ↓lIn_0, ↓lIn_1, ↓lIn_2, ↓lIn_3, ↓lLn_0, ↓lLn_1, ↓lLn_2, ↓lLn_3, ↓lRn_0, ↓lRn_1, ↓lRn_2, ↓lRn_3, ↓pI, ↓pL, ↓pR, ↓pA, ↓pN, ↓pV, ↓fp, ↓tsw, ↓oS, ↓spMax, ↓spMin, ↓spAbs, ↓spObj, RI, RLg, b2i_lo, b2i_hi, getL, setL, ltL, killL, isLong, inl, cnd, br, tgt, rcv, rpl, mputI, mputL, mputP, fv, fr, mcat, mcs, entL, entA, rfit, nf_0, nf_1, nf_2, nf_3, nf2_0, nf2_1, b2i_0, b2i_1, RI_b2i, b2i_fit, List.append, List.length, List.replicate, List.cons_append, List.nil_append, List.length_cons, List.length_nil, List.replicate_succ, List.replicate_zero, List.tail_cons, reduceIte, if_true, if_false, ite_true, ite_false, Bool.false_eq_true, true_and, and_true, and_self, false_and, and_false, or_self, or_true, true_or, or_false, false_or, not_true_eq_false, not_false_eq_true, ne_eq, forall_const, implies_true, imp_self, true_implies, false_implies, Nat.reduceAdd, Nat.reduceSub, Nat.reduceMul, Nat.reduceDiv, Nat.reduceMod, Nat.reduceEqDiff, Nat.reduceLT, Nat.reduceLeDiff, Nat.reduceBEq, Nat.add_zero, Nat.zero_add, Nat.le_refl, Nat.not_lt_zero, Nat.succ_eq_add_one, Int.reduceNatCast, Int.cast_ofNat_Int, Int.reduceSub, Int.reduceMul, Int.reduceNeg, Int.reduceLE, Int.reduceLT, Int.reduceToNat, Int.reduceEq, Int.reduceNe, Int.reduceAdd, Option.some.injEq, kX7_trace, rmX7_trace, ↓ofX7_108, ↓ofX7_12, ↓ofX7_28, ↓ofX7_50, ↓ofX7_53, ↓ofX7_69, ↓ocX7_trace_140, ↓ocX7_trace_150, ↓spX7_begins, ↓ocX7_trace_154, ↓spX7_leads, ↓ocX7_trace_158, ↓spCopy, e31, G_1, G_2, G_3, G_4, G_35, G_36, G_37, G_38, G_39, G_40, G_41, G_42, G_43, G_44, G_45, G_46, G_47, G_48, G_49, G_140, G_141, G_142, G_143, G_144, G_145, G_146, G_178, G_179, G_180, G_181, G_182, G_183, G_184, G_189, G_198, G_207, PF_1_0, PF_1_1, PF_1_2, PF_1_3, PF_2_0, PF_2_1, PF_2_3, PF_2_4, PF_2_5, PF_2_6, PF_2_7, PF_2_8, PF_2_9, PF_2_10, PF_2_11, PF_3_0, PF_35_0, PF_35_1, PF_35_2, PF_35_3, PF_40_0, PF_40_1, PF_40_2, PF_44_0, PF_44_1, PF_44_2, PF_145_0, PF_145_1, PF_179_0, PF_179_1, PF_179_2, PF_179_3, PF_179_8, PF_179_9, PF_179_10]
    refine ⟨by omega, by omega, fun q => h I1 h1 (fun j hj => h2 j (by omega)), fun q => by omega⟩
  | m + 1, i, I1, t3, t4, t5, hm, h1, h2, h3, h4 => by
    have ih := lpX7_t2 (post := post) (U := U) hn ht hc hs hB hB2 h m (i + 1)
    have ht2 := ht.2.1
    have e31 : I1 3 1 = I 3 1 := h1 3 1 (by omega) (by omega) (by omega)
    have go : ∀ (f x : Int), f = (if i = 0 then 1 else I1 41 (i - 1)) → f - 1 ≤ x → 0 ≤ x → (x = 0 ∨ x = f - 1) → Ok RX7 cX7_trace 6 rmX7_trace false none post U (45, [some (.inr (.inr (some 2))), some (.inl B), some (.inl i), some (.inl f), some (.inl 0), some (.inl x)], [], (N, PF, I1, L), 0, 0) := fun f x hf x1 x0 x2 => by
      have hfr : 0 ≤ f ∧ f ≤ 2 := by
        rw [hf]
        split
        · omega
        · have := (h2 (i - 1) (by omega)).1
          rw [show ((i - 1 : Nat) : Int) = (i : Int) - 1 by omega] at this
          exact this
      refine lpX7_t1 (ln := I1 41) (hr := I1 142) (by omega) ht hc hs hB hB2 hf h2 h3 h4 (fun J t j1 j2 j3 j4 j5 j6 => ?_) (3 - x).toNat x I1 (by omega) x1 x0 (fun b k b1 b2 b3 => h1 b k b1 b2 b3) (fun _ => rfl) (fun _ _ => rfl) (fun l' l0 l1 l2 => ?_)
      · refine Ok.seg mdX7_trace [2, 45, 105] 20 ?_
        simp only [wp_nil, wp_cons, ↓stp, ↓lI, ↓lL, ↓lR, ↓lIn_0, ↓lIn_1, ↓lIn_2, ↓lIn_3, ↓lLn_0, ↓lLn_1, ↓lLn_2, ↓lLn_3, ↓lRn_0, ↓lRn_1, ↓lRn_2, ↓lRn_3, ↓pI, ↓pL, ↓pR, ↓pA, ↓pN, ↓pV, ↓fp, ↓tsw, ↓oS, ↓spMax, ↓spMin, ↓spAbs, ↓spObj, RI, RLg, b2i_lo, b2i_hi, getL, setL, ltL, killL, isLong, inl, cnd, br, tgt, rcv, rpl, mputI, mputL, mputP, fv, fr, mcat, mcs, entL, entA, rfit, nf_0, nf_1, nf_2, nf_3, nf2_0, nf2_1, b2i_0, b2i_1, RI_b2i, b2i_fit, List.append, List.length, List.replicate, List.cons_append, List.nil_append, List.length_cons, List.length_nil, List.replicate_succ, List.replicate_zero, List.tail_cons, reduceIte, if_true, if_false, ite_true, ite_false, Bool.false_eq_true, true_and, and_true, and_self, false_and, and_false, or_self, or_true, true_or, or_false, false_or, not_true_eq_false, not_false_eq_true, ne_eq, forall_const, implies_true, imp_self, true_implies, false_implies, Nat.reduceAdd, Nat.reduceSub, Nat.reduceMul, Nat.reduceDiv, Nat.reduceMod, Nat.reduceEqDiff, Nat.reduceLT, Nat.reduceLeDiff, Nat.reduceBEq, Nat.add_zero, Nat.zero_add, Nat.le_refl, Nat.not_lt_zero, Nat.succ_eq_add_one, Int.reduceNatCast, Int.cast_ofNat_Int, Int.reduceSub, Int.reduceMul, Int.reduceNeg, Int.reduceLE, Int.reduceLT, Int.reduceToNat, Int.reduceEq, Int.reduceNe, Int.reduceAdd, Option.some.injEq, kX7_trace, rmX7_trace, ↓ofX7_108, ↓ofX7_12, ↓ofX7_28, ↓ofX7_50, ↓ofX7_53, ↓ofX7_69, ↓ocX7_trace_140, ↓ocX7_trace_150, ↓spX7_begins, ↓ocX7_trace_154, ↓spX7_leads, ↓ocX7_trace_158, ↓spCopy, G_1, G_2, G_3, G_4, G_35, G_36, G_37, G_38, G_39, G_40, G_41, G_42, G_43, G_44, G_45, G_46, G_47, G_48, G_49, G_140, G_141, G_142, G_143, G_144, G_145, G_146, G_178, G_179, G_180, G_181, G_182, G_183, G_184, G_189, G_198, G_207, PF_1_0, PF_1_1, PF_1_2, PF_1_3, PF_2_0, PF_2_1, PF_2_3, PF_2_4, PF_2_5, PF_2_6, PF_2_7, PF_2_8, PF_2_9, PF_2_10, PF_2_11, PF_3_0, PF_35_0, PF_35_1, PF_35_2, PF_35_3, PF_40_0, PF_40_1, PF_40_2, PF_44_0, PF_44_1, PF_44_2, PF_145_0, PF_145_1, PF_179_0, PF_179_1, PF_179_2, PF_179_3, PF_179_8, PF_179_9, PF_179_10]
        have k1 : ∀ b k, b ≠ 142 → cpyI J 143 0 142 0 61 b k = J b k := fun b k hb => if_neg (fun z => hb z.1)
        have k2 : ∀ p, 1 ≤ p → p ≤ 60 → cpyI J 143 0 142 0 61 142 p = J 143 p := fun p p0 p1 => by
          unfold cpyI; rw [if_pos ⟨rfl, by omega, by omega⟩, show 0 + (p - 0) = p by omega]
        have k41 : cpyI J 143 0 142 0 61 41 = J 41 := funext fun k => k1 41 k (by omega)
        have := ih (cpyI J 143 0 142 0 61) (some (.inl f)) (some (.inl 1)) t (by omega) (fun b k b1 b2 b3 => by rw [k1 b k b2]; exact j1 b k b1 b2 b3) (fun y hy => ?_) (fun _ p p0 p1 => by rw [k2 p p0 p1]; rcases j5 p p0 p1 with w | w <;> (rw [w]; unfold RI; omega)) (fun _ p p0 p1 => by rw [k2 p p0 p1, k41]; exact j6 p p0 p1)
        · rwa [show ((i + 1 : Nat) : Int) = (i : Int) + 1 by omega] at this
        · rw [k41]
          by_cases e : y = i
          · rw [e]; exact j4
          · exact lexC_cg y (fun z z0 z1 => (j3 z (by omega)).symm) (h2 y (by omega))
      · by_cases e : i = 0
        · rw [if_pos e] at hf; omega
        · rw [if_neg e] at hf
          have := (l2 (by omega)).1
          omega
    refine Ok.seg mdX7_trace [2, 45, 105] 40 ?_
    simp only [wp_nil, wp_cons, ↓stp, ↓lI, ↓lL, ↓lR, ↓lIn_0, ↓lIn_1, ↓lIn_2, ↓lIn_3, ↓lLn_0, ↓lLn_1, ↓lLn_2, ↓lLn_3, ↓lRn_0, ↓lRn_1, ↓lRn_2, ↓lRn_3, ↓pI, ↓pL, ↓pR, ↓pA, ↓pN, ↓pV, ↓fp, ↓tsw, ↓oS, ↓spMax, ↓spMin, ↓spAbs, ↓spObj, RI, RLg, b2i_lo, b2i_hi, getL, setL, ltL, killL, isLong, inl, cnd, br, tgt, rcv, rpl, mputI, mputL, mputP, fv, fr, mcat, mcs, entL, entA, rfit, nf_0, nf_1, nf_2, nf_3, nf2_0, nf2_1, b2i_0, b2i_1, RI_b2i, b2i_fit, List.append, List.length, List.replicate, List.cons_append, List.nil_append, List.length_cons, List.length_nil, List.replicate_succ, List.replicate_zero, List.tail_cons, reduceIte, if_true, if_false, ite_true, ite_false, Bool.false_eq_true, true_and, and_true, and_self, false_and, and_false, or_self, or_true, true_or, or_false, false_or, not_true_eq_false, not_false_eq_true, ne_eq, forall_const, implies_true, imp_self, true_implies, false_implies, Nat.reduceAdd, Nat.reduceSub, Nat.reduceMul, Nat.reduceDiv, Nat.reduceMod, Nat.reduceEqDiff, Nat.reduceLT, Nat.reduceLeDiff, Nat.reduceBEq, Nat.add_zero, Nat.zero_add, Nat.le_refl, Nat.not_lt_zero, Nat.succ_eq_add_one, Int.reduceNatCast, Int.cast_ofNat_Int, Int.reduceSub, Int.reduceMul, Int.reduceNeg, Int.reduceLE, Int.reduceLT, Int.reduceToNat, Int.reduceEq, Int.reduceNe, Int.reduceAdd, Option.some.injEq, kX7_trace, rmX7_trace, ↓ofX7_108, ↓ofX7_12, ↓ofX7_28, ↓ofX7_50, ↓ofX7_53, ↓ofX7_69, ↓ocX7_trace_140, ↓ocX7_trace_150, ↓spX7_begins, ↓ocX7_trace_154, ↓spX7_leads, ↓ocX7_trace_158, ↓spCopy, e31, G_1, G_2, G_3, G_4, G_35, G_36, G_37, G_38, G_39, G_40, G_41, G_42, G_43, G_44, G_45, G_46, G_47, G_48, G_49, G_140, G_141, G_142, G_143, G_144, G_145, G_146, G_178, G_179, G_180, G_181, G_182, G_183, G_184, G_189, G_198, G_207, PF_1_0, PF_1_1, PF_1_2, PF_1_3, PF_2_0, PF_2_1, PF_2_3, PF_2_4, PF_2_5, PF_2_6, PF_2_7, PF_2_8, PF_2_9, PF_2_10, PF_2_11, PF_3_0, PF_35_0, PF_35_1, PF_35_2, PF_35_3, PF_40_0, PF_40_1, PF_40_2, PF_44_0, PF_44_1, PF_44_2, PF_145_0, PF_145_1, PF_179_0, PF_179_1, PF_179_2, PF_179_3, PF_179_8, PF_179_9, PF_179_10]
    have hl1 : i ≠ 0 → 0 ≤ I1 41 ((i : Int) - 1) ∧ I1 41 ((i : Int) - 1) ≤ 2 := fun q => by
      have := (h2 (i - 1) (by omega)).1
      rw [show ((i - 1 : Nat) : Int) = (i : Int) - 1 by omega] at this
      exact this
    refine ⟨by omega, by omega, fun q => by omega, fun q => ⟨by omega, fun q2 => ?_, fun q2 r r0 r1 r2 => ?_⟩⟩
    · have := hl1 (by omega)
      exact ⟨by omega, by omega, by omega, fun r r0 r1 r2 => go _ r (by rw [if_neg (by omega)]) (by omega) (by omega) (by omega)⟩
    · exact go 1 r (by rw [if_pos (by omega)]) (by omega) (by omega) (by omega)
set_option maxRecDepth 100000 in
set_option maxHeartbeats 800000 in
theorem mX7_trace : MOK yX7_trace cX7_trace 6 none rmX7_trace ciX7_trace := by
  refine mok_of (ini := false) (by decide +kernel) (by decide) rfl rfl ?_
  intro σ As K hrc hl h
  obtain ⟨N, P, I, L⟩ := σ
  have h9 := pR_iff.mp h
  clear h
  obtain ⟨s, r, e9, h⟩ := h9
  subst e9
  have h9 := pI_iff.mp h
  clear h
  obtain ⟨B, r, e9, h⟩ := h9
  subst e9
  have h9 := pN_iff.mp h
  clear h
  obtain ⟨e9, h⟩ := h9
  subst e9
  dsimp only at h
  obtain ⟨rfl, rfl, ht, hc, hs, hB, h⟩ := h
  have h3 := ht.1
  refine ⟨Nat.le_of_ble_eq_true rfl, Ok.seg mdX7_trace [2] 6 ?_⟩
  simp only [wp_nil, wp_cons, ↓stp, ↓lI, ↓lL, ↓lR, ↓lIn_0, ↓lIn_1, ↓lIn_2, ↓lIn_3, ↓lLn_0, ↓lLn_1, ↓lLn_2, ↓lLn_3, ↓lRn_0, ↓lRn_1, ↓lRn_2, ↓lRn_3, ↓pI, ↓pL, ↓pR, ↓pA, ↓pN, ↓pV, ↓fp, ↓tsw, ↓oS, ↓spMax, ↓spMin, ↓spAbs, ↓spObj, RI, RLg, b2i_lo, b2i_hi, getL, setL, ltL, killL, isLong, inl, cnd, br, tgt, rcv, rpl, mputI, mputL, mputP, fv, fr, mcat, mcs, entL, entA, rfit, nf_0, nf_1, nf_2, nf_3, nf2_0, nf2_1, b2i_0, b2i_1, RI_b2i, b2i_fit, List.append, List.length, List.replicate, List.cons_append, List.nil_append, List.length_cons, List.length_nil, List.replicate_succ, List.replicate_zero, List.tail_cons, reduceIte, if_true, if_false, ite_true, ite_false, Bool.false_eq_true, true_and, and_true, and_self, false_and, and_false, or_self, or_true, true_or, or_false, false_or, not_true_eq_false, not_false_eq_true, ne_eq, forall_const, implies_true, imp_self, true_implies, false_implies, Nat.reduceAdd, Nat.reduceSub, Nat.reduceMul, Nat.reduceDiv, Nat.reduceMod, Nat.reduceEqDiff, Nat.reduceLT, Nat.reduceLeDiff, Nat.reduceBEq, Nat.add_zero, Nat.zero_add, Nat.le_refl, Nat.not_lt_zero, Nat.succ_eq_add_one, Int.reduceNatCast, Int.cast_ofNat_Int, Int.reduceSub, Int.reduceMul, Int.reduceNeg, Int.reduceLE, Int.reduceLT, Int.reduceToNat, Int.reduceEq, Int.reduceNe, Int.reduceAdd, Option.some.injEq, kX7_trace, rmX7_trace, ↓ofX7_108, ↓ofX7_12, ↓ofX7_28, ↓ofX7_50, ↓ofX7_53, ↓ofX7_69, ↓ocX7_trace_140, ↓ocX7_trace_150, ↓spX7_begins, ↓ocX7_trace_154, ↓spX7_leads, ↓ocX7_trace_158, ↓spCopy, G_1, G_2, G_3, G_4, G_35, G_36, G_37, G_38, G_39, G_40, G_41, G_42, G_43, G_44, G_45, G_46, G_47, G_48, G_49, G_140, G_141, G_142, G_143, G_144, G_145, G_146, G_178, G_179, G_180, G_181, G_182, G_183, G_184, G_189, G_198, G_207, PF_1_0, PF_1_1, PF_1_2, PF_1_3, PF_2_0, PF_2_1, PF_2_3, PF_2_4, PF_2_5, PF_2_6, PF_2_7, PF_2_8, PF_2_9, PF_2_10, PF_2_11, PF_3_0, PF_35_0, PF_35_1, PF_35_2, PF_35_3, PF_40_0, PF_40_1, PF_40_2, PF_44_0, PF_44_1, PF_44_2, PF_145_0, PF_145_1, PF_179_0, PF_179_1, PF_179_2, PF_179_3, PF_179_8, PF_179_9, PF_179_10]
  rcases hB with ⟨hn, hv⟩ | ⟨hn, hB, hB2⟩
  · refine Ok.seg mdX7_trace [45, 105] 10 ?_
    simp only [wp_nil, wp_cons, ↓stp, ↓lI, ↓lL, ↓lR, ↓lIn_0, ↓lIn_1, ↓lIn_2, ↓lIn_3, ↓lLn_0, ↓lLn_1, ↓lLn_2, ↓lLn_3, ↓lRn_0, ↓lRn_1, ↓lRn_2, ↓lRn_3, ↓pI, ↓pL, ↓pR, ↓pA, ↓pN, ↓pV, ↓fp, ↓tsw, ↓oS, ↓spMax, ↓spMin, ↓spAbs, ↓spObj, RI, RLg, b2i_lo, b2i_hi, getL, setL, ltL, killL, isLong, inl, cnd, br, tgt, rcv, rpl, mputI, mputL, mputP, fv, fr, mcat, mcs, entL, entA, rfit, nf_0, nf_1, nf_2, nf_3, nf2_0, nf2_1, b2i_0, b2i_1, RI_b2i, b2i_fit, List.append, List.length, List.replicate, List.cons_append, List.nil_append, List.length_cons, List.length_nil, List.replicate_succ, List.replicate_zero, List.tail_cons, reduceIte, if_true, if_false, ite_true, ite_false, Bool.false_eq_true, true_and, and_true, and_self, false_and, and_false, or_self, or_true, true_or, or_false, false_or, not_true_eq_false, not_false_eq_true, ne_eq, forall_const, implies_true, imp_self, true_implies, false_implies, Nat.reduceAdd, Nat.reduceSub, Nat.reduceMul, Nat.reduceDiv, Nat.reduceMod, Nat.reduceEqDiff, Nat.reduceLT, Nat.reduceLeDiff, Nat.reduceBEq, Nat.add_zero, Nat.zero_add, Nat.le_refl, Nat.not_lt_zero, Nat.succ_eq_add_one, Int.reduceNatCast, Int.cast_ofNat_Int, Int.reduceSub, Int.reduceMul, Int.reduceNeg, Int.reduceLE, Int.reduceLT, Int.reduceToNat, Int.reduceEq, Int.reduceNe, Int.reduceAdd, Option.some.injEq, kX7_trace, rmX7_trace, ↓ofX7_108, ↓ofX7_12, ↓ofX7_28, ↓ofX7_50, ↓ofX7_53, ↓ofX7_69, ↓ocX7_trace_140, ↓ocX7_trace_150, ↓spX7_begins, ↓ocX7_trace_154, ↓spX7_leads, ↓ocX7_trace_158, ↓spCopy, hn, G_1, G_2, G_3, G_4, G_35, G_36, G_37, G_38, G_39, G_40, G_41, G_42, G_43, G_44, G_45, G_46, G_47, G_48, G_49, G_140, G_141, G_142, G_143, G_144, G_145, G_146, G_178, G_179, G_180, G_181, G_182, G_183, G_184, G_189, G_198, G_207, PF_1_0, PF_1_1, PF_1_2, PF_1_3, PF_2_0, PF_2_1, PF_2_3, PF_2_4, PF_2_5, PF_2_6, PF_2_7, PF_2_8, PF_2_9, PF_2_10, PF_2_11, PF_3_0, PF_35_0, PF_35_1, PF_35_2, PF_35_3, PF_40_0, PF_40_1, PF_40_2, PF_44_0, PF_44_1, PF_44_2, PF_145_0, PF_145_1, PF_179_0, PF_179_1, PF_179_2, PF_179_3, PF_179_8, PF_179_9, PF_179_10]
    exact h I (fun _ _ _ _ _ => rfl) (fun i hi => by omega)
  · refine lpX7_t2 hn ht hc hs hB2 hB (fun I1 h1 h2 => ⟨trivial, h I1 h1 ?_⟩) (I 3 1).toNat 0 I none none none (by omega) (fun _ _ _ _ _ => rfl) (fun j hj => by omega) (fun q => by omega) (fun q => by omega)
    have hts : tsame I I1 := tsame_of (fun b k hb => h1 b k (by omega) (by omega) (by omega)) ht.2.1
    rw [h1 36 0 (by omega) (by omega) (by omega), h1 36 1 (by omega) (by omega) (by omega), h1 36 2 (by omega) (by omega) (by omega)]
    exact LexB_ts hts h2
