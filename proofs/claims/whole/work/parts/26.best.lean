/-! the best way's lanes -/
def PreE (I : Int → Int → Int) (g bk st : Int) (ln : Int → Int) : Nat → Int → Int → Prop
  | 0, p, a => (1 ≤ p ∧ p ≤ st ∧ p ≤ lmv I g 0 (ln 0)) ∧ a = tmv (I 5 1) 0 p
  | i + 1, q, a => ∃ p a', PreE I g bk st ln i p a' ∧ (1 ≤ q ∧ p - bk ≤ q ∧ q ≤ rch (I 38) (I 39) p ∧ q ≤ lmv I g (i + 1) (ln (i + 1))) ∧ a = a' + tmv (I (5 + ((i : Int) + 1)) 1) (dif (ln i) (ln (i + 1))) q
/-- at station i pace p may be driven on a best way that goes on the lanes ln up to i -/
def HsE (I : Int → Int → Int) (g bk st B : Int) (ln : Int → Int) (i : Nat) (p : Int) : Prop := ∃ a t, PreE I g bk st ln i p a ∧ AchE I g bk (kk I i) i (ln i) p t ∧ a + t = B
def updL (ln : Int → Int) (i l : Int) : Int → Int := fun j => if j = i then l else ln j
def lexC (I : Int → Int → Int) (g bk st B : Int) (ln : Int → Int) (i : Nat) : Prop := (0 ≤ ln i ∧ ln i ≤ 2) ∧ (0 < i → nr (ln (i - 1)) (ln i)) ∧ (∃ p, HsE I g bk st B ln i p) ∧ ∀ l', 0 ≤ l' → l' < ln i → (0 < i → nr (ln (i - 1)) l') → ¬ ∃ p, HsE I g bk st B (updL ln i l') i p
/-- ln is the least row of lanes on which a best lap goes -/
def LexB (I : Int → Int → Int) (g bk st B : Int) (ln : Int → Int) : Prop := ∀ i : Nat, (i : Int) < I 3 1 → lexC I g bk st B ln i
theorem PreE_cg {I : Int → Int → Int} {g bk st : Int} {ln ln' : Int → Int} : ∀ (i : Nat) (p a : Int), (∀ j : Int, 0 ≤ j → j ≤ i → ln j = ln' j) → (PreE I g bk st ln i p a ↔ PreE I g bk st ln' i p a)
  | 0, p, a, h => by unfold PreE; rw [h 0 (by omega) (by omega)]
  | i + 1, p, a, h => by
    unfold PreE
    rw [h (i + 1) (by omega) (by omega), h i (by omega) (by omega)]
    have e := fun p a => PreE_cg (I := I) (g := g) (bk := bk) (st := st) (ln := ln) (ln' := ln') i p a (fun j j0 j1 => h j j0 (by omega))
    constructor
    · rintro ⟨p', a', x, y⟩; exact ⟨p', a', (e p' a').mp x, y⟩
    · rintro ⟨p', a', x, y⟩; exact ⟨p', a', (e p' a').mpr x, y⟩
theorem HsE_cg {I : Int → Int → Int} {g bk st B : Int} {ln ln' : Int → Int} (i : Nat) (p : Int) (h : ∀ j : Int, 0 ≤ j → j ≤ i → ln j = ln' j) : HsE I g bk st B ln i p ↔ HsE I g bk st B ln' i p := by
  unfold HsE
  rw [h i (by omega) (by omega)]
  constructor
  · rintro ⟨a, t, x, y⟩; exact ⟨a, t, (PreE_cg i p a h).mp x, y⟩
  · rintro ⟨a, t, x, y⟩; exact ⟨a, t, (PreE_cg i p a h).mpr x, y⟩
theorem lexC_cg {I : Int → Int → Int} {g bk st B : Int} {ln ln' : Int → Int} (i : Nat) (h : ∀ j : Int, 0 ≤ j → j ≤ i → ln j = ln' j) (hc : lexC I g bk st B ln i) : lexC I g bk st B ln' i := by
  obtain ⟨a, b, ⟨p, c⟩, d⟩ := hc
  have e := h i (by omega) (by omega)
  refine ⟨by rw [← e]; exact a, fun q => ?_, ⟨p, (HsE_cg i p h).mp c⟩, fun l' l0 l1 l2 => ?_⟩
  · rw [← e, ← h (i - 1) (by omega) (by omega)]; exact b q
  · rintro ⟨p, x⟩
    refine d l' l0 (by rw [e]; exact l1) (fun q => by rw [h (i - 1) (by omega) (by omega)]; exact l2 q) ⟨p, (HsE_cg i p (fun j j0 j1 => ?_)).mpr x⟩
    unfold updL
    split
    · rfl
    · exact h j j0 j1
/-- there is but one -/
theorem LexB.uniq {I : Int → Int → Int} {g bk st B : Int} {ln ln' : Int → Int} (h : LexB I g bk st B ln) (h' : LexB I g bk st B ln') : ∀ (m : Nat) (j : Int), 0 ≤ j → j < m → j < I 3 1 → ln j = ln' j
  | 0, j, j0, j1, j2 => by omega
  | m + 1, j, j0, j1, j2 => by
    by_cases e : j < m
    · exact LexB.uniq h h' m j j0 e j2
    · have e : j = m := by omega
      subst e
      have ih := fun j a b => LexB.uniq h h' m j a b (by omega)
      obtain ⟨a, b, ⟨p, c⟩, d⟩ := h m j2
      obtain ⟨a', b', ⟨p', c'⟩, d'⟩ := h' m j2
      rcases Int.lt_trichotomy (ln m) (ln' m) with q | q | q
      · refine (d' (ln m) a.1 q (fun z => ?_) ⟨p, (HsE_cg m p (fun j x y => ?_)).mp c⟩).elim
        · rw [← ih (m - 1) (by omega) (by omega)]; exact b z
        · unfold updL
          split
          · rename_i e; rw [e]
          · exact ih j x (by omega)
      · exact q
      · refine (d (ln' m) a'.1 q (fun z => ?_) ⟨p', (HsE_cg m p' (fun j x y => ?_)).mp c'⟩).elim
        · rw [ih (m - 1) (by omega) (by omega)]; exact b' z
        · unfold updL
          split
          · rename_i e; rw [e]
          · exact (ih j x (by omega)).symm
theorem PreE_p {I : Int → Int → Int} {g bk st : Int} {ln : Int → Int} : ∀ {i : Nat} {p a : Int}, PreE I g bk st ln i p a → 1 ≤ p ∧ p ≤ 60
  | 0, p, a, h => by
    obtain ⟨⟨x, y, z⟩, w⟩ := h
    unfold lmv at z
    have := lim_rng (I (5 + 0) 0) (I (5 + 0) 2) (I (5 + 0) 3) (ln 0) g
    exact ⟨x, by omega⟩
  | i + 1, p, a, h => by
    obtain ⟨p', a', h1, ⟨x, y, z, u⟩, w⟩ := h
    unfold lmv at u
    have := lim_rng (I (5 + ((i : Int) + 1)) 0) (I (5 + ((i : Int) + 1)) 2) (I (5 + ((i : Int) + 1)) 3) (ln ((i : Int) + 1)) g
    exact ⟨x, by omega⟩
theorem PreE_0 {I : Int → Int → Int} {g bk st : Int} {ln : Int → Int} (ht : tOK I) : ∀ {i : Nat} {p a : Int}, (i : Int) < I 3 1 → PreE I g bk st ln i p a → 0 ≤ a
  | 0, p, a, hi, h => by
    obtain ⟨⟨x, y, z⟩, w⟩ := h
    have := (tm_rng ht 0 0 p (by omega) hi x).1
    rw [w]; exact this
  | i + 1, p, a, hi, h => by
    obtain ⟨p', a', h1, ⟨x, y, z, u⟩, w⟩ := h
    have := (tm_rng ht ((i : Int) + 1) (dif (ln i) (ln ((i : Int) + 1))) p (by omega) (by omega) x).1
    have := PreE_0 ht (by omega) h1
    omega
/-- lanes up to i may be driven -/
def lnr (ln : Int → Int) (i : Nat) : Prop := ∀ j : Nat, j ≤ i → (0 ≤ ln j ∧ ln j ≤ 2) ∧ (0 < j → nr (ln (j - 1)) (ln j))
theorem pre_lap {I : Int → Int → Int} {g bk st : Int} {ln : Int → Int} : ∀ {i : Nat} {p a t : Int}, (i : Int) < I 3 1 → lnr ln i → PreE I g bk st ln i p a → AchE I g bk (kk I i) i (ln i) p t → LapE I g bk st (a + t)
  | 0, p, a, t, hi, hn, h, h2 => by
    obtain ⟨x, w⟩ := h
    exact ⟨ln 0, p, t, (hn 0 (by omega)).1.1, (hn 0 (by omega)).1.2, x, h2, by rw [w]⟩
  | i + 1, q, a, t, hi, hn, h, h2 => by
    obtain ⟨p', a', h1, x, w⟩ := h
    have e : kk I i = kk I ((i + 1 : Nat) : Int) + 1 := by unfold kk; omega
    have hnr := (hn (i + 1) (by omega)).2 (by omega)
    rw [show ((i + 1 : Nat) : Int) - 1 = i by omega, show ((i + 1 : Nat) : Int) = (i : Int) + 1 by omega] at hnr
    have := pre_lap (i := i) (p := p') (a := a') (t := tmv (I (5 + ((i : Int) + 1)) 1) (dif (ln i) (ln ((i : Int) + 1))) q + t) (by omega) (fun j hj => hn j (by omega)) h1 (by
      rw [e]
      exact ⟨ln ((i : Int) + 1), q, t, hnr, x, h2, rfl⟩)
    rw [w, show a' + tmv (I (5 + ((i : Int) + 1)) 1) (dif (ln i) (ln ((i : Int) + 1))) q + t = a' + (tmv (I (5 + ((i : Int) + 1)) 1) (dif (ln i) (ln ((i : Int) + 1))) q + t) by omega]
    exact this
/-- the rows by station, lane, pace -/
def RowE (I : Int → Int → Int) (g bk F : Int) (R : Int → Int → Int → Int) : Prop := ∀ i l p, 0 ≤ i → i < I 3 1 → 0 ≤ l → l ≤ 2 → 1 ≤ p → p ≤ 60 → p ≤ lmv I g i l → Lst (AchE I g bk (kk I i) i l p) F (R i l p)
theorem PreE_lm {I : Int → Int → Int} {g bk st : Int} {ln : Int → Int} : ∀ {i : Nat} {p a : Int}, PreE I g bk st ln i p a → p ≤ lmv I g i (ln i)
  | 0, p, a, h => h.1.2.2
  | i + 1, p, a, h => by obtain ⟨p', a', h1, x, w⟩ := h; exact x.2.2.2
theorem hs_t {I : Int → Int → Int} {g bk st B F : Int} {R : Int → Int → Int → Int} {ln : Int → Int} {i : Nat} {p a t : Int} (ht : tOK I) (hR : RowE I g bk F R) (hB : ∀ x, LapE I g bk st x → B ≤ x) (hF : B < F) (hi : (i : Int) < I 3 1) (hn : lnr ln i) (h : PreE I g bk st ln i p a) (h2 : AchE I g bk (kk I i) i (ln i) p t) (e : a + t = B) : t = R i (ln i) p := by
  have hp := PreE_p h
  have ha := PreE_0 ht hi h
  obtain ⟨x, y, z⟩ := hR i (ln i) p (by omega) hi (hn i (by omega)).1.1 (hn i (by omega)).1.2 hp.1 hp.2 (PreE_lm h)
  have z1 := z t h2
  rcases x with x | x
  · omega
  · have := hB _ (pre_lap hi hn h x); omega
theorem hs_R {I : Int → Int → Int} {g bk st B F : Int} {R : Int → Int → Int → Int} {ln : Int → Int} {i : Nat} {p : Int} (ht : tOK I) (hR : RowE I g bk F R) (hB : ∀ x, LapE I g bk st x → B ≤ x) (hF : B < F) (hi : (i : Int) < I 3 1) (hn : lnr ln i) : HsE I g bk st B ln i p ↔ ∃ a, PreE I g bk st ln i p a ∧ a + R i (ln i) p = B := by
  constructor
  · rintro ⟨a, t, h1, h2, e⟩
    exact ⟨a, h1, by rw [← hs_t ht hR hB hF hi hn h1 h2 e]; exact e⟩
  · rintro ⟨a, h1, e⟩
    have hp := PreE_p h1
    have ha := PreE_0 ht hi h1
    obtain ⟨x, y, z⟩ := hR i (ln i) p (by omega) hi (hn i (by omega)).1.1 (hn i (by omega)).1.2 hp.1 hp.2 (PreE_lm h1)
    rcases x with x | x
    · omega
    · exact ⟨a, _, h1, x, e⟩
theorem lnr_up {ln : Int → Int} {i : Nat} {l : Int} (h : ∀ j : Nat, j < i → (0 ≤ ln j ∧ ln j ≤ 2) ∧ (0 < j → nr (ln (j - 1)) (ln j))) (l0 : 0 ≤ l) (l1 : l ≤ 2) (hl : 0 < i → nr (ln (i - 1)) l) : lnr (updL ln i l) i := fun j hj => by
  unfold updL
  by_cases e : j = i
  · subst e
    rw [if_pos rfl, if_neg (by omega)]
    exact ⟨⟨l0, l1⟩, hl⟩
  · rw [if_neg (by omega), if_neg (by omega)]
    exact h j (by omega)
/-- on to the next station, by the rows -/
theorem hs_next {I : Int → Int → Int} {g bk st B F : Int} {R : Int → Int → Int → Int} {ln : Int → Int} {i : Nat} {l z : Int} (ht : tOK I) (hR : RowE I g bk F R) (hB : ∀ x, LapE I g bk st x → B ≤ x) (hF : B < F) (hi : ((i + 1 : Nat) : Int) < I 3 1) (hn : lnr ln i) (hl : nr (ln i) l) :
    HsE I g bk st B (updL ln ((i + 1 : Nat) : Int) l) (i + 1) z ↔ ∃ p, HsE I g bk st B ln i p ∧ (1 ≤ z ∧ p - bk ≤ z ∧ z ≤ rch (I 38) (I 39) p ∧ z ≤ lmv I g ((i : Int) + 1) l) ∧ tmv (I (5 + ((i : Int) + 1)) 1) (dif (ln i) l) z + R ((i : Int) + 1) l z = R i (ln i) p := by
  have hn' : lnr (updL ln ((i + 1 : Nat) : Int) l) (i + 1) := lnr_up (fun j hj => hn j (by omega)) hl.2.2.1 hl.2.2.2 (fun _ => by rw [show ((i + 1 : Nat) : Int) - 1 = i by omega]; exact hl)
  have u1 : updL ln ((i + 1 : Nat) : Int) l ((i : Int) + 1) = l := if_pos rfl
  have u0 : updL ln ((i + 1 : Nat) : Int) l (i : Int) = ln i := if_neg (by omega)
  have ek : kk I i = kk I ((i + 1 : Nat) : Int) + 1 := by unfold kk; omega
  have pre : ∀ p a, PreE I g bk st (updL ln ((i + 1 : Nat) : Int) l) i p a ↔ PreE I g bk st ln i p a := fun p a => PreE_cg i p a (fun j j0 j1 => if_neg (by omega))
  rw [hs_R ht hR hB hF hi hn']
  rw [show ((i + 1 : Nat) : Int) = (i : Int) + 1 by omega] at *
  rw [u1]
  constructor
  · rintro ⟨a, ⟨p, a', h1, x, w⟩, e⟩
    rw [u1] at x
    rw [u0, u1] at w
    have h1' := (pre p a').mp h1
    have hz : z ≤ 60 := by
      have := lim_rng (I (5 + ((i : Int) + 1)) 0) (I (5 + ((i : Int) + 1)) 2) (I (5 + ((i : Int) + 1)) 3) l g
      have := x.2.2.2
      unfold lmv at this
      omega
    obtain ⟨r1, r2, r3⟩ := hR ((i : Int) + 1) l z (by omega) hi hl.2.2.1 hl.2.2.2 x.1 hz x.2.2.2
    have ha := PreE_0 ht (by omega) h1'
    have htm := (tm_rng ht ((i : Int) + 1) (dif (ln i) l) z (by omega) hi x.1).1
    rcases r1 with r1 | r1
    · omega
    · have hA : AchE I g bk (kk I i) i (ln i) p (tmv (I (5 + ((i : Int) + 1)) 1) (dif (ln i) l) z + R ((i : Int) + 1) l z) := by
        rw [ek]; exact ⟨l, z, _, hl, x, r1, rfl⟩
      exact ⟨p, ⟨a', _, h1', hA, by omega⟩, x, hs_t ht hR hB hF (by omega) hn h1' hA (by omega)⟩
  · rintro ⟨p, hp, x, e⟩
    obtain ⟨a, h1, e2⟩ := (hs_R ht hR hB hF (by omega) hn).mp hp
    refine ⟨_, ⟨p, a, (pre p a).mpr h1, by rw [u1]; exact x, rfl⟩, ?_⟩
    rw [u0, u1]
    omega
/-- the first station -/
theorem hs_first {I : Int → Int → Int} {g bk st B F : Int} {R : Int → Int → Int → Int} {ln : Int → Int} {l z : Int} (ht : tOK I) (hR : RowE I g bk F R) (hB : ∀ x, LapE I g bk st x → B ≤ x) (hF : B < F) (hi : 0 < I 3 1) (l0 : 0 ≤ l) (l1 : l ≤ 2) :
    HsE I g bk st B (updL ln 0 l) 0 z ↔ (1 ≤ z ∧ z ≤ st ∧ z ≤ lmv I g 0 l) ∧ tmv (I 5 1) 0 z + R 0 l z = B := by
  have hn' : lnr (updL ln 0 l) 0 := lnr_up (i := 0) (fun j hj => by omega) l0 l1 (fun h => by omega)
  have u1 : updL ln 0 l 0 = l := if_pos rfl
  rw [hs_R (i := 0) ht hR hB hF hi hn']
  show (∃ a, ((1 ≤ z ∧ z ≤ st ∧ z ≤ lmv I g 0 (updL ln 0 l 0)) ∧ a = tmv (I 5 1) 0 z) ∧ a + R 0 (updL ln 0 l 0) z = B) ↔ _
  rw [u1]
  constructor
  · rintro ⟨a, ⟨x, rfl⟩, e⟩; exact ⟨x, e⟩
  · rintro ⟨x, e⟩; exact ⟨_, ⟨x, rfl⟩, e⟩
/-- there is always a next lane -/
theorem hs_some {I : Int → Int → Int} {g bk st B : Int} {ln : Int → Int} {i : Nat} (hi : ((i + 1 : Nat) : Int) < I 3 1) (h : ∃ p, HsE I g bk st B ln i p) : ∃ l, nr (ln i) l ∧ ∃ z, HsE I g bk st B (updL ln ((i + 1 : Nat) : Int) l) (i + 1) z := by
  obtain ⟨p, a, t, h1, h2, e⟩ := h
  have ek : kk I i = kk I ((i + 1 : Nat) : Int) + 1 := by unfold kk; omega
  rw [ek] at h2
  obtain ⟨l, q, t', h3, h4, h5, h6⟩ := h2
  have h6 : t = tmv (I (5 + ((i : Int) + 1)) 1) (dif (ln i) l) q + t' := h6
  have u1 : updL ln ((i + 1 : Nat) : Int) l ((i : Int) + 1) = l := if_pos rfl
  have u0 : updL ln ((i + 1 : Nat) : Int) l (i : Int) = ln i := if_neg (by omega)
  refine ⟨l, h3, q, a + tmv (I (5 + ((i : Int) + 1)) 1) (dif (ln i) l) q, t', ⟨p, a, (PreE_cg i p a (fun j j0 j1 => (if_neg (by omega)).symm)).mp h1, by rw [u1]; exact h4, by rw [u0, u1]⟩, ?_, by omega⟩
  rw [show updL ln ((i + 1 : Nat) : Int) l ((i + 1 : Nat) : Int) = l from if_pos rfl]
  exact h5
theorem hs_some0 {I : Int → Int → Int} {g bk st B : Int} (ln : Int → Int) (h : LapE I g bk st B) : ∃ l, (0 ≤ l ∧ l ≤ 2) ∧ ∃ z, HsE I g bk st B (updL ln 0 l) 0 z := by
  obtain ⟨l, p, t, a, b, c, d, e⟩ := h
  have u1 : updL ln 0 l 0 = l := if_pos rfl
  exact ⟨l, ⟨a, b⟩, p, _, t, ⟨by rw [u1]; exact c, rfl⟩, by rw [show ((0 : Nat) : Int) = 0 from rfl, u1]; exact d, e.symm⟩

/-- all that the best way's lanes hang on -/
def esame (I J : Int → Int → Int) : Prop := tsame I J
theorem AchE_cg {I J : Int → Int → Int} {g bk : Int} (h : tsame I J) (k : Nat) (i l p t : Int) (i0 : 0 ≤ i) (i1 : i + k < I 3 1) (p0 : 1 ≤ p) (p1 : p ≤ 60) : AchE J g bk k i l p t ↔ AchE I g bk k i l p t := by
  have el : ∀ i l, 0 ≤ i → i < I 3 1 → lmv J g i l = lmv I g i l := fun i l a b => by
    unfold lmv; rw [h.2.1 i 0 a b (by omega) (by omega), h.2.1 i 2 a b (by omega) (by omega), h.2.1 i 3 a b (by omega) (by omega)]
  have e38 : J 38 = I 38 := funext h.2.2.1
  have e39 : J 39 = I 39 := funext h.2.2.2
  unfold AchE
  rw [e38, e39]
  refine (Ach_cg (n := I 3 1) (fun i l a b _ _ => (el i l a b).symm) (fun i l _ _ _ _ => (lim_rng _ _ _ _ _).2) (fun i c q a b _ _ _ => ?_) (fun _ _ _ => rfl) k i l p t i0 i1 p0 p1).symm
  show tmv (I (5 + i) 1) c q = tmv (J (5 + i) 1) c q
  rw [h.2.1 i 1 a b (by omega) (by omega)]
theorem PreE_ts {I J : Int → Int → Int} {g bk st : Int} {ln : Int → Int} (h : tsame I J) : ∀ (i : Nat) (p a : Int), (i : Int) < I 3 1 → (PreE J g bk st ln i p a ↔ PreE I g bk st ln i p a)
  | 0, p, a, hi => by
    have e : lmv J g 0 (ln 0) = lmv I g 0 (ln 0) := by
      unfold lmv; rw [h.2.1 0 0 (by omega) hi (by omega) (by omega), h.2.1 0 2 (by omega) hi (by omega) (by omega), h.2.1 0 3 (by omega) hi (by omega) (by omega)]
    have e5 : J 5 1 = I 5 1 := h.2.1 0 1 (by omega) hi (by omega) (by omega)
    unfold PreE
    rw [e, e5]
  | i + 1, p, a, hi => by
    have ih := fun p a => PreE_ts (g := g) (bk := bk) (st := st) (ln := ln) h i p a (by omega)
    have e : ∀ l, lmv J g ((i : Int) + 1) l = lmv I g ((i : Int) + 1) l := fun l => by
      unfold lmv; rw [h.2.1 _ 0 (by omega) (by omega) (by omega) (by omega), h.2.1 _ 2 (by omega) (by omega) (by omega) (by omega), h.2.1 _ 3 (by omega) (by omega) (by omega) (by omega)]
    have e5 : J (5 + ((i : Int) + 1)) 1 = I (5 + ((i : Int) + 1)) 1 := h.2.1 _ 1 (by omega) (by omega) (by omega) (by omega)
    unfold PreE
    rw [e, e5, show J 38 = I 38 from funext h.2.2.1, show J 39 = I 39 from funext h.2.2.2]
    constructor
    · rintro ⟨p', a', x, y⟩; exact ⟨p', a', (ih p' a').mp x, y⟩
    · rintro ⟨p', a', x, y⟩; exact ⟨p', a', (ih p' a').mpr x, y⟩
theorem HsE_ts {I J : Int → Int → Int} {g bk st B : Int} {ln : Int → Int} (h : tsame I J) (i : Nat) (p : Int) (hi : (i : Int) < I 3 1) : HsE J g bk st B ln i p ↔ HsE I g bk st B ln i p := by
  have ek : kk J i = kk I i := by unfold kk; rw [h.1]
  unfold HsE
  rw [ek]
  constructor
  · rintro ⟨a, t, x, y, z⟩
    have x' := (PreE_ts h i p a hi).mp x
    have hp := PreE_p x
    exact ⟨a, t, x', (AchE_cg h _ i _ p t (by omega) (by unfold kk; omega) hp.1 hp.2).mp y, z⟩
  · rintro ⟨a, t, x, y, z⟩
    have x' := (PreE_ts h i p a hi).mpr x
    have hp := PreE_p x
    exact ⟨a, t, x', (AchE_cg h _ i _ p t (by omega) (by unfold kk; omega) hp.1 hp.2).mpr y, z⟩
theorem LexB_ts {I J : Int → Int → Int} {g bk st B : Int} {ln : Int → Int} (h : tsame I J) (hL : LexB I g bk st B ln) : LexB J g bk st B ln := fun i hi => by
  rw [h.1] at hi
  obtain ⟨a, b, ⟨p, c⟩, d⟩ := hL i hi
  exact ⟨a, b, ⟨p, (HsE_ts h i p hi).mpr c⟩, fun l' l0 l1 l2 ⟨p, q⟩ => d l' l0 l1 l2 ⟨p, (HsE_ts h i p hi).mp q⟩⟩
