/-! races: totals that can be had, stints, THE PLAN -/
def tw (w t k : Int) : Int := if w = 1 ∨ ¬ k = t then 1 else 0
/-- x may be the total of the m laps behind one in which tyre t had done d; w: whether two kinds have been on -/
def Tot (lp : Int → Int → Int) (sp : Int) (mu : Prop) : Nat → Int → Int → Int → Int → Prop
  | 0, _, _, w, x => x = 0 ∧ ¬ (mu ∧ w = 0)
  | m + 1, t, d, w, x => (∃ y, Tot lp sp mu m t (d + 1) w y ∧ x = lp t (d + 1) + y) ∨ ∃ k y, 0 ≤ k ∧ k ≤ 3 ∧ Tot lp sp mu m k 0 (tw w t k) y ∧ x = sp + lp k 0 + y
/-- of m + 1 laps, begun on a new tyre -/
def Fr (lp : Int → Int → Int) (sp : Int) (mu : Prop) (m : Nat) (t w x : Int) : Prop := ∃ y, Tot lp sp mu m t 0 w y ∧ x = lp t 0 + y
/-- of m + 1 laps behind a stop -/
def Af (lp : Int → Int → Int) (sp : Int) (mu : Prop) (m : Nat) (t w x : Int) : Prop := ∃ k, 0 ≤ k ∧ k ≤ 3 ∧ Fr lp sp mu m k (tw w t k) x
/-- of n laps, by a first stint of l -/
def stS (lp : Int → Int → Int) (sp : Int) (mu : Prop) (t w : Int) (l n : Nat) (x : Int) : Prop := (l < n ∧ ∃ y, Af lp sp mu (n - l - 1) t w y ∧ x = sumI (lp t) l + sp + y) ∨ (l = n ∧ x = sumI (lp t) l ∧ ¬ (mu ∧ w = 0))
def Lt (S : Int → Prop) (v : Int) : Prop := S v ∧ ∀ x, S x → v ≤ x
theorem Lt.uniq {S : Int → Prop} {v w : Int} (h : Lt S v) (h' : Lt S w) : v = w := by
  have := h.2 w h'.1; have := h'.2 v h.1; omega
def Go (lp : Int → Int → Int) (sp : Int) (mu : Prop) (m : Nat) (t d w : Int) : Prop := ∃ y, Tot lp sp mu m t (d + 1) w y ∧ Lt (Tot lp sp mu (m + 1) t d w) (lp t (d + 1) + y)
def Sto (lp : Int → Int → Int) (sp : Int) (mu : Prop) (m : Nat) (t d w k : Int) : Prop := ∃ y, Tot lp sp mu m k 0 (tw w t k) y ∧ Lt (Tot lp sp mu (m + 1) t d w) (sp + lp k 0 + y)
/-- the next lap, by THE PLAN; m laps are behind that one -/
def Nx (lp : Int → Int → Int) (sp : Int) (mu : Prop) (m : Nat) (t d w t' d' w' : Int) : Prop := (Go lp sp mu m t d w ∧ t' = t ∧ d' = d + 1 ∧ w' = w) ∨ (¬ Go lp sp mu m t d w ∧ (0 ≤ t' ∧ t' ≤ 3) ∧ Sto lp sp mu m t d w t' ∧ (∀ k, 0 ≤ k → k < t' → ¬ Sto lp sp mu m t d w k) ∧ d' = 0 ∧ w' = tw w t t')
def Fst (lp : Int → Int → Int) (sp : Int) (mu : Prop) (m : Nat) (t x : Int) : Prop := (0 ≤ t ∧ t ≤ 3) ∧ Fr lp sp mu m t 0 x ∧ (∀ k y, 0 ≤ k → k ≤ 3 → Fr lp sp mu m k 0 y → x ≤ y) ∧ ∀ k, 0 ≤ k → k < t → ¬ Fr lp sp mu m k 0 x
def PlanOK (lp : Int → Int → Int) (sp : Int) (mu : Prop) (n : Int) (K D : Int → Int) (x : Int) : Prop := ∃ W : Int → Int, D 0 = 0 ∧ W 0 = 0 ∧ Fst lp sp mu (n - 1).toNat (K 0) x ∧ ∀ j, 0 ≤ j → j + 1 < n → Nx lp sp mu (n - 2 - j).toNat (K j) (D j) (W j) (K (j + 1)) (D (j + 1)) (W (j + 1))
theorem Nx.uniq {lp : Int → Int → Int} {sp : Int} {mu : Prop} {m : Nat} {t d w t1 d1 w1 t2 d2 w2 : Int} (h : Nx lp sp mu m t d w t1 d1 w1) (h' : Nx lp sp mu m t d w t2 d2 w2) : t1 = t2 ∧ d1 = d2 ∧ w1 = w2 := by
  rcases h with ⟨a, b, c, e⟩ | ⟨a, b, c, e, f, g⟩ <;> rcases h' with ⟨a', b', c', e'⟩ | ⟨a', b', c', e', f', g'⟩
  · omega
  · exact (a' a).elim
  · exact (a a').elim
  · have : t1 = t2 := by
      rcases Int.lt_trichotomy t1 t2 with q | q | q
      · exact (e' t1 b.1 q c).elim
      · exact q
      · exact (e t2 b'.1 q c').elim
    subst this
    exact ⟨rfl, by omega, by omega⟩
theorem PlanOK.uniq {lp : Int → Int → Int} {sp : Int} {mu : Prop} {n : Int} {K D K' D' : Int → Int} {x x' : Int} (h : PlanOK lp sp mu n K D x) (h' : PlanOK lp sp mu n K' D' x') : x = x' ∧ ∀ j, 0 ≤ j → j < n → K j = K' j ∧ D j = D' j := by
  obtain ⟨W, a, b, ⟨c0, c1, c2, c3⟩, d⟩ := h
  obtain ⟨W', a', b', ⟨c0', c1', c2', c3'⟩, d'⟩ := h'
  have ex : x = x' := by
    have := c2 _ _ c0'.1 c0'.2 c1'
    have := c2' _ _ c0.1 c0.2 c1
    omega
  subst ex
  have e0 : K 0 = K' 0 := by
    rcases Int.lt_trichotomy (K 0) (K' 0) with q | q | q
    · exact (c3' _ c0.1 q c1).elim
    · exact q
    · exact (c3 _ c0'.1 q c1').elim
  have : ∀ m : Nat, (m : Int) < n → K m = K' m ∧ D m = D' m ∧ W m = W' m := fun m => by
    induction m with
    | zero => exact fun _ => ⟨e0, a.trans a'.symm, b.trans b'.symm⟩
    | succ m ih =>
      intro hm
      obtain ⟨i1, i2, i3⟩ := ih (by omega)
      have q := d m (by omega) (by omega)
      have q' := d' m (by omega) (by omega)
      rw [← i1, ← i2, ← i3] at q'
      have := q.uniq q'
      rw [show ((m + 1 : Nat) : Int) = (m : Int) + 1 by omega]
      exact this
  refine ⟨rfl, fun j j0 j1 => ?_⟩
  have := this j.toNat (by omega)
  rw [Int.toNat_of_nonneg j0] at this
  exact ⟨this.1, this.2.1⟩
/-- what runs on before, with what comes -/
theorem Tot_pre {lp : Int → Int → Int} {sp : Int} {mu : Prop} {t w : Int} : ∀ (d m : Nat) (x : Int), Tot lp sp mu m t d w x → Fr lp sp mu (m + d) t w (sumI (lp t) (d + 1) + x)
  | 0, m, x, h => ⟨x, h, by show 0 + lp t 0 + x = _; omega⟩
  | d + 1, m, x, h => by
    have := Tot_pre d (m + 1) (lp t (d + 1) + x) (.inl ⟨x, by rw [show ((d + 1 : Nat) : Int) = (d : Int) + 1 by omega] at h; exact h, rfl⟩)
    rw [show m + 1 + d = m + (d + 1) by omega] at this
    rw [sumI_s _ (d + 1), show ((d + 1 : Nat) : Int) = (d : Int) + 1 by omega, show sumI (lp t) (d + 1) + lp t (↑d + 1) + x = sumI (lp t) (d + 1) + (lp t (↑d + 1) + x) by omega]
    exact this
theorem stS_Tot {lp : Int → Int → Int} {sp : Int} {mu : Prop} {t w x : Int} {n : Nat} : ∀ (e d l : Nat), l = d + 1 + e → l ≤ n → stS lp sp mu t w l n x → Tot lp sp mu (n - 1 - d) t d w (x - sumI (lp t) (d + 1))
  | 0, d, l, hl, hn, h => by
    subst hl
    rcases h with ⟨a, y, ⟨k, k0, k1, z, z1, z2⟩, c⟩ | ⟨a, b, c⟩
    · rw [show n - 1 - d = (n - (d + 1 + 0) - 1) + 1 by omega]
      refine .inr ⟨k, z, k0, k1, z1, ?_⟩
      have e : sumI (lp t) (d + 1 + 0) = sumI (lp t) (d + 1) := rfl
      omega
    · rw [show n - 1 - d = 0 by omega]
      have e : sumI (lp t) (d + 1 + 0) = sumI (lp t) (d + 1) := rfl
      exact ⟨by omega, c⟩
  | e + 1, d, l, hl, hn, h => by
    have := stS_Tot e (d + 1) l (by omega) hn h
    rw [show n - 1 - d = (n - 1 - (d + 1)) + 1 by omega]
    refine .inl ⟨_, this, ?_⟩
    rw [sumI_s _ (d + 1), show ((d + 1 : Nat) : Int) = (d : Int) + 1 by omega]
    omega
theorem Tot_stS {lp : Int → Int → Int} {sp : Int} {mu : Prop} {t w : Int} {n : Nat} : ∀ (m d : Nat) (x : Int), m + d + 1 = n → Tot lp sp mu m t d w x → ∃ l, d + 1 ≤ l ∧ l ≤ n ∧ stS lp sp mu t w l n (sumI (lp t) (d + 1) + x)
  | 0, d, x, hn, h => ⟨d + 1, Nat.le_refl _, by omega, .inr ⟨by omega, by have := h.1; omega, h.2⟩⟩
  | m + 1, d, x, hn, h => by
    rcases h with ⟨y, a, b⟩ | ⟨k, y, k0, k1, a, b⟩
    · obtain ⟨l, l0, l1, l2⟩ := Tot_stS (n := n) m (d + 1) y (by omega) (by rw [show ((d + 1 : Nat) : Int) = (d : Int) + 1 by omega]; exact a)
      rw [sumI_s _ (d + 1), show ((d + 1 : Nat) : Int) = (d : Int) + 1 by omega] at l2
      exact ⟨l, by omega, l1, by rw [b, show sumI (lp t) (d + 1) + (lp t (↑d + 1) + y) = sumI (lp t) (d + 1) + lp t (↑d + 1) + y by omega]; exact l2⟩
    · refine ⟨d + 1, Nat.le_refl _, by omega, .inl ⟨by omega, lp k 0 + y, ⟨k, k0, k1, y, by rw [show n - (d + 1) - 1 = m by omega]; exact a, rfl⟩, by omega⟩⟩
theorem Fr_stS {lp : Int → Int → Int} {sp : Int} {mu : Prop} {t w x : Int} {n : Nat} (hn : 1 ≤ n) : Fr lp sp mu (n - 1) t w x ↔ ∃ l, 1 ≤ l ∧ l ≤ n ∧ stS lp sp mu t w l n x := by
  constructor
  · rintro ⟨y, a, b⟩
    obtain ⟨l, l0, l1, l2⟩ := Tot_stS (n - 1) 0 y (n := n) (by omega) a
    refine ⟨l, l0, l1, ?_⟩
    have e : sumI (lp t) (0 + 1) = 0 + lp t 0 := rfl
    rwa [b, ← show sumI (lp t) (0 + 1) + y = lp t 0 + y by omega]
  · rintro ⟨l, l0, l1, l2⟩
    have := stS_Tot (l - 1) 0 l (by omega) l1 l2
    rw [show n - 1 - 0 = n - 1 by omega] at this
    have e : sumI (lp t) (0 + 1) = 0 + lp t 0 := rfl
    exact ⟨_, this, by omega⟩
/-- along a stint of the least total -/
theorem stS_V {lp : Int → Int → Int} {sp : Int} {mu : Prop} {t w f : Int} {n l d : Nat} (hl : l ≤ n) (hd : d < l) (hf : Lt (Fr lp sp mu (n - 1) t w) f) (h : stS lp sp mu t w l n f) : Lt (Tot lp sp mu (n - 1 - d) t d w) (f - sumI (lp t) (d + 1)) := by
  refine ⟨stS_Tot (l - 1 - d) d l (by omega) hl h, fun x hx => ?_⟩
  have := Tot_pre d (n - 1 - d) x hx
  rw [show n - 1 - d + d = n - 1 by omega] at this
  have := hf.2 _ this
  omega
theorem stS_go {lp : Int → Int → Int} {sp : Int} {mu : Prop} {t w f : Int} {n l d : Nat} (hl : l ≤ n) (hd : d + 1 < l) (hf : Lt (Fr lp sp mu (n - 1) t w) f) (h : stS lp sp mu t w l n f) : Go lp sp mu (n - 2 - d) t d w := by
  have a := stS_V hl (show d < l by omega) hf h
  have b := stS_V hl hd hf h
  rw [show n - 1 - d = n - 2 - d + 1 by omega] at a
  rw [show n - 1 - (d + 1) = n - 2 - d by omega, show ((d + 1 : Nat) : Int) = (d : Int) + 1 by omega, sumI_s _ (d + 1), show ((d + 1 : Nat) : Int) = (d : Int) + 1 by omega] at b
  refine ⟨_, b.1, ?_⟩
  rwa [show lp t (↑d + 1) + (f - (sumI (lp t) (d + 1) + lp t (↑d + 1))) = f - sumI (lp t) (d + 1) by omega]
theorem stS_stop {lp : Int → Int → Int} {sp : Int} {mu : Prop} {t w f : Int} {n l : Nat} (hl : l < n) (h1 : 1 ≤ l) (hf : Lt (Fr lp sp mu (n - 1) t w) f) (h : stS lp sp mu t w l n f) (hm : ∀ l', l < l' → l' ≤ n → ¬ stS lp sp mu t w l' n f) : ¬ Go lp sp mu (n - 1 - l) t ((l : Int) - 1) w := by
  rintro ⟨y, a, b⟩
  have v := stS_V (d := l - 1) (by omega) (by omega) hf h
  rw [show n - 1 - (l - 1) = n - 1 - l + 1 by omega, show ((l - 1 : Nat) : Int) = (l : Int) - 1 by omega, show l - 1 + 1 = l by omega] at v
  have e := v.uniq b
  rw [show (l : Int) - 1 + 1 = l by omega] at a e
  obtain ⟨l', l0, l1, l2⟩ := Tot_stS (n := n) (n - 1 - l) l y (by omega) a
  rw [sumI_s _ l, show sumI (lp t) l + lp t l + y = f by omega] at l2
  exact hm l' (by omega) l1 l2
theorem stS_nx {lp : Int → Int → Int} {sp : Int} {mu : Prop} {t w f a k : Int} {n l : Nat} (hl : l < n) (h1 : 1 ≤ l) (hf : Lt (Fr lp sp mu (n - 1) t w) f) (h : stS lp sp mu t w l n f) (ha : Lt (Af lp sp mu (n - l - 1) t w) a) (k0 : 0 ≤ k) (k1 : k ≤ 3) : Sto lp sp mu (n - 1 - l) t ((l : Int) - 1) w k ↔ Fr lp sp mu (n - l - 1) k (tw w t k) a := by
  have v := stS_V (d := l - 1) (by omega) (by omega) hf h
  rw [show n - 1 - (l - 1) = n - 1 - l + 1 by omega, show ((l - 1 : Nat) : Int) = (l : Int) - 1 by omega, show l - 1 + 1 = l by omega] at v
  have ef : f = sumI (lp t) l + sp + a := by
    rcases h with ⟨_, y, b, c⟩ | ⟨b, _⟩
    · have := ha.2 y b
      have := hf.2 (sumI (lp t) l + sp + a) ((Fr_stS (by omega)).mpr ⟨l, h1, by omega, .inl ⟨hl, a, ha.1, rfl⟩⟩)
      omega
    · omega
  rw [show n - 1 - l = n - l - 1 by omega] at *
  constructor
  · rintro ⟨y, b, c⟩
    have := v.uniq c
    exact ⟨y, b, by omega⟩
  · rintro ⟨y, b, c⟩
    refine ⟨y, b, ?_⟩
    rwa [show sp + lp k 0 + y = f - sumI (lp t) l by omega]
/-- ranges, and that there is always a total -/
theorem Tot_rng {lp : Int → Int → Int} {sp : Int} {mu : Prop} (hsp : 0 ≤ sp ∧ sp ≤ 100000) (hlp : ∀ t d, 0 ≤ t → t ≤ 3 → 0 ≤ d → d ≤ 39 → 0 ≤ lp t d ∧ lp t d ≤ 3030000) : ∀ (m : Nat) (t d w x : Int), 0 ≤ t → t ≤ 3 → 0 ≤ d → d + m ≤ 39 → Tot lp sp mu m t d w x → 0 ≤ x ∧ x ≤ m * 3130000
  | 0, t, d, w, x, t0, t1, d0, d1, h => by have := h.1; omega
  | m + 1, t, d, w, x, t0, t1, d0, d1, h => by
    rcases h with ⟨y, a, b⟩ | ⟨k, y, k0, k1, a, b⟩
    · have := Tot_rng hsp hlp m t (d + 1) w y t0 t1 (by omega) (by omega) a
      have := hlp t (d + 1) t0 t1 (by omega) (by omega)
      omega
    · have := Tot_rng hsp hlp m k 0 (tw w t k) y k0 k1 (by omega) (by omega) a
      have := hlp k 0 k0 k1 (by omega) (by omega)
      omega
theorem Tot_ex1 {lp : Int → Int → Int} {sp : Int} {mu : Prop} {t w : Int} (hw : ¬ (mu ∧ w = 0)) : ∀ (m : Nat) (d : Int), ∃ x, Tot lp sp mu m t d w x
  | 0, d => ⟨0, rfl, hw⟩
  | m + 1, d => by
    obtain ⟨y, a⟩ := Tot_ex1 hw m (d + 1)
    exact ⟨_, .inl ⟨y, a, rfl⟩⟩
theorem Af_ex {lp : Int → Int → Int} {sp : Int} {mu : Prop} (m : Nat) (t w : Int) : ∃ x, Af lp sp mu m t w x := by
  have hk : ∃ k, 0 ≤ k ∧ k ≤ 3 ∧ tw w t k = 1 := by
    by_cases e : t = 0
    · exact ⟨1, by omega, by omega, if_pos (.inr (by omega))⟩
    · exact ⟨0, by omega, by omega, if_pos (.inr (by omega))⟩
  obtain ⟨k, k0, k1, e⟩ := hk
  obtain ⟨y, a⟩ := Tot_ex1 (lp := lp) (sp := sp) (mu := mu) (t := k) (w := 1) (by omega) m 0
  exact ⟨_, k, k0, k1, y, by rw [e]; exact a, rfl⟩
theorem Fr_ex {lp : Int → Int → Int} {sp : Int} {mu : Prop} {m : Nat} {t w : Int} (h : ¬ mu ∨ w = 1 ∨ 0 < m) : ∃ x, Fr lp sp mu m t w x := by
  rcases m with _ | m
  · exact ⟨_, 0, ⟨rfl, by rintro ⟨a, b⟩; rcases h with h | h | h; exact h a; omega; omega⟩, rfl⟩
  · obtain ⟨x, k, k0, k1, y, a, b⟩ := Af_ex (lp := lp) (sp := sp) (mu := mu) m t w
    exact ⟨_, _, .inr ⟨k, y, k0, k1, a, rfl⟩, rfl⟩
theorem Fr_rng {lp : Int → Int → Int} {sp : Int} {mu : Prop} (hsp : 0 ≤ sp ∧ sp ≤ 100000) (hlp : ∀ t d, 0 ≤ t → t ≤ 3 → 0 ≤ d → d ≤ 39 → 0 ≤ lp t d ∧ lp t d ≤ 3030000) {m : Nat} {t w x : Int} (hm : m ≤ 39) (t0 : 0 ≤ t) (t1 : t ≤ 3) (h : Fr lp sp mu m t w x) : 0 ≤ x ∧ x ≤ (m + 1) * 3130000 := by
  obtain ⟨y, a, b⟩ := h
  have := Tot_rng hsp hlp m t 0 w y t0 t1 (by omega) (by omega) a
  have := hlp t 0 t0 t1 (by omega) (by omega)
  omega
theorem Af_rng {lp : Int → Int → Int} {sp : Int} {mu : Prop} (hsp : 0 ≤ sp ∧ sp ≤ 100000) (hlp : ∀ t d, 0 ≤ t → t ≤ 3 → 0 ≤ d → d ≤ 39 → 0 ≤ lp t d ∧ lp t d ≤ 3030000) {m : Nat} {t w x : Int} (hm : m ≤ 39) (h : Af lp sp mu m t w x) : 0 ≤ x ∧ x ≤ (m + 1) * 3130000 := by
  obtain ⟨k, k0, k1, a⟩ := h
  exact Fr_rng hsp hlp hm k0 k1 a
theorem Lst.lt {S : Int → Prop} {F v : Int} (h : Lst S F v) (hx : ∃ x, S x ∧ x < F) : Lt S v := by
  obtain ⟨x, a, b⟩ := hx
  have := h.2.2 x a
  rcases h.1 with c | c
  · omega
  · exact ⟨c, h.2.2⟩
theorem least_ex {S : Int → Prop} (h0 : ∀ x, S x → 0 ≤ x) : ∀ (n : Nat) (x : Int), x.toNat ≤ n → S x → ∃ v, Lt S v
  | 0, x, hn, h => ⟨x, h, fun y hy => by have := h0 y hy; have := h0 x h; omega⟩
  | n + 1, x, hn, h => by
    by_cases q : ∃ y, S y ∧ y < x
    · obtain ⟨y, a, b⟩ := q
      exact least_ex h0 n y (by have := h0 y a; omega) a
    · exact ⟨x, h, fun y hy => by
        by_cases z : x ≤ y
        · exact z
        · exact (q ⟨y, hy, by omega⟩).elim⟩
