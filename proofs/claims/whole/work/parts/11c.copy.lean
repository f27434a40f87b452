/-! System.arraycopy over rows of ints and bytes -/
def pN (st : List MV) (f : Prop) : Prop := match st with
  | [] => f
  | _ => False
theorem pN_iff {st : List MV} {f : Prop} : pN st f ↔ st = [] ∧ f := by
  cases st with
  | nil => exact ⟨fun h => ⟨rfl, h⟩, fun h => h.2⟩
  | cons a l => exact ⟨fun h => h.elim, fun h => by cases h.1⟩
def cpyI (I : Int → Int → Int) (a sp d dp n : Int) : Int → Int → Int := fun b j => if b = d ∧ dp ≤ j ∧ j < dp + n then I a (sp + (j - dp)) else I b j
def spCopy (As : List MV) (σ : MS) (K : Option MV → MS → Prop) : Prop := pR As fun a r => pI r fun sp r => pR r fun d r => pI r fun dp r => pI r fun n r => pN r
  (((G a).1 = 10 ∧ (G d).1 = 10 ∨ (G a).1 = 12 ∧ (G d).1 = 12 ∧ ∀ i, 0 ≤ i → i < n → -128 ≤ σ.2.2.1 a (sp + i) ∧ σ.2.2.1 a (sp + i) ≤ 127) ∧ 0 ≤ sp ∧ 0 ≤ dp ∧ 0 ≤ n ∧ sp + n ≤ (G a).2 ∧ dp + n ≤ (G d).2 ∧ K none (σ.1, σ.2.1, cpyI σ.2.2.1 a sp d dp n, σ.2.2.2))
def ciCopy : CI := (5, 10, 0, 0, spCopy)
set_option maxHeartbeats 1000000 in
theorem cal_copy {own : String} {x : Nat} {R : Room} (hws : ∀ w ∈ ([.methodLink own x arraycopyName, .native arraycopyName, .static arraycopyName, .initialized "java/lang/System"] : List Cond), w ∈ WS) (hR : 1 ≤ R.frames ∧ 26 ≤ R.locals) : CalOK own R x ciCopy := by
  intro p l e s m args below meth c Q D dA A H0 b0 nL bytes0 ini S hsf pc hdec ls As rest σ k j K hlen hrcv hcs hmc hms hsp hkk ad H locs rl hext hR' hl hst
  obtain ⟨hx, hb, hml, hown, hts, hK, hA, hini, hao, hscr⟩ := hsf
  obtain ⟨a, r, rfl, hsp⟩ := pR_iff.mp hsp
  obtain ⟨sp, r, rfl, hsp⟩ := pI_iff.mp hsp
  obtain ⟨d, r, rfl, hsp⟩ := pR_iff.mp hsp
  obtain ⟨dp, r, rfl, hsp⟩ := pI_iff.mp hsp
  obtain ⟨n, r, rfl, hsp⟩ := pI_iff.mp hsp
  obtain ⟨rfl, hg, g1, g2, g3, g4, g5, hKK⟩ := pN_iff.mp hsp
  have hma : mok σ.1 (.inr (.inr (some a))) := hst _ (by simp)
  have hmd : mok σ.1 (.inr (.inr (some d))) := hst _ (by simp)
  have hmR : ∀ v ∈ rest, mok σ.1 v := fun v hv => hst v (List.mem_append_right _ hv)
  have s1 := G_small a
  have s2 := G_small d
  have r1 : RI sp := by unfold RI; omega
  have r2 : RI dp := by unfold RI; omega
  have r3 : RI n := by unfold RI; omega
  obtain ⟨t, ht, ga, gd, hfit⟩ : ∃ t, (t = 10 ∨ t = 12) ∧ (G a).1 = t ∧ (G d).1 = t ∧ ∀ i : Nat, i < n.toNat → fits (aty t) (.int (Int32.ofInt (σ.2.2.1 a ((sp.toNat + i : Nat) : Int)))) = true := by
    rcases hg with ⟨q1, q2⟩ | ⟨q1, q2, q3⟩
    · exact ⟨10, .inl rfl, q1, q2, fun i hi => rfl⟩
    · refine ⟨12, .inr rfl, q1, q2, fun i hi => ?_⟩
      have := q3 i (by omega) (by omega)
      rw [show ((sp.toNat + i : Nat) : Int) = sp + i by omega, ← I_byte this.1 this.2]
      exact pk_fb _
  obtain ⟨a0, a1⟩ := mok_pos hma ga (by omega)
  obtain ⟨d0, d1⟩ := mok_pos hmd gd (by omega)
  have hea := mcells_at (dA := dA) (ad := ad) a0 a1
  rw [cE_arr ga (by omega), mar_int (by omega)] at hea
  have hed := mcells_at (dA := dA) (ad := ad) d0 d1
  rw [cE_arr gd (by omega), mar_int (by omega)] at hed
  have hiv : ivk ciCopy.2.1 x = .invokestatic x := rfl
  rw [hiv] at hdec
  have c1 := I_clamp r1
  have c2 := I_clamp r2
  have c3 := I_clamp r3
  refine va_copyi (ty := aty t) hx hb (hml.trans hl.1.symm) hown (hts _ (hws _ (by simp))) (hts _ (hws _ (by simp))) (hts _ (hws _ (by simp))) (hts _ (hws _ (by simp))) hK hR'.1 hR'.2.1 hR'.2.2.1 _ _ _ _ hea hed (TY_at (t := t) (by omega) (by omega)) (TY_at (t := t) (by omega) (by omega)) (by rcases ht with rfl | rfl <;> rfl)
    (fun q => by have := (I_lt r1 RI_0).mp q; omega) (fun q => by have := (I_lt r2 RI_0).mp q; omega) (fun q => by have := (I_lt r3 RI_0).mp q; omega) (by rw [c1, c3]; omega) (by rw [c2, c3]; omega) (fun i hi => by rw [c3] at hi; rw [c1]; exact hfit i hi) hR.1 (by
      show ((rest.map (mtr ad)).map fun v => v.category).sum + 18 ≤ R.locals
      rw [mcs_cat]; have := hR.2; omega) hdec (fun H1 locs1 P1 D1 S1 => ?_)
  have hN : ∀ b : Int, b ≠ d → cE dA ad ((σ.1, σ.2.1, cpyI σ.2.2.1 a sp d dp n, σ.2.2.2) : MS) b = cE dA ad σ b := fun b hb => by
    refine cE_congr (funext fun q => ?_) rfl (fun _ => rfl)
    show (if b = d ∧ _ then _ else _) = _
    rw [if_neg (fun z => hb z.1)]
  refine hkk _ _ hKK ad H1 locs1 rl hext (HR.set (σ' := ((σ.1, σ.2.1, cpyI σ.2.2.1 a sp d dp n, σ.2.2.2) : MS)) hR' d0 d1 rfl hR'.2.2.2 ?_ (fun b hb _ _ => hN b hb) P1 D1 S1) hl hmR
  rw [cE_arr gd (by omega), mar_int (by omega), c1, c2, c3]
  refine congrArg (fun f => (Sum.inl (dA t, (G d).2, .inl f) : va_E)) (funext fun q => ?_)
  show Int32.ofInt (if d = d ∧ dp ≤ q ∧ (q : Int) < dp + n then _ else _) = if dp.toNat ≤ q ∧ q < dp.toNat + n.toNat then _ else _
  by_cases h : dp.toNat ≤ q ∧ q < dp.toNat + n.toNat
  · rw [if_pos h, if_pos ⟨rfl, by omega, by omega⟩]
    exact congrArg Int32.ofInt (congrArg (σ.2.2.1 a) (by omega))
  · rw [if_neg h, if_neg (fun z => h (by omega))]
