/-! LapBoardModel.findPlan, race, plan, stops -/
theorem row_iff {S S' : Int → Prop} {c F u v : Int} (hs : Lst S F u) (hv : Lt S' v) (hF : v < F) (hc : 0 ≤ c) (hsub : ∀ y, S y → S' (c + y)) : (∃ y, S y ∧ Lt S' (c + y)) ↔ c + u = v := by
  constructor
  · rintro ⟨y, a, b⟩
    have e := b.uniq hv
    have h1 := hs.2.2 y a
    rcases hs.1 with q | q
    · omega
    · have := hv.2 _ (hsub u q)
      omega
  · intro e
    rcases hs.1 with q | q
    · omega
    · exact ⟨u, q, by rw [e]; exact hv⟩
theorem row_lt {S S' : Int → Prop} {c F u v : Int} (hs : Lst S F u) (hv : Lt S' v) (hF : v < F) (hc : 0 ≤ c) (e : c + u = v) : Lt S u := by
  rcases hs.1 with q | q
  · omega
  · exact ⟨q, hs.2.2⟩
theorem nxt {I L : Int → Int → Int} {mu : Prop} {n j t d w v : Int} (hlp : ∀ t d, 0 ≤ lpf (VM I) t d) (hsp : 0 ≤ I 240 5) (hj : j + 1 < n) (j0 : 0 ≤ j) (t0 : 0 ≤ t) (t1 : t ≤ 3) (d0 : 0 ≤ d) (d1 : d ≤ j) (hw : w = 0 ∨ w = 1) (hr : rowL (lpf (VM I)) (I 240 5) mu n L (j + 1)) (hv : Lt (Tot (lpf (VM I)) (I 240 5) mu (n - 1 - j).toNat t d w) v) (hF : v < 1000000000000) :
    (∃ nx, -1 ≤ nx ∧ nx ≤ 3 ∧ behV I L j t d w nx = v) ∧ ∀ nx, -1 ≤ nx → nx ≤ 3 → behV I L j t d w nx = v → (∀ k, -1 ≤ k → k < nx → behV I L j t d w k ≠ v) → ∀ t' d' w', (nx < 0 → t' = t ∧ d' = d + 1 ∧ w' = w) → (0 ≤ nx → t' = nx ∧ d' = 0 ∧ w' = tw w t nx) → Nx (lpf (VM I)) (I 240 5) mu (n - 2 - j).toNat t d w t' d' w' ∧ Lt (Tot (lpf (VM I)) (I 240 5) mu (n - 2 - j).toNat t' d' w') (L 260 (spt (j + 1) t' d' w')) := by
  rw [show (n - 1 - j).toNat = (n - 2 - j).toNat + 1 by omega] at hv
  have r1 : Lst (Tot (lpf (VM I)) (I 240 5) mu (n - 2 - j).toNat t (d + 1) w) 1000000000000 (L 260 (spt (j + 1) t (d + 1) w)) := by
    have := (hr t (d + 1) w t0 t1 (by omega) (by omega) hw).2
    rwa [show (n - 1 - (j + 1)).toNat = (n - 2 - j).toNat by omega] at this
  have r2 : ∀ k, 0 ≤ k → k ≤ 3 → Lst (Tot (lpf (VM I)) (I 240 5) mu (n - 2 - j).toNat k 0 (tw w t k)) 1000000000000 (L 260 (spt (j + 1) k 0 (tw w t k))) := fun k k0 k1 => by
    have := (hr k 0 (tw w t k) k0 k1 (by omega) (by omega) (tw_01 _ _ _)).2
    rwa [show (n - 1 - (j + 1)).toNat = (n - 2 - j).toNat by omega] at this
  have b1 : ∀ k, k < 0 → behV I L j t d w k = lpf (VM I) t (d + 1) + L 260 (spt (j + 1) t (d + 1) w) := fun k z => by unfold behV; rw [if_pos z]
  have b2 : ∀ k, 0 ≤ k → behV I L j t d w k = I 240 5 + lpf (VM I) k 0 + L 260 (spt (j + 1) k 0 (tw w t k)) := fun k z => by unfold behV; rw [if_neg (by omega)]
  have hG : Go (lpf (VM I)) (I 240 5) mu (n - 2 - j).toNat t d w ↔ lpf (VM I) t (d + 1) + L 260 (spt (j + 1) t (d + 1) w) = v := row_iff r1 hv hF (hlp _ _) (fun y hy => .inl ⟨y, hy, rfl⟩)
  have hS : ∀ k, 0 ≤ k → k ≤ 3 → (Sto (lpf (VM I)) (I 240 5) mu (n - 2 - j).toNat t d w k ↔ I 240 5 + lpf (VM I) k 0 + L 260 (spt (j + 1) k 0 (tw w t k)) = v) := fun k k0 k1 => row_iff (r2 k k0 k1) hv hF (by have := hlp k 0; omega) (fun y hy => .inr ⟨k, y, k0, k1, hy, rfl⟩)
  constructor
  · rcases hv.1 with ⟨y, a, b⟩ | ⟨k, y, k0, k1, a, b⟩
    · exact ⟨-1, by omega, by omega, by rw [b1 _ (by omega)]; exact hG.mp ⟨y, a, by rw [← b]; exact hv⟩⟩
    · exact ⟨k, by omega, by omega, by rw [b2 _ k0]; exact (hS k k0 k1).mp ⟨y, a, by rw [← b]; exact hv⟩⟩
  · intro nx x0 x1 e hm t' d' w' q1 q2
    by_cases z : nx < 0
    · obtain ⟨rfl, rfl, rfl⟩ := q1 z
      rw [b1 _ z] at e
      exact ⟨.inl ⟨hG.mpr e, rfl, rfl, rfl⟩, row_lt r1 hv hF (hlp _ _) e⟩
    · obtain ⟨rfl, rfl, rfl⟩ := q2 (by omega)
      have hn : 0 ≤ t' := by omega
      rw [b2 _ hn] at e
      refine ⟨.inr ⟨fun g => ?_, ⟨hn, x1⟩, (hS _ hn x1).mpr e, fun k k0 k1 g => ?_, rfl, rfl⟩, row_lt (r2 _ hn x1) hv hF (by have := hlp t' 0; omega) e⟩
      · have := hm (-1) (by omega) (by omega)
        rw [b1 _ (by omega)] at this
        exact this (hG.mp g)
      · have := hm k (by omega) k1
        rw [b2 _ k0] at this
        exact this ((hS k k0 (by omega)).mp g)
def frPl (I J : Int → Int → Int) : Prop := ∀ b k, b ≠ 248 → b ≠ 253 → b ≠ 254 → b ≠ 261 → b ≠ 262 → b ≠ 263 → J b k = I b k
theorem frPl.W {I J : Int → Int → Int} (h : frPl I J) : frW I J := fun b k b0 b1 b2 b3 => h b k (by omega) (by omega) (by omega) (by omega) (by omega) (by omega)
theorem frK.P {I J : Int → Int → Int} (h : frK I J) : frPl I J := fun b k b0 b1 b2 _ _ _ => h b k b0 b1 b2
theorem frPl.tr {I J M : Int → Int → Int} (h : frPl I J) (h' : frPl J M) : frPl I M := fun b k a b' c d e f => (h' b k a b' c d e f).trans (h b k a b' c d e f)
theorem behV_P {I L J M : Int → Int → Int} (h1 : frPl I J) (h2 : frKL L M) (l t d w n : Int) : behV J M l t d w n = behV I L l t d w n := by
  unfold behV
  rw [h1.W.V, h1 240 5 (by omega) (by omega) (by omega) (by omega) (by omega) (by omega), h2 260 _ (by omega) (by omega), h2 260 _ (by omega) (by omega)]
theorem behV_rng {I L : Int → Int → Int} {mu : Prop} {n l t d w x : Int} (c5 : ∀ t d, 0 ≤ lpf (VM I) t d ∧ lpf (VM I) t d ≤ 3030000) (c6 : 0 ≤ I 240 5 ∧ I 240 5 ≤ 100000) (hr : rowL (lpf (VM I)) (I 240 5) mu n L (l + 1)) (t0 : 0 ≤ t) (t1 : t ≤ 3) (d0 : 0 ≤ d) (d1 : d ≤ l) (hw : w = 0 ∨ w = 1) (x1 : x ≤ 3) : 0 ≤ behV I L l t d w x ∧ behV I L l t d w x ≤ 1000010000000 := by
  unfold behV
  have a1 := c5 t (d + 1)
  have a2 := c5 x 0
  by_cases z : x < 0
  · rw [if_pos z]
    have := (hr t (d + 1) w t0 t1 (by omega) (by omega) hw).1
    omega
  · rw [if_neg z]
    have := (hr x 0 (tw w t x) (by omega) (by omega) (by omega) (by omega) (tw_01 _ _ _)).1
    omega
def spX9_findPlan (As : List MV) (σ : MS) (K : Option MV → MS → Prop) : Prop := pR As fun a r => pI r fun n r => pN r (a = 240 ∧ σ.2.1 = PF ∧ mOK σ.2.2.1 σ.2.2.2 ∧ 1 ≤ n ∧ n ≤ 40 ∧ ∀ (I' L' : Int → Int → Int) (x : Int), frPl σ.2.2.1 I' → frWL σ.2.2.2 L' → mOK I' L' → PlanOK (lpf (VM σ.2.2.1)) (σ.2.2.1 240 5) (mus (VM σ.2.2.1) n) n (I' 261) (I' 262) x → (∀ j, 0 ≤ j → j < n → I' 263 j = if 0 < j ∧ I' 262 j = 0 then 1 else 0) → K (some (.inr (.inl x))) (σ.1, σ.2.1, I', L'))
def ciX9_findPlan : CI := (2, 9, 0, 0, spX9_findPlan)
def kX9_findPlan (pc : Nat) : List ME := match pc with
  | 0 => [(.aload_n 0, 1, []), (.iload_n 1, 1, []), (.invokevirtual 229, 3, []), (.iconst 0, 1, []), (.istore_n 2, 1, []), (.iconst 1, 1, []), (.istore_n 3, 1, [])]
  | 9 => [(.iload_n 3, 1, []), (.iconst 4, 1, []), (.if_icmp .ge 55, 3, [66]), (.aload_n 0, 1, []), (.iload_n 3, 1, []), (.iconst 0, 1, []), (.invokevirtual 217, 3, []), (.aload_n 0, 1, []), (.getfield 92, 3, []), (.aload_n 0, 1, []), (.iconst 0, 1, []), (.iload_n 3, 1, []), (.iconst 0, 1, []), (.iconst 0, 1, []), (.invokevirtual 221, 3, []), (.laload, 1, []), (.ladd, 1, []), (.aload_n 0, 1, []), (.iload_n 2, 1, []), (.iconst 0, 1, []), (.invokevirtual 217, 3, []), (.aload_n 0, 1, []), (.getfield 92, 3, []), (.aload_n 0, 1, []), (.iconst 0, 1, []), (.iload_n 2, 1, []), (.iconst 0, 1, []), (.iconst 0, 1, []), (.invokevirtual 221, 3, []), (.laload, 1, []), (.ladd, 1, []), (.lcmp, 1, []), (.ifCond .ge 5, 3, [60]), (.iload_n 3, 1, []), (.istore_n 2, 1, [])]
  | 60 => [(.iinc 3 1, 3, []), (.goto (-54), 3, [9])]
  | 66 => [(.aload_n 0, 1, []), (.iload_n 2, 1, []), (.iconst 0, 1, []), (.invokevirtual 217, 3, []), (.aload_n 0, 1, []), (.getfield 92, 3, []), (.aload_n 0, 1, []), (.iconst 0, 1, []), (.iload_n 2, 1, []), (.iconst 0, 1, []), (.iconst 0, 1, []), (.invokevirtual 221, 3, []), (.laload, 1, []), (.ladd, 1, []), (.lstore_n 3, 1, []), (.iconst 0, 1, []), (.istore 5, 2, []), (.iconst 0, 1, []), (.istore 6, 2, []), (.iconst 0, 1, []), (.istore 7, 2, [])]
  | 96 => [(.iload 7, 2, []), (.iload_n 1, 1, []), (.if_icmp .ge 147, 3, [246]), (.aload_n 0, 1, []), (.getfield 95, 3, []), (.iload 7, 2, []), (.iload_n 2, 1, []), (.iastore, 1, []), (.aload_n 0, 1, []), (.getfield 98, 3, []), (.iload 7, 2, []), (.iload 5, 2, []), (.iastore, 1, []), (.aload_n 0, 1, []), (.getfield 101, 3, []), (.iload 7, 2, []), (.iload 7, 2, []), (.ifCond .le 12, 3, [139]), (.iload 5, 2, []), (.ifCond .ne 7, 3, [139]), (.iconst 1, 1, []), (.goto 4, 3, [140])]
  | 139 => [(.iconst 0, 1, [])]
  | 140 => [(.iastore, 1, []), (.iload 7, 2, []), (.iload_n 1, 1, []), (.iconst 1, 1, []), (.isub, 1, []), (.if_icmp .ne 6, 3, [152]), (.goto 91, 3, [240])]
  | 152 => [(.iconst (-1), 1, []), (.istore 8, 2, [])]
  | 155 => [(.aload_n 0, 1, []), (.iload 7, 2, []), (.iload_n 2, 1, []), (.iload 5, 2, []), (.iload 6, 2, []), (.iload 8, 2, []), (.invokevirtual 225, 3, []), (.aload_n 0, 1, []), (.getfield 92, 3, []), (.aload_n 0, 1, []), (.iload 7, 2, []), (.iload_n 2, 1, []), (.iload 5, 2, []), (.iload 6, 2, []), (.invokevirtual 221, 3, []), (.laload, 1, []), (.lcmp, 1, []), (.ifCond .eq 9, 3, [194]), (.iinc 8 1, 3, []), (.goto (-36), 3, [155])]
  | 194 => [(.iload 8, 2, []), (.ifCond .lt 13, 3, [209]), (.iload 8, 2, []), (.iload_n 2, 1, []), (.if_icmp .eq 7, 3, [209]), (.iconst 1, 1, []), (.goto 5, 3, [211])]
  | 209 => [(.iload 6, 2, [])]
  | 211 => [(.istore 6, 2, []), (.iload 8, 2, []), (.ifCond .ge 10, 3, [225]), (.iload 5, 2, []), (.iconst 1, 1, []), (.iadd, 1, []), (.goto 4, 3, [226])]
  | 225 => [(.iconst 0, 1, [])]
  | 226 => [(.istore 5, 2, []), (.iload 8, 2, []), (.ifCond .ge 7, 3, [237]), (.iload_n 2, 1, []), (.goto 5, 3, [239])]
  | 237 => [(.iload 8, 2, [])]
  | 239 => [(.istore_n 2, 1, [])]
  | 240 => [(.iinc 7 1, 3, []), (.goto (-147), 3, [96])]
  | 246 => [(.lload_n 3, 1, []), (.lreturn, 1, [])]
  | _ => []
theorem qX9_findPlan : ∀ pc, chk cX9_findPlan pc (kX9_findPlan pc) = true := by
  intro pc
  unfold kX9_findPlan
  split <;> first | decide +kernel | exact chk_nil
abbrev rmX9_findPlan : Room := { frames := 7, cells := 0, slots := 0, locals := 184 }
def aX9_findPlan (x : Nat) : Option CI := match x with
  | 229 => some ciX9_findRace
  | 217 => some ciX9_lapOn
  | 221 => some ciX9_spot
  | 225 => some ciX9_behind
  | _ => none
theorem aokX9_findPlan : ∀ x ci, aX9_findPlan x = some ci → CalOK RX9 rmX9_findPlan x ci := by
  intro x ci h
  unfold aX9_findPlan at h
  split at h
  · cases h; exact cal_V mX9_findRace (by decide) rfl (List.forall_mem_cons.mpr ⟨(ws_mem (List.mem_of_getElem? (i := 1174) (by decide +kernel)) (by decide +kernel)), List.forall_mem_cons.mpr ⟨(ws_mem (List.mem_of_getElem? (i := 1176) (by decide +kernel)) (by decide +kernel)), List.forall_mem_cons.mpr ⟨(ws_mem (List.mem_of_getElem? (i := 46) (by decide +kernel)) (by decide +kernel)), List.forall_mem_cons.mpr ⟨(ws_mem (List.mem_of_getElem? (i := 64) (by decide +kernel)) (by decide +kernel)), List.forall_mem_cons.mpr ⟨(ws_mem (List.mem_of_getElem? (i := 1177) (by decide +kernel)) (by decide +kernel)), fun _ h => absurd h List.not_mem_nil⟩⟩⟩⟩⟩) rfl (by unfold nice; decide +kernel) (by unfold rfits; decide) ⟨rfl, rfl⟩
  · cases h; exact cal_V mX9_lapOn (by decide) rfl (List.forall_mem_cons.mpr ⟨(ws_mem (List.mem_of_getElem? (i := 1162) (by decide +kernel)) (by decide +kernel)), List.forall_mem_cons.mpr ⟨(ws_mem (List.mem_of_getElem? (i := 1164) (by decide +kernel)) (by decide +kernel)), List.forall_mem_cons.mpr ⟨(ws_mem (List.mem_of_getElem? (i := 44) (by decide +kernel)) (by decide +kernel)), List.forall_mem_cons.mpr ⟨(ws_mem (List.mem_of_getElem? (i := 64) (by decide +kernel)) (by decide +kernel)), List.forall_mem_cons.mpr ⟨(ws_mem (List.mem_of_getElem? (i := 1165) (by decide +kernel)) (by decide +kernel)), fun _ h => absurd h List.not_mem_nil⟩⟩⟩⟩⟩) rfl (by unfold nice; decide +kernel) (by unfold rfits; decide) ⟨rfl, rfl⟩
  · cases h; exact cal_V mX9_spot (by decide) rfl (List.forall_mem_cons.mpr ⟨(ws_mem (List.mem_of_getElem? (i := 1182) (by decide +kernel)) (by decide +kernel)), List.forall_mem_cons.mpr ⟨(ws_mem (List.mem_of_getElem? (i := 1184) (by decide +kernel)) (by decide +kernel)), List.forall_mem_cons.mpr ⟨(ws_mem (List.mem_of_getElem? (i := 48) (by decide +kernel)) (by decide +kernel)), List.forall_mem_cons.mpr ⟨(ws_mem (List.mem_of_getElem? (i := 64) (by decide +kernel)) (by decide +kernel)), List.forall_mem_cons.mpr ⟨(ws_mem (List.mem_of_getElem? (i := 1185) (by decide +kernel)) (by decide +kernel)), fun _ h => absurd h List.not_mem_nil⟩⟩⟩⟩⟩) rfl (by unfold nice; decide +kernel) (by unfold rfits; decide) ⟨rfl, rfl⟩
  · cases h; exact cal_V mX9_behind (by decide) rfl (List.forall_mem_cons.mpr ⟨(ws_mem (List.mem_of_getElem? (i := 1178) (by decide +kernel)) (by decide +kernel)), List.forall_mem_cons.mpr ⟨(ws_mem (List.mem_of_getElem? (i := 1180) (by decide +kernel)) (by decide +kernel)), List.forall_mem_cons.mpr ⟨(ws_mem (List.mem_of_getElem? (i := 47) (by decide +kernel)) (by decide +kernel)), List.forall_mem_cons.mpr ⟨(ws_mem (List.mem_of_getElem? (i := 64) (by decide +kernel)) (by decide +kernel)), List.forall_mem_cons.mpr ⟨(ws_mem (List.mem_of_getElem? (i := 1181) (by decide +kernel)) (by decide +kernel)), fun _ h => absurd h List.not_mem_nil⟩⟩⟩⟩⟩) rfl (by unfold nice; decide +kernel) (by unfold rfits; decide) ⟨rfl, rfl⟩
  · cases h
theorem ocX9_findPlan_229 (f : Nat → Nat → Nat → Nat → (List MV → MS → (Option MV → MS → Prop) → Prop) → Prop) : oC aX9_findPlan 229 f = f 2 9 0 0 spX9_findRace := propext Iff.rfl
theorem ocX9_findPlan_217 (f : Nat → Nat → Nat → Nat → (List MV → MS → (Option MV → MS → Prop) → Prop) → Prop) : oC aX9_findPlan 217 f = f 3 9 0 0 spX9_lapOn := propext Iff.rfl
theorem ocX9_findPlan_221 (f : Nat → Nat → Nat → Nat → (List MV → MS → (Option MV → MS → Prop) → Prop) → Prop) : oC aX9_findPlan 221 f = f 5 9 0 0 spX9_spot := propext Iff.rfl
theorem ocX9_findPlan_225 (f : Nat → Nat → Nat → Nat → (List MV → MS → (Option MV → MS → Prop) → Prop) → Prop) : oC aX9_findPlan 225 f = f 6 9 0 0 spX9_behind := propext Iff.rfl
theorem mdX9_findPlan : MD RX9 cX9_findPlan rmX9_findPlan kX9_findPlan fX9 aX9_findPlan zX9 uX9 := ⟨fokX9, zokX9, uokX9, aokX9_findPlan, qX9_findPlan⟩
set_option maxHeartbeats 1600000 in
set_option maxRecDepth 100000 in
theorem lpP_n {post : Option MV → MS → Prop} {U : Pt → Prop} {N : Nat} {I L : Int → Int → Int} {n t x d w j : Int} (j0 : 0 ≤ j) (hj : j + 1 < n) (hn : n ≤ 40) (t0 : 0 ≤ t) (t1 : t ≤ 3) (d0 : 0 ≤ d) (d1 : d ≤ j) (hw : w = 0 ∨ w = 1) (hb : ∀ y, y ≤ 3 → 0 ≤ behV I L j t d w y ∧ behV I L j t d w y ≤ 1000010000000) (hv : 0 ≤ L 260 (spt j t d w) ∧ L 260 (spt j t d w) ≤ 1000000000000)
    (h : ∀ (J M : Int → Int → Int) (y : Int), frK I J → frKL L M → mOK J M → -1 ≤ y → y ≤ 3 → behV I L j t d w y = L 260 (spt j t d w) → (∀ k, -1 ≤ k → k < y → behV I L j t d w k ≠ L 260 (spt j t d w)) → Ok RX9 cX9_findPlan 9 rmX9_findPlan false none post U (194, [some (.inr (.inr (some 240))), some (.inl n), some (.inl t), some (.inr (.inl x)), none, some (.inl d), some (.inl w), some (.inl j), some (.inl y)], [], (N, PF, J, M), 0, 0)) :
    ∀ (m : Nat) (y : Int) (J M : Int → Int → Int), y + m = 4 → -1 ≤ y → frK I J → frKL L M → mOK J M → (∃ z, y ≤ z ∧ z ≤ 3 ∧ behV I L j t d w z = L 260 (spt j t d w)) → (∀ k, -1 ≤ k → k < y → behV I L j t d w k ≠ L 260 (spt j t d w)) →
    Ok RX9 cX9_findPlan 9 rmX9_findPlan false none post U (155, [some (.inr (.inr (some 240))), some (.inl n), some (.inl t), some (.inr (.inl x)), none, some (.inl d), some (.inl w), some (.inl j), some (.inl y)], [], (N, PF, J, M), 0, 0)
  | 0, y, J, M, hy, y0, h1, h2, h3, h4, h5 => by
    obtain ⟨z, a, b, c⟩ := h4
    omega
  | m + 1, y, J, M, hy, y0, h1, h2, h3, h4, h5 => by
    have ih := fun J M => lpP_n (U := U) (post := post) (N := N) j0 hj hn t0 t1 d0 d1 hw hb hv h m (y + 1) J M (by omega) (by omega)
    have eb := behV_P h1.P h2 j t d w y
    have s := spt_rng (l := j) (t := t) (d := d) (w := w) j0 (by omega) t0 t1 d0 (by omega) hw
    refine Ok.seg mdX9_findPlan [155, 194] 60 ?_
    obtain ⟨z, z1, z2, z3⟩ := h4
    have hby := hb y (by omega)
    simp only [wp_nil, wp_cons, ↓stp, ↓lI, ↓lL, ↓lR, ↓lIn_0, ↓lIn_1, ↓lIn_2, ↓lIn_3, ↓lLn_0, ↓lLn_1, ↓lLn_2, ↓lLn_3, ↓lRn_0, ↓lRn_1, ↓lRn_2, ↓lRn_3, ↓pI, ↓pL, ↓pR, ↓pA, ↓pN, ↓pV, ↓fp, ↓tsw, ↓oS, ↓spMax, ↓spMin, ↓spAbs, ↓spObj, RI, RLg, b2i_lo, b2i_hi, getL, setL, ltL, killL, isLong, inl, cnd, br, tgt, rcv, rpl, mputI, mputL, mputP, fv, fr, mcat, mcs, entL, entA, rfit, nf_0, nf_1, nf_2, nf_3, nf2_0, nf2_1, b2i_0, b2i_1, RI_b2i, b2i_fit, List.append, List.length, List.replicate, List.cons_append, List.nil_append, List.length_cons, List.length_nil, List.replicate_succ, List.replicate_zero, List.tail_cons, reduceIte, if_true, if_false, ite_true, ite_false, Bool.false_eq_true, true_and, and_true, and_self, false_and, and_false, or_self, or_true, true_or, or_false, false_or, not_true_eq_false, not_false_eq_true, ne_eq, forall_const, implies_true, imp_self, true_implies, false_implies, Nat.reduceAdd, Nat.reduceSub, Nat.reduceMul, Nat.reduceDiv, Nat.reduceMod, Nat.reduceEqDiff, Nat.reduceLT, Nat.reduceLeDiff, Nat.reduceBEq, Nat.add_zero, Nat.zero_add, Nat.le_refl, Nat.not_lt_zero, Nat.succ_eq_add_one, Int.reduceNatCast, Int.cast_ofNat_Int, Int.reduceSub, Int.reduceMul, Int.reduceNeg, Int.reduceLE, Int.reduceLT, Int.reduceToNat, Int.reduceEq, Int.reduceNe, Int.reduceAdd, Option.some.injEq, kX9_findPlan, rmX9_findPlan, ↓ofX9_101, ↓ofX9_92, ↓ofX9_95, ↓ofX9_98, ↓ocX9_findPlan_229, ↓spX9_findRace, ↓ocX9_findPlan_217, ↓spX9_lapOn, ↓ocX9_findPlan_221, ↓spX9_spot, ↓ocX9_findPlan_225, ↓spX9_behind, h3, eb, lcm_lo, lcm_hi, lcm_eq, G_240, G_241, G_242, G_243, G_244, G_245, G_246, G_247, G_248, G_249, G_250, G_251, G_252, G_253, G_254, G_255, G_256, G_257, G_258, G_259, G_260, G_261, G_262, G_263, G_264, G_265, G_266, G_267, G_268, G_269, G_270, G_271, G_272, PF_240_6, PF_240_7, PF_240_8, PF_240_9, PF_240_10, PF_240_11, PF_240_12, PF_240_13, PF_240_14, PF_240_15, PF_240_16, PF_240_17, PF_240_18, PF_240_19, PF_240_20, PF_240_21, PF_240_22, PF_240_23, PF_240_24, PF_240_26, PF_240_27, PF_240_28, PF_240_29, PF_240_30, PF_240_31, PF_240_32, PF_240_33, PF_240_34, PF_240_35, PF_240_36, PF_240_37]
    refine ⟨j0, by omega, t0, t1, d0, d1, hw, y0, by omega, fun J2 M2 k1 k2 k3 k4 => ⟨s.1, s.2, ?_⟩⟩
    rw [k2 260 _ (by omega) (by omega), h2 260 _ (by omega) (by omega)]
    refine ⟨by omega, by omega, fun q => h J2 M2 y (h1.tr k1) (h2.tr k2) k3 y0 (by omega) q h5, fun q => ih J2 M2 (h1.tr k1) (h2.tr k2) k3 ⟨z, ?_, z2, z3⟩ (fun k a b => ?_)⟩
    · have : z ≠ y := fun e => q (by rw [← e]; exact z3)
      omega
    · by_cases e : k = y
      · rw [e]; exact q
      · exact h5 k a (by omega)
/-- the plan's laps that are told -/
def pfx (lp : Int → Int → Int) (sp : Int) (mu : Prop) (n t0 : Int) (J : Int → Int → Int) (j t d w : Int) : Prop := ∃ K D W : Int → Int, (K 0 = t0 ∧ D 0 = 0 ∧ W 0 = 0) ∧ (∀ i, 0 ≤ i → i < j → J 261 i = K i ∧ J 262 i = D i ∧ J 263 i = if 0 < i ∧ D i = 0 then 1 else 0) ∧ (∀ i, 0 ≤ i → i + 1 < n → i + 1 ≤ j → Nx lp sp mu (n - 2 - i).toNat (K i) (D i) (W i) (K (i + 1)) (D (i + 1)) (W (i + 1))) ∧ (j < n → K j = t ∧ D j = d ∧ W j = w)
theorem pfx_nx {lp : Int → Int → Int} {sp : Int} {mu : Prop} {n t0 j t d w t' d' w' s : Int} {J J' : Int → Int → Int} (j0 : 0 ≤ j) (hj : j < n) (hs : s = if 0 < j ∧ d = 0 then 1 else 0) (e1 : J' 261 j = t) (e2 : J' 262 j = d) (e3 : J' 263 j = s) (hf : ∀ b k, (261 ≤ b ∧ b ≤ 263) → k ≠ j → J' b k = J b k) (h : pfx lp sp mu n t0 J j t d w) (hn : j + 1 < n → Nx lp sp mu (n - 2 - j).toNat t d w t' d' w') : pfx lp sp mu n t0 J' (j + 1) t' d' w' := by
  obtain ⟨K, D, W, a, b, c, e⟩ := h
  obtain ⟨g1, g2, g3⟩ := e hj
  have u : ∀ (X : Int → Int) (v i : Int), i ≤ j → (fun q => if q = j + 1 then v else X q) i = X i := fun X v i hi => by
    show (if i = j + 1 then v else X i) = X i
    rw [if_neg (by omega)]
  have u2 : ∀ (X : Int → Int) (v : Int), (fun q => if q = j + 1 then v else X q) (j + 1) = v := fun X v => if_pos rfl
  refine ⟨fun q => if q = j + 1 then t' else K q, fun q => if q = j + 1 then d' else D q, fun q => if q = j + 1 then w' else W q, ?_, fun i i0 i1 => ?_, fun i i0 i1 i2 => ?_, fun _ => ⟨u2 _ _, u2 _ _, u2 _ _⟩⟩
  · rw [u K _ 0 j0, u D _ 0 j0, u W _ 0 j0]; exact a
  · rw [u K _ i (by omega), u D _ i (by omega)]
    by_cases z : i = j
    · rw [z, e1, e2, e3, g1, g2]; exact ⟨rfl, rfl, hs⟩
    · rw [hf _ _ (by omega) z, hf _ _ (by omega) z, hf _ _ (by omega) z]; exact b i i0 (by omega)
  · rw [u K _ i (by omega), u D _ i (by omega), u W _ i (by omega)]
    by_cases z : i = j
    · rw [z, u2, u2, u2, g1, g2, g3]; exact hn (by omega)
    · rw [u K _ (i + 1) (by omega), u D _ (i + 1) (by omega), u W _ (i + 1) (by omega)]; exact c i i0 i1 (by omega)
theorem pfx_cg {lp : Int → Int → Int} {sp : Int} {mu : Prop} {n t0 j t d w : Int} {J J' : Int → Int → Int} (hf : ∀ b k, (261 ≤ b ∧ b ≤ 263) → J' b k = J b k) (h : pfx lp sp mu n t0 J j t d w) : pfx lp sp mu n t0 J' j t d w := by
  obtain ⟨K, D, W, a, b, c, e⟩ := h
  exact ⟨K, D, W, a, fun i i0 i1 => by rw [hf _ _ (by omega), hf _ _ (by omega), hf _ _ (by omega)]; exact b i i0 i1, c, e⟩
theorem pfx_end {lp : Int → Int → Int} {sp : Int} {mu : Prop} {n t0 t d w x : Int} {J : Int → Int → Int} (n1 : 1 ≤ n) (hF : Fst lp sp mu (n - 1).toNat t0 x) (h : pfx lp sp mu n t0 J n t d w) : PlanOK lp sp mu n (J 261) (J 262) x ∧ ∀ j, 0 ≤ j → j < n → J 263 j = if 0 < j ∧ J 262 j = 0 then 1 else 0 := by
  obtain ⟨K, D, W, a, b, c, e⟩ := h
  refine ⟨⟨W, ?_, a.2.2, ?_, fun i i0 i1 => ?_⟩, fun i i0 i1 => ?_⟩
  · rw [(b 0 (by omega) (by omega)).2.1]; exact a.2.1
  · rw [(b 0 (by omega) (by omega)).1, a.1]; exact hF
  · rw [(b i (by omega) (by omega)).1, (b i (by omega) (by omega)).2.1, (b (i + 1) (by omega) (by omega)).1, (b (i + 1) (by omega) (by omega)).2.1]; exact c i i0 i1 (by omega)
  · rw [(b i (by omega) (by omega)).2.1]; exact (b i (by omega) (by omega)).2.2
/-- what stays along the plan -/
def cxP (I L : Int → Int → Int) (mu : Prop) (n : Int) : Prop := 1 ≤ n ∧ n ≤ 40 ∧ (∀ t d, 0 ≤ lpf (VM I) t d ∧ lpf (VM I) t d ≤ 3030000) ∧ (0 ≤ I 240 5 ∧ I 240 5 ≤ 100000) ∧ ∀ l, 0 ≤ l → l < n → rowL (lpf (VM I)) (I 240 5) mu n L l
set_option maxHeartbeats 1600000 in
set_option maxRecDepth 100000 in
theorem lpP_w {post : Option MV → MS → Prop} {U : Pt → Prop} {N : Nat} {I L : Int → Int → Int} {mu : Prop} {n tf x : Int} (hcx : cxP I L mu n)
    (h : ∀ (J M : Int → Int → Int) (t d w : Int), frPl I J → frKL L M → mOK J M → pfx (lpf (VM I)) (I 240 5) mu n tf J n t d w → post (some (.inr (.inl x))) (N, PF, J, M)) :
    ∀ (m : Nat) (j t d w : Int) (J M : Int → Int → Int) (t8 : Option MV), j + m = n → 0 ≤ j → 0 ≤ t → t ≤ 3 → 0 ≤ d → d ≤ j → (w = 0 ∨ w = 1) → frPl I J → frKL L M → mOK J M → pfx (lpf (VM I)) (I 240 5) mu n tf J j t d w → (j < n → Lt (Tot (lpf (VM I)) (I 240 5) mu (n - 1 - j).toNat t d w) (L 260 (spt j t d w))) →
    Ok RX9 cX9_findPlan 9 rmX9_findPlan false none post U (96, [some (.inr (.inr (some 240))), some (.inl n), some (.inl t), some (.inr (.inl x)), none, some (.inl d), some (.inl w), some (.inl j), t8], [], (N, PF, J, M), 0, 0)
  | 0, j, t, d, w, J, M, t8, hj, j0, t0, t1, d0, d1, hw, h1, h2, h3, h4, h5 => by
    obtain ⟨c1, c2, c3, c4, c5⟩ := hcx
    rw [show j = n by omega] at h4
    refine Ok.seg mdX9_findPlan [155] 20 ?_
    simp only [wp_nil, wp_cons, ↓stp, ↓lI, ↓lL, ↓lR, ↓lIn_0, ↓lIn_1, ↓lIn_2, ↓lIn_3, ↓lLn_0, ↓lLn_1, ↓lLn_2, ↓lLn_3, ↓lRn_0, ↓lRn_1, ↓lRn_2, ↓lRn_3, ↓pI, ↓pL, ↓pR, ↓pA, ↓pN, ↓pV, ↓fp, ↓tsw, ↓oS, ↓spMax, ↓spMin, ↓spAbs, ↓spObj, RI, RLg, b2i_lo, b2i_hi, getL, setL, ltL, killL, isLong, inl, cnd, br, tgt, rcv, rpl, mputI, mputL, mputP, fv, fr, mcat, mcs, entL, entA, rfit, nf_0, nf_1, nf_2, nf_3, nf2_0, nf2_1, b2i_0, b2i_1, RI_b2i, b2i_fit, List.append, List.length, List.replicate, List.cons_append, List.nil_append, List.length_cons, List.length_nil, List.replicate_succ, List.replicate_zero, List.tail_cons, reduceIte, if_true, if_false, ite_true, ite_false, Bool.false_eq_true, true_and, and_true, and_self, false_and, and_false, or_self, or_true, true_or, or_false, false_or, not_true_eq_false, not_false_eq_true, ne_eq, forall_const, implies_true, imp_self, true_implies, false_implies, Nat.reduceAdd, Nat.reduceSub, Nat.reduceMul, Nat.reduceDiv, Nat.reduceMod, Nat.reduceEqDiff, Nat.reduceLT, Nat.reduceLeDiff, Nat.reduceBEq, Nat.add_zero, Nat.zero_add, Nat.le_refl, Nat.not_lt_zero, Nat.succ_eq_add_one, Int.reduceNatCast, Int.cast_ofNat_Int, Int.reduceSub, Int.reduceMul, Int.reduceNeg, Int.reduceLE, Int.reduceLT, Int.reduceToNat, Int.reduceEq, Int.reduceNe, Int.reduceAdd, Option.some.injEq, kX9_findPlan, rmX9_findPlan, ↓ofX9_101, ↓ofX9_92, ↓ofX9_95, ↓ofX9_98, ↓ocX9_findPlan_229, ↓spX9_findRace, ↓ocX9_findPlan_217, ↓spX9_lapOn, ↓ocX9_findPlan_221, ↓spX9_spot, ↓ocX9_findPlan_225, ↓spX9_behind, G_240, G_241, G_242, G_243, G_244, G_245, G_246, G_247, G_248, G_249, G_250, G_251, G_252, G_253, G_254, G_255, G_256, G_257, G_258, G_259, G_260, G_261, G_262, G_263, G_264, G_265, G_266, G_267, G_268, G_269, G_270, G_271, G_272, PF_240_6, PF_240_7, PF_240_8, PF_240_9, PF_240_10, PF_240_11, PF_240_12, PF_240_13, PF_240_14, PF_240_15, PF_240_16, PF_240_17, PF_240_18, PF_240_19, PF_240_20, PF_240_21, PF_240_22, PF_240_23, PF_240_24, PF_240_26, PF_240_27, PF_240_28, PF_240_29, PF_240_30, PF_240_31, PF_240_32, PF_240_33, PF_240_34, PF_240_35, PF_240_36, PF_240_37]
    exact ⟨by omega, by omega, fun _ => h J M t d w h1 h2 h3 h4, fun q => by omega⟩
  | m + 1, j, t, d, w, J, M, t8, hj, j0, t0, t1, d0, d1, hw, h1, h2, h3, h4, h5 => by
    have ih := fun t d w J M t8 => lpP_w (U := U) (post := post) (N := N) hcx h m (j + 1) t d w J M t8 (by omega) (by omega)
    obtain ⟨c1, c2, c3, c4, c5⟩ := hcx
    have lt := h5 (by omega)
    have fU : ∀ s b k, ¬ ((b = 261 ∨ b = 262 ∨ b = 263) ∧ k = j) → upI (upI (upI J 261 j t) 262 j d) 263 j s b k = J b k := fun s b k q => (if_neg (by omega)).trans ((if_neg (by omega)).trans (if_neg (by omega)))
    have fP : ∀ s, frPl I (upI (upI (upI J 261 j t) 262 j d) 263 j s) := fun s b k b0 b1 b2 b3 b4 b5 => by
      rw [fU s b k (by omega)]; exact h1 b k b0 b1 b2 b3 b4 b5
    have mU : ∀ s, mOK (upI (upI (upI J 261 j t) 262 j d) 263 j s) M := fun s => mOK_w h3 (fun b k b0 b1 b2 b3 => fU s b k (by omega)) (fun k => fU s _ _ (by omega)) (fun _ => rfl)
    have e1 : ∀ s, upI (upI (upI J 261 j t) 262 j d) 263 j s 261 j = t := fun s => by rw [upI_ne (by omega), upI_ne (by omega), upI_same]
    have e2 : ∀ s, upI (upI (upI J 261 j t) 262 j d) 263 j s 262 j = d := fun s => by rw [upI_ne (by omega), upI_same]
    have pN : ∀ s, (s = if 0 < j ∧ d = 0 then 1 else 0) → ∀ t' d' w', (j + 1 < n → Nx (lpf (VM I)) (I 240 5) mu (n - 2 - j).toNat t d w t' d' w') → pfx (lpf (VM I)) (I 240 5) mu n tf (upI (upI (upI J 261 j t) 262 j d) 263 j s) (j + 1) t' d' w' := fun s hs t' d' w' hn => pfx_nx j0 (by omega) hs (e1 s) (e2 s) upI_same (fun b k _ hk => fU s b k (fun z => hk z.2)) h4 hn
    have go1 : ∀ s, (s = if 0 < j ∧ d = 0 then 1 else 0) → j = n - 1 → Ok RX9 cX9_findPlan 9 rmX9_findPlan false none post U (96, [some (.inr (.inr (some 240))), some (.inl n), some (.inl t), some (.inr (.inl x)), none, some (.inl d), some (.inl w), some (.inl (j + 1)), t8], [], (N, PF, upI (upI (upI J 261 j t) 262 j d) 263 j s, M), 0, 0) := fun s hs z => ih t d w _ _ _ t0 t1 d0 (by omega) hw (fP s) h2 (mU s) (pN s hs t d w (fun q => by omega)) (fun q => by omega)
    have vr : L 260 (spt j t d w) ≤ 1000000000000 ∧ 0 ≤ L 260 (spt j t d w) := by
      have := (c5 j j0 (by omega) t d w t0 t1 d0 d1 hw).1
      exact ⟨this.2, this.1⟩
    have vF : L 260 (spt j t d w) < 1000000000000 := by
      have := Tot_rng (lp := lpf (VM I)) (sp := I 240 5) (mu := mu) c4 (fun t d _ _ _ _ => c3 t d) (n - 1 - j).toNat t d w _ t0 t1 d0 (by omega) lt.1
      omega
    have go2 : ∀ s, (s = if 0 < j ∧ d = 0 then 1 else 0) → ¬ j = n - 1 → Ok RX9 cX9_findPlan 9 rmX9_findPlan false none post U (155, [some (.inr (.inr (some 240))), some (.inl n), some (.inl t), some (.inr (.inl x)), none, some (.inl d), some (.inl w), some (.inl j), some (.inl (-1))], [], (N, PF, upI (upI (upI J 261 j t) 262 j d) 263 j s, M), 0, 0) := fun s hs z => by
      have hrow := c5 (j + 1) (by omega) (by omega)
      obtain ⟨n1, n2⟩ := nxt (I := I) (L := L) (mu := mu) (n := n) (j := j) (t := t) (d := d) (w := w) (fun t d => (c3 t d).1) c4.1 (by omega) j0 t0 t1 d0 d1 hw hrow lt vF
      have eB : ∀ y, behV (upI (upI (upI J 261 j t) 262 j d) 263 j s) M j t d w y = behV I L j t d w y := behV_P (fP s) h2 j t d w
      have eL : M 260 (spt j t d w) = L 260 (spt j t d w) := h2 260 _ (by omega) (by omega)
      refine lpP_n j0 (by omega) c2 t0 t1 d0 d1 hw (fun y y1 => by rw [eB]; exact behV_rng c3 c4 hrow t0 t1 d0 d1 hw y1) (by rw [eL]; omega) (fun J2 M2 y k1 k2 k3 y0 y1 k4 k5 => ?_) 5 (-1) _ _ (by omega) (by omega) (fun _ _ _ _ _ => rfl) (fun _ _ _ _ => rfl) (mU s) ?_ (fun k a b => by omega)
      · rw [eB, eL] at k4
        have n3 := n2 y y0 y1 k4 (fun k a b => by have := k5 k a b; rw [eB, eL] at this; exact this)
        have stp' : ∀ t' d' w' t8, 0 ≤ t' → t' ≤ 3 → 0 ≤ d' → d' ≤ j + 1 → (w' = 0 ∨ w' = 1) → (y < 0 → t' = t ∧ d' = d + 1 ∧ w' = w) → (0 ≤ y → t' = y ∧ d' = 0 ∧ w' = tw w t y) → Ok RX9 cX9_findPlan 9 rmX9_findPlan false none post U (96, [some (.inr (.inr (some 240))), some (.inl n), some (.inl t'), some (.inr (.inl x)), none, some (.inl d'), some (.inl w'), some (.inl (j + 1)), t8], [], (N, PF, J2, M2), 0, 0) := fun t' d' w' t8 a1 a2 a3 a4 a5 q1 q2 => by
          have n4 := n3 t' d' w' q1 q2
          refine ih t' d' w' J2 M2 t8 a1 a2 a3 a4 a5 ((fP s).tr k1.P) (h2.tr k2) k3 (pfx_cg (fun b k hb => k1 b k (by omega) (by omega) (by omega)) (pN s hs t' d' w' (fun _ => n4.1))) (fun _ => ?_)
          rw [show (n - 1 - (j + 1)).toNat = (n - 2 - j).toNat by omega]
          exact n4.2
        by_cases yn : y < 0
        · have yn' : ¬ 0 ≤ y := by omega
          refine Ok.seg mdX9_findPlan [96] 60 ?_
          simp only [wp_nil, wp_cons, ↓stp, ↓lI, ↓lL, ↓lR, ↓lIn_0, ↓lIn_1, ↓lIn_2, ↓lIn_3, ↓lLn_0, ↓lLn_1, ↓lLn_2, ↓lLn_3, ↓lRn_0, ↓lRn_1, ↓lRn_2, ↓lRn_3, ↓pI, ↓pL, ↓pR, ↓pA, ↓pN, ↓pV, ↓fp, ↓tsw, ↓oS, ↓spMax, ↓spMin, ↓spAbs, ↓spObj, RI, RLg, b2i_lo, b2i_hi, getL, setL, ltL, killL, isLong, inl, cnd, br, tgt, rcv, rpl, mputI, mputL, mputP, fv, fr, mcat, mcs, entL, entA, rfit, nf_0, nf_1, nf_2, nf_3, nf2_0, nf2_1, b2i_0, b2i_1, RI_b2i, b2i_fit, List.append, List.length, List.replicate, List.cons_append, List.nil_append, List.length_cons, List.length_nil, List.replicate_succ, List.replicate_zero, List.tail_cons, reduceIte, if_true, if_false, ite_true, ite_false, Bool.false_eq_true, true_and, and_true, and_self, false_and, and_false, or_self, or_true, true_or, or_false, false_or, not_true_eq_false, not_false_eq_true, ne_eq, forall_const, implies_true, imp_self, true_implies, false_implies, Nat.reduceAdd, Nat.reduceSub, Nat.reduceMul, Nat.reduceDiv, Nat.reduceMod, Nat.reduceEqDiff, Nat.reduceLT, Nat.reduceLeDiff, Nat.reduceBEq, Nat.add_zero, Nat.zero_add, Nat.le_refl, Nat.not_lt_zero, Nat.succ_eq_add_one, Int.reduceNatCast, Int.cast_ofNat_Int, Int.reduceSub, Int.reduceMul, Int.reduceNeg, Int.reduceLE, Int.reduceLT, Int.reduceToNat, Int.reduceEq, Int.reduceNe, Int.reduceAdd, Option.some.injEq, kX9_findPlan, rmX9_findPlan, ↓ofX9_101, ↓ofX9_92, ↓ofX9_95, ↓ofX9_98, ↓ocX9_findPlan_229, ↓spX9_findRace, ↓ocX9_findPlan_217, ↓spX9_lapOn, ↓ocX9_findPlan_221, ↓spX9_spot, ↓ocX9_findPlan_225, ↓spX9_behind, yn, yn', G_240, G_241, G_242, G_243, G_244, G_245, G_246, G_247, G_248, G_249, G_250, G_251, G_252, G_253, G_254, G_255, G_256, G_257, G_258, G_259, G_260, G_261, G_262, G_263, G_264, G_265, G_266, G_267, G_268, G_269, G_270, G_271, G_272, PF_240_6, PF_240_7, PF_240_8, PF_240_9, PF_240_10, PF_240_11, PF_240_12, PF_240_13, PF_240_14, PF_240_15, PF_240_16, PF_240_17, PF_240_18, PF_240_19, PF_240_20, PF_240_21, PF_240_22, PF_240_23, PF_240_24, PF_240_26, PF_240_27, PF_240_28, PF_240_29, PF_240_30, PF_240_31, PF_240_32, PF_240_33, PF_240_34, PF_240_35, PF_240_36, PF_240_37]
          exact ⟨by omega, by omega, by omega, stp' t (d + 1) w _ t0 t1 (by omega) (by omega) hw (fun _ => ⟨rfl, rfl, rfl⟩) (fun q => by omega)⟩
        · have yp : 0 ≤ y := by omega
          by_cases yt : y = t
          · subst yt
            refine Ok.seg mdX9_findPlan [96] 60 ?_
            simp only [wp_nil, wp_cons, ↓stp, ↓lI, ↓lL, ↓lR, ↓lIn_0, ↓lIn_1, ↓lIn_2, ↓lIn_3, ↓lLn_0, ↓lLn_1, ↓lLn_2, ↓lLn_3, ↓lRn_0, ↓lRn_1, ↓lRn_2, ↓lRn_3, ↓pI, ↓pL, ↓pR, ↓pA, ↓pN, ↓pV, ↓fp, ↓tsw, ↓oS, ↓spMax, ↓spMin, ↓spAbs, ↓spObj, RI, RLg, b2i_lo, b2i_hi, getL, setL, ltL, killL, isLong, inl, cnd, br, tgt, rcv, rpl, mputI, mputL, mputP, fv, fr, mcat, mcs, entL, entA, rfit, nf_0, nf_1, nf_2, nf_3, nf2_0, nf2_1, b2i_0, b2i_1, RI_b2i, b2i_fit, List.append, List.length, List.replicate, List.cons_append, List.nil_append, List.length_cons, List.length_nil, List.replicate_succ, List.replicate_zero, List.tail_cons, reduceIte, if_true, if_false, ite_true, ite_false, Bool.false_eq_true, true_and, and_true, and_self, false_and, and_false, or_self, or_true, true_or, or_false, false_or, not_true_eq_false, not_false_eq_true, ne_eq, forall_const, implies_true, imp_self, true_implies, false_implies, Nat.reduceAdd, Nat.reduceSub, Nat.reduceMul, Nat.reduceDiv, Nat.reduceMod, Nat.reduceEqDiff, Nat.reduceLT, Nat.reduceLeDiff, Nat.reduceBEq, Nat.add_zero, Nat.zero_add, Nat.le_refl, Nat.not_lt_zero, Nat.succ_eq_add_one, Int.reduceNatCast, Int.cast_ofNat_Int, Int.reduceSub, Int.reduceMul, Int.reduceNeg, Int.reduceLE, Int.reduceLT, Int.reduceToNat, Int.reduceEq, Int.reduceNe, Int.reduceAdd, Option.some.injEq, kX9_findPlan, rmX9_findPlan, ↓ofX9_101, ↓ofX9_92, ↓ofX9_95, ↓ofX9_98, ↓ocX9_findPlan_229, ↓spX9_findRace, ↓ocX9_findPlan_217, ↓spX9_lapOn, ↓ocX9_findPlan_221, ↓spX9_spot, ↓ocX9_findPlan_225, ↓spX9_behind, yn, yp, G_240, G_241, G_242, G_243, G_244, G_245, G_246, G_247, G_248, G_249, G_250, G_251, G_252, G_253, G_254, G_255, G_256, G_257, G_258, G_259, G_260, G_261, G_262, G_263, G_264, G_265, G_266, G_267, G_268, G_269, G_270, G_271, G_272, PF_240_6, PF_240_7, PF_240_8, PF_240_9, PF_240_10, PF_240_11, PF_240_12, PF_240_13, PF_240_14, PF_240_15, PF_240_16, PF_240_17, PF_240_18, PF_240_19, PF_240_20, PF_240_21, PF_240_22, PF_240_23, PF_240_24, PF_240_26, PF_240_27, PF_240_28, PF_240_29, PF_240_30, PF_240_31, PF_240_32, PF_240_33, PF_240_34, PF_240_35, PF_240_36, PF_240_37]
            have et : tw w y y = w := by unfold tw; rcases hw with z | z <;> simp [z]
            exact ⟨by omega, by omega, by omega, by omega, by omega, stp' y 0 w _ t0 t1 (by omega) (by omega) hw (fun q => by omega) (fun _ => ⟨rfl, rfl, et.symm⟩)⟩
          · have et : tw w t y = 1 := by unfold tw; rw [if_pos (.inr yt)]
            refine Ok.seg mdX9_findPlan [96] 60 ?_
            simp only [wp_nil, wp_cons, ↓stp, ↓lI, ↓lL, ↓lR, ↓lIn_0, ↓lIn_1, ↓lIn_2, ↓lIn_3, ↓lLn_0, ↓lLn_1, ↓lLn_2, ↓lLn_3, ↓lRn_0, ↓lRn_1, ↓lRn_2, ↓lRn_3, ↓pI, ↓pL, ↓pR, ↓pA, ↓pN, ↓pV, ↓fp, ↓tsw, ↓oS, ↓spMax, ↓spMin, ↓spAbs, ↓spObj, RI, RLg, b2i_lo, b2i_hi, getL, setL, ltL, killL, isLong, inl, cnd, br, tgt, rcv, rpl, mputI, mputL, mputP, fv, fr, mcat, mcs, entL, entA, rfit, nf_0, nf_1, nf_2, nf_3, nf2_0, nf2_1, b2i_0, b2i_1, RI_b2i, b2i_fit, List.append, List.length, List.replicate, List.cons_append, List.nil_append, List.length_cons, List.length_nil, List.replicate_succ, List.replicate_zero, List.tail_cons, reduceIte, if_true, if_false, ite_true, ite_false, Bool.false_eq_true, true_and, and_true, and_self, false_and, and_false, or_self, or_true, true_or, or_false, false_or, not_true_eq_false, not_false_eq_true, ne_eq, forall_const, implies_true, imp_self, true_implies, false_implies, Nat.reduceAdd, Nat.reduceSub, Nat.reduceMul, Nat.reduceDiv, Nat.reduceMod, Nat.reduceEqDiff, Nat.reduceLT, Nat.reduceLeDiff, Nat.reduceBEq, Nat.add_zero, Nat.zero_add, Nat.le_refl, Nat.not_lt_zero, Nat.succ_eq_add_one, Int.reduceNatCast, Int.cast_ofNat_Int, Int.reduceSub, Int.reduceMul, Int.reduceNeg, Int.reduceLE, Int.reduceLT, Int.reduceToNat, Int.reduceEq, Int.reduceNe, Int.reduceAdd, Option.some.injEq, kX9_findPlan, rmX9_findPlan, ↓ofX9_101, ↓ofX9_92, ↓ofX9_95, ↓ofX9_98, ↓ocX9_findPlan_229, ↓spX9_findRace, ↓ocX9_findPlan_217, ↓spX9_lapOn, ↓ocX9_findPlan_221, ↓spX9_spot, ↓ocX9_findPlan_225, ↓spX9_behind, yn, yp, yt, G_240, G_241, G_242, G_243, G_244, G_245, G_246, G_247, G_248, G_249, G_250, G_251, G_252, G_253, G_254, G_255, G_256, G_257, G_258, G_259, G_260, G_261, G_262, G_263, G_264, G_265, G_266, G_267, G_268, G_269, G_270, G_271, G_272, PF_240_6, PF_240_7, PF_240_8, PF_240_9, PF_240_10, PF_240_11, PF_240_12, PF_240_13, PF_240_14, PF_240_15, PF_240_16, PF_240_17, PF_240_18, PF_240_19, PF_240_20, PF_240_21, PF_240_22, PF_240_23, PF_240_24, PF_240_26, PF_240_27, PF_240_28, PF_240_29, PF_240_30, PF_240_31, PF_240_32, PF_240_33, PF_240_34, PF_240_35, PF_240_36, PF_240_37]
            exact ⟨by omega, by omega, by omega, by omega, by omega, stp' y 0 1 _ yp y1 (by omega) (by omega) (.inr rfl) (fun q => by omega) (fun _ => ⟨rfl, rfl, et.symm⟩)⟩
      · obtain ⟨nx, a, b, c⟩ := n1
        exact ⟨nx, a, b, by rw [eB, eL]; exact c⟩
    refine Ok.seg mdX9_findPlan [96, 155] 60 ?_
    simp only [wp_nil, wp_cons, ↓stp, ↓lI, ↓lL, ↓lR, ↓lIn_0, ↓lIn_1, ↓lIn_2, ↓lIn_3, ↓lLn_0, ↓lLn_1, ↓lLn_2, ↓lLn_3, ↓lRn_0, ↓lRn_1, ↓lRn_2, ↓lRn_3, ↓pI, ↓pL, ↓pR, ↓pA, ↓pN, ↓pV, ↓fp, ↓tsw, ↓oS, ↓spMax, ↓spMin, ↓spAbs, ↓spObj, RI, RLg, b2i_lo, b2i_hi, getL, setL, ltL, killL, isLong, inl, cnd, br, tgt, rcv, rpl, mputI, mputL, mputP, fv, fr, mcat, mcs, entL, entA, rfit, nf_0, nf_1, nf_2, nf_3, nf2_0, nf2_1, b2i_0, b2i_1, RI_b2i, b2i_fit, List.append, List.length, List.replicate, List.cons_append, List.nil_append, List.length_cons, List.length_nil, List.replicate_succ, List.replicate_zero, List.tail_cons, reduceIte, if_true, if_false, ite_true, ite_false, Bool.false_eq_true, true_and, and_true, and_self, false_and, and_false, or_self, or_true, true_or, or_false, false_or, not_true_eq_false, not_false_eq_true, ne_eq, forall_const, implies_true, imp_self, true_implies, false_implies, Nat.reduceAdd, Nat.reduceSub, Nat.reduceMul, Nat.reduceDiv, Nat.reduceMod, Nat.reduceEqDiff, Nat.reduceLT, Nat.reduceLeDiff, Nat.reduceBEq, Nat.add_zero, Nat.zero_add, Nat.le_refl, Nat.not_lt_zero, Nat.succ_eq_add_one, Int.reduceNatCast, Int.cast_ofNat_Int, Int.reduceSub, Int.reduceMul, Int.reduceNeg, Int.reduceLE, Int.reduceLT, Int.reduceToNat, Int.reduceEq, Int.reduceNe, Int.reduceAdd, Option.some.injEq, kX9_findPlan, rmX9_findPlan, ↓ofX9_101, ↓ofX9_92, ↓ofX9_95, ↓ofX9_98, ↓ocX9_findPlan_229, ↓spX9_findRace, ↓ocX9_findPlan_217, ↓spX9_lapOn, ↓ocX9_findPlan_221, ↓spX9_spot, ↓ocX9_findPlan_225, ↓spX9_behind, G_240, G_241, G_242, G_243, G_244, G_245, G_246, G_247, G_248, G_249, G_250, G_251, G_252, G_253, G_254, G_255, G_256, G_257, G_258, G_259, G_260, G_261, G_262, G_263, G_264, G_265, G_266, G_267, G_268, G_269, G_270, G_271, G_272, PF_240_6, PF_240_7, PF_240_8, PF_240_9, PF_240_10, PF_240_11, PF_240_12, PF_240_13, PF_240_14, PF_240_15, PF_240_16, PF_240_17, PF_240_18, PF_240_19, PF_240_20, PF_240_21, PF_240_22, PF_240_23, PF_240_24, PF_240_26, PF_240_27, PF_240_28, PF_240_29, PF_240_30, PF_240_31, PF_240_32, PF_240_33, PF_240_34, PF_240_35, PF_240_36, PF_240_37]
    refine ⟨by omega, by omega, fun q => by omega, fun _ => ⟨by omega, by omega, by omega, by omega, by omega, fun q => ⟨by omega, by omega, by omega, by omega, go2 0 (by rw [if_neg (by omega)]), fun z => go1 0 (by rw [if_neg (by omega)]) (by omega)⟩, fun q => ⟨by omega, fun q2 => ⟨by omega, by omega, by omega, by omega, go2 0 (by rw [if_neg (by omega)]), fun z => go1 0 (by rw [if_neg (by omega)]) (by omega)⟩, fun q2 => ⟨by omega, by omega, by omega, by omega, go2 1 (by rw [if_pos (by omega)]), fun z => go1 1 (by rw [if_pos (by omega)]) (by omega)⟩⟩⟩⟩
