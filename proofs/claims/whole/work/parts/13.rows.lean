/-! rows of the layout -/
theorem G_1 : G 1 = (8, 4) := by decide
theorem G_2 : G 2 = (7, 12) := by decide
theorem G_3 : G 3 = (5, 2) := by decide
theorem G_4 : G 4 = (14, 30) := by decide
theorem G_35 : G 35 = (0, 4) := by decide
theorem G_36 : G 36 = (10, 3) := by decide
theorem G_37 : G 37 = (10, 61) := by decide
theorem G_38 : G 38 = (10, 7) := by decide
theorem G_39 : G 39 = (10, 7) := by decide
theorem G_40 : G 40 = (6, 4) := by decide
theorem G_41 : G 41 = (10, 30) := by decide
theorem G_42 : G 42 = (10, 30) := by decide
theorem G_43 : G 43 = (10, 30) := by decide
theorem G_44 : G 44 = (6, 4) := by decide
theorem G_45 : G 45 = (10, 30) := by decide
theorem G_46 : G 46 = (10, 30) := by decide
theorem G_47 : G 47 = (10, 30) := by decide
theorem G_48 : G 48 = (10, 90) := by decide
theorem G_49 : G 49 = (16, 90) := by decide
theorem G_140 : G 140 = (10, 61) := by decide
theorem G_141 : G 141 = (10, 61) := by decide
theorem G_142 : G 142 = (10, 61) := by decide
theorem G_143 : G 143 = (10, 61) := by decide
theorem G_144 : G 144 = (10, 41) := by decide
theorem G_145 : G 145 = (4, 2) := by decide
theorem G_146 : G 146 = (16, 31) := by decide
theorem G_178 : G 178 = (10, 30) := by decide
theorem G_179 : G 179 = (1, 12) := by decide
theorem G_180 : G 180 = (10, 4) := by decide
theorem G_181 : G 181 = (10, 4) := by decide
theorem G_182 : G 182 = (10, 40) := by decide
theorem G_183 : G 183 = (10, 40) := by decide
theorem G_184 : G 184 = (16, 4) := by decide
theorem G_189 : G 189 = (16, 8) := by decide
theorem G_198 : G 198 = (16, 8) := by decide
theorem G_207 : G 207 = (15, 8) := by decide
theorem G_240 : G 240 = (9, 38) := by decide
theorem G_241 : G 241 = (10, 30) := by decide
theorem G_242 : G 242 = (10, 30) := by decide
theorem G_243 : G 243 = (10, 30) := by decide
theorem G_244 : G 244 = (10, 30) := by decide
theorem G_245 : G 245 = (10, 30) := by decide
theorem G_246 : G 246 = (10, 7) := by decide
theorem G_247 : G 247 = (10, 7) := by decide
theorem G_248 : G 248 = (13, 41) := by decide
theorem G_249 : G 249 = (11, 41) := by decide
theorem G_250 : G 250 = (10, 30) := by decide
theorem G_251 : G 251 = (10, 30) := by decide
theorem G_252 : G 252 = (11, 5490) := by decide
theorem G_253 : G 253 = (10, 61) := by decide
theorem G_254 : G 254 = (10, 90) := by decide
theorem G_255 : G 255 = (11, 61) := by decide
theorem G_256 : G 256 = (11, 61) := by decide
theorem G_257 : G 257 = (10, 1891) := by decide
theorem G_258 : G 258 = (10, 4) := by decide
theorem G_259 : G 259 = (10, 4) := by decide
theorem G_260 : G 260 = (11, 13120) := by decide
theorem G_261 : G 261 = (10, 40) := by decide
theorem G_262 : G 262 = (10, 40) := by decide
theorem G_263 : G 263 = (10, 40) := by decide
theorem G_264 : G 264 = (10, 8) := by decide
theorem G_265 : G 265 = (10, 8) := by decide
theorem G_266 : G 266 = (10, 8) := by decide
theorem G_267 : G 267 = (10, 8) := by decide
theorem G_268 : G 268 = (10, 8) := by decide
theorem G_269 : G 269 = (10, 8) := by decide
theorem G_270 : G 270 = (10, 480) := by decide
theorem G_271 : G 271 = (10, 60) := by decide
theorem G_272 : G 272 = (11, 1) := by decide
/-- the references, once all is made -/
def PF (a i : Int) : Option Int :=
  if a = 1 then (if i = 0 then some 2 else if i = 1 then some 145 else if i = 2 then some 179 else if i = 3 then some 207 else none)
  else   if a = 2 then (if i = 0 then some 3 else if i = 1 then some 35 else if i = 3 then some 40 else if i = 4 then some 44 else if i = 5 then some 48 else if i = 6 then some 49 else if i = 7 then some 140 else if i = 8 then some 141 else if i = 9 then some 142 else if i = 10 then some 143 else if i = 11 then some 144 else none)
  else   if a = 3 then (if i = 0 then some 4 else none)
  else   if a = 35 then (if i = 0 then some 36 else if i = 1 then some 37 else if i = 2 then some 38 else if i = 3 then some 39 else none)
  else   if a = 40 then (if i = 0 then some 41 else if i = 1 then some 42 else if i = 2 then some 43 else none)
  else   if a = 44 then (if i = 0 then some 45 else if i = 1 then some 46 else if i = 2 then some 47 else none)
  else   if a = 145 then (if i = 0 then some 146 else if i = 1 then some 178 else none)
  else   if a = 179 then (if i = 0 then some 180 else if i = 1 then some 181 else if i = 2 then some 182 else if i = 3 then some 183 else if i = 8 then some 184 else if i = 9 then some 189 else if i = 10 then some 198 else none)
  else   if a = 240 then (if i = 6 then some 241 else if i = 7 then some 242 else if i = 8 then some 243 else if i = 9 then some 244 else if i = 10 then some 245 else if i = 11 then some 246 else if i = 12 then some 247 else if i = 13 then some 248 else if i = 14 then some 249 else if i = 15 then some 250 else if i = 16 then some 251 else if i = 17 then some 252 else if i = 18 then some 253 else if i = 19 then some 254 else if i = 20 then some 255 else if i = 21 then some 256 else if i = 22 then some 257 else if i = 23 then some 258 else if i = 24 then some 259 else if i = 26 then some 260 else if i = 27 then some 261 else if i = 28 then some 262 else if i = 29 then some 263 else if i = 30 then some 264 else if i = 31 then some 265 else if i = 32 then some 266 else if i = 33 then some 267 else if i = 34 then some 268 else if i = 35 then some 269 else if i = 36 then some 270 else if i = 37 then some 271 else none)
  else if a = 4 then (if 0 ≤ i ∧ i < 30 then some (5 + i) else none)
  else if a = 49 then (if 0 ≤ i ∧ i < 90 then some (50 + i) else none)
  else if a = 146 then (if 0 ≤ i ∧ i < 31 then some (147 + i) else none)
  else if a = 184 then (if 0 ≤ i ∧ i < 4 then some (185 + i) else none)
  else if a = 189 then (if 0 ≤ i ∧ i < 8 then some (190 + i) else none)
  else if a = 198 then (if 0 ≤ i ∧ i < 8 then some (199 + i) else none)
  else if a = 207 then (if 0 ≤ i ∧ i < 8 then some (208 + 4 * i) else none)
  else if 208 ≤ a ∧ a ≤ 236 ∧ (a - 208) % 4 = 0 then (if i = 2 then some (a + 1) else if i = 3 then some (a + 2) else if i = 4 then some (a + 3) else none)
  else none
theorem PF_1_0 : PF 1 0 = some 2 := by decide
theorem PF_1_1 : PF 1 1 = some 145 := by decide
theorem PF_1_2 : PF 1 2 = some 179 := by decide
theorem PF_1_3 : PF 1 3 = some 207 := by decide
theorem PF_2_0 : PF 2 0 = some 3 := by decide
theorem PF_2_1 : PF 2 1 = some 35 := by decide
theorem PF_2_3 : PF 2 3 = some 40 := by decide
theorem PF_2_4 : PF 2 4 = some 44 := by decide
theorem PF_2_5 : PF 2 5 = some 48 := by decide
theorem PF_2_6 : PF 2 6 = some 49 := by decide
theorem PF_2_7 : PF 2 7 = some 140 := by decide
theorem PF_2_8 : PF 2 8 = some 141 := by decide
theorem PF_2_9 : PF 2 9 = some 142 := by decide
theorem PF_2_10 : PF 2 10 = some 143 := by decide
theorem PF_2_11 : PF 2 11 = some 144 := by decide
theorem PF_3_0 : PF 3 0 = some 4 := by decide
theorem PF_35_0 : PF 35 0 = some 36 := by decide
theorem PF_35_1 : PF 35 1 = some 37 := by decide
theorem PF_35_2 : PF 35 2 = some 38 := by decide
theorem PF_35_3 : PF 35 3 = some 39 := by decide
theorem PF_40_0 : PF 40 0 = some 41 := by decide
theorem PF_40_1 : PF 40 1 = some 42 := by decide
theorem PF_40_2 : PF 40 2 = some 43 := by decide
theorem PF_44_0 : PF 44 0 = some 45 := by decide
theorem PF_44_1 : PF 44 1 = some 46 := by decide
theorem PF_44_2 : PF 44 2 = some 47 := by decide
theorem PF_145_0 : PF 145 0 = some 146 := by decide
theorem PF_145_1 : PF 145 1 = some 178 := by decide
theorem PF_179_0 : PF 179 0 = some 180 := by decide
theorem PF_179_1 : PF 179 1 = some 181 := by decide
theorem PF_179_2 : PF 179 2 = some 182 := by decide
theorem PF_179_3 : PF 179 3 = some 183 := by decide
theorem PF_179_8 : PF 179 8 = some 184 := by decide
theorem PF_179_9 : PF 179 9 = some 189 := by decide
theorem PF_179_10 : PF 179 10 = some 198 := by decide
theorem PF_240_6 : PF 240 6 = some 241 := by decide
theorem PF_240_7 : PF 240 7 = some 242 := by decide
theorem PF_240_8 : PF 240 8 = some 243 := by decide
theorem PF_240_9 : PF 240 9 = some 244 := by decide
theorem PF_240_10 : PF 240 10 = some 245 := by decide
theorem PF_240_11 : PF 240 11 = some 246 := by decide
theorem PF_240_12 : PF 240 12 = some 247 := by decide
theorem PF_240_13 : PF 240 13 = some 248 := by decide
theorem PF_240_14 : PF 240 14 = some 249 := by decide
theorem PF_240_15 : PF 240 15 = some 250 := by decide
theorem PF_240_16 : PF 240 16 = some 251 := by decide
theorem PF_240_17 : PF 240 17 = some 252 := by decide
theorem PF_240_18 : PF 240 18 = some 253 := by decide
theorem PF_240_19 : PF 240 19 = some 254 := by decide
theorem PF_240_20 : PF 240 20 = some 255 := by decide
theorem PF_240_21 : PF 240 21 = some 256 := by decide
theorem PF_240_22 : PF 240 22 = some 257 := by decide
theorem PF_240_23 : PF 240 23 = some 258 := by decide
theorem PF_240_24 : PF 240 24 = some 259 := by decide
theorem PF_240_26 : PF 240 26 = some 260 := by decide
theorem PF_240_27 : PF 240 27 = some 261 := by decide
theorem PF_240_28 : PF 240 28 = some 262 := by decide
theorem PF_240_29 : PF 240 29 = some 263 := by decide
theorem PF_240_30 : PF 240 30 = some 264 := by decide
theorem PF_240_31 : PF 240 31 = some 265 := by decide
theorem PF_240_32 : PF 240 32 = some 266 := by decide
theorem PF_240_33 : PF 240 33 = some 267 := by decide
theorem PF_240_34 : PF 240 34 = some 268 := by decide
theorem PF_240_35 : PF 240 35 = some 269 := by decide
theorem PF_240_36 : PF 240 36 = some 270 := by decide
theorem PF_240_37 : PF 240 37 = some 271 := by decide
theorem PF_st {i : Int} (h0 : 0 ≤ i) (h1 : i < 30) : PF 4 i = some (5 + i) := by
  have e : (PF 4 i) = (if 0 ≤ i ∧ i < 30 then some (5 + i) else none) := rfl
  rw [e, if_pos ⟨h0, h1⟩]
theorem PF_rest {i : Int} (h0 : 0 ≤ i) (h1 : i < 90) : PF 49 i = some (50 + i) := by
  have e : (PF 49 i) = (if 0 ≤ i ∧ i < 90 then some (50 + i) else none) := rfl
  rw [e, if_pos ⟨h0, h1⟩]
theorem PF_most {i : Int} (h0 : 0 ≤ i) (h1 : i < 31) : PF 146 i = some (147 + i) := by
  have e : (PF 146 i) = (if 0 ≤ i ∧ i < 31 then some (147 + i) else none) := rfl
  rw [e, if_pos ⟨h0, h1⟩]
theorem PF_stint {i : Int} (h0 : 0 ≤ i) (h1 : i < 4) : PF 184 i = some (185 + i) := by
  have e : (PF 184 i) = (if 0 ≤ i ∧ i < 4 then some (185 + i) else none) := rfl
  rw [e, if_pos ⟨h0, h1⟩]
theorem PF_fresh {i : Int} (h0 : 0 ≤ i) (h1 : i < 8) : PF 189 i = some (190 + i) := by
  have e : (PF 189 i) = (if 0 ≤ i ∧ i < 8 then some (190 + i) else none) := rfl
  rw [e, if_pos ⟨h0, h1⟩]
theorem PF_after {i : Int} (h0 : 0 ≤ i) (h1 : i < 8) : PF 198 i = some (199 + i) := by
  have e : (PF 198 i) = (if 0 ≤ i ∧ i < 8 then some (199 + i) else none) := rfl
  rw [e, if_pos ⟨h0, h1⟩]
theorem PF_shelf {i : Int} (h0 : 0 ≤ i) (h1 : i < 8) : PF 207 i = some (208 + 4 * i) := by
  have e : (PF 207 i) = (if 0 ≤ i ∧ i < 8 then some (208 + 4 * i) else none) := rfl
  rw [e, if_pos ⟨h0, h1⟩]
theorem G_rng {a : Int} {k n : Nat} (P : Int → Prop) (h : ∀ j : Nat, j < 273 → P j → G j = (k, n)) (h0 : 0 ≤ a) (h1 : a < 273) (hp : P a) : G a = (k, n) := by
  have e : ((a.toNat : Nat) : Int) = a := by omega
  have := h a.toNat (by omega) (by rw [e]; exact hp)
  rwa [e] at this
theorem G_st {a : Int} (h0 : 5 ≤ a) (h1 : a ≤ 34) : G a = (3, 5) :=
  G_rng (fun a => 5 ≤ a ∧ a ≤ 34) (by decide +kernel) (by omega) (by omega) ⟨h0, h1⟩
theorem G_row {a : Int} (h0 : 50 ≤ a) (h1 : a ≤ 143) : G a = (10, 61) :=
  G_rng (fun a => 50 ≤ a ∧ a ≤ 143) (by decide +kernel) (by omega) (by omega) ⟨h0, h1⟩
theorem G_most {a : Int} (h0 : 147 ≤ a) (h1 : a ≤ 177) : G a = (10, 61) :=
  G_rng (fun a => 147 ≤ a ∧ a ≤ 177) (by decide +kernel) (by omega) (by omega) ⟨h0, h1⟩
theorem G_stint {a : Int} (h0 : 185 ≤ a) (h1 : a ≤ 188) : G a = (10, 41) :=
  G_rng (fun a => 185 ≤ a ∧ a ≤ 188) (by decide +kernel) (by omega) (by omega) ⟨h0, h1⟩
theorem G_fresh {a : Int} (h0 : 190 ≤ a) (h1 : a ≤ 197) : G a = (10, 41) :=
  G_rng (fun a => 190 ≤ a ∧ a ≤ 197) (by decide +kernel) (by omega) (by omega) ⟨h0, h1⟩
theorem G_after {a : Int} (h0 : 199 ≤ a) (h1 : a ≤ 206) : G a = (10, 41) :=
  G_rng (fun a => 199 ≤ a ∧ a ≤ 206) (by decide +kernel) (by omega) (by omega) ⟨h0, h1⟩
theorem G_sh0 {d : Int} (h0 : 0 ≤ d) (h1 : d < 8) : G (208 + 4 * d + 0) = (2, 5) :=
  G_rng (fun a => 208 ≤ a ∧ a ≤ 239 ∧ (a - 208) % 4 = 0) (by decide +kernel) (by omega) (by omega) ⟨by omega, by omega, by omega⟩
theorem G_sh1 {d : Int} (h0 : 0 ≤ d) (h1 : d < 8) : G (208 + 4 * d + 1) = (3, 5) :=
  G_rng (fun a => 208 ≤ a ∧ a ≤ 239 ∧ (a - 208) % 4 = 1) (by decide +kernel) (by omega) (by omega) ⟨by omega, by omega, by omega⟩
theorem G_sh2 {d : Int} (h0 : 0 ≤ d) (h1 : d < 8) : G (208 + 4 * d + 2) = (10, 60) :=
  G_rng (fun a => 208 ≤ a ∧ a ≤ 239 ∧ (a - 208) % 4 = 2) (by decide +kernel) (by omega) (by omega) ⟨by omega, by omega, by omega⟩
theorem G_sh3 {d : Int} (h0 : 0 ≤ d) (h1 : d < 8) : G (208 + 4 * d + 3) = (12, 60) :=
  G_rng (fun a => 208 ≤ a ∧ a ≤ 239 ∧ (a - 208) % 4 = 3) (by decide +kernel) (by omega) (by omega) ⟨by omega, by omega, by omega⟩
theorem PF_sh2 {d : Int} (h0 : 0 ≤ d) (h1 : d < 8) : PF (208 + 4 * d) 2 = some (208 + 4 * d + 1) := by
  unfold PF
  simp only [show ¬ (208 + 4 * d = 1) by omega, show ¬ (208 + 4 * d = 2) by omega, show ¬ (208 + 4 * d = 3) by omega, show ¬ (208 + 4 * d = 35) by omega, show ¬ (208 + 4 * d = 40) by omega, show ¬ (208 + 4 * d = 44) by omega, show ¬ (208 + 4 * d = 145) by omega, show ¬ (208 + 4 * d = 179) by omega, show ¬ (208 + 4 * d = 240) by omega, show ¬ (208 + 4 * d = 4) by omega, show ¬ (208 + 4 * d = 49) by omega, show ¬ (208 + 4 * d = 146) by omega, show ¬ (208 + 4 * d = 184) by omega, show ¬ (208 + 4 * d = 189) by omega, show ¬ (208 + 4 * d = 198) by omega, show ¬ (208 + 4 * d = 207) by omega, show 208 ≤ 208 + 4 * d ∧ 208 + 4 * d ≤ 236 ∧ (208 + 4 * d - 208) % 4 = 0 by omega, if_false, if_true, and_self]
  all_goals simp
theorem PF_sh3 {d : Int} (h0 : 0 ≤ d) (h1 : d < 8) : PF (208 + 4 * d) 3 = some (208 + 4 * d + 2) := by
  unfold PF
  simp only [show ¬ (208 + 4 * d = 1) by omega, show ¬ (208 + 4 * d = 2) by omega, show ¬ (208 + 4 * d = 3) by omega, show ¬ (208 + 4 * d = 35) by omega, show ¬ (208 + 4 * d = 40) by omega, show ¬ (208 + 4 * d = 44) by omega, show ¬ (208 + 4 * d = 145) by omega, show ¬ (208 + 4 * d = 179) by omega, show ¬ (208 + 4 * d = 240) by omega, show ¬ (208 + 4 * d = 4) by omega, show ¬ (208 + 4 * d = 49) by omega, show ¬ (208 + 4 * d = 146) by omega, show ¬ (208 + 4 * d = 184) by omega, show ¬ (208 + 4 * d = 189) by omega, show ¬ (208 + 4 * d = 198) by omega, show ¬ (208 + 4 * d = 207) by omega, show 208 ≤ 208 + 4 * d ∧ 208 + 4 * d ≤ 236 ∧ (208 + 4 * d - 208) % 4 = 0 by omega, if_false, if_true, and_self]
  all_goals simp
theorem PF_sh4 {d : Int} (h0 : 0 ≤ d) (h1 : d < 8) : PF (208 + 4 * d) 4 = some (208 + 4 * d + 3) := by
  unfold PF
  simp only [show ¬ (208 + 4 * d = 1) by omega, show ¬ (208 + 4 * d = 2) by omega, show ¬ (208 + 4 * d = 3) by omega, show ¬ (208 + 4 * d = 35) by omega, show ¬ (208 + 4 * d = 40) by omega, show ¬ (208 + 4 * d = 44) by omega, show ¬ (208 + 4 * d = 145) by omega, show ¬ (208 + 4 * d = 179) by omega, show ¬ (208 + 4 * d = 240) by omega, show ¬ (208 + 4 * d = 4) by omega, show ¬ (208 + 4 * d = 49) by omega, show ¬ (208 + 4 * d = 146) by omega, show ¬ (208 + 4 * d = 184) by omega, show ¬ (208 + 4 * d = 189) by omega, show ¬ (208 + 4 * d = 198) by omega, show ¬ (208 + 4 * d = 207) by omega, show 208 ≤ 208 + 4 * d ∧ 208 + 4 * d ≤ 236 ∧ (208 + 4 * d - 208) % 4 = 0 by omega, if_false, if_true, and_self]
  all_goals simp
def b2i (c : Prop) [Decidable c] : Int := if c then 1 else 0
theorem b2i_0 {c : Prop} [Decidable c] : (b2i c = 0) = ¬ c := by
  unfold b2i; by_cases h : c <;> simp [h]
theorem b2i_1 {c : Prop} [Decidable c] : (b2i c = 1) = c := by
  unfold b2i; by_cases h : c <;> simp [h]
theorem RI_b2i {c : Prop} [Decidable c] : RI (b2i c) = True := by
  unfold b2i; by_cases h : c <;> simp [h, RI]
theorem b2i_lo {c : Prop} [Decidable c] : (-2147483648 ≤ b2i c) = True := by
  unfold b2i; by_cases h : c <;> simp [h]
theorem b2i_hi {c : Prop} [Decidable c] : (b2i c < 2147483648) = True := by
  unfold b2i; by_cases h : c <;> simp [h]
theorem b2i_fit {c : Prop} [Decidable c] : (b2i c = 0 ∨ b2i c = 1) = True := by
  unfold b2i; by_cases h : c <;> simp [h]
theorem b2i_split {c : Prop} [Decidable c] {F : Int → Prop} (h : F (b2i c)) : (¬ c → F 0) ∧ (c → F 1) :=
  ⟨fun q => by unfold b2i at h; rwa [if_neg q] at h, fun q => by unfold b2i at h; rwa [if_pos q] at h⟩
