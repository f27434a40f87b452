/-! THE SMALL MACHINE, 2: what is owed at a point (wp), instruction by instruction -/
def getL : List (Option MV) → Nat → Option MV
  | [], _ => none
  | a :: _, 0 => a
  | _ :: l, n + 1 => getL l n
def setL : List (Option MV) → Nat → Option MV → List (Option MV)
  | [], _, _ => []
  | _ :: l, 0, v => v :: l
  | a :: l, n + 1, v => a :: setL l n v
def ltL : List (Option MV) → Nat → Bool
  | [], _ => false
  | _ :: _, 0 => true
  | _ :: l, n + 1 => ltL l n
def isLong : Option MV → Bool
  | some (.inr (.inl _)) => true
  | _ => false
/-- a long below the place goes when its second half is written -/
def killL : List (Option MV) → Nat → List (Option MV)
  | l, 0 => l
  | l, n + 1 => if isLong (getL l n) = true then setL l n none else l
def inl : List Nat → Nat → Bool
  | [], _ => false
  | a :: l, n => if a = n then true else inl l n
def pI (st : List MV) (f : Int → List MV → Prop) : Prop := match st with
  | .inl x :: r => f x r
  | _ => False
def pL (st : List MV) (f : Int → List MV → Prop) : Prop := match st with
  | .inr (.inl x) :: r => f x r
  | _ => False
def pR (st : List MV) (f : Int → List MV → Prop) : Prop := match st with
  | .inr (.inr (some a)) :: r => f a r
  | _ => False
def pA : Nat → List MV → List MV → (List MV → List MV → Prop) → Prop
  | 0, st, acc, f => f acc st
  | n + 1, v :: st, acc, f => pA n st (v :: acc) f
  | _ + 1, [], _, _ => False
def lI : List (Option MV) → Nat → (Int → Prop) → Prop
  | some (.inl v) :: _, 0, f => f v
  | _ :: l, n + 1, f => lI l n f
  | _, _, _ => False
def lL : List (Option MV) → Nat → (Int → Prop) → Prop
  | some (.inr (.inl v)) :: _, 0, f => f v
  | _ :: l, n + 1, f => lL l n f
  | _, _, _ => False
def lR : List (Option MV) → Nat → (Int → Prop) → Prop
  | some (.inr (.inr (some v))) :: _, 0, f => f v
  | _ :: l, n + 1, f => lR l n f
  | _, _, _ => False
def pV (st : List MV) (f : MV → List MV → Prop) : Prop := match st with
  | v :: r => f v r
  | [] => False
def cnd (cd : ClassFile.Cond) (x y : Int) : Prop := match cd with
  | .eq => x = y
  | .ne => ¬ x = y
  | .lt => x < y
  | .ge => y ≤ x
  | .gt => y < x
  | .le => x ≤ y
def br (c A B : Prop) : Prop := (c → A) ∧ (¬ c → B)
def tgt (ts : List Nat) : Nat := match ts with
  | t :: _ => t
  | [] => 0
def tsw (f : Nat → Prop) (x : Int) : Int → List Nat → Prop
  | _, [] => True
  | v, t :: ts => (x = v → f t) ∧ tsw f x (v + 1) ts
def lcm (x y : Int) : Int := if y < x then 1 else if x = y then 0 else -1
def rcv (rk : Nat) (As : List MV) : Prop := if 10 ≤ rk then True else match As with
  | .inr (.inr (some a)) :: _ => (G a).1 = rk ∧ 0 < a
  | _ => False
def rpl (r : Option MV) (st : List MV) : List MV := match r with
  | some v => v :: st
  | none => st
def mputI (σ : MS) (a i v : Int) : MS := (σ.1, σ.2.1, upI σ.2.2.1 a i v, σ.2.2.2)
def mputL (σ : MS) (a i v : Int) : MS := (σ.1, σ.2.1, σ.2.2.1, upI σ.2.2.2 a i v)
def mputP (σ : MS) (a i : Int) (v : Option Int) : MS := (σ.1, upP σ.2.1 a i v, σ.2.2.1, σ.2.2.2)
/-- a new cell: all its places 0 or null -/
def mnew (σ : MS) : MS := (σ.1 + 1, fun b i => if b = σ.1 then none else σ.2.1 b i, fun b i => if b = σ.1 then 0 else σ.2.2.1 b i, fun b i => if b = σ.1 then 0 else σ.2.2.2 b i)
/-- n new rows behind a new row that holds them -/
def mnewM (σ : MS) (n : Nat) : MS := (σ.1 + 1 + n, fun b i => if (σ.1 : Int) ≤ b then (if b = σ.1 ∧ 0 ≤ i ∧ i < n then some (σ.1 + 1 + i) else none) else σ.2.1 b i, fun b i => if (σ.1 : Int) ≤ b then 0 else σ.2.2.1 b i, fun b i => if (σ.1 : Int) ≤ b then 0 else σ.2.2.2 b i)
def atk (t : ArrayType) : Nat := match t with
  | .int => 10
  | .long => 11
  | .byte => 12
  | .boolean => 13
  | _ => 99
def oI (Z : Nat → Option (Int ⊕ Int)) (x : Nat) (f : Int → Prop) : Prop := match Z x with
  | some (.inl x) => f x
  | _ => False
def oL (Z : Nat → Option (Int ⊕ Int)) (x : Nat) (f : Int → Prop) : Prop := match Z x with
  | some (.inr x) => f x
  | _ => False
def oF (F : Nat → Option (Nat × Nat × Nat × Nat)) (x : Nat) (f : Nat → Nat → Nat → Nat → Prop) : Prop := match F x with
  | some (a, b, c, d) => f a b c d
  | none => False
def oN (U : Nat → Option Nat) (x : Nat) (f : Nat → Prop) (g : Prop) : Prop := match U x with
  | some a => f a
  | none => g
def oC (Y : Nat → Option CI) (x : Nat) (f : Nat → Nat → Nat → Nat → (List MV → MS → (Option MV → MS → Prop) → Prop) → Prop) : Prop := match Y x with
  | some (a, b, c, d, g) => f a b c d g
  | none => False
def oS (o : Option (Nat × (Int → Int))) (f : Nat → (Int → Int) → Prop) : Prop := match o with
  | some (a, b) => f a b
  | none => False
def fv (σ : MS) (a i : Int) (c : Nat) : MV := if c = 2 then .inr (.inr (σ.2.1 a i)) else if c = 1 then .inr (.inl (σ.2.2.2 a i)) else .inl (σ.2.2.1 a i)
def fp (c : Nat) (st : List MV) (σ : MS) (i : Int) (f : List MV → MS → Prop) : Prop := if c = 2 then (pR st fun v r => pR r fun a r => (G v).1 ≠ 17 ∧ f r (mputP σ a i (some v)))
  else if c = 1 then False
  else pI st fun x r => pR r fun a r => (c = 3 → x = 0 ∨ x = 1) ∧ f r (mputI σ a i x)
/-- the receiver of a put of kind c -/
def fr (st : List MV) : Int := match st with
  | _ :: .inr (.inr (some a)) :: _ => a
  | _ => 0
def nf (x : Fin 4) : Nat := x.val
theorem nf_0 : nf 0 = 0 := by decide
theorem nf_1 : nf 1 = 1 := by decide
theorem nf_2 : nf 2 = 2 := by decide
theorem nf_3 : nf 3 = 3 := by decide
def nf2 (x : Fin 2) : Int := x.val
theorem nf2_0 : nf2 0 = 0 := by decide
theorem nf2_1 : nf2 1 = 1 := by decide
def lIn (l : List (Option MV)) (x : Fin 4) (f : Int → Prop) : Prop := lI l (nf x) f
def lLn (l : List (Option MV)) (x : Fin 4) (f : Int → Prop) : Prop := lL l (nf x) f
def lRn (l : List (Option MV)) (x : Fin 4) (f : Int → Prop) : Prop := lR l (nf x) f
theorem lIn_0 (l : List (Option MV)) (f : Int → Prop) : lIn l 0 f = lI l 0 f := propext Iff.rfl
theorem lIn_1 (l : List (Option MV)) (f : Int → Prop) : lIn l 1 f = lI l 1 f := propext Iff.rfl
theorem lIn_2 (l : List (Option MV)) (f : Int → Prop) : lIn l 2 f = lI l 2 f := propext Iff.rfl
theorem lIn_3 (l : List (Option MV)) (f : Int → Prop) : lIn l 3 f = lI l 3 f := propext Iff.rfl
theorem lLn_0 (l : List (Option MV)) (f : Int → Prop) : lLn l 0 f = lL l 0 f := propext Iff.rfl
theorem lLn_1 (l : List (Option MV)) (f : Int → Prop) : lLn l 1 f = lL l 1 f := propext Iff.rfl
theorem lLn_2 (l : List (Option MV)) (f : Int → Prop) : lLn l 2 f = lL l 2 f := propext Iff.rfl
theorem lLn_3 (l : List (Option MV)) (f : Int → Prop) : lLn l 3 f = lL l 3 f := propext Iff.rfl
theorem lRn_0 (l : List (Option MV)) (f : Int → Prop) : lRn l 0 f = lR l 0 f := propext Iff.rfl
theorem lRn_1 (l : List (Option MV)) (f : Int → Prop) : lRn l 1 f = lR l 1 f := propext Iff.rfl
theorem lRn_2 (l : List (Option MV)) (f : Int → Prop) : lRn l 2 f = lR l 2 f := propext Iff.rfl
theorem lRn_3 (l : List (Option MV)) (f : Int → Prop) : lRn l 3 f = lR l 3 f := propext Iff.rfl
def stp (F : Nat → Option (Nat × Nat × Nat × Nat)) (Y : Nat → Option CI) (Z : Nat → Option (Int ⊕ Int)) (U : Nat → Option Nat) (S : Option (Nat × (Int → Int))) (ini : Bool) (mc ms : Nat) (post : Option MV → MS → Prop) (K : Pt → Prop)
    (nx : List ME → Nat → List (Option MV) → List MV → MS → Nat → Nat → Prop) (i : Instr) (len : Nat) (ts : List Nat) (b : List ME) (pc : Nat) (ls : List (Option MV)) (st : List MV) (σ : MS) (k j : Nat) : Prop :=
  match i with
  | .iconst n => nx b (pc + len) ls (.inl n :: st) σ k j
  | .bipush n => nx b (pc + len) ls (.inl n :: st) σ k j
  | .sipush n => nx b (pc + len) ls (.inl n :: st) σ k j
  | .lconst n => nx b (pc + len) ls (.inr (.inl (nf2 n)) :: st) σ k j
  | .ldc x => oI Z x fun v => nx b (pc + len) ls (.inl v :: st) σ k j
  | .ldc_w x => oI Z x fun v => nx b (pc + len) ls (.inl v :: st) σ k j
  | .ldc2_w x => oL Z x fun v => nx b (pc + len) ls (.inr (.inl v) :: st) σ k j
  | .iload x => lI ls x fun v => nx b (pc + len) ls (.inl v :: st) σ k j
  | .iload_n x => lIn ls x fun v => nx b (pc + len) ls (.inl v :: st) σ k j
  | .lload x => lL ls x fun v => nx b (pc + len) ls (.inr (.inl v) :: st) σ k j
  | .lload_n x => lLn ls x fun v => nx b (pc + len) ls (.inr (.inl v) :: st) σ k j
  | .aload x => lR ls x fun v => nx b (pc + len) ls (.inr (.inr (some v)) :: st) σ k j
  | .aload_n x => lRn ls x fun v => nx b (pc + len) ls (.inr (.inr (some v)) :: st) σ k j
  | .istore x => pI st fun v r => ltL ls x = true ∧ nx b (pc + len) (setL (killL ls x) x (some (.inl v))) r σ k j
  | .istore_n x => pI st fun v r => ltL ls (nf x) = true ∧ nx b (pc + len) (setL (killL ls (nf x)) (nf x) (some (.inl v))) r σ k j
  | .astore x => pR st fun v r => ltL ls x = true ∧ nx b (pc + len) (setL (killL ls x) x (some (.inr (.inr (some v))))) r σ k j
  | .astore_n x => pR st fun v r => ltL ls (nf x) = true ∧ nx b (pc + len) (setL (killL ls (nf x)) (nf x) (some (.inr (.inr (some v))))) r σ k j
  | .lstore x => pL st fun v r => ltL ls (x + 1) = true ∧ nx b (pc + len) (setL (setL (killL ls x) x (some (.inr (.inl v)))) (x + 1) none) r σ k j
  | .lstore_n x => pL st fun v r => ltL ls ((nf x) + 1) = true ∧ nx b (pc + len) (setL (setL (killL ls (nf x)) (nf x) (some (.inr (.inl v)))) ((nf x) + 1) none) r σ k j
  | .iinc x n => lI ls x fun v => nx b (pc + len) (setL (killL ls x) x (some (.inl (v + n)))) st σ k j
  | .iadd => pI st fun y r => pI r fun x r => nx b (pc + len) ls (.inl (x + y) :: r) σ k j
  | .isub => pI st fun y r => pI r fun x r => nx b (pc + len) ls (.inl (x - y) :: r) σ k j
  | .imul => pI st fun y r => pI r fun x r => nx b (pc + len) ls (.inl (x * y) :: r) σ k j
  | .idiv => pI st fun y r => pI r fun x r => RI x ∧ RI y ∧ y ≠ 0 ∧ nx b (pc + len) ls (.inl (x.tdiv y) :: r) σ k j
  | .irem => pI st fun y r => pI r fun x r => RI x ∧ RI y ∧ y ≠ 0 ∧ nx b (pc + len) ls (.inl (x.tmod y) :: r) σ k j
  | .iand => pI st fun y r => pI r fun x r => nx b (pc + len) ls (.inl (Int32.ofInt x &&& Int32.ofInt y).toInt :: r) σ k j
  | .ior => pI st fun y r => pI r fun x r => nx b (pc + len) ls (.inl (Int32.ofInt x ||| Int32.ofInt y).toInt :: r) σ k j
  | .ishl => pI st fun y r => pI r fun x r => nx b (pc + len) ls (.inl (Int32.ofInt x <<< (Int32.ofInt y &&& 31)).toInt :: r) σ k j
  | .ladd => pL st fun y r => pL r fun x r => nx b (pc + len) ls (.inr (.inl (x + y)) :: r) σ k j
  | .lsub => pL st fun y r => pL r fun x r => nx b (pc + len) ls (.inr (.inl (x - y)) :: r) σ k j
  | .lcmp => pL st fun y r => pL r fun x r => RLg x ∧ RLg y ∧ nx b (pc + len) ls (.inl (lcm x y) :: r) σ k j
  | .i2l => pI st fun x r => RI x ∧ nx b (pc + len) ls (.inr (.inl x) :: r) σ k j
  | .i2b => pI st fun x r => -128 ≤ x ∧ x ≤ 127 ∧ nx b (pc + len) ls (.inl x :: r) σ k j
  | .dup => pV st fun v r => mcat v = 1 ∧ nx b (pc + len) ls (v :: v :: r) σ k j
  | .dup2 => pV st fun v r => pV r fun w r => mcat v = 1 ∧ mcat w = 1 ∧ nx b (pc + len) ls (v :: w :: v :: w :: r) σ k j
  | .goto _ => nx [] (tgt ts) ls st σ k j
  | .ifCond cd _ => pI st fun x r => RI x ∧ br (cnd cd x 0) (nx [] (tgt ts) ls r σ k j) (nx b (pc + len) ls r σ k j)
  | .if_icmp cd _ => pI st fun y r => pI r fun x r => RI x ∧ RI y ∧ br (cnd cd x y) (nx [] (tgt ts) ls r σ k j) (nx b (pc + len) ls r σ k j)
  | .tableswitch _ lo hi _ => pI st fun x r => RI x ∧ ((x < lo ∨ hi < x) → nx [] (tgt ts) ls r σ k j) ∧ tsw (fun t => nx [] t ls r σ k j) x lo ts.tail
  | .getfield x => oF F x fun ci fi c _ => pR st fun a r => (G a).1 = ci ∧ nx b (pc + len) ls (fv σ a fi c :: r) σ k j
  | .putfield x => oF F x fun ci fi c fw => (fw = 0 ∨ fw = 1 ∧ ini = true) ∧ (G (fr st)).1 = ci ∧ fp c st σ fi fun r σ' => nx b (pc + len) ls r σ' k j
  | .iaload => pI st fun i r => pR r fun a r => if (G a).1 = 17 then (oS S fun L xs => 0 ≤ i ∧ i < L ∧ nx b (pc + len) ls (.inl (xs i) :: r) σ k j)
      else (G a).1 = 10 ∧ 0 ≤ i ∧ i < (G a).2 ∧ nx b (pc + len) ls (.inl (σ.2.2.1 a i) :: r) σ k j
  | .baload => pI st fun i r => pR r fun a r => ((G a).1 = 12 ∨ (G a).1 = 13) ∧ 0 ≤ i ∧ i < (G a).2 ∧ nx b (pc + len) ls (.inl (σ.2.2.1 a i) :: r) σ k j
  | .laload => pI st fun i r => pR r fun a r => (G a).1 = 11 ∧ 0 ≤ i ∧ i < (G a).2 ∧ nx b (pc + len) ls (.inr (.inl (σ.2.2.2 a i)) :: r) σ k j
  | .aaload => pI st fun i r => pR r fun a r => ((G a).1 = 14 ∨ (G a).1 = 15 ∨ (G a).1 = 16) ∧ 0 ≤ i ∧ i < (G a).2 ∧ nx b (pc + len) ls (.inr (.inr (σ.2.1 a i)) :: r) σ k j
  | .iastore => pI st fun x r => pI r fun i r => pR r fun a r => (G a).1 = 10 ∧ 0 ≤ i ∧ i < (G a).2 ∧ nx b (pc + len) ls r (mputI σ a i x) k j
  | .bastore => pI st fun x r => pI r fun i r => pR r fun a r => ((G a).1 = 12 ∧ -128 ≤ x ∧ x ≤ 127 ∨ (G a).1 = 13 ∧ (x = 0 ∨ x = 1)) ∧ 0 ≤ i ∧ i < (G a).2 ∧ nx b (pc + len) ls r (mputI σ a i x) k j
  | .lastore => pL st fun x r => pI r fun i r => pR r fun a r => (G a).1 = 11 ∧ 0 ≤ i ∧ i < (G a).2 ∧ nx b (pc + len) ls r (mputL σ a i x) k j
  | .aastore => pR st fun x r => pI r fun i r => pR r fun a r => ((G a).1 = 14 ∧ (G x).1 = 3 ∨ (G a).1 = 15 ∧ (G x).1 = 2) ∧ 0 ≤ i ∧ i < (G a).2 ∧ nx b (pc + len) ls r (mputP σ a i (some x)) k j
  | .arraylength => pR st fun a r => if (G a).1 = 17 then (oS S fun L _ => nx b (pc + len) ls (.inl L :: r) σ k j)
      else 10 ≤ (G a).1 ∧ (G a).1 ≤ 16 ∧ nx b (pc + len) ls (.inl (G a).2 :: r) σ k j
  | .newarray t => pI st fun n r => 0 ≤ n ∧ n ≤ 100000 ∧ atk t ≤ 13 ∧ G σ.1 = (atk t, n.toNat) ∧ k + 1 ≤ mc ∧ j + n.toNat ≤ ms ∧ nx b (pc + len) ls (.inr (.inr (some σ.1)) :: r) (mnew σ) (k + 1) (j + n.toNat)
  | .anewarray x => oN U (x + 100000) (fun t => pI st fun n r => 0 ≤ n ∧ n ≤ 100000 ∧ (t = 14 ∨ t = 15) ∧ G σ.1 = (t, n.toNat) ∧ k + 1 ≤ mc ∧ j + n.toNat ≤ ms ∧ nx b (pc + len) ls (.inr (.inr (some σ.1)) :: r) (mnew σ) (k + 1) (j + n.toNat)) False
  | .multianewarray x _ => oN U x (fun t => pI st fun q r => pI r fun n r => 0 ≤ n ∧ n ≤ 1000 ∧ 0 ≤ q ∧ q ≤ 1000 ∧ t = 16 ∧ G σ.1 = (16, n.toNat) ∧ (∀ i : Nat, i < n.toNat → G (σ.1 + 1 + i) = (10, q.toNat)) ∧ k + 1 + n.toNat ≤ mc ∧ j + n.toNat + n.toNat * q.toNat ≤ ms ∧
      nx b (pc + len) ls (.inr (.inr (some σ.1)) :: r) (mnewM σ n.toNat) (k + 1 + n.toNat) (j + n.toNat + n.toNat * q.toNat)) False
  | .new x => oN U x (fun ci => ci < 10 ∧ (G σ.1).1 = ci ∧ k + 1 ≤ mc ∧ j + nfs ci ≤ ms ∧ nx b (pc + len) ls (.inr (.inr (some σ.1)) :: st) (mnew σ) (k + 1) (j + nfs ci)) (K (pc, ls, st, σ, k, j))
  | .invokevirtual x => oC Y x fun n rk mc' ms' sp => rk < 10 ∧ pA n st [] fun As r => rcv rk As ∧ mcs r ≤ 8 ∧ k + mc' ≤ mc ∧ j + ms' ≤ ms ∧ sp As σ (fun v σ' => nx b (pc + len) ls (rpl v r) σ' (k + mc') (j + ms'))
  | .invokespecial x => oC Y x fun n rk mc' ms' sp => 20 ≤ rk ∧ pA n st [] fun As r => rcv rk As ∧ mcs r ≤ 8 ∧ k + mc' ≤ mc ∧ j + ms' ≤ ms ∧ sp As σ (fun v σ' => nx b (pc + len) ls (rpl v r) σ' (k + mc') (j + ms'))
  | .invokestatic x => oC Y x fun n rk mc' ms' sp => rk = 10 ∧ pA n st [] fun As r => rcv rk As ∧ mcs r ≤ 8 ∧ k + mc' ≤ mc ∧ j + ms' ≤ ms ∧ sp As σ (fun v σ' => nx b (pc + len) ls (rpl v r) σ' (k + mc') (j + ms'))
  | .ireturn => (match st with
    | [.inl v] => k ≤ mc ∧ j ≤ ms ∧ post (some (.inl v)) σ
    | _ => False)
  | .lreturn => (match st with
    | [.inr (.inl v)] => k ≤ mc ∧ j ≤ ms ∧ post (some (.inr (.inl v))) σ
    | _ => False)
  | .areturn => (match st with
    | [.inr (.inr v)] => k ≤ mc ∧ j ≤ ms ∧ post (some (.inr (.inr v))) σ
    | _ => False)
  | .return_ => (match st with
    | [] => k ≤ mc ∧ j ≤ ms ∧ post none σ
    | _ => False)
  | _ => False
def wpD (B : Nat → List ME) (cuts : List Nat) (F : Nat → Option (Nat × Nat × Nat × Nat)) (Y : Nat → Option CI) (Z : Nat → Option (Int ⊕ Int)) (U : Nat → Option Nat) (S : Option (Nat × (Int → Int))) (ini : Bool) (mc ms : Nat) (post : Option MV → MS → Prop) (K : Pt → Prop) :
    Nat → List ME → Nat → List (Option MV) → List MV → MS → Nat → Nat → Prop
  | 0, _, _, _, _, _, _, _ => False
  | n + 1, [], pc, ls, st, σ, k, j => if inl cuts pc = true then K (pc, ls, st, σ, k, j) else wpD B cuts F Y Z U S ini mc ms post K n (B pc) pc ls st σ k j
  | n + 1, (i, len, ts) :: b, pc, ls, st, σ, k, j => stp F Y Z U S ini mc ms post K (wpD B cuts F Y Z U S ini mc ms post K n) i len ts b pc ls st σ k j
theorem wp_ex : ∃ f : (Nat → List ME) → List Nat → (Nat → Option (Nat × Nat × Nat × Nat)) → (Nat → Option CI) → (Nat → Option (Int ⊕ Int)) → (Nat → Option Nat) → Option (Nat × (Int → Int)) → Bool → Nat → Nat → (Option MV → MS → Prop) → (Pt → Prop) → Nat → List ME → Nat → List (Option MV) → List MV → MS → Nat → Nat → Prop, f = wpD := ⟨wpD, rfl⟩
/-- the same, closed to the kernel's unfolding -/
noncomputable def wp : (Nat → List ME) → List Nat → (Nat → Option (Nat × Nat × Nat × Nat)) → (Nat → Option CI) → (Nat → Option (Int ⊕ Int)) → (Nat → Option Nat) → Option (Nat × (Int → Int)) → Bool → Nat → Nat → (Option MV → MS → Prop) → (Pt → Prop) → Nat → List ME → Nat → List (Option MV) → List MV → MS → Nat → Nat → Prop := Classical.choose wp_ex
theorem wp_eq : wp = wpD := Classical.choose_spec wp_ex
theorem wp_0 (B : Nat → List ME) (cuts : List Nat) (F : Nat → Option (Nat × Nat × Nat × Nat)) (Y : Nat → Option CI) (Z : Nat → Option (Int ⊕ Int)) (U : Nat → Option Nat) (S : Option (Nat × (Int → Int))) (ini : Bool) (mc ms : Nat) (post : Option MV → MS → Prop) (K : Pt → Prop) (b : List ME) (pc : Nat) (ls : List (Option MV)) (st : List MV) (σ : MS) (k j : Nat) :
    wp B cuts F Y Z U S ini mc ms post K 0 b pc ls st σ k j = False := by rw [wp_eq]; rfl
/-- the static look at a block -/
def chkT (pc : Nat) (i : Instr) (len : Nat) (ts : List Nat) : Bool := match i with
  | .goto off => decide (len = 3) && (match ts with
    | [t] => decide ((pc : Int) + off = t)
    | _ => false)
  | .ifCond _ off => decide (len = 3) && (match ts with
    | [t] => decide ((pc : Int) + off = t)
    | _ => false)
  | .if_icmp _ off => decide (len = 3) && (match ts with
    | [t] => decide ((pc : Int) + off = t)
    | _ => false)
  | .tableswitch d lo hi offs => decide (ts.map (fun (t : Nat) => (t : Int)) = ((d :: offs.toList).map fun o => (pc : Int) + o)) && decide (hi - lo + 1 = offs.toList.length)
  | .bipush n => decide (-128 ≤ n ∧ n ≤ 127)
  | .sipush n => decide (-32768 ≤ n ∧ n ≤ 32767)
  | .multianewarray _ d => decide (d = 2)
  | _ => true
def ilen (i : Instr) : Nat := match i with
  | .bipush _ => 2
  | .sipush _ => 3
  | .ldc _ => 2
  | .ldc_w _ => 3
  | .ldc2_w _ => 3
  | .iload _ => 2
  | .lload _ => 2
  | .aload _ => 2
  | .istore _ => 2
  | .lstore _ => 2
  | .astore _ => 2
  | .iinc _ _ => 3
  | .goto _ => 3
  | .ifCond _ _ => 3
  | .if_icmp _ _ => 3
  | .getfield _ => 3
  | .putfield _ => 3
  | .invokevirtual _ => 3
  | .invokespecial _ => 3
  | .invokestatic _ => 3
  | .new _ => 3
  | .newarray _ => 2
  | .anewarray _ => 3
  | .multianewarray _ _ => 4
  | .tableswitch _ _ _ _ => 0
  | _ => 1
def chk (bytes : ByteArray) : Nat → List ME → Bool
  | _, [] => true
  | pc, (i, len, ts) :: b => decide (decode bytes pc = .ok (i, len)) && (decide (len = ilen i) || decide (ilen i = 0)) && chkT pc i len ts && chk bytes (pc + len) b
theorem chk_nil {bytes : ByteArray} {pc : Nat} : chk bytes pc [] = true := rfl
theorem wp_nil (B : Nat → List ME) (cuts : List Nat) (F : Nat → Option (Nat × Nat × Nat × Nat)) (Y : Nat → Option CI) (Z : Nat → Option (Int ⊕ Int)) (U : Nat → Option Nat) (S : Option (Nat × (Int → Int))) (ini : Bool) (mc ms : Nat) (post : Option MV → MS → Prop) (K : Pt → Prop) (n pc : Nat) (ls : List (Option MV)) (st : List MV) (σ : MS) (k j : Nat) :
    wp B cuts F Y Z U S ini mc ms post K (n + 1) [] pc ls st σ k j = if inl cuts pc = true then K (pc, ls, st, σ, k, j) else wp B cuts F Y Z U S ini mc ms post K n (B pc) pc ls st σ k j := by rw [wp_eq]; exact propext Iff.rfl
theorem wp_cons (B : Nat → List ME) (cuts : List Nat) (F : Nat → Option (Nat × Nat × Nat × Nat)) (Y : Nat → Option CI) (Z : Nat → Option (Int ⊕ Int)) (U : Nat → Option Nat) (S : Option (Nat × (Int → Int))) (ini : Bool) (mc ms : Nat) (post : Option MV → MS → Prop) (K : Pt → Prop) (n pc : Nat) (i : Instr) (len : Nat) (ts : List Nat) (b : List ME) (ls : List (Option MV)) (st : List MV) (σ : MS) (k j : Nat) :
    wp B cuts F Y Z U S ini mc ms post K (n + 1) ((i, len, ts) :: b) pc ls st σ k j = stp F Y Z U S ini mc ms post K (wp B cuts F Y Z U S ini mc ms post K n) i len ts b pc ls st σ k j := by rw [wp_eq]; exact propext Iff.rfl
