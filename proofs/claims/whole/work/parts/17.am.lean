/-! THE ABSTRACT MACHINE: the class's and the reference's bytecode, run over a flat heap: kinds, lengths, ints, longs, references by address and place. -/
abbrev aH : Type := (Nat → Nat) × (Nat → Nat) × (Nat → Nat → Int32) × (Nat → Nat → Int64) × (Nat → Nat → Option Nat) × Nat × ((Nat → Nat) × Nat × Nat × (Nat → Int32))
def aK (S : aH) (a : Nat) : Nat := S.1 a
def aN (S : aH) (a : Nat) : Nat := S.2.1 a
def aI (S : aH) (a k : Nat) : Int32 := S.2.2.1 a k
def aJ (S : aH) (a k : Nat) : Int64 := S.2.2.2.1 a k
def aR (S : aH) (a k : Nat) : Option Nat := S.2.2.2.2.1 a k
def aZ (S : aH) : Nat := S.2.2.2.2.2.1
/-- what never changes: where the texts are, and the script -/
def aE (S : aH) : (Nat → Nat) × Nat × Nat × (Nat → Int32) := S.2.2.2.2.2.2
def aG (S : aH) (k : Nat) : Nat := (aE S).1 k
def u2 {α : Type} (f : Nat → Nat → α) (a k : Nat) (v : α) : Nat → Nat → α := fun b j => if b = a then (if j = k then v else f b j) else f b j
def r2 {α : Type} (f : Nat → Nat → α) (a : Nat) (g : Nat → α) : Nat → Nat → α := fun b => if b = a then g else f b
def wI (S : aH) (a k : Nat) (v : Int32) : aH := (S.1, S.2.1, u2 S.2.2.1 a k v, S.2.2.2)
def wJ (S : aH) (a k : Nat) (v : Int64) : aH := (S.1, S.2.1, S.2.2.1, u2 S.2.2.2.1 a k v, S.2.2.2.2)
def wR (S : aH) (a k : Nat) (v : Option Nat) : aH := (S.1, S.2.1, S.2.2.1, S.2.2.2.1, u2 S.2.2.2.2.1 a k v, S.2.2.2.2.2)
/-- a new cell of kind c and length n -/
def wN (S : aH) (c n : Nat) : aH := (va_up S.1 (aZ S) c, va_up S.2.1 (aZ S) n, r2 S.2.2.1 (aZ S) (fun _ => 0), r2 S.2.2.2.1 (aZ S) (fun _ => 0), r2 S.2.2.2.2.1 (aZ S) (fun _ => none), aZ S + 1, S.2.2.2.2.2.2)
abbrev aL : Type := List (Option Value)
abbrev aO : Type := Option (Option Value × aH)
abbrev aB : Type := Nat × Nat
abbrev aKt : Type := Nat → aL → List Value → aB → aH → aO
abbrev aC : Type := Nat → List Value → aH → aO
abbrev ix_ (j : Int32) (n : Nat) : Prop := ¬ (j < 0 ∨ n ≤ j.toNatClampNeg)
def lg_ : aL → Nat → Option Value
  | [], _ => none
  | x :: _, 0 => x
  | _ :: t, n + 1 => lg_ t n
def ls_ : aL → Nat → Option Value → aL
  | [], _, _ => []
  | _ :: t, 0, v => v :: t
  | x :: t, n + 1, v => x :: ls_ t n v
def nl_ : Option Value → Option Value
  | some (.long _) => none
  | some (.double _) => none
  | x => x
def st_ (ls : aL) (i : Nat) (v : Value) : aL := match i with
  | 0 => ls_ ls 0 (some v)
  | j + 1 => ls_ (ls_ ls (j + 1) (some v)) j (nl_ (lg_ ls j))
def sl_ (ls : aL) (i : Nat) (v : Value) : aL := ls_ (st_ ls i v) (i + 1) none
def mk_ : List (Int32 × Nat) → aL → aL
  | (_, 0) :: m, _ :: t => none :: mk_ m t
  | (_, _ + 1) :: m, x :: t => x :: mk_ m t
  | _, _ => []
def cg_ : List aM → Nat → Option aM
  | [], _ => none
  | x :: _, 0 => some x
  | _ :: t, n + 1 => cg_ t n
def gd (c : Prop) [Decidable c] (x : aO) : aO := if c then x else none
def pI (st : List Value) (f : Int32 → List Value → aO) : aO := match st with
  | .int x :: r => f x r
  | _ => none
def pJ (st : List Value) (f : Int64 → List Value → aO) : aO := match st with
  | .long x :: r => f x r
  | _ => none
def pR (st : List Value) (f : Nat → List Value → aO) : aO := match st with
  | .ref x :: r => f x r
  | _ => none
def lI (v : Option Value) (f : Int32 → aO) : aO := match v with
  | some (.int x) => f x
  | _ => none
def lJ (v : Option Value) (f : Int64 → aO) : aO := match v with
  | some (.long x) => f x
  | _ => none
def lR (v : Option Value) (f : Nat → aO) : aO := match v with
  | some (.ref x) => f x
  | _ => none
def nR (r : Option Nat) (f : Nat → aO) : aO := match r with
  | some b => f b
  | none => none
def nQ (r : Option Nat) (f : Nat → aO) (g : aO) : aO := match r with
  | some b => f b
  | none => g
def cmp_ (c : ClassFile.Cond) (x y : Int32) (A B : aO) : aO := match c with
  | .eq => if x = y then A else B
  | .ne => if x = y then B else A
  | .lt => if x < y then A else B
  | .ge => if y ≤ x then A else B
  | .gt => if y < x then A else B
  | .le => if x ≤ y then A else B
def tk_ : Nat → List Value → List Value → (List Value → List Value → aO) → aO
  | 0, acc, st, f => f acc st
  | n + 1, acc, v :: st, f => tk_ n (v :: acc) st f
  | _ + 1, _, [], _ => none
def cs_ : List Value → Nat
  | [] => 0
  | v :: r => v.category + cs_ r
def cI (q : aO) (f : Int32 → aH → aO) : aO := match q with
  | some (some (.int x), S) => f x S
  | _ => none
def cJ (q : aO) (f : Int64 → aH → aO) : aO := match q with
  | some (some (.long x), S) => f x S
  | _ => none
def cV (q : aO) (f : aH → aO) : aO := match q with
  | some (none, S) => f S
  | _ => none
def cl_ (w : Nat) (q : aO) (r : List Value) (K : List Value → aH → aO) : aO := match w with
  | 0 => cV q fun S => K r S
  | 1 => cI q fun x S => K (.int x :: r) S
  | _ => cJ q fun x S => K (.long x :: r) S
def bo_ (c : Bool) (x : aO) : aO := match c with
  | true => x
  | false => none
/-- the receiver is of the kind z (99: it isn't asked) -/
def rk_ (z : Nat) (as : List Value) (S : aH) (x : aO) : aO := match z with
  | 99 => x
  | 98 => (match as with
    | .ref _ :: _ => x
    | _ => none)
  | _ => (match as with
    | .ref a :: _ => gd (aK S a = z) x
    | _ => none)
def ca_ (u v w z : Nat) (ts : List (Int32 × Nat)) (st : List Value) (b : aB) (S : aH) (C : aC) (K : List Value → aB → aH → aO) : aO :=
  tk_ v [] st fun as r => bo_ (Nat.ble (cs_ r) 8) (rk_ z as S (match ts with
    | [] => cl_ w (C u as S) r fun st S => K st b S
    | (_, mc) :: (_, ms) :: _ => gd (mc ≤ b.1 ∧ ms ≤ b.2) (cl_ w (C u as S) r fun st S => K st (b.1 - mc, b.2 - ms) S)
    | _ => none))
def sw_ (x : Int32) (d : Nat) (K : Nat → aO) : List (Int32 × Nat) → aO
  | [] => K d
  | (c, t) :: r => if x = c then K t else sw_ x d K r
def ex1 (i : aM) (k : Nat) (ls : aL) (st : List Value) (b : aB) (S : aH) (K : aKt) (C : aC) : aO :=
  match i with
  | (ins, (u, v, w, z), c, d, ts) => match ins with
    | .iload_n _ => lI (lg_ ls u) fun x => K (k + 1) ls (.int x :: st) b S
    | .iload _ => lI (lg_ ls u) fun x => K (k + 1) ls (.int x :: st) b S
    | .lload_n _ => lJ (lg_ ls u) fun x => K (k + 1) ls (.long x :: st) b S
    | .lload _ => lJ (lg_ ls u) fun x => K (k + 1) ls (.long x :: st) b S
    | .aload_n _ => lR (lg_ ls u) fun x => K (k + 1) ls (.ref x :: st) b S
    | .aload _ => lR (lg_ ls u) fun x => K (k + 1) ls (.ref x :: st) b S
    | .istore_n _ => pI st fun x r => K (k + 1) (st_ ls u (.int x)) r b S
    | .istore _ => pI st fun x r => K (k + 1) (st_ ls u (.int x)) r b S
    | .lstore_n _ => pJ st fun x r => K (k + 1) (sl_ ls u (.long x)) r b S
    | .lstore _ => pJ st fun x r => K (k + 1) (sl_ ls u (.long x)) r b S
    | .astore_n _ => pR st fun x r => K (k + 1) (st_ ls u (.ref x)) r b S
    | .astore _ => pR st fun x r => K (k + 1) (st_ ls u (.ref x)) r b S
    | .iinc _ _ => lI (lg_ ls u) fun x => K (k + 1) (st_ ls u (.int (x + c))) st b S
    | .iconst _ => K (k + 1) ls (.int c :: st) b S
    | .bipush _ => K (k + 1) ls (.int c :: st) b S
    | .sipush _ => K (k + 1) ls (.int c :: st) b S
    | .lconst _ => K (k + 1) ls (.long d :: st) b S
    | .ldc _ => (match w with
      | 0 => K (k + 1) ls (.int c :: st) b S
      | _ => K (k + 1) ls (.ref (aG S u) :: st) b S)
    | .ldc_w _ => (match w with
      | 0 => K (k + 1) ls (.int c :: st) b S
      | _ => K (k + 1) ls (.ref (aG S u) :: st) b S)
    | .ldc2_w _ => K (k + 1) ls (.long d :: st) b S
    | .iadd => pI st fun y r => pI r fun x r => K (k + 1) ls (.int (x + y) :: r) b S
    | .isub => pI st fun y r => pI r fun x r => K (k + 1) ls (.int (x - y) :: r) b S
    | .imul => pI st fun y r => pI r fun x r => K (k + 1) ls (.int (x * y) :: r) b S
    | .idiv => pI st fun y r => pI r fun x r => gd (¬ y = 0) (K (k + 1) ls (.int (x / y) :: r) b S)
    | .irem => pI st fun y r => pI r fun x r => gd (¬ y = 0) (K (k + 1) ls (.int (x - x / y * y) :: r) b S)
    | .ineg => pI st fun x r => K (k + 1) ls (.int (-x) :: r) b S
    | .iand => pI st fun y r => pI r fun x r => K (k + 1) ls (.int (x &&& y) :: r) b S
    | .ior => pI st fun y r => pI r fun x r => K (k + 1) ls (.int (x ||| y) :: r) b S
    | .ixor => pI st fun y r => pI r fun x r => K (k + 1) ls (.int (x ^^^ y) :: r) b S
    | .ishl => pI st fun y r => pI r fun x r => K (k + 1) ls (.int (x <<< (y &&& 31)) :: r) b S
    | .ishr => pI st fun y r => pI r fun x r => K (k + 1) ls (.int (x >>> (y &&& 31)) :: r) b S
    | .iushr => pI st fun y r => pI r fun x r => K (k + 1) ls (.int (x.toUInt32 >>> (y.toUInt32 &&& Int32.toUInt32 31)).toInt32 :: r) b S
    | .ladd => pJ st fun y r => pJ r fun x r => K (k + 1) ls (.long (x + y) :: r) b S
    | .lsub => pJ st fun y r => pJ r fun x r => K (k + 1) ls (.long (x - y) :: r) b S
    | .lmul => pJ st fun y r => pJ r fun x r => K (k + 1) ls (.long (x * y) :: r) b S
    | .ldiv => pJ st fun y r => pJ r fun x r => gd (¬ y = 0) (K (k + 1) ls (.long (x / y) :: r) b S)
    | .lrem => pJ st fun y r => pJ r fun x r => gd (¬ y = 0) (K (k + 1) ls (.long (x - x / y * y) :: r) b S)
    | .land => pJ st fun y r => pJ r fun x r => K (k + 1) ls (.long (x &&& y) :: r) b S
    | .lor => pJ st fun y r => pJ r fun x r => K (k + 1) ls (.long (x ||| y) :: r) b S
    | .lxor => pJ st fun y r => pJ r fun x r => K (k + 1) ls (.long (x ^^^ y) :: r) b S
    | .lshl => pI st fun y r => pJ r fun x r => K (k + 1) ls (.long (x <<< (y.toInt64 &&& 63)) :: r) b S
    | .lshr => pI st fun y r => pJ r fun x r => K (k + 1) ls (.long (x >>> (y.toInt64 &&& 63)) :: r) b S
    | .lushr => pI st fun y r => pJ r fun x r => K (k + 1) ls (.long (x.toUInt64 >>> (y.toInt64.toUInt64 &&& Int64.toUInt64 63)).toInt64 :: r) b S
    | .lcmp => pJ st fun y r => pJ r fun x r => K (k + 1) ls (.int (lg_cmp x y) :: r) b S
    | .i2l => pI st fun x r => K (k + 1) ls (.long x.toInt64 :: r) b S
    | .l2i => pJ st fun x r => K (k + 1) ls (.int x.toInt32 :: r) b S
    | .i2b => pI st fun x r => K (k + 1) ls (.int x.toInt8.toInt32 :: r) b S
    | .dup => (match st with
      | .int x :: r => K (k + 1) ls (.int x :: .int x :: r) b S
      | .ref x :: r => K (k + 1) ls (.ref x :: .ref x :: r) b S
      | _ => none)
    | .dup2 => (match st with
      | .int x :: .ref a :: r => K (k + 1) ls (.int x :: .ref a :: .int x :: .ref a :: r) b S
      | _ => none)
    | .pop => (match st with
      | .int _ :: r => K (k + 1) ls r b S
      | _ => none)
    | .getfield _ => pR st fun a r => gd (aK S a = u) (match w with
      | 1 => K (k + 1) ls (.long (aJ S a v) :: r) b S
      | 2 => nR (aR S a v) fun x => K (k + 1) ls (.ref x :: r) b S
      | 3 => nQ (aR S a v) (fun x => K (k + 1) ls (.ref x :: r) b S) (K (k + 1) ls (.null :: r) b S)
      | _ => K (k + 1) ls (.int (aI S a v) :: r) b S)
    | .putfield _ => (match w with
      | 0 => pI st fun x r => pR r fun a r => gd (aK S a = u) (K (k + 1) ls r b (wI S a v x))
      | 1 => pJ st fun x r => pR r fun a r => gd (aK S a = u) (K (k + 1) ls r b (wJ S a v x))
      | 4 => pI st fun x r => pR r fun a r => gd (aK S a = u) (gd (x = 0 ∨ x = 1) (K (k + 1) ls r b (wI S a v x)))
      | _ => pR st fun x r => pR r fun a r => gd (aK S a = u) (K (k + 1) ls r b (wR S a v (some x))))
    | .iaload => (match u with
      | 17 => pI st fun j r => pR r fun a r => gd (a = (aE S).2.1 ∧ ix_ j (aE S).2.2.1) (K (k + 1) ls (.int ((aE S).2.2.2 j.toNatClampNeg) :: r) b S)
      | _ => pI st fun j r => pR r fun a r => gd (aK S a = 13 ∧ ix_ j (aN S a)) (K (k + 1) ls (.int (aI S a j.toNatClampNeg) :: r) b S))
    | .baload => pI st fun j r => pR r fun a r => gd (aK S a = u ∧ ix_ j (aN S a)) (K (k + 1) ls (.int (aI S a j.toNatClampNeg) :: r) b S)
    | .laload => pI st fun j r => pR r fun a r => gd (aK S a = 14 ∧ ix_ j (aN S a)) (K (k + 1) ls (.long (aJ S a j.toNatClampNeg) :: r) b S)
    | .aaload => pI st fun j r => pR r fun a r => gd (aK S a = 16 ∧ ix_ j (aN S a)) (nR (aR S a j.toNatClampNeg) fun x => K (k + 1) ls (.ref x :: r) b S)
    | .iastore => pI st fun x r => pI r fun j r => pR r fun a r => gd (aK S a = 13 ∧ ix_ j (aN S a)) (K (k + 1) ls r b (wI S a j.toNatClampNeg x))
    | .bastore => pI st fun x r => pI r fun j r => pR r fun a r => gd (aK S a = u ∧ ix_ j (aN S a)) (match w with
      | 0 => K (k + 1) ls r b (wI S a j.toNatClampNeg x.toInt8.toInt32)
      | _ => gd (x = 0 ∨ x = 1) (K (k + 1) ls r b (wI S a j.toNatClampNeg x)))
    | .lastore => pJ st fun x r => pI r fun j r => pR r fun a r => gd (aK S a = 14 ∧ ix_ j (aN S a)) (K (k + 1) ls r b (wJ S a j.toNatClampNeg x))
    | .aastore => pR st fun x r => pI r fun j r => pR r fun a r => gd (aK S a = 16 ∧ ix_ j (aN S a) ∧ aK S x = 8) (K (k + 1) ls r b (wR S a j.toNatClampNeg (some x)))
    | .arraylength => (match u with
      | 17 => pR st fun a r => gd (a = (aE S).2.1) (K (k + 1) ls (.int (Int32.ofNat (aE S).2.2.1) :: r) b S)
      | _ => pR st fun a r => gd (12 ≤ aK S a ∧ aK S a ≤ 16) (K (k + 1) ls (.int (Int32.ofNat (aN S a)) :: r) b S))
    | .newarray _ => pI st fun n r => gd (¬ n < 0 ∧ n.toNatClampNeg ≤ 60000 ∧ 1 ≤ b.1 ∧ n.toNatClampNeg ≤ b.2) (K (k + 1) ls (.ref (aZ S) :: r) (b.1 - 1, b.2 - n.toNatClampNeg) (wN S u n.toNatClampNeg))
    | .anewarray _ => pI st fun n r => gd (¬ n < 0 ∧ n.toNatClampNeg ≤ 60000 ∧ 1 ≤ b.1 ∧ n.toNatClampNeg ≤ b.2) (K (k + 1) ls (.ref (aZ S) :: r) (b.1 - 1, b.2 - n.toNatClampNeg) (wN S 16 n.toNatClampNeg))
    | .new _ => gd (1 ≤ b.1 ∧ v ≤ b.2) (K (k + 1) ls (.ref (aZ S) :: st) (b.1 - 1, b.2 - v) (wN S u 0))
    | .if_icmp cd _ => pI st fun y r => pI r fun x r => cmp_ cd x y (K u ls r b S) (K (k + 1) ls r b S)
    | .ifCond cd _ => pI st fun x r => cmp_ cd x 0 (K u ls r b S) (K (k + 1) ls r b S)
    | .ifnull _ => (match st with
      | .ref _ :: r => K (k + 1) ls r b S
      | .null :: r => K u ls r b S
      | _ => none)
    | .ifnonnull _ => (match st with
      | .ref _ :: r => K u ls r b S
      | .null :: r => K (k + 1) ls r b S
      | _ => none)
    | .goto _ => K u ls st b S
    | .tableswitch _ _ _ _ => pI st fun x r => sw_ x u (fun t => K t ls r b S) ts
    | .lookupswitch _ _ => pI st fun x r => sw_ x u (fun t => K t ls r b S) ts
    | .invokevirtual _ => ca_ u v w z ts st b S C fun st b S => K (k + 1) ls st b S
    | .invokestatic _ => ca_ u v w z ts st b S C fun st b S => K (k + 1) ls st b S
    | .invokespecial _ => (match w with
      | 9 => pR st fun _ r => bo_ (Nat.ble (cs_ r) 8) (K (k + 1) ls r b S)
      | _ => ca_ u v w 98 ts st b S C fun st b S => K (k + 1) ls st b S)
    | .ireturn => (match st with
      | [.int x] => (match w with
        | 0 => some (some (.int x), S)
        | _ => gd (x = 0 ∨ x = 1) (some (some (.int x), S)))
      | _ => none)
    | .lreturn => (match st with
      | [.long x] => some (some (.long x), S)
      | _ => none)
    | .return_ => (match st with
      | [] => some (none, S)
      | _ => none)
    | .nop => (match u with
      | 7 => (match st with
        | [] => gd (1 ≤ b.1 ∧ 6 ≤ b.2) (some (some (.retAddr 7), S))
        | _ => none)
      | _ => K (k + 1) (mk_ ts ls) st b S)
    | _ => none
/-- a cut mark (7: here an exception is thrown) -/
def ic_ (i : aM) : Bool := match i.1 with
  | .nop => (match i.2.1.1 with
    | 7 => false
    | _ => true)
  | _ => false
def blk (code : List aM) (Kc : aKt) (C : aC) : Nat → aKt
  | 0, k, ls, st, b, S => Kc k ls st b S
  | f + 1, k, ls, st, b, S => match cg_ code k with
    | none => none
    | some i => (match ic_ i with
      | true => Kc (k + 1) (mk_ i.2.2.2.2 ls) st b S
      | false => ex1 i k ls st b S (blk code Kc C f) C)
def ea_ : List Value → aL
  | [] => []
  | .long x :: t => some (.long x) :: none :: ea_ t
  | .double _ :: t => none :: none :: ea_ t
  | v :: t => some v :: ea_ t
def pd_ : aL → Nat → aL
  | [], n => List.replicate n none
  | x :: t, n => x :: pd_ t (n - 1)
/-! the machine by steps, and what it comes to -/
def am (cd : Nat → List aM) (ml : Nat → Nat) (mb : Nat → aB) (xt : aC) : Nat → Nat → aKt
  | 0, _, _, _, _, _, _ => none
  | n + 1, id, k, ls, st, b, S => match cg_ (cd id) k with
    | none => none
    | some i => ex1 i k ls st b S (am cd ml mb xt n id) (fun u as S => if u < 900 then bo_ (Nat.ble (cs_ as) (ml u)) (am cd ml mb xt n u 0 (pd_ (ea_ as) (ml u)) [] (mb u) S) else xt u as S)
/-- the chain F comes to x -/
def Cn (F : Nat → aO) (x : aO) : Prop := ∀ r, x = some r → ∃ n, ∀ m, n ≤ m → F m = some r
theorem cn_none {F : Nat → aO} : Cn F none := fun r h => by cases h
theorem cn_const {x : aO} : Cn (fun _ => x) x := fun r h => ⟨0, fun _ _ => h⟩
theorem cn_pI {st : List Value} {f : Nat → Int32 → List Value → aO} {g : Int32 → List Value → aO} (h : ∀ x r, Cn (fun n => f n x r) (g x r)) : Cn (fun n => pI st (f n)) (pI st g) := by
  unfold pI; split
  · exact h _ _
  · exact cn_none
theorem cn_pJ {st : List Value} {f : Nat → Int64 → List Value → aO} {g : Int64 → List Value → aO} (h : ∀ x r, Cn (fun n => f n x r) (g x r)) : Cn (fun n => pJ st (f n)) (pJ st g) := by
  unfold pJ; split
  · exact h _ _
  · exact cn_none
theorem cn_pR {st : List Value} {f : Nat → Nat → List Value → aO} {g : Nat → List Value → aO} (h : ∀ x r, Cn (fun n => f n x r) (g x r)) : Cn (fun n => pR st (f n)) (pR st g) := by
  unfold pR; split
  · exact h _ _
  · exact cn_none
theorem cn_lI {v : Option Value} {f : Nat → Int32 → aO} {g : Int32 → aO} (h : ∀ x, Cn (fun n => f n x) (g x)) : Cn (fun n => lI v (f n)) (lI v g) := by
  unfold lI; split
  · exact h _
  · exact cn_none
theorem cn_lJ {v : Option Value} {f : Nat → Int64 → aO} {g : Int64 → aO} (h : ∀ x, Cn (fun n => f n x) (g x)) : Cn (fun n => lJ v (f n)) (lJ v g) := by
  unfold lJ; split
  · exact h _
  · exact cn_none
theorem cn_lR {v : Option Value} {f : Nat → Nat → aO} {g : Nat → aO} (h : ∀ x, Cn (fun n => f n x) (g x)) : Cn (fun n => lR v (f n)) (lR v g) := by
  unfold lR; split
  · exact h _
  · exact cn_none
theorem cn_nR {v : Option Nat} {f : Nat → Nat → aO} {g : Nat → aO} (h : ∀ x, Cn (fun n => f n x) (g x)) : Cn (fun n => nR v (f n)) (nR v g) := by
  unfold nR; split
  · exact h _
  · exact cn_none
theorem cn_nQ {v : Option Nat} {f : Nat → Nat → aO} {g : Nat → aO} {f2 : Nat → aO} {g2 : aO} (h : ∀ x, Cn (fun n => f n x) (g x)) (h2 : Cn f2 g2) : Cn (fun n => nQ v (f n) (f2 n)) (nQ v g g2) := by
  unfold nQ; split
  · exact h _
  · exact h2
theorem cn_gd {c : Prop} [Decidable c] {f : Nat → aO} {g : aO} (h : Cn f g) : Cn (fun n => gd c (f n)) (gd c g) := by
  unfold gd; split
  · exact h
  · exact cn_none
theorem cn_bo {c : Bool} {f : Nat → aO} {g : aO} (h : Cn f g) : Cn (fun n => bo_ c (f n)) (bo_ c g) := by
  cases c
  · exact cn_none
  · exact h
theorem cn_ite {c : Prop} [Decidable c] {f f2 : Nat → aO} {g g2 : aO} (h : Cn f g) (h2 : Cn f2 g2) : Cn (fun n => if c then f n else f2 n) (if c then g else g2) := by
  split
  · exact h
  · exact h2
theorem cn_cmp {c : ClassFile.Cond} {x y : Int32} {f f2 : Nat → aO} {g g2 : aO} (h : Cn f g) (h2 : Cn f2 g2) : Cn (fun n => cmp_ c x y (f n) (f2 n)) (cmp_ c x y g g2) := by
  cases c <;> simp only [cmp_] <;> first | exact cn_ite h h2 | exact cn_ite h2 h
theorem cn_tk {f : Nat → List Value → List Value → aO} {g : List Value → List Value → aO} (h : ∀ a r, Cn (fun n => f n a r) (g a r)) : ∀ (v : Nat) (acc st : List Value), Cn (fun n => tk_ v acc st (f n)) (tk_ v acc st g)
  | 0, acc, st => h acc st
  | v + 1, acc, [] => cn_none
  | v + 1, acc, x :: st => cn_tk h v (x :: acc) st
theorem cn_sw {x : Int32} {d : Nat} {f : Nat → Nat → aO} {g : Nat → aO} (h : ∀ t, Cn (fun n => f n t) (g t)) : ∀ ts : List (Int32 × Nat), Cn (fun n => sw_ x d (f n) ts) (sw_ x d g ts)
  | [] => h d
  | (c, t) :: r => cn_ite (h t) (cn_sw h r)
theorem cn_cl {w : Nat} {q : Nat → aO} {q0 : aO} {r : List Value} {f : Nat → List Value → aH → aO} {g : List Value → aH → aO} (hq : Cn q q0) (h : ∀ st S, Cn (fun n => f n st S) (g st S)) : Cn (fun n => cl_ w (q n) r (f n)) (cl_ w q0 r g) := by
  intro z hz
  cases h0 : q0 with
  | none => rw [h0] at hz; unfold cl_ at hz; split at hz <;> cases hz
  | some y =>
    obtain ⟨n1, h1⟩ := hq y h0
    rw [h0] at hz
    have key : Cn (fun n => cl_ w (some y) r (f n)) (cl_ w (some y) r g) := by
      unfold cl_; split
      · unfold cV; split
        · exact h _ _
        · exact cn_none
      · unfold cI; split
        · exact h _ _
        · exact cn_none
      · unfold cJ; split
        · exact h _ _
        · exact cn_none
    obtain ⟨n2, h2⟩ := key z hz
    refine ⟨n1 + n2, fun m hm => ?_⟩
    show cl_ w (q m) r (f m) = some z
    rw [h1 m (by omega)]
    exact h2 m (by omega)
theorem cn_rk {z : Nat} {as : List Value} {S : aH} {f : Nat → aO} {g : aO} (h : Cn f g) : Cn (fun n => rk_ z as S (f n)) (rk_ z as S g) := by
  unfold rk_; split
  · exact h
  · split
    · exact h
    · exact cn_none
  · split
    · exact cn_gd h
    · exact cn_none
theorem cn_ca {u v w z : Nat} {ts : List (Int32 × Nat)} {st : List Value} {b : aB} {S : aH} {Cq : Nat → aC} {C : aC} {f : Nat → List Value → aB → aH → aO} {g : List Value → aB → aH → aO} (hC : ∀ u as S, Cn (fun n => Cq n u as S) (C u as S)) (h : ∀ st b S, Cn (fun n => f n st b S) (g st b S)) : Cn (fun n => ca_ u v w z ts st b S (Cq n) (f n)) (ca_ u v w z ts st b S C g) := by
  unfold ca_
  apply cn_tk
  intro a r
  apply cn_bo
  apply cn_rk
  split
  · exact cn_cl (hC _ _ _) (fun st S => h st b S)
  · exact cn_gd (cn_cl (hC _ _ _) (fun st S => h st _ S))
  · exact cn_none
set_option maxHeartbeats 4000000 in
theorem ex1_cn {i : aM} {k : Nat} {ls : aL} {st : List Value} {b : aB} {S : aH} {Kq : Nat → aKt} {K : aKt} {Cq : Nat → aC} {C : aC} (hK : ∀ k ls st b S, Cn (fun n => Kq n k ls st b S) (K k ls st b S)) (hC : ∀ u as S, Cn (fun n => Cq n u as S) (C u as S)) : Cn (fun n => ex1 i k ls st b S (Kq n) (Cq n)) (ex1 i k ls st b S K C) := by
  obtain ⟨ins, ⟨u, v, w, z⟩, c, d, ts⟩ := i
  cases ins <;> simp only [ex1] <;> first
    | exact cn_none
    | exact cn_const
    | exact hK _ _ _ _ _
    | (apply cn_lI; intro x; exact hK _ _ _ _ _)
    | (apply cn_lJ; intro x; exact hK _ _ _ _ _)
    | (apply cn_lR; intro x; exact hK _ _ _ _ _)
    | (apply cn_pI; intro x r; exact hK _ _ _ _ _)
    | (apply cn_pJ; intro x r; exact hK _ _ _ _ _)
    | (apply cn_pR; intro x r; exact hK _ _ _ _ _)
    | (apply cn_pI; intro x r; apply cn_pI; intro y r; exact hK _ _ _ _ _)
    | (apply cn_pI; intro x r; apply cn_pI; intro y r; exact cn_gd (hK _ _ _ _ _))
    | (apply cn_pI; intro x r; apply cn_pI; intro y r; exact cn_cmp (hK _ _ _ _ _) (hK _ _ _ _ _))
    | (apply cn_pI; intro x r; exact cn_cmp (hK _ _ _ _ _) (hK _ _ _ _ _))
    | (apply cn_pI; intro x r; exact cn_gd (hK _ _ _ _ _))
    | (apply cn_pR; intro x r; exact cn_gd (hK _ _ _ _ _))
    | (apply cn_pJ; intro x r; apply cn_pJ; intro y r; exact hK _ _ _ _ _)
    | (apply cn_pJ; intro x r; apply cn_pJ; intro y r; exact cn_gd (hK _ _ _ _ _))
    | (apply cn_pI; intro x r; apply cn_pJ; intro y r; exact hK _ _ _ _ _)
    | (apply cn_pI; intro x r; apply cn_pR; intro y r; exact cn_gd (hK _ _ _ _ _))
    | (apply cn_pI; intro x r; apply cn_pR; intro y r; apply cn_gd; apply cn_nR; intro z; exact hK _ _ _ _ _)
    | (apply cn_pI; intro x r; apply cn_pI; intro y r; apply cn_pR; intro z r; exact cn_gd (hK _ _ _ _ _))
    | (apply cn_pJ; intro x r; apply cn_pI; intro y r; apply cn_pR; intro z r; exact cn_gd (hK _ _ _ _ _))
    | (apply cn_pR; intro x r; apply cn_pI; intro y r; apply cn_pR; intro z r; exact cn_gd (hK _ _ _ _ _))
    | (apply cn_pI; intro x r; apply cn_sw; intro t; exact hK _ _ _ _ _)
    | exact cn_gd (hK _ _ _ _ _)
    | exact cn_ca hC (fun st b S => hK _ _ _ _ _)
    | (split <;> first | exact hK _ _ _ _ _ | exact cn_none | exact cn_const | exact cn_ca hC (fun st b S => hK _ _ _ _ _) | (split <;> first | exact cn_const | exact cn_none))
    | (split <;> first | (apply cn_pI; intro x r; apply cn_pR; intro y r; exact cn_gd (hK _ _ _ _ _)) | (apply cn_pR; intro x r; exact cn_gd (hK _ _ _ _ _)))
    | (split <;> first | (apply cn_pR; intro x r; apply cn_bo; exact hK _ _ _ _ _) | exact cn_ca hC (fun st b S => hK _ _ _ _ _))
    | (apply cn_pR; intro x r; apply cn_gd; split <;> first | exact hK _ _ _ _ _ | (apply cn_nR; intro z; exact hK _ _ _ _ _) | (apply cn_nQ (fun z => hK _ _ _ _ _) (hK _ _ _ _ _)))
    | (apply cn_pI; intro x r; apply cn_pI; intro y r; apply cn_pR; intro z r; apply cn_gd; split <;> first | exact hK _ _ _ _ _ | exact cn_gd (hK _ _ _ _ _))
    | (split <;> first | (apply cn_pI; intro x r; apply cn_pR; intro y r; exact cn_gd (hK _ _ _ _ _)) | (apply cn_pJ; intro x r; apply cn_pR; intro y r; exact cn_gd (hK _ _ _ _ _)) | (apply cn_pR; intro x r; apply cn_pR; intro y r; exact cn_gd (hK _ _ _ _ _)) | (apply cn_pI; intro x r; apply cn_pR; intro y r; exact cn_gd (cn_gd (hK _ _ _ _ _))))
section
variable (cd : Nat → List aM) (ml : Nat → Nat) (mb : Nat → aB) (xt : aC)
/-- what a frame comes to -/
noncomputable def Amg (id : Nat) : aKt := fun k ls st b S => @dite aO (∃ r, ∃ n, ∀ m, n ≤ m → am cd ml mb xt m id k ls st b S = some r) (Classical.propDecidable _) (fun h => some h.choose) (fun _ => none)
noncomputable def Cag : aC := fun u as S => if u < 900 then bo_ (Nat.ble (cs_ as) (ml u)) (Amg cd ml mb xt u 0 (pd_ (ea_ as) (ml u)) [] (mb u) S) else xt u as S
theorem Amg_iff {id k : Nat} {ls : aL} {st : List Value} {b : aB} {S : aH} {r : Option Value × aH} : Amg cd ml mb xt id k ls st b S = some r ↔ ∃ n, ∀ m, n ≤ m → am cd ml mb xt m id k ls st b S = some r := by
  unfold Amg
  by_cases h : ∃ r, ∃ n, ∀ m, n ≤ m → am cd ml mb xt m id k ls st b S = some r
  · rw [dif_pos h]
    have hc := h.choose_spec
    constructor
    · intro e
      have e := Option.some.inj e
      rw [← e]; exact hc
    · intro ⟨n, hn⟩
      obtain ⟨n2, h2⟩ := hc
      have a1 := hn (n + n2) (by omega)
      have a2 := h2 (n + n2) (by omega)
      rw [a1] at a2
      rw [← Option.some.inj a2]
  · rw [dif_neg h]
    constructor
    · intro e; cases e
    · intro e; exact absurd ⟨r, e⟩ h
theorem Amg_cn (id k : Nat) (ls : aL) (st : List Value) (b : aB) (S : aH) : Cn (fun n => am cd ml mb xt n id k ls st b S) (Amg cd ml mb xt id k ls st b S) := fun r h => (Amg_iff cd ml mb xt).mp h
theorem Cag_cn (u : Nat) (as : List Value) (S : aH) : Cn (fun n => if u < 900 then bo_ (Nat.ble (cs_ as) (ml u)) (am cd ml mb xt n u 0 (pd_ (ea_ as) (ml u)) [] (mb u) S) else xt u as S) (Cag cd ml mb xt u as S) := by
  unfold Cag
  split
  · exact cn_bo (Amg_cn cd ml mb xt u 0 _ _ _ _)
  · exact cn_const
theorem Amg_step {id k : Nat} {ls : aL} {st : List Value} {b : aB} {S : aH} {r : Option Value × aH} {i : aM} (hi : cg_ (cd id) k = some i) (h : ex1 i k ls st b S (Amg cd ml mb xt id) (Cag cd ml mb xt) = some r) : Amg cd ml mb xt id k ls st b S = some r := by
  obtain ⟨n, hn⟩ := ex1_cn (Amg_cn cd ml mb xt id) (Cag_cn cd ml mb xt) r h
  refine (Amg_iff cd ml mb xt).mpr ⟨n + 1, fun m hm => ?_⟩
  obtain ⟨m, rfl⟩ : ∃ j, m = j + 1 := ⟨m - 1, by omega⟩
  simp only [am, hi]
  exact hn m (by omega)
theorem Amg_blk {id : Nat} {r : Option Value × aH} : ∀ (f k : Nat) (ls : aL) (st : List Value) (b : aB) (S : aH), blk (cd id) (Amg cd ml mb xt id) (Cag cd ml mb xt) f k ls st b S = some r → Amg cd ml mb xt id k ls st b S = some r
  | 0, k, ls, st, b, S, h => h
  | f + 1, k, ls, st, b, S, h => by
    unfold blk at h
    split at h
    · cases h
    · next i hi =>
      refine Amg_step cd ml mb xt hi ?_
      split at h
      · next hc =>
        obtain ⟨ins, ⟨u, v, w, z⟩, c, d, ts⟩ := i
        cases ins <;> first | (simp [ic_] at hc; done) | (simp only [ex1]; split <;> first | (simp [ic_] at hc; done) | exact h)
      · obtain ⟨n, hn⟩ := ex1_cn (i := i) (k := k) (ls := ls) (st := st) (b := b) (S := S) (Kq := fun _ => Amg cd ml mb xt id) (Cq := fun _ => Cag cd ml mb xt) (fun k ls st b S r h => ⟨0, fun _ _ => Amg_blk f k ls st b S h⟩) (fun u as S r h => ⟨0, fun _ _ => h⟩) r h
        exact hn n (Nat.le_refl n)
end
