/-! what a method's table must be held against: its bytes, its links, its room -/
def tY (t : aMt) : MethodName := t.1
def tB (t : aMt) : ByteArray := t.2.1
def tL (t : aMt) : Nat := t.2.2.1
def tR (t : aMt) : Option FieldType := t.2.2.2.1
def tO (t : aMt) : Nat := t.2.2.2.2.1
def tF (t : aMt) : Nat := t.2.2.2.2.2.1
def tW (t : aMt) : Nat := t.2.2.2.2.2.2.1
def tM (t : aMt) : Nat × Nat := t.2.2.2.2.2.2.2.1
def tA (t : aMt) : Nat := t.2.2.2.2.2.2.2.2.1
def tC (t : aMt) : List aM := t.2.2.2.2.2.2.2.2.2.1
def tP (t : aMt) (k : Nat) : Nat := t.2.2.2.2.2.2.2.2.2.2.getD k 0
def clX (u : Nat) : vw_C := vwCl.getD u (RX1, TX1, 0)
def dc (t : aMt) (k ln : Nat) (i : Instr) : Bool := decide (decode (tB t) (tP t k) = .ok (i, ln))
def nx (t : aMt) (k ln : Nat) (i : Instr) : Bool := dc t k ln i && decide (tP t (k + 1) = tP t k + ln)
def jp (t : aMt) (k : Nat) (off : Int) (u : Nat) : Bool := decide ((tP t k : Int) + off = (tP t u : Int))
def swT (t : aMt) (k : Nat) : Int → List (Int32 × Nat) → List Int → Bool
  | _, [], [] => true
  | lo, (c, g) :: r, o :: os => decide (c.toInt = lo) && jp t k o g && swT t k (lo + 1) r os
  | _, _, _ => false
def lkT (t : aMt) (k : Nat) : List (Int32 × Nat) → List (Int × Int) → Bool
  | [], [] => true
  | (c, g) :: r, (a, o) :: os => decide (c.toInt = a) && jp t k o g && lkT t k r os
  | _, _ => false
/-- a field's type, as the machine takes it -/
def gtT (f : Option Nat) (w : Nat) : Bool := match f with
  | some 0 => decide (w = 0)
  | some 4 => decide (w = 0)
  | some 1 => decide (w = 1)
  | some 2 => decide (w = 2 ∨ w = 3)
  | _ => false
def ptT (f : Option Nat) (w : Nat) : Bool := match f with
  | some 0 => decide (w = 0)
  | some 4 => decide (w = 4)
  | some 1 => decide (w = 1)
  | some 2 => decide (w = 2)
  | _ => false
def rmT (g : aMt) (ts : List (Int32 × Nat)) : Bool := match ts with
  | [] => decide (tM g = (0, 0))
  | [(_, a), (_, b)] => decide (tM g = (a, b))
  | _ => false
def clT_ (t g : aMt) : Bool := decide (tF g + 1 ≤ tF t) && decide (8 + (tL g + 11) + tW g ≤ tW t)
/-- the room of what is called by hand: frames, words -/
def xF (u : Nat) : Nat × Nat := match u with
  | 903 => (5, 120)
  | 904 => (6, 200)
  | 905 => (10, 400)
  | _ => (1, 21)
def xT (t : aMt) (u : Nat) (ts : List (Int32 × Nat)) : Bool := decide ((xF u).1 ≤ tF t) && decide ((xF u).2 ≤ tW t) && (match u with
  | 905 => decide (ts = [(0, 1), (0, 6)])
  | _ => decide (ts = []))
def chk (t : aMt) (k : Nat) (i : aM) : Bool := match i with
  | (ins, (u, v, w, z), c, d, ts) => match ins with
    | .iload_n j => decide ((j : Nat) = u) && nx t k 1 (.iload_n j)
    | .iload j => decide (j = u) && nx t k 2 (.iload j)
    | .lload_n j => decide ((j : Nat) = u) && nx t k 1 (.lload_n j)
    | .lload j => decide (j = u) && nx t k 2 (.lload j)
    | .aload_n j => decide ((j : Nat) = u) && nx t k 1 (.aload_n j)
    | .aload j => decide (j = u) && nx t k 2 (.aload j)
    | .istore_n j => decide ((j : Nat) = u) && decide (u < tL t) && nx t k 1 (.istore_n j)
    | .istore j => decide (j = u) && decide (u < tL t) && nx t k 2 (.istore j)
    | .lstore_n j => decide ((j : Nat) = u) && decide (u + 1 < tL t) && nx t k 1 (.lstore_n j)
    | .lstore j => decide (j = u) && decide (u + 1 < tL t) && nx t k 2 (.lstore j)
    | .astore_n j => decide ((j : Nat) = u) && decide (u < tL t) && nx t k 1 (.astore_n j)
    | .astore j => decide (j = u) && decide (u < tL t) && nx t k 2 (.astore j)
    | .iinc j n => decide (j = u) && decide (u < tL t) && decide (Int32.ofInt n = c) && nx t k 3 (.iinc j n)
    | .iconst n => decide (Int32.ofInt n = c) && nx t k 1 (.iconst n)
    | .bipush n => decide ((Int8.ofInt n).toInt32 = c) && nx t k 2 (.bipush n)
    | .sipush n => decide ((Int16.ofInt n).toInt32 = c) && nx t k 3 (.sipush n)
    | .lconst n => decide (Int64.ofNat (n : Nat) = d) && nx t k 1 (.lconst n)
    | .ldc x => (match w with
      | 0 => decide ((tO t, x, c) ∈ ciT)
      | _ => decide ((tO t, x, u) ∈ slT)) && nx t k 2 (.ldc x)
    | .ldc_w x => (match w with
      | 0 => decide ((tO t, x, c) ∈ ciT)
      | _ => decide ((tO t, x, u) ∈ slT)) && nx t k 3 (.ldc_w x)
    | .ldc2_w x => decide ((tO t, x, d) ∈ clT) && nx t k 3 (.ldc2_w x)
    | .iadd => nx t k 1 .iadd
    | .isub => nx t k 1 .isub
    | .imul => nx t k 1 .imul
    | .idiv => nx t k 1 .idiv
    | .irem => nx t k 1 .irem
    | .ineg => nx t k 1 .ineg
    | .iand => nx t k 1 .iand
    | .ior => nx t k 1 .ior
    | .ixor => nx t k 1 .ixor
    | .ishl => nx t k 1 .ishl
    | .ishr => nx t k 1 .ishr
    | .iushr => nx t k 1 .iushr
    | .ladd => nx t k 1 .ladd
    | .lsub => nx t k 1 .lsub
    | .lmul => nx t k 1 .lmul
    | .ldiv => nx t k 1 .ldiv
    | .lrem => nx t k 1 .lrem
    | .land => nx t k 1 .land
    | .lor => nx t k 1 .lor
    | .lxor => nx t k 1 .lxor
    | .lshl => nx t k 1 .lshl
    | .lshr => nx t k 1 .lshr
    | .lushr => nx t k 1 .lushr
    | .lcmp => nx t k 1 .lcmp
    | .i2l => nx t k 1 .i2l
    | .l2i => nx t k 1 .l2i
    | .i2b => nx t k 1 .i2b
    | .dup => nx t k 1 .dup
    | .dup2 => nx t k 1 .dup2
    | .pop => nx t k 1 .pop
    | .getfield x => decide ((tO t, x, u, v, 0) ∈ flT ∨ (tO t, x, u, v, 1) ∈ flT) && gtT ((fT u)[v]?) w && nx t k 3 (.getfield x)
    | .putfield x => decide ((tO t, x, u, v, 0) ∈ flT ∨ (tO t, x, u, v, 1) ∈ flT ∧ ((clX u).2.1 v).2.2.2 = false) && ptT ((fT u)[v]?) w && decide (((clX u).2.1 v).2.2.2 = false ∨ ((tY t).name = "<init>" ∧ ((clX u).2.1 v).1 = (tY t).cls)) && nx t k 3 (.putfield x)
    | .iaload => decide (u = 13 ∨ u = 17 ∧ tO t = 14) && nx t k 1 .iaload
    | .baload => decide (u = 12 ∨ u = 15) && nx t k 1 .baload
    | .laload => nx t k 1 .laload
    | .aaload => nx t k 1 .aaload
    | .iastore => nx t k 1 .iastore
    | .bastore => decide (u = 12 ∧ w = 0 ∨ u = 15 ∧ w = 1) && nx t k 1 .bastore
    | .lastore => nx t k 1 .lastore
    | .aastore => nx t k 1 .aastore
    | .arraylength => decide (u = 13 ∨ u = 17 ∧ tO t = 14) && nx t k 1 .arraylength
    | .newarray a => (match a with
      | .int => decide (u = 13)
      | .long => decide (u = 14)
      | .boolean => decide (u = 15)
      | .byte => decide (u = 12)
      | _ => false) && nx t k 2 (.newarray a)
    | .anewarray x => decide ((tO t, x, 8, 1) ∈ nlT) && nx t k 3 (.anewarray x)
    | .new x => decide ((tO t, x, u, 0) ∈ nlT) && decide (u < 12) && decide ((clX u).2.2 = v) && nx t k 3 (.new x)
    | .if_icmp cd o => jp t k o u && nx t k 3 (.if_icmp cd o)
    | .ifCond cd o => jp t k o u && nx t k 3 (.ifCond cd o)
    | .ifnull o => jp t k o u && nx t k 3 (.ifnull o)
    | .ifnonnull o => jp t k o u && nx t k 3 (.ifnonnull o)
    | .goto o => jp t k o u && dc t k 3 (.goto o)
    | .tableswitch df lo hi os => jp t k df u && swT t k lo ts os.toList && decide (hi + 1 = lo + ts.length) && dc t k (tP t (k + 1) - tP t k) (.tableswitch df lo hi os)
    | .lookupswitch df ps => jp t k df u && lkT t k ts ps.toList && (ps.toList.zip (ps.toList.drop 1)).all (fun (a, next) => a.1 < next.1) && dc t k (tP t (k + 1) - tP t k) (.lookupswitch df ps)
    | .invokevirtual x => decide ((tO t, x, u, 0) ∈ mlT) && (if u < 900 then clT_ t (mG u) && rmT (mG u) ts && decide (u < metaL.length) && decide (v = tA (mG u) + 1) && decide (z < 12) && decide ((clX z).1 = (tY (mG u)).cls) else decide (z = 99) && decide (u = 903 ∨ u = 904) && xT t u ts) && nx t k 3 (.invokevirtual x)
    | .invokestatic x => decide ((tO t, x, u, 1) ∈ mlT) && decide (z = 99) && (if u < 900 then clT_ t (mG u) && rmT (mG u) ts && decide (u < metaL.length) && decide (v = tA (mG u)) else decide (u = 900 ∨ u = 901 ∨ u = 902 ∨ u = 905) && xT t u ts) && nx t k 3 (.invokestatic x)
    | .invokespecial x => (if w = 9 then decide ((tO t, x, 999, 9) ∈ mlT) && decide (1 ≤ tF t) && decide (20 ≤ tW t) else decide (u < 900) && decide (z = 99) && decide ((tO t, x, u, 2) ∈ mlT ∨ (tO t, x, u, 3) ∈ mlT ∨ (tO t, x, u, 4) ∈ mlT) && clT_ t (mG u) && rmT (mG u) ts && decide (u < metaL.length) && decide (v = tA (mG u) + 1) && decide (tR (mG u) = none) && decide ((tY (mG u)).name = "<init>")) && nx t k 3 (.invokespecial x)
    | .ireturn => (match w with
      | 0 => decide (tR t = some .int)
      | _ => decide (tR t = some .boolean)) && dc t k 1 .ireturn
    | .lreturn => decide (tR t = some .long) && dc t k 1 .lreturn
    | .return_ => decide (tR t = none) && dc t k 1 .return_
    | .nop => decide (tP t (k + 1) = tP t k)
    | _ => false
def chkL (t : aMt) : Nat → List aM → Bool
  | _, [] => true
  | k, i :: r => chk t k i && chkL t (k + 1) r
/-- a whole method -/
def chkT (t : aMt) : Bool := plainName (tY t).cls && decide ((tY t).cls = cnm (tO t)) && decide ((parseMethodDescriptor (tY t).desc).map (fun d => d.parameters.length) = some (tA t)) && decide (((tY t).cls ≠ "java/lang/invoke/MethodHandle") ∧ (tY t).cls ≠ "java/lang/invoke/VarHandle") && chkL t 0 (tC t)
