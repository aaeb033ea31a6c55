/-! A small machine of my own beside the model's: cells are (kind, contents), a heap is a list of cells, addresses are places in it. What a program of the small machine does, the model's machine does too (part 04): so the bytecode is walked once for all, by one theorem, and what is left is about this small machine. -/
abbrev am_C : Type := Nat × List Value
abbrev am_H : Type := List am_C
abbrev am_L : Type := List (Option Value)
/-- a frame: pc, locals, operand stack; and the heap -/
abbrev am_F : Type := Nat × am_L × List Value × am_H
/-- an end: returned with a value or none; thrown, the address of what was thrown -/
abbrev am_O : Type := Option Value ⊕ Nat
/-! stacks -/
noncomputable def am_i1 (S : List Value) (f : Int32 → Value) : Option (List Value) := match S with
  | .int x :: r => some (f x :: r)
  | _ => none
noncomputable def am_i2 (S : List Value) (f : Int32 → Int32 → Value) : Option (List Value) := match S with
  | .int y :: .int x :: r => some (f x y :: r)
  | _ => none
noncomputable def am_l1 (S : List Value) (f : Int64 → Value) : Option (List Value) := match S with
  | .long x :: r => some (f x :: r)
  | _ => none
noncomputable def am_l2 (S : List Value) (f : Int64 → Int64 → Value) : Option (List Value) := match S with
  | .long y :: .long x :: r => some (f x y :: r)
  | _ => none
noncomputable def am_li (S : List Value) (f : Int64 → Int32 → Value) : Option (List Value) := match S with
  | .int y :: .long x :: r => some (f x y :: r)
  | _ => none
/-- instructions that touch the operand stack alone -/
noncomputable def am_sop (i : Instr) (S : List Value) : Option (List Value) := match i with
  | .iconst n => some (.int (Int32.ofInt n) :: S)
  | .bipush n => some (.int (Int32.ofInt n) :: S)
  | .sipush n => some (.int (Int32.ofInt n) :: S)
  | .lconst n => some (.long (Int64.ofNat n) :: S)
  | .aconst_null => some (.null :: S)
  | .iadd => am_i2 S fun x y => .int (x + y)
  | .isub => am_i2 S fun x y => .int (x - y)
  | .imul => am_i2 S fun x y => .int (x * y)
  | .iand => am_i2 S fun x y => .int (x &&& y)
  | .ior => am_i2 S fun x y => .int (x ||| y)
  | .ixor => am_i2 S fun x y => .int (x ^^^ y)
  | .ishl => am_i2 S fun x y => .int (x <<< (y &&& 31))
  | .ishr => am_i2 S fun x y => .int (x >>> (y &&& 31))
  | .iushr => am_i2 S fun x y => .int (x.toUInt32 >>> (y.toUInt32 &&& Int32.toUInt32 31)).toInt32
  | .ineg => am_i1 S fun x => .int (-x)
  | .i2l => am_i1 S fun x => .long x.toInt64
  | .i2c => am_i1 S fun x => .int (x.toUInt32 % 65536).toInt32
  | .i2b => am_i1 S fun x => .int x.toInt8.toInt32
  | .l2i => am_l1 S fun x => .int x.toInt32
  | .lneg => am_l1 S fun x => .long (-x)
  | .ladd => am_l2 S fun x y => .long (x + y)
  | .lsub => am_l2 S fun x y => .long (x - y)
  | .lmul => am_l2 S fun x y => .long (x * y)
  | .land => am_l2 S fun x y => .long (x &&& y)
  | .lor => am_l2 S fun x y => .long (x ||| y)
  | .lxor => am_l2 S fun x y => .long (x ^^^ y)
  | .lcmp => am_l2 S fun x y => .int (lg_cmp x y)
  | .lshl => am_li S fun x y => .long (x <<< (y.toInt64 &&& 63))
  | .lshr => am_li S fun x y => .long (x >>> (y.toInt64 &&& 63))
  | .lushr => am_li S fun x y => .long (x.toUInt64 >>> (y.toInt64.toUInt64 &&& Int64.toUInt64 63)).toInt64
  | .irem => (match S with
    | .int y :: .int x :: r => if y = 0 then none else some (.int (x - x / y * y) :: r)
    | _ => none)
  | .idiv => (match S with
    | .int y :: .int x :: r => if y = 0 then none else some (.int (x / y) :: r)
    | _ => none)
  | .lrem => (match S with
    | .long y :: .long x :: r => if y = 0 then none else some (.long (x - x / y * y) :: r)
    | _ => none)
  | .ldiv => (match S with
    | .long y :: .long x :: r => if y = 0 then none else some (.long (x / y) :: r)
    | _ => none)
  | .dup => (match S with
    | v :: r => if v.category = 1 then some (v :: v :: r) else none
    | _ => none)
  | .pop => (match S with
    | v :: r => if v.category = 1 then some r else none
    | _ => none)
  | .dup_x1 => (match S with
    | v :: w :: r => if v.category = 1 ∧ w.category = 1 then some (v :: w :: v :: r) else none
    | _ => none)
  | .dup_x2 => (match S with
    | v :: w :: z :: r => if v.category = 1 ∧ w.category = 1 ∧ z.category = 1 then some (v :: w :: z :: v :: r) else none
    | _ => none)
  | .dup2 => (match S with
    | .long x :: r => some (.long x :: .long x :: r)
    | v :: w :: r => if v.category = 1 ∧ w.category = 1 then some (v :: w :: v :: w :: r) else none
    | _ => none)
  | .pop2 => (match S with
    | .long _ :: r => some r
    | v :: w :: r => if v.category = 1 ∧ w.category = 1 then some r else none
    | _ => none)
  | _ => none
/-! locals -/
noncomputable def am_kl (o : Option Value) : Option Value := match o with
  | some (.long _) => none
  | some (.double _) => none
  | o => o
noncomputable def am_ld (L : am_L) (i : Nat) : Option Value := match L[i]? with
  | some (some v) => some v
  | _ => none
noncomputable def am_st1 (L : am_L) (i : Nat) (v : Value) : am_L := match i with
  | 0 => L.set 0 (some v)
  | j + 1 => (L.modify j am_kl).set (j + 1) (some v)
noncomputable def am_st2 (L : am_L) (i : Nat) (v : Value) : am_L := (am_st1 L i v).set (i + 1) none
noncomputable def am_isI (v : Value) : Bool := match v with
  | .int _ => true
  | _ => false
noncomputable def am_isL (v : Value) : Bool := match v with
  | .long _ => true
  | _ => false
noncomputable def am_isR (v : Value) : Bool := match v with
  | .null => true
  | .ref _ => true
  | _ => false
noncomputable def am_load (t : Value → Bool) (L : am_L) (i : Nat) (S : List Value) : Option (am_L × List Value) := match am_ld L i with
  | some v => bif t v then some (L, v :: S) else none
  | none => none
noncomputable def am_store1 (t : Value → Bool) (L : am_L) (i : Nat) (S : List Value) : Option (am_L × List Value) := match S with
  | v :: r => bif t v && decide (i < L.length) then some (am_st1 L i v, r) else none
  | _ => none
noncomputable def am_store2 (L : am_L) (i : Nat) (S : List Value) : Option (am_L × List Value) := match S with
  | .long x :: r => bif decide (i + 1 < L.length) then some (am_st2 L i (.long x), r) else none
  | _ => none
/-- instructions that touch the operand stack and the locals alone -/
noncomputable def am_lop (i : Instr) (L : am_L) (S : List Value) : Option (am_L × List Value) := match i with
  | .iload k => am_load am_isI L k S
  | .iload_n k => am_load am_isI L k S
  | .lload k => am_load am_isL L k S
  | .lload_n k => am_load am_isL L k S
  | .aload k => am_load am_isR L k S
  | .aload_n k => am_load am_isR L k S
  | .istore k => am_store1 am_isI L k S
  | .istore_n k => am_store1 am_isI L k S
  | .astore k => am_store1 am_isR L k S
  | .astore_n k => am_store1 am_isR L k S
  | .lstore k => am_store2 L k S
  | .lstore_n k => am_store2 L k S
  | .iinc k n => (match am_ld L k with
    | some (.int x) => bif decide (k < L.length) then some (am_st1 L k (.int (x + Int32.ofInt n)), S) else none
    | _ => none)
  | i => (am_sop i S).map fun S' => (L, S')
/-! branches -/
noncomputable def am_tgt (pc : Nat) (off : Int) : Nat := ((pc : Int) + off).toNat
noncomputable def am_br (c : Jvm.ClassFile.Cond) (x y : Int32) (t f : Nat) : Nat := match c with
  | .eq => if x = y then t else f
  | .ne => if x = y then f else t
  | .lt => if x < y then t else f
  | .ge => if y ≤ x then t else f
  | .gt => if y < x then t else f
  | .le => if x ≤ y then t else f
noncomputable def am_jmp (i : Instr) (pc : Nat) (S : List Value) : Option (Nat × List Value) := match i with
  | .goto off => some (am_tgt pc off, S)
  | .ifCond c off => (match S with
    | .int x :: r => some (am_br c x 0 (am_tgt pc off) (pc + 3), r)
    | _ => none)
  | .if_icmp c off => (match S with
    | .int y :: .int x :: r => some (am_br c x y (am_tgt pc off) (pc + 3), r)
    | _ => none)
  | .ifnull off => (match S with
    | .null :: r => some (am_tgt pc off, r)
    | .ref _ :: r => some (pc + 3, r)
    | _ => none)
  | .ifnonnull off => (match S with
    | .null :: r => some (pc + 3, r)
    | .ref _ :: r => some (am_tgt pc off, r)
    | _ => none)
  | .lookupswitch d ps => (match S with
    | .int x :: r => some (am_tgt pc (Op.lookupswitch.offset ps.toList d x.toInt), r)
    | _ => none)
  | .tableswitch d lo hi os => (match S with
    | .int x :: r => if x.toInt < lo ∨ hi < x.toInt then some (am_tgt pc d, r) else (match os[(x.toInt - lo).toNat]? with
      | some o => some (am_tgt pc o, r)
      | none => none)
    | _ => none)
  | _ => none
/-! the heap -/
noncomputable def am_at (A : am_H) (a k : Nat) : Option (List Value) := match A[a]? with
  | some c => bif c.1 == k then some c.2 else none
  | none => none
noncomputable def am_ix (vs : List Value) (i : Int32) : Option Value := if i < 0 then none else vs[i.toNatClampNeg]?
noncomputable def am_getf (m x : Nat) (S : List Value) (A : am_H) : Option (List Value) := match S with
  | .ref a :: r => (am_fld (am_own m) x).bind fun q => (am_at A a q.1).bind fun vs => (vs[q.2]?).map fun v => v :: r
  | _ => none
noncomputable def am_putf (m x : Nat) (S : List Value) (A : am_H) : Option (List Value × am_H) := match S with
  | v :: .ref a :: r => (am_fld (am_own m) x).bind fun q => (am_at A a q.1).bind fun vs =>
      bif fits (am_fty q.1 q.2) v && (decide (q.2 < vs.length) && decide (am_S0 ≤ a)) then some (r, A.set a (q.1, vs.set q.2 v)) else none
  | _ => none
noncomputable def am_atk (t : ArrayType) : Nat := match t with
  | .boolean => 103
  | .char => 102
  | .float => 105
  | .double => 106
  | .byte => 104
  | .short => 107
  | .int => 100
  | .long => 101
noncomputable def am_newa (k : Nat) (v : Value) (S : List Value) (A : am_H) : Option (List Value × am_H) := match S with
  | .int n :: r => if n < 0 then none else bif decide (n.toNatClampNeg ≤ 65536) then some (.ref A.length :: r, A ++ [(k, List.replicate n.toNatClampNeg v)]) else none
  | _ => none
noncomputable def am_alen (S : List Value) (A : am_H) : Option (List Value) := match S with
  | .ref a :: r => (A[a]?).bind fun c => bif decide (100 ≤ c.1) && decide (c.1 < 200) then some (.int (Int32.ofNat c.2.length) :: r) else none
  | _ => none
noncomputable def am_ald (p : Nat → Bool) (S : List Value) (A : am_H) : Option (List Value) := match S with
  | .int i :: .ref a :: r => (A[a]?).bind fun c => bif p c.1 then (am_ix c.2 i).map fun v => v :: r else none
  | _ => none
noncomputable def am_put (k a : Nat) (vs : List Value) (i : Int32) (v : Value) (r : List Value) (A : am_H) : Option (List Value × am_H) :=
  if i < 0 then none else bif decide (i.toNatClampNeg < vs.length) && decide (am_S0 ≤ a) then some (r, A.set a (k, vs.set i.toNatClampNeg v)) else none
noncomputable def am_ast (k : Nat) (f : Int32 → Value) (S : List Value) (A : am_H) : Option (List Value × am_H) := match S with
  | .int x :: .int i :: .ref a :: r => (am_at A a k).bind fun vs => am_put k a vs i (f x) r A
  | _ => none
noncomputable def am_lst (S : List Value) (A : am_H) : Option (List Value × am_H) := match S with
  | .long x :: .int i :: .ref a :: r => (am_at A a 101).bind fun vs => am_put 101 a vs i (.long x) r A
  | _ => none
/-- an array of references takes objects of its component's class -/
noncomputable def am_rst (S : List Value) (A : am_H) : Option (List Value × am_H) := match S with
  | .ref w :: .int i :: .ref a :: r => (A[a]?).bind fun c => (am_cmp c.1).bind fun q => (am_at A w q).bind fun _ => am_put c.1 a c.2 i (.ref w) r A
  | _ => none
noncomputable def am_cat (S : List Value) : Nat := (S.map fun v => v.category).sum
/-- calls that are one step here: Object's constructor, Throwable's constructor with a text on a fresh exception, the greater and the lesser of two numbers -/
noncomputable def am_blt (d : Nat) (q : Nat) (S : List Value) (A : am_H) : Option (List Value × am_H) := match q with
  | 1000 => (match S with
    | .ref _ :: r => bif decide (1 ≤ d) && decide (am_cat r ≤ 8) then some (r, A) else none
    | _ => none)
  | 1001 => (match S with
    | .ref _ :: .ref a :: r => (A[a]?).bind fun c => bif decide (6 ≤ d) && (decide (am_cat r ≤ 8) && (decide (200 ≤ c.1) && (decide (c.1 < 204) && decide (am_S0 ≤ a)))) then some (r, A.set a (c.1 + 10, c.2)) else none
    | _ => none)
  | 1002 => (match S with
    | .long y :: .long x :: r => bif decide (1 ≤ d) && decide (am_cat r ≤ 8) then some (.long (if y < x then x else y) :: r, A) else none
    | _ => none)
  | 1003 => (match S with
    | .int y :: .int x :: r => bif decide (1 ≤ d) && decide (am_cat r ≤ 8) then some (.int (if x < y then y else x) :: r, A) else none
    | _ => none)
  | 1004 => (match S with
    | .int y :: .int x :: r => bif decide (1 ≤ d) && decide (am_cat r ≤ 8) then some (.int (if y < x then y else x) :: r, A) else none
    | _ => none)
  | _ => none
noncomputable def am_bl (b : Bool) (d q : Nat) (S : List Value) (A : am_H) : Option (List Value × am_H) := bif b then am_blt d q S A else none
/-- a step that is no call of a method, no return, no throw -/
noncomputable def am_step (d m : Nat) (i : Instr) (len pc : Nat) (L : am_L) (S : List Value) (A : am_H) : Option am_F := match i with
  | .getfield x => (am_getf m x S A).map fun S' => (pc + len, L, S', A)
  | .putfield x => (am_putf m x S A).map fun q => (pc + len, L, q.1, q.2)
  | .getstatic x => (am_stt (am_own m) x).map fun v => (pc + len, L, v :: S, A)
  | .ldc x => (am_con (am_own m) x).map fun v => (pc + len, L, v :: S, A)
  | .ldc_w x => (am_con (am_own m) x).map fun v => (pc + len, L, v :: S, A)
  | .ldc2_w x => (am_con (am_own m) x).map fun v => (pc + len, L, v :: S, A)
  | .new x => (am_cls (am_own m) x).map fun k => (pc + len, L, .ref A.length :: S, A ++ [(k, am_def k)])
  | .newarray t => (am_newa (am_atk t) (defaultValue (newarray.typeOf t)) S A).map fun q => (pc + len, L, q.1, q.2)
  | .anewarray x => (am_ark (am_own m) x).bind fun k => (am_newa k .null S A).map fun q => (pc + len, L, q.1, q.2)
  | .arraylength => (am_alen S A).map fun S' => (pc + len, L, S', A)
  | .iaload => (am_ald (fun k => k == 100) S A).map fun S' => (pc + len, L, S', A)
  | .laload => (am_ald (fun k => k == 101) S A).map fun S' => (pc + len, L, S', A)
  | .caload => (am_ald (fun k => k == 102) S A).map fun S' => (pc + len, L, S', A)
  | .baload => (am_ald (fun k => k == 103 || k == 104) S A).map fun S' => (pc + len, L, S', A)
  | .aaload => (am_ald (fun k => (am_cmp k).isSome) S A).map fun S' => (pc + len, L, S', A)
  | .iastore => (am_ast 100 (fun x => .int x) S A).map fun q => (pc + len, L, q.1, q.2)
  | .castore => (am_ast 102 (fun x => narrow .char (.int x)) S A).map fun q => (pc + len, L, q.1, q.2)
  | .bastore => (am_ast 103 (fun x => narrow .boolean (.int x)) S A).map fun q => (pc + len, L, q.1, q.2)
  | .lastore => (am_lst S A).map fun q => (pc + len, L, q.1, q.2)
  | .aastore => (am_rst S A).map fun q => (pc + len, L, q.1, q.2)
  | .invokespecial x => (am_mth (am_own m) x).bind fun q => (am_bl (decide (q.1 < 1002)) d q.1 S A).map fun q => (pc + len, L, q.1, q.2)
  | .invokestatic x => (am_mth (am_own m) x).bind fun q => (am_bl (decide (1002 ≤ q.1)) d q.1 S A).map fun q => (pc + len, L, q.1, q.2)
  | .goto _ => (am_jmp i pc S).map fun q => (q.1, L, q.2, A)
  | .ifCond _ _ => (am_jmp i pc S).map fun q => (q.1, L, q.2, A)
  | .if_icmp _ _ => (am_jmp i pc S).map fun q => (q.1, L, q.2, A)
  | .ifnull _ => (am_jmp i pc S).map fun q => (q.1, L, q.2, A)
  | .ifnonnull _ => (am_jmp i pc S).map fun q => (q.1, L, q.2, A)
  | .lookupswitch _ _ => (am_jmp i pc S).map fun q => (q.1, L, q.2, A)
  | .tableswitch _ _ _ _ => (am_jmp i pc S).map fun q => (q.1, L, q.2, A)
  | i => (am_lop i L S).map fun q => (pc + len, q.1, q.2, A)
/-- 0 a step, 1 a return, 2 a call of a method, 3 a throw -/
noncomputable def am_sort (m : Nat) (i : Instr) : Nat := match i with
  | .ireturn => 1
  | .lreturn => 1
  | .areturn => 1
  | .return_ => 1
  | .athrow => 3
  | .invokevirtual _ => 2
  | .invokespecial x => (match am_mth (am_own m) x with
    | some q => bif decide (q.1 < 1000) then 2 else 0
    | none => 0)
  | .invokestatic x => (match am_mth (am_own m) x with
    | some q => bif decide (q.1 < 1000) then 2 else 0
    | none => 0)
  | _ => 0
noncomputable def am_ret (m : Nat) (i : Instr) (S : List Value) : Option (Option Value) := match i with
  | .ireturn => (match S with
    | [.int x] => (match am_rty m with
      | some t => bif fits t (.int x) then some (some (.int x)) else none
      | none => none)
    | _ => none)
  | .lreturn => (match S with
    | [.long x] => some (some (.long x))
    | _ => none)
  | .areturn => (match S with
    | [.ref a] => some (some (.ref a))
    | [.null] => some (some .null)
    | _ => none)
  | .return_ => (match S with
    | [] => some none
    | _ => none)
  | _ => none
/-- the locals with which a method begins -/
noncomputable def am_en (as : List Value) : am_L := match as with
  | [] => []
  | .long x :: r => some (.long x) :: none :: am_en r
  | .double x :: r => some (.double x) :: none :: am_en r
  | v :: r => some v :: am_en r
noncomputable def am_ent (m : Nat) (as : List Value) : am_L := am_en as ++ List.replicate (am_max m - (am_en as).length) none
/-- the method that is called, its arguments, the stack below them -/
noncomputable def am_cal (m : Nat) (i : Instr) (S : List Value) (A : am_H) : Option (Nat × List Value × List Value) := match i with
  | .invokevirtual x => (am_mth (am_own m) x).bind fun q => bif decide (q.2 ≤ S.length) && decide (am_cat (S.drop q.2) ≤ 8) then
      (match (S.take q.2).reverse with
      | .ref b :: as => bif decide ((am_en (.ref b :: as)).length ≤ am_max q.1) then (am_at A b (am_own q.1)).map fun _ => (q.1, .ref b :: as, S.drop q.2) else none
      | _ => none) else none
  | .invokespecial x => (am_mth (am_own m) x).bind fun q => bif decide (q.2 ≤ S.length) && decide (am_cat (S.drop q.2) ≤ 8) then
      (match (S.take q.2).reverse with
      | .ref b :: as => bif decide ((am_en (.ref b :: as)).length ≤ am_max q.1) then some (q.1, .ref b :: as, S.drop q.2) else none
      | _ => none) else none
  | .invokestatic x => (am_mth (am_own m) x).bind fun q => bif decide (q.2 ≤ S.length) && (decide (am_cat (S.drop q.2) ≤ 8) && decide ((am_en (S.take q.2).reverse).length ≤ am_max q.1)) then
      some (q.1, (S.take q.2).reverse, S.drop q.2) else none
  | _ => none
/-- the handler that takes what was thrown at pc -/
noncomputable def am_fnd (hs : List (Nat × Nat × Nat × Nat)) (pc k : Nat) : Option Nat := match hs with
  | [] => none
  | h :: t => bif decide (h.1 ≤ pc) && (decide (pc < h.2.1) && (k == h.2.2.2)) then some h.2.2.1 else am_fnd t pc k
noncomputable def am_knd (A : am_H) (a : Nat) : Nat := match A[a]? with
  | some c => c.1
  | none => 0
noncomputable def am_run : Nat → Nat → Nat → am_F → Option (am_O × am_H)
  | 0, _, _, _ => none
  | n + 1, d, m, (pc, L, S, A) => match am_code m pc with
    | none => none
    | some (i, len) => match am_sort m i with
      | 0 => (match am_step d m i len pc L S A with
        | some f => am_run n d m f
        | none => none)
      | 1 => (am_ret m i S).map fun v => (.inl v, A)
      | 2 => (match am_cal m i S A with
        | some (y, as, r) => (match d with
          | 0 => none
          | d' + 1 => (match am_run n d' y (0, am_ent y as, [], A) with
            | some (.inl v, A') => am_run n d m (pc + 3, L, v.toList ++ r, A')
            | some (.inr a, A') => (match am_fnd (am_hnd m) pc (am_knd A' a) with
              | some h => am_run n d m (h, L, [.ref a], A')
              | none => bif (am_hnd m).isEmpty then some (.inr a, A') else none)
            | none => none))
        | none => none)
      | _ => (match S with
        | .ref a :: _ => bif decide (210 ≤ am_knd A a) && (decide (am_knd A a < 220) && (am_hnd m).isEmpty) then some (.inr a, A) else none
        | _ => none)
/-- how many slots the cells have in all -/
noncomputable def am_sl (A : am_H) : Nat := (A.map fun c => c.2.length).sum
