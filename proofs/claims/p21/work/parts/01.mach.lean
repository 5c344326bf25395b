/-! A small machine for the bytecode: its numbers are Int, its addresses are places in one row of cells. -/
abbrev am_V : Type := (Int ⊕ Int) ⊕ Option (Option Nat)
abbrev vI (x : Int) : am_V := .inl (.inl x)
abbrev vL (x : Int) : am_V := .inl (.inr x)
abbrev vR (k : Nat) : am_V := .inr (some (some k))
abbrev vN : am_V := .inr (some none)
/-- no value: a local that is not set -/
abbrev vU : am_V := .inr none
/-- a cell: its kind, its length, its places. Kinds: 0 int[], 1 boolean[], 2 long[], 3 int[][], 4 Boxes[], 5 Halves[], 6 Sum[], 10 + c an object of class c -/
abbrev am_K : Type := Nat × Nat × (Nat → am_V)
/-- how many cells, how many slots, the cells -/
abbrev am_H : Type := Nat × Nat × (Nat → am_K)
abbrev am_I : Type := Instr × Nat × Nat × Nat
abbrev am_C : Type := List (List (Option am_I))
/-- pc, locals, stack, heap -/
abbrev am_S : Type := Nat × List am_V × List am_V × am_H
/-- a step's end: a state; a call (method, arguments, the state behind it without the answer); the method's end -/
abbrev am_R : Type := Option (am_S ⊕ ((Nat × List am_V × am_S) ⊕ (Option am_V × am_H)))
abbrev am_F : Type := Nat → Nat → Nat → am_S → am_R
def am_w (x : Int) : Int := Int.bmod x 4294967296
def am_wl (x : Int) : Int := Int.bmod x 18446744073709551616
-- the heap
def am_up {α : Type} (f : Nat → α) (k : Nat) (v : α) : Nat → α := fun j => if j = k then v else f j
def am_wr (h : am_H) (a i : Nat) (v : am_V) : am_H := (h.1, h.2.1, am_up h.2.2 a ((h.2.2 a).1, (h.2.2 a).2.1, am_up (h.2.2 a).2.2 i v))
def am_mk (h : am_H) (kd n : Nat) (c : Nat → am_V) : am_H := (h.1 + 1, h.2.1 + n, am_up h.2.2 h.1 (kd, n, c))
-- instructions
def am_push (v : am_V) : am_F := fun len _ _ s => some (.inl (s.1 + len, s.2.1, v :: s.2.2.1, s.2.2.2))
/-- kinds of values: 0 int, 1 long, 2 reference -/
def am_is (k : Nat) (v : am_V) : Bool := match v with
  | .inl (.inl _) => k == 0
  | .inl (.inr _) => k == 1
  | .inr (some (some _)) => k == 2
  | .inr _ => false
def am_load (k i : Nat) : am_F := fun len _ _ s => match s.2.1[i]? with
  | some v => if am_is k v then some (.inl (s.1 + len, s.2.1, v :: s.2.2.1, s.2.2.2)) else none
  | none => none
/-- a long just below the place i is no value any more -/
def am_cl (ls : List am_V) (i : Nat) : List am_V := match i with
  | 0 => ls
  | j + 1 => (match ls[j]? with
    | some (.inl (.inr _)) => ls.set j vU
    | _ => ls)
def am_stor (k i : Nat) : am_F := fun len _ _ s => match s.2.2.1 with
  | v :: st => if am_is k v && decide (i < s.2.1.length) then some (.inl (s.1 + len, (am_cl s.2.1 i).set i v, st, s.2.2.2)) else none
  | _ => none
def am_storl (i : Nat) : am_F := fun len _ _ s => match s.2.2.1 with
  | (.inl (.inr x)) :: st => if i + 1 < s.2.1.length then some (.inl (s.1 + len, ((am_cl s.2.1 i).set i (vL x)).set (i + 1) vU, st, s.2.2.2)) else none
  | _ => none
def am_iinc (i : Nat) (n : Int) : am_F := fun len _ _ s => match s.2.1[i]? with
  | some (.inl (.inl x)) => some (.inl (s.1 + len, (am_cl s.2.1 i).set i (vI (am_w (x + n))), s.2.2.1, s.2.2.2))
  | _ => none
def am_bin (f : Int → Int → Option Int) : am_F := fun len _ _ s => match s.2.2.1 with
  | (.inl (.inl y)) :: (.inl (.inl x)) :: st => (f x y).map (fun z => .inl (s.1 + len, s.2.1, vI z :: st, s.2.2.2))
  | _ => none
def am_binl (f : Int → Int → Option Int) : am_F := fun len _ _ s => match s.2.2.1 with
  | (.inl (.inr y)) :: (.inl (.inr x)) :: st => (f x y).map (fun z => .inl (s.1 + len, s.2.1, vL z :: st, s.2.2.2))
  | _ => none
def am_shl (f : Int → Int → Option Int) : am_F := fun len _ _ s => match s.2.2.1 with
  | (.inl (.inl y)) :: (.inl (.inr x)) :: st => (f x y).map (fun z => .inl (s.1 + len, s.2.1, vL z :: st, s.2.2.2))
  | _ => none
def am_un (f : Int → Int) : am_F := fun len _ _ s => match s.2.2.1 with
  | (.inl (.inl x)) :: st => some (.inl (s.1 + len, s.2.1, vI (f x) :: st, s.2.2.2))
  | _ => none
def am_unl (f : Int → Int) : am_F := fun len _ _ s => match s.2.2.1 with
  | (.inl (.inr x)) :: st => some (.inl (s.1 + len, s.2.1, vL (f x) :: st, s.2.2.2))
  | _ => none
def am_i2l : am_F := fun len _ _ s => match s.2.2.1 with
  | (.inl (.inl x)) :: st => some (.inl (s.1 + len, s.2.1, vL x :: st, s.2.2.2))
  | _ => none
def am_l2i : am_F := fun len _ _ s => match s.2.2.1 with
  | (.inl (.inr x)) :: st => some (.inl (s.1 + len, s.2.1, vI (am_w x) :: st, s.2.2.2))
  | _ => none
def am_lcmp : am_F := fun len _ _ s => match s.2.2.1 with
  | (.inl (.inr y)) :: (.inl (.inr x)) :: st => some (.inl (s.1 + len, s.2.1, vI (if x < y then -1 else if x = y then 0 else 1) :: st, s.2.2.2))
  | _ => none
def am_dup : am_F := fun len _ _ s => match s.2.2.1 with
  | v :: st => if am_is 0 v || am_is 2 v then some (.inl (s.1 + len, s.2.1, v :: v :: st, s.2.2.2)) else none
  | _ => none
def am_dup2 : am_F := fun len _ _ s => match s.2.2.1 with
  | v :: w :: st => if (am_is 0 v || am_is 2 v) && (am_is 0 w || am_is 2 w) then some (.inl (s.1 + len, s.2.1, v :: w :: v :: w :: st, s.2.2.2)) else none
  | _ => none
def am_pop (k : Nat) : am_F := fun len _ _ s => match s.2.2.1 with
  | v :: st => if am_is k v then some (.inl (s.1 + len, s.2.1, st, s.2.2.2)) else none
  | _ => none
def am_cmp (c : Jvm.ClassFile.Cond) (x y : Int) : Bool := match c with
  | .eq => decide (x = y)
  | .ne => decide (¬ x = y)
  | .lt => decide (x < y)
  | .ge => decide (¬ x < y)
  | .gt => decide (y < x)
  | .le => decide (¬ y < x)
def am_if (c : Jvm.ClassFile.Cond) : am_F := fun len x _ s => match s.2.2.1 with
  | (.inl (.inl a)) :: st => some (.inl ((if am_cmp c a 0 then x else s.1 + len), s.2.1, st, s.2.2.2))
  | _ => none
def am_icmp (c : Jvm.ClassFile.Cond) : am_F := fun len x _ s => match s.2.2.1 with
  | (.inl (.inl b)) :: (.inl (.inl a)) :: st => some (.inl ((if am_cmp c a b then x else s.1 + len), s.2.1, st, s.2.2.2))
  | _ => none
def am_goto : am_F := fun _ x _ s => some (.inl (x, s.2.1, s.2.2.1, s.2.2.2))
def am_sw (d lo hi : Int) (offs : Array Int) : am_F := fun _ _ _ s => match s.2.2.1 with
  | (.inl (.inl a)) :: st => if a < lo ∨ hi < a then some (.inl (((s.1 : Int) + d).toNat, s.2.1, st, s.2.2.2)) else (match offs[(a - lo).toNat]? with
    | some o => some (.inl (((s.1 : Int) + o).toNat, s.2.1, st, s.2.2.2))
    | none => none)
  | _ => none
/-- the kind of a field's values: 0 int, 1 boolean, 2 long, 3 a reference -/
abbrev am_ft : Type := Nat → Nat → Nat
def am_fok (k : Nat) (v : am_V) : Bool := match v with
  | .inl (.inl x) => k == 0 || (k == 1 && (decide (x = 0) || decide (x = 1)))
  | .inl (.inr _) => k == 2
  | .inr (some _) => k == 3
  | .inr none => false
def am_gf : am_F := fun len x y s => match s.2.2.1 with
  | (.inr (some (some a))) :: st => if a < s.2.2.2.1 ∧ (s.2.2.2.2.2 a).1 = 10 + x ∧ y < (s.2.2.2.2.2 a).2.1 then some (.inl (s.1 + len, s.2.1, (s.2.2.2.2.2 a).2.2 y :: st, s.2.2.2)) else none
  | _ => none
def am_pf (ft : am_ft) : am_F := fun len x y s => match s.2.2.1 with
  | v :: (.inr (some (some a))) :: st => if a < s.2.2.2.1 ∧ (s.2.2.2.2.2 a).1 = 10 + x ∧ y < (s.2.2.2.2.2 a).2.1 ∧ am_fok (ft x y) v = true then some (.inl (s.1 + len, s.2.1, st, am_wr s.2.2.2 a y v)) else none
  | _ => none
def am_ald (ok : Nat → Bool) : am_F := fun len _ _ s => match s.2.2.1 with
  | (.inl (.inl i)) :: (.inr (some (some a))) :: st => if a < s.2.2.2.1 ∧ ok (s.2.2.2.2.2 a).1 = true ∧ 0 ≤ i ∧ i < ((s.2.2.2.2.2 a).2.1 : Int) then some (.inl (s.1 + len, s.2.1, (s.2.2.2.2.2 a).2.2 i.toNat :: st, s.2.2.2)) else none
  | _ => none
def am_ast (k : Nat) (vk : Nat) : am_F := fun len _ _ s => match s.2.2.1 with
  | v :: (.inl (.inl i)) :: (.inr (some (some a))) :: st => if a < s.2.2.2.1 ∧ (s.2.2.2.2.2 a).1 = k ∧ am_fok vk v = true ∧ 0 ≤ i ∧ i < ((s.2.2.2.2.2 a).2.1 : Int) then some (.inl (s.1 + len, s.2.1, st, am_wr s.2.2.2 a i.toNat v)) else none
  | _ => none
/-- the class of what an array of kind k holds -/
def am_comp (k : Nat) : Nat := match k with
  | 4 => 10
  | 5 => 12
  | _ => 13
def am_aast : am_F := fun len _ _ s => match s.2.2.1 with
  | (.inr (some (some v))) :: (.inl (.inl i)) :: (.inr (some (some a))) :: st => if a < s.2.2.2.1 ∧ v < s.2.2.2.1 ∧ 4 ≤ (s.2.2.2.2.2 a).1 ∧ (s.2.2.2.2.2 a).1 < 7 ∧ (s.2.2.2.2.2 v).1 = am_comp (s.2.2.2.2.2 a).1 ∧ 0 ≤ i ∧ i < ((s.2.2.2.2.2 a).2.1 : Int) then some (.inl (s.1 + len, s.2.1, st, am_wr s.2.2.2 a i.toNat (vR v))) else none
  | _ => none
def am_len : am_F := fun len _ _ s => match s.2.2.1 with
  | (.inr (some (some a))) :: st => if a < s.2.2.2.1 ∧ (s.2.2.2.2.2 a).1 < 7 then some (.inl (s.1 + len, s.2.1, vI ((s.2.2.2.2.2 a).2.1 : Int) :: st, s.2.2.2)) else none
  | _ => none
def am_dv (kd : Nat) : am_V := match kd with
  | 0 => vI 0
  | 1 => vI 0
  | 2 => vL 0
  | _ => vN
def am_new (ft : am_ft) : am_F := fun len x y s => some (.inl (s.1 + len, s.2.1, vR s.2.2.2.1 :: s.2.2.1, am_mk s.2.2.2 (10 + x) y (fun j => am_dv (ft x j))))
def am_newa (lo hi : Nat) : am_F := fun len x _ s => match s.2.2.1 with
  | (.inl (.inl n)) :: st => if 0 ≤ n ∧ n ≤ 1024 ∧ lo ≤ x ∧ x ≤ hi then some (.inl (s.1 + len, s.2.1, vR s.2.2.2.1 :: st, am_mk s.2.2.2 x n.toNat (fun _ => am_dv x))) else none
  | _ => none
/-- a row of n rows of k places: the outer cell, the rows behind it -/
def am_grid (h : am_H) (n k : Nat) : am_H := (h.1 + 1 + n, h.2.1 + n + n * k, fun j => if j = h.1 then (3, n, fun i => if i < n then vR (h.1 + 1 + i) else vN) else if h.1 < j ∧ j < h.1 + 1 + n then (0, k, fun _ => vI 0) else h.2.2 j)
def am_mna : am_F := fun len _ _ s => match s.2.2.1 with
  | (.inl (.inl k)) :: (.inl (.inl n)) :: st => if 0 ≤ n ∧ n ≤ 1024 ∧ 0 ≤ k ∧ k ≤ 1024 then some (.inl (s.1 + len, s.2.1, vR s.2.2.2.1 :: st, am_grid s.2.2.2 n.toNat k.toNat)) else none
  | _ => none
def am_cpy {α : Type} (f g : Nat → α) (sp dp n : Nat) : Nat → α := fun j => if dp ≤ j ∧ j < dp + n then f (sp + (j - dp)) else g j
def am_acopy : am_F := fun len _ _ s => match s.2.2.1 with
  | (.inl (.inl n)) :: (.inl (.inl dp)) :: (.inr (some (some b))) :: (.inl (.inl sp)) :: (.inr (some (some a))) :: [] =>
    if a < s.2.2.2.1 ∧ b < s.2.2.2.1 ∧ (s.2.2.2.2.2 a).1 = (s.2.2.2.2.2 b).1 ∧ ((s.2.2.2.2.2 a).1 = 0 ∨ (s.2.2.2.2.2 a).1 = 2) ∧ 0 ≤ n ∧ 0 ≤ sp ∧ 0 ≤ dp ∧ sp + n ≤ ((s.2.2.2.2.2 a).2.1 : Int) ∧ dp + n ≤ ((s.2.2.2.2.2 b).2.1 : Int) then
      some (.inl (s.1 + len, s.2.1, [], (s.2.2.2.1, s.2.2.2.2.1, am_up s.2.2.2.2.2 b ((s.2.2.2.2.2 b).1, (s.2.2.2.2.2 b).2.1, am_cpy (s.2.2.2.2.2 a).2.2 (s.2.2.2.2.2 b).2.2 sp.toNat dp.toNat n.toNat)))) else none
  | _ => none
def am_cat (v : am_V) : Nat := match v with
  | .inl (.inr _) => 2
  | _ => 1
/-- from 1000 on: a call on an object of class x / 1000 - 1 -/
def am_rcv (h : am_H) (x : Nat) (as : List am_V) : Bool := if x < 1000 then true else (match as with
  | .inr (some (some a)) :: _ => decide (a < h.1) && decide ((h.2.2 a).1 = 9 + x / 1000)
  | _ => false)
/-- a call: x % 1000 the method's number, y how many arguments. 900: Object.<init>; 901: arraycopy -/
def am_inv : am_F := fun len x y s =>
  if x = 900 then (match s.2.2.1 with
    | (.inr (some (some _))) :: [] => some (.inl (s.1 + len, s.2.1, [], s.2.2.2))
    | _ => none)
  else if x = 901 then am_acopy len x y s
  else if y ≤ s.2.2.1.length ∧ ((s.2.2.1.drop y).map am_cat).sum ≤ 8 ∧ am_rcv s.2.2.2 x (s.2.2.1.take y).reverse = true then some (.inr (.inl (x % 1000, (s.2.2.1.take y).reverse, s.1 + len, s.2.1, s.2.2.1.drop y, s.2.2.2))) else none
/-- x: 0 an int, 1 a boolean, 2 a long -/
def am_ret : am_F := fun _ x _ s => match s.2.2.1 with
  | [v] => if am_fok x v then some (.inr (.inr (some v, s.2.2.2))) else none
  | _ => none
def am_retv : am_F := fun _ _ _ s => match s.2.2.1 with
  | [] => some (.inr (.inr (none, s.2.2.2)))
  | _ => none
def am_no : am_F := fun _ _ _ _ => none
def am_cst (x y : Nat) : Int := if x = 0 then (y : Int) else Int.negSucc y
def am_ldc : am_F := fun len x y s => some (.inl (s.1 + len, s.2.1, vI (am_cst x y) :: s.2.2.1, s.2.2.2))
def am_ldc2 : am_F := fun len x y s => some (.inl (s.1 + len, s.2.1, vL (am_cst x y) :: s.2.2.1, s.2.2.2))
def am_div (x y : Int) : Option Int := if y = 0 then none else some (am_w (x.tdiv y))
def am_rem (x y : Int) : Option Int := if y = 0 then none else some (x.tmod y)
def am_divl (x y : Int) : Option Int := if y = 0 then none else some (am_wl (x.tdiv y))
def am_and (x y : Int) : Int := (Int32.ofInt x &&& Int32.ofInt y).toInt
def am_xor (x y : Int) : Int := (Int32.ofInt x ^^^ Int32.ofInt y).toInt
def am_andl (x y : Int) : Int := (Int64.ofInt x &&& Int64.ofInt y).toInt
def am_orl (x y : Int) : Int := (Int64.ofInt x ||| Int64.ofInt y).toInt
def am_shi (x y : Int) : Int := (Int32.ofInt x <<< (Int32.ofInt y &&& 31)).toInt
def am_shri (x y : Int) : Int := (Int32.ofInt x >>> (Int32.ofInt y &&& 31)).toInt
def am_shlL (x y : Int) : Int := (Int64.ofInt x <<< ((Int32.ofInt y).toInt64 &&& 63)).toInt
def am_shrL (x y : Int) : Int := (Int64.ofInt x >>> ((Int32.ofInt y).toInt64 &&& 63)).toInt
def am_ushL (x y : Int) : Int := ((Int64.ofInt x).toUInt64 >>> ((Int32.ofInt y).toInt64.toUInt64 &&& Int64.toUInt64 63)).toInt64.toInt
def am_sem (ft : am_ft) (ins : Instr) : am_F := match ins with
  | .iconst n => am_push (vI n)
  | .bipush n => am_push (vI n)
  | .sipush n => am_push (vI n)
  | .lconst n => am_push (vL (n.val : Int))
  | .ldc _ => am_ldc
  | .ldc2_w _ => am_ldc2
  | .iload_n k => am_load 0 k.val
  | .iload k => am_load 0 k
  | .lload_n k => am_load 1 k.val
  | .lload k => am_load 1 k
  | .aload_n k => am_load 2 k.val
  | .aload k => am_load 2 k
  | .istore_n k => am_stor 0 k.val
  | .istore k => am_stor 0 k
  | .lstore_n k => am_storl k.val
  | .lstore k => am_storl k
  | .astore_n k => am_stor 2 k.val
  | .astore k => am_stor 2 k
  | .iinc k n => am_iinc k n
  | .iadd => am_bin (fun x y => some (am_w (x + y)))
  | .isub => am_bin (fun x y => some (am_w (x - y)))
  | .imul => am_bin (fun x y => some (am_w (x * y)))
  | .idiv => am_bin am_div
  | .irem => am_bin am_rem
  | .ineg => am_un (fun x => am_w (-x))
  | .iand => am_bin (fun x y => some (am_and x y))
  | .ixor => am_bin (fun x y => some (am_xor x y))
  | .ishl => am_bin (fun x y => some (am_shi x y))
  | .ishr => am_bin (fun x y => some (am_shri x y))
  | .ladd => am_binl (fun x y => some (am_wl (x + y)))
  | .lmul => am_binl (fun x y => some (am_wl (x * y)))
  | .ldiv => am_binl am_divl
  | .lneg => am_unl (fun x => am_wl (-x))
  | .land => am_binl (fun x y => some (am_andl x y))
  | .lor => am_binl (fun x y => some (am_orl x y))
  | .lshl => am_shl (fun x y => some (am_shlL x y))
  | .lshr => am_shl (fun x y => some (am_shrL x y))
  | .lushr => am_shl (fun x y => some (am_ushL x y))
  | .lcmp => am_lcmp
  | .i2l => am_i2l
  | .l2i => am_l2i
  | .ifCond c _ => am_if c
  | .if_icmp c _ => am_icmp c
  | .goto _ => am_goto
  | .tableswitch d lo hi offs => am_sw d lo hi offs
  | .getfield _ => am_gf
  | .putfield _ => am_pf ft
  | .iaload => am_ald (fun k => k == 0)
  | .baload => am_ald (fun k => k == 1)
  | .laload => am_ald (fun k => k == 2)
  | .aaload => am_ald (fun k => decide (3 ≤ k) && decide (k < 7))
  | .iastore => am_ast 0 0
  | .bastore => am_ast 1 1
  | .lastore => am_ast 2 2
  | .aastore => am_aast
  | .arraylength => am_len
  | .new _ => am_new ft
  | .newarray _ => am_newa 0 2
  | .anewarray _ => am_newa 4 6
  | .multianewarray _ _ => am_mna
  | .dup => am_dup
  | .dup2 => am_dup2
  | .pop => am_pop 0
  | .pop2 => am_pop 1
  | .invokevirtual _ => am_inv
  | .invokestatic _ => am_inv
  | .invokespecial _ => am_inv
  | .ireturn => am_ret
  | .lreturn => am_ret
  | .return_ => am_retv
  | _ => am_no
/-- a program: the fields' kinds; code and number of locals of each method -/
abbrev am_P : Type := am_ft × List (am_C × Nat)
def am_row (C : am_C) (pc : Nat) : Option am_I := (C[pc / 32]?).bind (fun l => (l[pc % 32]?).bind (fun o => o))
def am_1 (ft : am_ft) (C : am_C) (s : am_S) : am_R := match am_row C s.1 with
  | some row => am_sem ft row.1 row.2.1 row.2.2.1 row.2.2.2 s
  | none => none
/-- the locals at a method's entry -/
def am_pad : Nat → List am_V → List am_V
  | 0, _ => []
  | n + 1, [] => vU :: am_pad n []
  | n + 1, .inl (.inr x) :: l => vL x :: (match n with | 0 => [] | n + 1 => vU :: am_pad n l)
  | n + 1, v :: l => v :: am_pad n l
/-- a run of at most n steps from a state to the method's end -/
def am_x (P : am_P) : Nat → am_C → am_S → Option (Option am_V × am_H)
  | 0, _, _ => none
  | n + 1, C, s => match am_1 P.1 C s with
    | none => none
    | some (.inl t) => am_x P n C t
    | some (.inr (.inl q)) => (match P.2[q.1]? with
      | none => none
      | some M => if (q.2.1.map am_cat).sum ≤ M.2 then (match am_x P n M.1 (0, am_pad M.2 q.2.1, [], q.2.2.2.2.2) with
        | none => none
        | some r => am_x P n C (q.2.2.1, q.2.2.2.1, r.1.toList ++ q.2.2.2.2.1, r.2)) else none)
    | some (.inr (.inr r)) => some r
