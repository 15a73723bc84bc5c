/-! THE ABSTRACT MACHINE: ints as Int, references as numbers of cells; a heap is a layout (code of the cell, its length, its references) and its numbers.
codes: below 100 the number of an object's class; 100 int[], 101 long[], 102 byte[], 103 boolean[], 110 State[], 111 Works[], 112 int[][].
values: (0, int), (1, long), (2, reference; -1 null; -2 and below the String constants), (9, 0) nothing. -/
abbrev ax_V : Type := Nat × Int
abbrev ax_L : Type := List (Nat × Nat × List Int)
abbrev ax_H : Type := ax_L × (Int → Int → Int)
abbrev ax_I : Type := Nat × List Nat × Int × Nat
def ax_w8 (x : Int) : Int := (x + 128) % 256 - 128
def ax_w16 (x : Int) : Int := (x + 32768) % 65536 - 32768
def ax_w32 (x : Int) : Int := (x + 2147483648) % 4294967296 - 2147483648
def ax_w64 (x : Int) : Int := (x + 9223372036854775808) % 18446744073709551616 - 9223372036854775808
def ax_and (x y : Int) : Int := (Int32.ofInt x &&& Int32.ofInt y).toInt
def ax_or (x y : Int) : Int := (Int32.ofInt x ||| Int32.ofInt y).toInt
def ax_shl (x y : Int) : Int := (Int32.ofInt x <<< (Int32.ofInt y &&& 31)).toInt
def ax_shr (x y : Int) : Int := (Int32.ofInt x >>> (Int32.ofInt y &&& 31)).toInt
def ax_ushr (x y : Int) : Int := ((Int32.ofInt x).toUInt32 >>> ((Int32.ofInt y).toUInt32 &&& Int32.toUInt32 31)).toInt32.toInt
def ax_landl (x y : Int) : Int := (Int64.ofInt x &&& Int64.ofInt y).toInt
def ax_lorl (x y : Int) : Int := (Int64.ofInt x ||| Int64.ofInt y).toInt
def ax_lcmp (x y : Int) : Int := if y < x then 1 else if x = y then 0 else -1
def ax_up (h : Int → Int → Int) (k j v : Int) : Int → Int → Int := fun k' j' => if k' = k ∧ j' = j then v else h k' j'
def ax_cp (h : Int → Int → Int) (s sp t tp n : Int) : Int → Int → Int := fun k j => if k = t ∧ tp ≤ j ∧ j < tp + n then h s (sp + (j - tp)) else h k j
def ax_zr (h : Int → Int → Int) (a : Int) : Int → Int → Int := fun k j => if a ≤ k then 0 else h k j
def ax_at (L : ax_L) (o : Int) : Option (Nat × Nat × List Int) := if o < 0 then none else L[o.toNat]?
def ax_cd (L : ax_L) (o : Int) : Nat := match ax_at L o with
  | some q => q.1
  | none => 999
def ax_ln (L : ax_L) (o : Int) : Int := match ax_at L o with
  | some q => (q.2.1 : Int)
  | none => 0
def ax_rf (L : ax_L) (o j : Int) : Int := match ax_at L o with
  | some q => q.2.2.getD j.toNat (-1)
  | none => -1
def ax_sr (L : ax_L) (o j v : Int) : ax_L := match ax_at L o with
  | some q => L.set o.toNat (q.1, q.2.1, q.2.2.set j.toNat v)
  | none => L
def ax_ld : List ax_V → Nat → ax_V
  | [], _ => (9, 0)
  | u :: _, 0 => u
  | _ :: r, k + 1 => ax_ld r k
/-- a store into a variable; not behind a long's first word -/
def ax_sto : List ax_V → Nat → ax_V → Option (List ax_V)
  | [], _, _ => none
  | _ :: r, 0, v => some (v :: r)
  | u :: r, k + 1, v => if u.1 = 1 ∧ k = 0 then none else (ax_sto r k v).map (u :: ·)
def ax_stl (ls : List ax_V) (k : Nat) (v : ax_V) : Option (List ax_V) := (ax_sto ls k v).bind fun l1 => if k + 1 < l1.length then some (l1.set (k + 1) (9, 0)) else none
def ax_pp (t : Nat) (st : List ax_V) : Option (Int × List ax_V) := match st with
  | [] => none
  | v :: r => if v.1 = t then some (v.2, r) else none
def ax_ldt (t : Nat) (ls : List ax_V) (k : Nat) : Option Int := if (ax_ld ls k).1 = t then some (ax_ld ls k).2 else none
def ax_ty : Nat → Nat → FieldType
  | 0 => tyX0
  | 1 => tyX1
  | 2 => tyX2
  | 3 => tyX3
  | 4 => tyX4
  | 5 => tyX5
  | 6 => tyX6
  | 7 => tyX7
  | 8 => tyX8
  | 9 => tyX9
  | 10 => tyX10
  | 11 => tyX11
  | _ => tyX12
def ax_fk : FieldType → Nat
  | .int => 0
  | .boolean => 1
  | .object _ => 2
  | .array _ => 2
  | _ => 9
def ax_fin (ci j : Nat) : Bool := match vwCl[ci]? with
  | some r => (r.2.1 j).2.2.2
  | none => true
def ax_nf (ci : Nat) : Nat := match vwCl[ci]? with
  | some r => r.2.2
  | none => 0
def ax_F (o i : Nat) : Option (Nat × Nat) := (ax_Fl.find? fun e => e.1 == o && e.2.1 == i).map fun e => (e.2.2.1, e.2.2.2.1)
def ax_J (o i : Nat) : Option (Nat × Nat) := (ax_Il.find? fun e => e.1 == o && e.2.1 == i).map fun e => (e.2.2.1, e.2.2.2.2)
def ax_X (o i : Nat) : Option Nat := (ax_Xl.find? fun e => e.1 == o && e.2.1 == i).map fun e => e.2.2.1
def ax_N (o i : Nat) : Option Nat := (ax_Nl.find? fun e => e.1 == o && e.2.1 == i).map fun e => e.2.2.1
def ax_Ci (o i : Nat) : Option Int := (ax_Kc.find? fun e => e.1 == o && e.2.1 == i).map fun e => e.2.2.1
def ax_Cl (o i : Nat) : Option Int := (ax_Kl.find? fun e => e.1 == o && e.2.1 == i).map fun e => e.2.2.1
def ax_Cs (o i : Nat) : Option Nat := ax_Sl.findIdx? fun e => e.1 == o && e.2.1 == i
def ax_tg (pc : Nat) (off : Int) : Option Nat := if 0 ≤ (pc : Int) + off then some ((pc : Int) + off).toNat else none
def ax_tgs (pc : Nat) : List Int → Option (List Nat)
  | [] => some []
  | x :: r => (ax_tg pc x).bind fun t => (ax_tgs pc r).map (t :: ·)
def ax_kts (pc : Nat) : List (Int × Int) → Option (List Nat)
  | [] => some []
  | (k, x) :: r => if k < 0 then none else (ax_tg pc x).bind fun t => (ax_kts pc r).map fun q => k.toNat :: t :: q
def ax_cc : Jvm.ClassFile.Cond → Nat
  | .eq => 0
  | .ne => 1
  | .lt => 2
  | .ge => 3
  | .gt => 4
  | .le => 5
def ax_putop (o kind : Nat) (q : Nat × Nat) : Option (Nat × List Nat × Int) :=
  if ax_fin q.1 q.2 = true ∧ ¬ (kind = 2 ∧ o = q.1) then none else
  if ax_nf q.1 ≤ q.2 then none else
  match ax_fk (ax_ty q.1 q.2) with
  | 0 => some (12, [q.1], (q.2 : Int))
  | 1 => some (13, [q.1], (q.2 : Int))
  | 2 => some (14, [q.1], (q.2 : Int))
  | _ => none
def ax_getop (q : Nat × Nat) : Option (Nat × List Nat × Int) :=
  if ax_nf q.1 ≤ q.2 then none else
  match ax_fk (ax_ty q.1 q.2) with
  | 0 => some (10, [q.1], (q.2 : Int))
  | 1 => some (10, [q.1], (q.2 : Int))
  | 2 => some (11, [q.1], (q.2 : Int))
  | _ => none
def ax_acode : ArrayType → Option Nat
  | .int => some 100
  | .long => some 101
  | .byte => some 102
  | .boolean => some 103
  | _ => none
def ax_refcode (ci : Nat) : Option Nat := if ci = 7 then some 110 else if ci = 10 then some 111 else none
/-- an instruction with its links resolved: o the owner of the method, kind 2 a constructor -/
def ax_R (o kind : Nat) (ret : Option FieldType) (pc : Nat) (i : Instr) : Option (Nat × List Nat × Int) := match i with
  | .iconst n => some (0, [], ax_w32 n)
  | .bipush n => some (0, [], ax_w8 n)
  | .sipush n => some (0, [], ax_w16 n)
  | .ldc k => match ax_Ci o k with
    | some v => some (0, [], v)
    | none => (ax_Cs o k).map fun (s : Nat) => (9, [], -2 - (s : Int))
  | .ldc_w k => match ax_Ci o k with
    | some v => some (0, [], v)
    | none => (ax_Cs o k).map fun (s : Nat) => (9, [], -2 - (s : Int))
  | .ldc2_w k => (ax_Cl o k).map fun v => (8, [], v)
  | .lconst n => some (8, [], (n.val : Int))
  | .iload_n k => some (1, [k.val], 0)
  | .iload k => some (1, [k], 0)
  | .lload_n k => some (2, [k.val], 0)
  | .lload k => some (2, [k], 0)
  | .aload_n k => some (3, [k.val], 0)
  | .aload k => some (3, [k], 0)
  | .istore_n k => some (4, [k.val], 0)
  | .istore k => some (4, [k], 0)
  | .lstore_n k => some (5, [k.val], 0)
  | .lstore k => some (5, [k], 0)
  | .astore_n k => some (6, [k.val], 0)
  | .astore k => some (6, [k], 0)
  | .iinc k n => some (7, [k], n)
  | .getfield k => (ax_F o k).bind ax_getop
  | .putfield k => (ax_F o k).bind (ax_putop o kind)
  | .iaload => some (15, [], 0)
  | .iastore => some (16, [], 0)
  | .laload => some (17, [], 0)
  | .lastore => some (18, [], 0)
  | .baload => some (19, [], 0)
  | .bastore => some (20, [], 0)
  | .aaload => some (21, [], 0)
  | .aastore => some (22, [], 0)
  | .arraylength => some (23, [], 0)
  | .iadd => some (24, [], 0)
  | .isub => some (25, [], 0)
  | .imul => some (26, [], 0)
  | .idiv => some (27, [], 0)
  | .irem => some (28, [], 0)
  | .iand => some (29, [], 0)
  | .ior => some (30, [], 0)
  | .ishl => some (31, [], 0)
  | .ishr => some (32, [], 0)
  | .iushr => some (33, [], 0)
  | .i2l => some (34, [], 0)
  | .l2i => some (35, [], 0)
  | .i2b => some (36, [], 0)
  | .ladd => some (37, [], 0)
  | .lsub => some (38, [], 0)
  | .lmul => some (39, [], 0)
  | .ldiv => some (40, [], 0)
  | .lrem => some (41, [], 0)
  | .land => some (42, [], 0)
  | .lor => some (43, [], 0)
  | .lcmp => some (44, [], 0)
  | .ifCond c off => (ax_tg pc off).map fun t => (45, [ax_cc c, t], 0)
  | .if_icmp c off => (ax_tg pc off).map fun t => (46, [ax_cc c, t], 0)
  | .goto off => (ax_tg pc off).map fun t => (47, [t], 0)
  | .tableswitch dflt lo hi offs => if (offs.size : Int) = hi - lo + 1 then (ax_tg pc dflt).bind fun t => (ax_tgs pc offs.toList).map fun ts => (48, t :: ts, lo) else none
  | .lookupswitch dflt ps => if (ps.toList.zip (ps.toList.drop 1)).all (fun (a, next) => a.1 < next.1) = true then (ax_tg pc dflt).bind fun t => (ax_kts pc ps.toList).map fun ts => (49, t :: ts, 0) else none
  | .ireturn => match ret with
    | some .int => some (50, [], 0)
    | some .boolean => some (51, [], 0)
    | _ => none
  | .lreturn => match ret with
    | some .long => some (52, [], 0)
    | _ => none
  | .areturn => match ret with
    | some (.object _) => some (53, [], 0)
    | _ => none
  | .return_ => match ret with
    | none => some (54, [], 0)
    | _ => none
  | .invokevirtual k => match ax_J o k with
    | some q => if q.2 = 0 then some (55, [q.1, 0], 0) else none
    | none => (ax_X o k).bind fun x => if x = 5 ∨ x = 6 then some (56, [x], 0) else none
  | .invokestatic k => match ax_J o k with
    | some q => if q.2 = 0 then some (55, [q.1, 1], 0) else none
    | none => (ax_X o k).bind fun x => if x ≤ 4 then some (56, [x], 0) else none
  | .invokespecial k => match ax_J o k with
    | some q => some (55, [q.1, 2], 0)
    | none => (ax_X o k).bind fun x => if x = 7 then some (56, [x], 0) else none
  | .new k => (ax_N o k).map fun ci => (57, [ci], 0)
  | .newarray t => (ax_acode t).map fun q => (58, [q], 0)
  | .anewarray k => ((ax_N o k).bind ax_refcode).map fun q => (59, [q], 0)
  | .multianewarray k n => if o = 5 ∧ k = 9 ∧ n = 2 then some (60, [112, 100], 0) else none
  | .dup => some (61, [], 0)
  | .dup2 => some (62, [], 0)
  | .pop => some (63, [], 0)
  | _ => none
/-- the length of an instruction (0: any) -/
def ax_le : Instr → Nat
  | .tableswitch _ _ _ _ => 0
  | .lookupswitch _ _ => 0
  | .bipush _ => 2
  | .ldc _ => 2
  | .iload _ => 2
  | .lload _ => 2
  | .aload _ => 2
  | .istore _ => 2
  | .lstore _ => 2
  | .astore _ => 2
  | .newarray _ => 2
  | .sipush _ => 3
  | .ldc_w _ => 3
  | .ldc2_w _ => 3
  | .iinc _ _ => 3
  | .getfield _ => 3
  | .putfield _ => 3
  | .ifCond _ _ => 3
  | .if_icmp _ _ => 3
  | .goto _ => 3
  | .invokevirtual _ => 3
  | .invokestatic _ => 3
  | .invokespecial _ => 3
  | .new _ => 3
  | .anewarray _ => 3
  | .multianewarray _ _ => 4
  | _ => 1
def ax_C (m pc : Nat) : Option ax_I := match ax_Ml[m]? with
  | none => none
  | some q => match decode q.2.1 pc with
    | .ok (i, len) => if ax_le i ≠ 0 ∧ ax_le i ≠ len then none else (ax_R q.2.2.2.2.1 q.2.2.2.2.2.1 q.2.2.2.1 pc i).map fun r => (r.1, r.2.1, r.2.2, len)
    | .error _ => none
def ax_cb (c : Nat) (x y : Int) : Bool := match c with
  | 0 => x == y
  | 1 => x != y
  | 2 => decide (x < y)
  | 3 => decide (y ≤ x)
  | 4 => decide (y < x)
  | _ => decide (x ≤ y)
def ax_tsw (t : Nat) : List Nat → Int → Int → Nat
  | [], _, _ => t
  | u :: us, lo, x => if x = lo then u else ax_tsw t us (lo + 1) x
def ax_lsw (t : Nat) : List Nat → Int → Nat
  | k :: u :: us, x => if x = (k : Int) then u else ax_lsw t us x
  | _, _ => t
def ax_slen (s : Int) : Int := ((ax_Sb.getD (-2 - s).toNat []).length : Int)
def ax_schr (s j : Int) : Int := ((ax_Sb.getD (-2 - s).toNat []).getD j.toNat 0 : Nat)
/-- the methods of the JDK that are taken as one step -/
def ax_in (x : Nat) (st : List ax_V) (H : ax_H) : Option (List ax_V × ax_H) := match x with
  | 0 => (ax_pp 0 st).bind fun a => (ax_pp 0 a.2).bind fun b => some ((0, if a.1 < b.1 then a.1 else b.1) :: b.2, H)
  | 1 => (ax_pp 0 st).bind fun a => (ax_pp 0 a.2).bind fun b => some ((0, if b.1 < a.1 then a.1 else b.1) :: b.2, H)
  | 2 => (ax_pp 1 st).bind fun a => (ax_pp 1 a.2).bind fun b => some ((1, if a.1 < b.1 then a.1 else b.1) :: b.2, H)
  | 3 => (ax_pp 1 st).bind fun a => (ax_pp 1 a.2).bind fun b => some ((1, if b.1 < a.1 then a.1 else b.1) :: b.2, H)
  | 4 => (ax_pp 0 st).bind fun n => (ax_pp 0 n.2).bind fun tp => (ax_pp 2 tp.2).bind fun t => (ax_pp 0 t.2).bind fun sp => (ax_pp 2 sp.2).bind fun s =>
      if ax_cd H.1 s.1 = 100 ∧ ax_cd H.1 t.1 = 100 ∧ 0 ≤ sp.1 ∧ 0 ≤ tp.1 ∧ 0 ≤ n.1 ∧ sp.1 + n.1 ≤ ax_ln H.1 s.1 ∧ tp.1 + n.1 ≤ ax_ln H.1 t.1 then some (s.2, (H.1, ax_cp H.2 s.1 sp.1 t.1 tp.1 n.1)) else none
  | 5 => (ax_pp 2 st).bind fun s => if s.1 ≤ -2 ∧ -2 - s.1 < ax_Sb.length ∧ s.2.length ≤ 4 then some ((0, ax_slen s.1) :: s.2, H) else none
  | 6 => (ax_pp 0 st).bind fun j => (ax_pp 2 j.2).bind fun s => if s.1 ≤ -2 ∧ -2 - s.1 < ax_Sb.length ∧ 0 ≤ j.1 ∧ j.1 < ax_slen s.1 then some ((0, ax_schr s.1 j.1) :: s.2, H) else none
  | _ => (ax_pp 2 st).bind fun o => if 0 ≤ o.1 ∧ ax_cd H.1 o.1 < 100 then some (o.2, H) else none
def ax_b32 (op : Nat) (x y : Int) : Option Int := match op with
  | 24 => some (ax_w32 (x + y))
  | 25 => some (ax_w32 (x - y))
  | 26 => some (ax_w32 (x * y))
  | 27 => if y = 0 then none else some (ax_w32 (x.tdiv y))
  | 28 => if y = 0 then none else some (x.tmod y)
  | 29 => some (ax_and x y)
  | 30 => some (ax_or x y)
  | 31 => some (ax_shl x y)
  | 32 => some (ax_shr x y)
  | _ => some (ax_ushr x y)
def ax_b64 (op : Nat) (x y : Int) : Option ax_V := match op with
  | 37 => some (1, ax_w64 (x + y))
  | 38 => some (1, ax_w64 (x - y))
  | 39 => some (1, ax_w64 (x * y))
  | 40 => if y = 0 then none else some (1, ax_w64 (x.tdiv y))
  | 41 => if y = 0 then none else some (1, x.tmod y)
  | 42 => some (1, ax_landl x y)
  | 43 => some (1, ax_lorl x y)
  | _ => some (0, ax_lcmp x y)
/-- the steps that read or write arrays and fields, and make cells -/
def ax_mem (op : Nat) (ops : List Nat) (v : Int) (st : List ax_V) (H : ax_H) : Option (List ax_V × ax_H) := match op with
  | 10 => (ax_pp 2 st).bind fun o => if ax_cd H.1 o.1 = ops.headD 0 then some ((0, H.2 o.1 v) :: o.2, H) else none
  | 11 => (ax_pp 2 st).bind fun o => if ax_cd H.1 o.1 = ops.headD 0 then some ((2, ax_rf H.1 o.1 v) :: o.2, H) else none
  | 12 => (ax_pp 0 st).bind fun x => (ax_pp 2 x.2).bind fun o => if ax_cd H.1 o.1 = ops.headD 0 then some (o.2, (H.1, ax_up H.2 o.1 v x.1)) else none
  | 13 => (ax_pp 0 st).bind fun x => (ax_pp 2 x.2).bind fun o => if ax_cd H.1 o.1 = ops.headD 0 ∧ (x.1 = 0 ∨ x.1 = 1) then some (o.2, (H.1, ax_up H.2 o.1 v x.1)) else none
  | 14 => (ax_pp 2 st).bind fun x => (ax_pp 2 x.2).bind fun o => if ax_cd H.1 o.1 = ops.headD 0 then some (o.2, (ax_sr H.1 o.1 v x.1, H.2)) else none
  | 15 => (ax_pp 0 st).bind fun i => (ax_pp 2 i.2).bind fun a => if ax_cd H.1 a.1 = 100 ∧ 0 ≤ i.1 ∧ i.1 < ax_ln H.1 a.1 then some ((0, H.2 a.1 i.1) :: a.2, H) else none
  | 16 => (ax_pp 0 st).bind fun x => (ax_pp 0 x.2).bind fun i => (ax_pp 2 i.2).bind fun a => if ax_cd H.1 a.1 = 100 ∧ 0 ≤ i.1 ∧ i.1 < ax_ln H.1 a.1 then some (a.2, (H.1, ax_up H.2 a.1 i.1 x.1)) else none
  | 17 => (ax_pp 0 st).bind fun i => (ax_pp 2 i.2).bind fun a => if ax_cd H.1 a.1 = 101 ∧ 0 ≤ i.1 ∧ i.1 < ax_ln H.1 a.1 then some ((1, H.2 a.1 i.1) :: a.2, H) else none
  | 18 => (ax_pp 1 st).bind fun x => (ax_pp 0 x.2).bind fun i => (ax_pp 2 i.2).bind fun a => if ax_cd H.1 a.1 = 101 ∧ 0 ≤ i.1 ∧ i.1 < ax_ln H.1 a.1 then some (a.2, (H.1, ax_up H.2 a.1 i.1 x.1)) else none
  | 19 => (ax_pp 0 st).bind fun i => (ax_pp 2 i.2).bind fun a => if (ax_cd H.1 a.1 = 102 ∨ ax_cd H.1 a.1 = 103) ∧ 0 ≤ i.1 ∧ i.1 < ax_ln H.1 a.1 then some ((0, H.2 a.1 i.1) :: a.2, H) else none
  | 20 => (ax_pp 0 st).bind fun x => (ax_pp 0 x.2).bind fun i => (ax_pp 2 i.2).bind fun a => if 0 ≤ i.1 ∧ i.1 < ax_ln H.1 a.1 then
      (if ax_cd H.1 a.1 = 102 then some (a.2, (H.1, ax_up H.2 a.1 i.1 (ax_w8 x.1))) else if ax_cd H.1 a.1 = 103 ∧ (x.1 = 0 ∨ x.1 = 1) then some (a.2, (H.1, ax_up H.2 a.1 i.1 x.1)) else none) else none
  | 21 => (ax_pp 0 st).bind fun i => (ax_pp 2 i.2).bind fun a => if (110 ≤ ax_cd H.1 a.1 ∧ ax_cd H.1 a.1 ≤ 112) ∧ 0 ≤ i.1 ∧ i.1 < ax_ln H.1 a.1 then some ((2, ax_rf H.1 a.1 i.1) :: a.2, H) else none
  | 22 => (ax_pp 2 st).bind fun x => (ax_pp 0 x.2).bind fun i => (ax_pp 2 i.2).bind fun a => if ((ax_cd H.1 a.1 = 110 ∧ ax_cd H.1 x.1 = 7) ∨ (ax_cd H.1 a.1 = 111 ∧ ax_cd H.1 x.1 = 10)) ∧ 0 ≤ i.1 ∧ i.1 < ax_ln H.1 a.1 then some (a.2, (ax_sr H.1 a.1 i.1 x.1, H.2)) else none
  | 23 => (ax_pp 2 st).bind fun a => if 100 ≤ ax_cd H.1 a.1 ∧ ax_cd H.1 a.1 ≤ 112 then some ((0, ax_ln H.1 a.1) :: a.2, H) else none
  | 57 => if ops.headD 0 < 13 then some ((2, (H.1.length : Int)) :: st, (H.1 ++ [(ops.headD 0, ax_nf (ops.headD 0), List.replicate (ax_nf (ops.headD 0)) (-1))], ax_zr H.2 H.1.length)) else none
  | 58 => (ax_pp 0 st).bind fun n => if 0 ≤ n.1 ∧ n.1 ≤ 60000 ∧ ops.headD 0 ≤ 103 ∧ 100 ≤ ops.headD 0 then some ((2, (H.1.length : Int)) :: n.2, (H.1 ++ [(ops.headD 0, n.1.toNat, [])], ax_zr H.2 H.1.length)) else none
  | 59 => (ax_pp 0 st).bind fun n => if 0 ≤ n.1 ∧ n.1 ≤ 60000 ∧ (ops.headD 0 = 110 ∨ ops.headD 0 = 111) then some ((2, (H.1.length : Int)) :: n.2, (H.1 ++ [(ops.headD 0, n.1.toNat, List.replicate n.1.toNat (-1))], ax_zr H.2 H.1.length)) else none
  | 60 => (ax_pp 0 st).bind fun k => (ax_pp 0 k.2).bind fun n => if 0 ≤ k.1 ∧ k.1 ≤ 60000 ∧ 0 ≤ n.1 ∧ n.1 ≤ 1000 then
      some ((2, (H.1.length : Int)) :: n.2, (H.1 ++ (112, n.1.toNat, (List.range n.1.toNat).map fun i => ((H.1.length + 1 + i : Nat) : Int)) :: List.replicate n.1.toNat (100, k.1.toNat, []), ax_zr H.2 H.1.length)) else none
  | _ => none
/-- one step that is no call and no return -/
def ax_st (op : Nat) (ops : List Nat) (v : Int) (len pc : Nat) (ls st : List ax_V) (H : ax_H) : Option (Nat × List ax_V × List ax_V × ax_H) :=
  if op = 0 then some (pc + len, ls, (0, v) :: st, H) else
  if op ≤ 3 then (ax_ldt (op - 1) ls (ops.headD 0)).map fun x => (pc + len, ls, (op - 1, x) :: st, H) else
  if op = 4 then (ax_pp 0 st).bind fun x => (ax_sto ls (ops.headD 0) (0, x.1)).map fun l1 => (pc + len, l1, x.2, H) else
  if op = 5 then (ax_pp 1 st).bind fun x => (ax_stl ls (ops.headD 0) (1, x.1)).map fun l1 => (pc + len, l1, x.2, H) else
  if op = 6 then (ax_pp 2 st).bind fun x => (ax_sto ls (ops.headD 0) (2, x.1)).map fun l1 => (pc + len, l1, x.2, H) else
  if op = 7 then (ax_ldt 0 ls (ops.headD 0)).bind fun x => (ax_sto ls (ops.headD 0) (0, ax_w32 (x + v))).map fun l1 => (pc + len, l1, st, H) else
  if op = 8 then some (pc + len, ls, (1, v) :: st, H) else
  if op = 9 then some (pc + len, ls, (2, v) :: st, H) else
  if op ≤ 23 then (ax_mem op ops v st H).map fun q => (pc + len, ls, q.1, q.2) else
  if op ≤ 33 then (ax_pp 0 st).bind fun y => (ax_pp 0 y.2).bind fun x => (ax_b32 op x.1 y.1).map fun z => (pc + len, ls, (0, z) :: x.2, H) else
  if op = 34 then (ax_pp 0 st).map fun x => (pc + len, ls, (1, x.1) :: x.2, H) else
  if op = 35 then (ax_pp 1 st).map fun x => (pc + len, ls, (0, ax_w32 x.1) :: x.2, H) else
  if op = 36 then (ax_pp 0 st).map fun x => (pc + len, ls, (0, ax_w8 x.1) :: x.2, H) else
  if op ≤ 44 then (ax_pp 1 st).bind fun y => (ax_pp 1 y.2).bind fun x => (ax_b64 op x.1 y.1).map fun z => (pc + len, ls, z :: x.2, H) else
  if op = 45 then (ax_pp 0 st).map fun x => (if ax_cb (ops.headD 0) x.1 0 then ops.getD 1 0 else pc + len, ls, x.2, H) else
  if op = 46 then (ax_pp 0 st).bind fun y => (ax_pp 0 y.2).map fun x => (if ax_cb (ops.headD 0) x.1 y.1 then ops.getD 1 0 else pc + len, ls, x.2, H) else
  if op = 47 then some (ops.headD 0, ls, st, H) else
  if op = 48 then (ax_pp 0 st).map fun x => (ax_tsw (ops.headD 0) (ops.drop 1) v x.1, ls, x.2, H) else
  if op = 49 then (ax_pp 0 st).map fun x => (ax_lsw (ops.headD 0) (ops.drop 1) x.1, ls, x.2, H) else
  if op = 56 then (if 6 < st.length then none else (ax_in (ops.headD 0) st H).map fun q => (pc + len, ls, q.1, q.2)) else
  if op ≤ 60 then (ax_mem op ops v st H).map fun q => (pc + len, ls, q.1, q.2) else
  if op = 61 then (match st with | u :: r => if u.1 = 0 ∨ u.1 = 2 then some (pc + len, ls, u :: u :: r, H) else none | [] => none) else
  if op = 62 then (match st with | u :: w :: r => if (u.1 = 0 ∨ u.1 = 2) ∧ (w.1 = 0 ∨ w.1 = 2) then some (pc + len, ls, u :: w :: u :: w :: r, H) else none | _ => none) else
  if op = 63 then (match st with | u :: r => if u.1 = 0 ∨ u.1 = 2 then some (pc + len, ls, r, H) else none | [] => none) else none
/-- what a return gives back -/
def ax_rt (op : Nat) (st : List ax_V) : Option ax_V := match op, st with
  | 50, [v] => if v.1 = 0 then some v else none
  | 51, [v] => if v.1 = 0 ∧ (v.2 = 0 ∨ v.2 = 1) then some v else none
  | 52, [v] => if v.1 = 1 then some v else none
  | 53, [v] => if v.1 = 2 ∧ v.2 ≠ -1 then some v else none
  | 54, [] => some (9, 0)
  | _, _ => none
def ax_ex : List ax_V → List ax_V
  | [] => []
  | v :: r => if v.1 = 1 then v :: (9, 0) :: ax_ex r else v :: ax_ex r
/-- a method's face: (how it is called: 0 virtual, 1 static, 2 constructor; its class; the kinds of what it takes, the last first; the variables beyond) -/
def ax_pm (m : Nat) : Nat × Nat × List Nat × List ax_V := match ax_Ml[m]? with
  | none => (9, 0, [], [])
  | some q => (q.2.2.2.2.2.1, q.2.2.2.2.1, q.2.2.2.2.2.2.1.reverse, List.replicate (q.2.2.1 - (q.2.2.2.2.2.2.1.map fun t => if t = 1 then 2 else 1).sum) (9, 0))
/-- what is taken from the stack, in the order told, and the rest -/
def ax_tk : List Nat → List ax_V → Option (List ax_V × List ax_V)
  | [], st => some ([], st)
  | _ :: _, [] => none
  | t :: ts, v :: st => if v.1 = t then (ax_tk ts st).map fun q => (q.1 ++ [v], q.2) else none
/-- the variables at a method's entry, and what stays on the caller's stack -/
def ax_ar (f : Nat × Nat × List Nat × List ax_V) (kind : Nat) (st : List ax_V) (L : ax_L) : Option (List ax_V × List ax_V) :=
  (ax_tk f.2.2.1 st).bind fun q => if f.1 = kind ∧ q.2.length ≤ 4 ∧ (kind = 1 ∨ ax_cd L (q.1.headD (9, -1)).2 = f.2.1) then some (ax_ex q.1 ++ f.2.2.2, q.2) else none
def ax_ps (r : ax_V) (st : List ax_V) : List ax_V := if r.1 = 9 then st else r :: st
/-- n steps at most, d calls deep at most, in method m -/
def ax_go : Nat → Nat → Nat → Option ax_I → Nat → List ax_V → List ax_V → ax_H → Option (ax_V × ax_H)
  | 0, _, _, _, _, _, _, _ => none
  | _ + 1, _, _, none, _, _, _, _ => none
  | n + 1, d, m, some (op, ops, v, len), pc, ls, st, H =>
    if op = 55 then
      (if d = 0 then none else
      (ax_ar (ax_pm (ops.headD 0)) (ops.getD 1 0) st H.1).bind fun q =>
      (ax_go n (d - 1) (ops.headD 0) (ax_C (ops.headD 0) 0) 0 q.1 [] H).bind fun r =>
      ax_go n d m (ax_C m (pc + len)) (pc + len) ls (ax_ps r.1 q.2) r.2)
    else if 50 ≤ op ∧ op ≤ 54 then (ax_rt op st).map fun r => (r, H)
    else (ax_st op ops v len pc ls st H).bind fun q => ax_go n d m (ax_C m q.1) q.1 q.2.1 q.2.2.1 q.2.2.2
