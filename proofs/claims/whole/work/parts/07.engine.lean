/-! The memory of the model: n cells; slots made and cells made that aren't kept; shapes (0, class) or (type + 1, length); ints, longs, references by cell and place. Places from 1000000 on are the cells that were there before: six kinds, X, KINDS, the script. -/
abbrev zM : Type := Nat × (Nat × Nat) × (Nat → Nat × Nat) × (Nat → Nat → Int32) × (Nat → Nat → Int64) × (Nat → Nat → Option Nat)
def zN (M : zM) : Nat := M.1
def zZ (M : zM) : Nat := M.2.1.1
def zG (M : zM) : Nat := M.2.1.2
def zS (M : zM) : Nat → Nat × Nat := M.2.2.1
def zI (M : zM) : Nat → Nat → Int32 := M.2.2.2.1
def zJ (M : zM) : Nat → Nat → Int64 := M.2.2.2.2.1
def zP (M : zM) : Nat → Nat → Option Nat := M.2.2.2.2.2
def z2 {α : Type} (f : Nat → Nat → α) (a j : Nat) (x : α) : Nat → Nat → α := fun b i => if b = a then (if i = j then x else f b i) else f b i
def zWI (M : zM) (a j : Nat) (x : Int32) : zM := (M.1, M.2.1, M.2.2.1, z2 (zI M) a j x, M.2.2.2.2)
def zWJ (M : zM) (a j : Nat) (x : Int64) : zM := (M.1, M.2.1, M.2.2.1, M.2.2.2.1, z2 (zJ M) a j x, M.2.2.2.2.2)
def zWQ (M : zM) (a j : Nat) (x : Option Nat) : zM := (M.1, M.2.1, M.2.2.1, M.2.2.2.1, M.2.2.2.2.1, z2 (zP M) a j x)
def zNew (M : zM) (sh : Nat × Nat) (n : Nat) : zM := (M.1 + 1, (M.2.1.1 + n, M.2.1.2), (fun k => if k = M.1 then sh else zS M k), (fun b i => if b = M.1 then 0 else zI M b i), (fun b i => if b = M.1 then 0 else zJ M b i), (fun b i => if b = M.1 then none else zP M b i))
def zThr (M : zM) : zM := (M.1, (M.2.1.1 + 16, M.2.1.2 + 1), M.2.2)
/-- the locals: by place; none: not known (unset, or the second half of a long) -/
def zGet (L : List (Option Value)) (k : Nat) : Option Value := L.getD k none
def zKill (L : List (Option Value)) (k : Nat) : List (Option Value) := match k with
  | 0 => L
  | k + 1 => match zGet L k with
    | some v => if v.category = 2 then L.set k none else L
    | none => L
def zSet1 (L : List (Option Value)) (k : Nat) (v : Value) : List (Option Value) := (zKill L k).set k (some v)
def zSet2 (L : List (Option Value)) (k : Nat) (v : Value) : List (Option Value) := ((zKill L k).set k (some v)).set (k + 1) none
def zLdI (L : List (Option Value)) (k : Nat) : Option Value := match zGet L k with
  | some (.int x) => some (.int x)
  | _ => none
def zLdL (L : List (Option Value)) (k : Nat) : Option Value := match zGet L k with
  | some (.long x) => some (.long x)
  | _ => none
def zLdA (L : List (Option Value)) (k : Nat) : Option Value := match zGet L k with
  | some (.ref x) => some (.ref x)
  | _ => none
def zStI (L : List (Option Value)) (k : Nat) (st : List Value) : Option (List (Option Value) × List Value) := match st with
  | .int x :: r => if k < L.length then some (zSet1 L k (.int x), r) else none
  | _ => none
def zStA (L : List (Option Value)) (k : Nat) (st : List Value) : Option (List (Option Value) × List Value) := match st with
  | .ref x :: r => if k < L.length then some (zSet1 L k (.ref x), r) else none
  | _ => none
def zStL (L : List (Option Value)) (k : Nat) (st : List Value) : Option (List (Option Value) × List Value) := match st with
  | .long x :: r => if k + 1 < L.length then some (zSet2 L k (.long x), r) else none
  | _ => none
def zInc (L : List (Option Value)) (k : Nat) (n : Int) : Option (List (Option Value)) := match zGet L k with
  | some (.int x) => if k < L.length then some (zSet1 L k (.int (x + Int32.ofInt n))) else none
  | _ => none
/-- the stack -/
def zB2 (f : Int32 → Int32 → Int32) (st : List Value) : Option (List Value) := match st with
  | .int y :: .int x :: r => some (.int (f x y) :: r)
  | _ => none
def zD2 (f : Int32 → Int32 → Int32) (st : List Value) : Option (List Value) := match st with
  | .int y :: .int x :: r => if y = 0 then none else some (.int (f x y) :: r)
  | _ => none
def zB1 (f : Int32 → Value) (st : List Value) : Option (List Value) := match st with
  | .int x :: r => some (f x :: r)
  | _ => none
def zE2 (f : Int64 → Int64 → Value) (st : List Value) : Option (List Value) := match st with
  | .long y :: .long x :: r => some (f x y :: r)
  | _ => none
def zE2d (f : Int64 → Int64 → Int64) (st : List Value) : Option (List Value) := match st with
  | .long y :: .long x :: r => if y = 0 then none else some (.long (f x y) :: r)
  | _ => none
def zE1 (f : Int64 → Value) (st : List Value) : Option (List Value) := match st with
  | .long x :: r => some (f x :: r)
  | _ => none
def zEs (f : Int64 → Int32 → Int64) (st : List Value) : Option (List Value) := match st with
  | .int y :: .long x :: r => some (.long (f x y) :: r)
  | _ => none
def zDup (st : List Value) : Option (List Value) := match st with
  | v :: r => if v.category = 1 then some (v :: v :: r) else none
  | _ => none
def zDup2 (st : List Value) : Option (List Value) := match st with
  | v :: w :: r => if v.category = 1 ∧ w.category = 1 then some (v :: w :: v :: w :: r) else none
  | _ => none
def zPop (st : List Value) : Option (List Value) := match st with
  | v :: r => if v.category = 1 then some r else none
  | _ => none
def zJmp (pc : Nat) (off : Int) : Option Nat := if 0 ≤ (pc : Int) + off then some ((pc : Int) + off).toNat else none
def zCo (c : Jvm.ClassFile.Cond) (x y : Int32) : Bool := match c with
  | .eq => decide (x = y)
  | .ne => decide (¬ x = y)
  | .lt => decide (x < y)
  | .ge => decide (y ≤ x)
  | .gt => decide (y < x)
  | .le => decide (x ≤ y)
def zIf (c : Jvm.ClassFile.Cond) (pc : Nat) (off : Int) (st : List Value) : Option (Nat × List Value) := match st with
  | .int x :: r => (zJmp pc off).map fun t => if zCo c x 0 then (t, r) else (pc + 3, r)
  | _ => none
def zIc (c : Jvm.ClassFile.Cond) (pc : Nat) (off : Int) (st : List Value) : Option (Nat × List Value) := match st with
  | .int y :: .int x :: r => (zJmp pc off).map fun t => if zCo c x y then (t, r) else (pc + 3, r)
  | _ => none
def zIa (c : Jvm.ClassFile.ACond) (pc : Nat) (off : Int) (st : List Value) : Option (Nat × List Value) := match st with
  | .ref b :: .ref a :: r => if 1000000 ≤ a ∧ a < 1000006 ∧ 1000000 ≤ b ∧ b < 1000006 then (zJmp pc off).map fun t => if (match c with | .eq => decide (a = b) | .ne => decide (¬ a = b)) then (t, r) else (pc + 3, r) else none
  | _ => none
def zTab (d lo hi : Int) (offs : Array Int) (pc : Nat) (st : List Value) : Option (Nat × List Value) := match st with
  | .int x :: r => if x.toInt < lo ∨ hi < x.toInt then (zJmp pc d).map (fun t => (t, r)) else
    match offs[(x.toInt - lo).toNat]? with
    | some off => (zJmp pc off).map (fun t => (t, r))
    | none => none
  | _ => none
def zLks (d : Int) (ps : Array (Int × Int)) (pc : Nat) (st : List Value) : Option (Nat × List Value) := match st with
  | .int x :: r => if (ps.toList.zip (ps.toList.drop 1)).all (fun (a, next) => a.1 < next.1) = true then (zJmp pc (Op.lookupswitch.offset ps.toList d x.toInt)).map (fun t => (t, r)) else none
  | _ => none
/-- the heap -/
def zin (j : Int32) (n : Nat) : Bool := !(decide (j < 0) || decide (n ≤ j.toNatClampNeg))
def zGf (o k a : Nat) (M : zM) : Option Value := match zS M a with
  | (0, c) => if c = 11 then (if 1000000 ≤ a then (zKfd o k).map (fun e => .int (zI M a e.2.1)) else none) else
    if a < zN M then match zFld o k c with
      | some (j, false) => some (.int (zI M a j))
      | some (j, true) => (zP M a j).map Value.ref
      | none => none
    else none
  | _ => none
def zNar (t : FieldType) (x : Int32) : Bool := match t with
  | .boolean => decide (x = 0) || decide (x = 1)
  | _ => true
def zFin (y c j : Nat) : Bool := !(zTc c j).2.2.2 || (decide ((zY y).name = "<init>") && decide ((zTc c j).1 = zOn (zO y)))
def zPf (y k : Nat) (st : List Value) (M : zM) : Option (List Value × zM) := match st with
  | .int x :: .ref a :: r => match zS M a with
    | (0, c) => if a < zN M then match zFld (zO y) k c with
        | some (j, false) => if zNar (zTy c j) x && zFin y c j then some (r, zWI M a j x) else none
        | _ => none
      else none
    | _ => none
  | .ref b :: .ref a :: r => match zS M a with
    | (0, c) => if a < zN M then match zFld (zO y) k c with
        | some (j, true) => if zFin y c j then some (r, zWQ M a j (some b)) else none
        | _ => none
      else none
    | _ => none
  | _ => none
def zIld (st : List Value) (M : zM) : Option (List Value) := match st with
  | .int j :: .ref a :: r => match zS M a with
    | (1, n) => if zin j n && (decide (a < zN M) || decide (a = 1000006) || decide (a = 1000008)) then some (.int (zI M a j.toNatClampNeg) :: r) else none
    | _ => none
  | _ => none
def zZld (st : List Value) (M : zM) : Option (List Value) := match st with
  | .int j :: .ref a :: r => match zS M a with
    | (2, n) => if zin j n && decide (a < zN M) then some (.int (zI M a j.toNatClampNeg) :: r) else none
    | _ => none
  | _ => none
def zLld (st : List Value) (M : zM) : Option (List Value) := match st with
  | .int j :: .ref a :: r => match zS M a with
    | (3, n) => if zin j n && decide (a < zN M) then some (.long (zJ M a j.toNatClampNeg) :: r) else none
    | _ => none
  | _ => none
def zAld (st : List Value) (M : zM) : Option (List Value) := match st with
  | .int j :: .ref a :: r => match zS M a with
    | (t, n) => if zin j n && ((decide (a < zN M) && decide (4 ≤ t) && decide (t < 8)) || (decide (a = 1000007) && decide (t = 8))) then (zP M a j.toNatClampNeg).map (fun v => .ref v :: r) else none
  | _ => none
def zAln (st : List Value) (M : zM) : Option (List Value) := match st with
  | .ref a :: r => match zS M a with
    | (t, n) => if decide (1 ≤ t) && ((decide (a < zN M) && decide (t < 8)) || decide (a = 1000007) || decide (a = 1000008)) then some (.int (Int32.ofNat n) :: r) else none
  | _ => none
def zIst (st : List Value) (M : zM) : Option (List Value × zM) := match st with
  | .int x :: .int j :: .ref a :: r => match zS M a with
    | (1, n) => if zin j n && decide (a < zN M) then some (r, zWI M a j.toNatClampNeg x) else none
    | _ => none
  | _ => none
def zZst (st : List Value) (M : zM) : Option (List Value × zM) := match st with
  | .int x :: .int j :: .ref a :: r => match zS M a with
    | (2, n) => if zin j n && decide (a < zN M) && zNar .boolean x then some (r, zWI M a j.toNatClampNeg x) else none
    | _ => none
  | _ => none
def zAst (st : List Value) (M : zM) : Option (List Value × zM) := match st with
  | .ref v :: .int j :: .ref a :: r => match zS M a, zS M v with
    | (t, n), (0, c) => if zin j n && decide (a < zN M) && decide (v < zN M) && decide (4 ≤ t) && decide (t < 8) && decide (c < 11) && decide (zCn c = zAc (t - 1)) then some (r, zWQ M a j.toNatClampNeg (some v)) else none
    | _, _ => none
  | _ => none
def zAtp (t : ArrayType) : Option Nat := match t with
  | .int => some 0
  | .boolean => some 1
  | .long => some 2
  | _ => none
def zNwa (t : Nat) (st : List Value) (M : zM) : Option (List Value × zM) := match st with
  | .int n :: r => if decide (¬ n < 0) && decide (n.toNatClampNeg ≤ 100000) && decide (zG M = 0) && decide (zN M < 999999) then some (.ref (zN M) :: r, zNew M (t + 1, n.toNatClampNeg) n.toNatClampNeg) else none
  | _ => none
def zNwo (o k : Nat) (st : List Value) (M : zM) : Option (List Value × zM) := match zNwi o k with
  | some e => if decide (zG M = 0) && decide (zN M < 999999) then some (.ref (zN M) :: st, zNew M (0, e.2.1) (zNf e.2.1)) else none
  | none => none
def zOin (y k : Nat) (st : List Value) : Option (List Value) := match zObj (zO y) k, st with
  | some _, .ref _ :: r => if (r.map Value.category).sum ≤ 8 ∧ 1 ≤ zFr y ∧ 20 ≤ zLo y then some r else none
  | _, _ => none
def zStep (y : Nat) (i : Instr) (len pc : Nat) (L : List (Option Value)) (st : List Value) (M : zM) : Option (Nat × List (Option Value) × List Value × zM) := match i with
  | .iconst n => some (pc + 1, L, .int (Int32.ofInt n) :: st, M)
  | .bipush n => some (pc + 2, L, .int (Int8.ofInt n).toInt32 :: st, M)
  | .sipush n => some (pc + 3, L, .int (Int16.ofInt n).toInt32 :: st, M)
  | .lconst n => some (pc + 1, L, .long (Int64.ofNat n) :: st, M)
  | .ldc k => (zLdc (zO y) k).map fun e => (pc + 2, L, .int e.2.1 :: st, M)
  | .ldc_w k => (zLdc (zO y) k).map fun e => (pc + 3, L, .int e.2.1 :: st, M)
  | .ldc2_w k => (zLdl (zO y) k).map fun e => (pc + 3, L, .long e.2.1 :: st, M)
  | .iload k => (zLdI L k).map fun v => (pc + 2, L, v :: st, M)
  | .iload_n k => (zLdI L k).map fun v => (pc + 1, L, v :: st, M)
  | .lload k => (zLdL L k).map fun v => (pc + 2, L, v :: st, M)
  | .lload_n k => (zLdL L k).map fun v => (pc + 1, L, v :: st, M)
  | .aload k => (zLdA L k).map fun v => (pc + 2, L, v :: st, M)
  | .aload_n k => (zLdA L k).map fun v => (pc + 1, L, v :: st, M)
  | .istore k => (zStI L k st).map fun q => (pc + 2, q.1, q.2, M)
  | .istore_n k => (zStI L k st).map fun q => (pc + 1, q.1, q.2, M)
  | .lstore k => (zStL L k st).map fun q => (pc + 2, q.1, q.2, M)
  | .lstore_n k => (zStL L k st).map fun q => (pc + 1, q.1, q.2, M)
  | .astore k => (zStA L k st).map fun q => (pc + 2, q.1, q.2, M)
  | .astore_n k => (zStA L k st).map fun q => (pc + 1, q.1, q.2, M)
  | .iinc k n => (zInc L k n).map fun q => (pc + len, q, st, M)
  | .iadd => (zB2 (fun x y => x + y) st).map fun r => (pc + 1, L, r, M)
  | .isub => (zB2 (fun x y => x - y) st).map fun r => (pc + 1, L, r, M)
  | .imul => (zB2 (fun x y => x * y) st).map fun r => (pc + 1, L, r, M)
  | .iand => (zB2 (fun x y => x &&& y) st).map fun r => (pc + 1, L, r, M)
  | .ior => (zB2 (fun x y => x ||| y) st).map fun r => (pc + 1, L, r, M)
  | .ixor => (zB2 (fun x y => x ^^^ y) st).map fun r => (pc + 1, L, r, M)
  | .ishr => (zB2 (fun x y => x >>> (y &&& 31)) st).map fun r => (pc + 1, L, r, M)
  | .idiv => (zD2 (fun x y => x / y) st).map fun r => (pc + 1, L, r, M)
  | .irem => (zD2 (fun x y => x - x / y * y) st).map fun r => (pc + 1, L, r, M)
  | .ineg => (zB1 (fun x => .int (-x)) st).map fun r => (pc + 1, L, r, M)
  | .i2l => (zB1 (fun x => .long x.toInt64) st).map fun r => (pc + 1, L, r, M)
  | .ladd => (zE2 (fun x y => .long (x + y)) st).map fun r => (pc + 1, L, r, M)
  | .lsub => (zE2 (fun x y => .long (x - y)) st).map fun r => (pc + 1, L, r, M)
  | .lmul => (zE2 (fun x y => .long (x * y)) st).map fun r => (pc + 1, L, r, M)
  | .lxor => (zE2 (fun x y => .long (x ^^^ y)) st).map fun r => (pc + 1, L, r, M)
  | .lcmp => (zE2 (fun x y => .int (lg_cmp x y)) st).map fun r => (pc + 1, L, r, M)
  | .ldiv => (zE2d (fun x y => x / y) st).map fun r => (pc + 1, L, r, M)
  | .lneg => (zE1 (fun x => .long (-x)) st).map fun r => (pc + 1, L, r, M)
  | .l2i => (zE1 (fun x => .int x.toInt32) st).map fun r => (pc + 1, L, r, M)
  | .lshl => (zEs (fun x y => x <<< (y.toInt64 &&& 63)) st).map fun r => (pc + 1, L, r, M)
  | .lshr => (zEs (fun x y => x >>> (y.toInt64 &&& 63)) st).map fun r => (pc + 1, L, r, M)
  | .dup => (zDup st).map fun r => (pc + 1, L, r, M)
  | .dup2 => (zDup2 st).map fun r => (pc + 1, L, r, M)
  | .pop => (zPop st).map fun r => (pc + 1, L, r, M)
  | .goto off => (zJmp pc off).map fun t => (t, L, st, M)
  | .ifCond c off => (zIf c pc off st).map fun q => (q.1, L, q.2, M)
  | .if_icmp c off => (zIc c pc off st).map fun q => (q.1, L, q.2, M)
  | .if_acmp c off => (zIa c pc off st).map fun q => (q.1, L, q.2, M)
  | .tableswitch d lo hi offs => (zTab d lo hi offs pc st).map fun q => (q.1, L, q.2, M)
  | .lookupswitch d ps => (zLks d ps pc st).map fun q => (q.1, L, q.2, M)
  | .getfield k => (match st with
    | .ref a :: r => (zGf (zO y) k a M).map fun v => (pc + 3, L, v :: r, M)
    | _ => none)
  | .putfield k => (zPf y k st M).map fun q => (pc + 3, L, q.1, q.2)
  | .getstatic k => (zSti (zO y) k).map fun e => (pc + 3, L, .ref (1000000 + e.2.1) :: st, M)
  | .iaload => (zIld st M).map fun r => (pc + 1, L, r, M)
  | .baload => (zZld st M).map fun r => (pc + 1, L, r, M)
  | .laload => (zLld st M).map fun r => (pc + 1, L, r, M)
  | .aaload => (zAld st M).map fun r => (pc + 1, L, r, M)
  | .arraylength => (zAln st M).map fun r => (pc + 1, L, r, M)
  | .iastore => (zIst st M).map fun q => (pc + 1, L, q.1, q.2)
  | .bastore => (zZst st M).map fun q => (pc + 1, L, q.1, q.2)
  | .aastore => (zAst st M).map fun q => (pc + 1, L, q.1, q.2)
  | .newarray t => (match zAtp t with
    | some k => (zNwa k st M).map fun q => (pc + 2, L, q.1, q.2)
    | none => none)
  | .anewarray k => (match zAni (zO y) k with
    | some e => (zNwa e.2.1 st M).map fun q => (pc + 3, L, q.1, q.2)
    | none => none)
  | .new k => (zNwo (zO y) k st M).map fun q => (pc + 3, L, q.1, q.2)
  | .invokespecial k => (zOin y k st).map fun r => (pc + 3, L, r, M)
  | _ => none
/-- the lengths that the rows of the kit are of -/
def zLen (i : Instr) : Nat := match i with
  | .tableswitch _ _ _ _ => 0
  | .lookupswitch _ _ => 0
  | .iinc _ _ => 0
  | .invokeinterface _ _ => 5
  | .bipush _ => 2
  | .ldc _ => 2
  | .iload _ => 2
  | .lload _ => 2
  | .aload _ => 2
  | .istore _ => 2
  | .lstore _ => 2
  | .astore _ => 2
  | .newarray _ => 2
  | .sipush _ => 3
  | .ldc_w _ => 3
  | .ldc2_w _ => 3
  | .goto _ => 3
  | .ifCond _ _ => 3
  | .if_icmp _ _ => 3
  | .if_acmp _ _ => 3
  | .getfield _ => 3
  | .putfield _ => 3
  | .getstatic _ => 3
  | .anewarray _ => 3
  | .new _ => 3
  | .invokespecial _ => 3
  | .invokestatic _ => 3
  | .invokevirtual _ => 3
  | _ => 1
def zOkl (i : Instr) (len : Nat) : Bool := match i with
  | .iinc _ _ => len == 3 || len == 6
  | i => zLen i == 0 || zLen i == len
def zIns (y pc : Nat) : Option (Instr × Nat) := match (zCd y).find? (fun e => e.1 == pc) with
  | some e => if zOkl e.2.1 e.2.2 then some e.2 else none
  | none => none
def zRet (y : Nat) (i : Instr) (st : List Value) : Option (Option Value) := match i with
  | .ireturn => (match st with
    | [.int v] => (match zR y with
      | some .int => some (some (.int v))
      | some .boolean => if zNar .boolean v then some (some (.int v)) else none
      | _ => none)
    | _ => none)
  | .lreturn => (match st with
    | [.long v] => (match zR y with
      | some .long => some (some (.long v))
      | _ => none)
    | _ => none)
  | .return_ => (match st with
    | [] => (match zR y with
      | none => some none
      | _ => none)
    | _ => none)
  | _ => none
def zEa (as : List Value) : List (Option Value) := as.flatMap fun v => if v.category = 2 then [some v, none] else [some v]
def zEnt (z : Nat) (as : List Value) : List (Option Value) := zEa as ++ List.replicate (zL z - (zEa as).length) none
def zRoom (y z : Nat) (as rest : List Value) : Bool := decide (zFr z + 1 ≤ zFr y) && decide (8 + (zL z + 11) + zLo z ≤ zLo y) && decide ((rest.map Value.category).sum ≤ 8) && decide ((zEa as).length ≤ zL z)
def zNp (o k : Nat) : Option Nat := ((zCTs.getD o []).find? (fun e => e.1 == k)).map (fun e => e.2.2.2.2.1)
def zVir (y k : Nat) (f : Bool) (st : List Value) (M : zM) : Option (Nat × List Value × List Value) := match zNp (zO y) k with
  | some np => (match st.drop np with
    | .ref b :: r => (match zS M b with
      | (0, c) => (match zCal (zO y) k c with
        | some e => if decide (e.2.2.2.2.1 = np) && (if f then decide (e.2.2.1 = 6) else (decide (e.2.2.1 = 0) || decide (e.2.2.1 = 1))) && ((decide (b < zN M) && decide (c < 11)) || (decide (1000000 ≤ b) && decide (b < 1000006) && decide (c = 11))) && zRoom y e.2.2.2.1 (.ref b :: (st.take np).reverse) r then some (e.2.2.2.1, .ref b :: (st.take np).reverse, r) else none
        | none => none)
      | _ => none)
    | _ => none)
  | none => none
def zInv (y : Nat) (i : Instr) (st : List Value) (M : zM) : Option (Nat × List Value × List Value) := match i with
  | .invokestatic k => (match zCal (zO y) k 0 with
    | some e => if (decide (e.2.2.1 = 2) || decide (e.2.2.1 = 3)) && decide (e.2.2.2.2.1 ≤ st.length) && zRoom y e.2.2.2.1 (st.take e.2.2.2.2.1).reverse (st.drop e.2.2.2.2.1) then some (e.2.2.2.1, (st.take e.2.2.2.2.1).reverse, st.drop e.2.2.2.2.1) else none
    | none => none)
  | .invokespecial k => (match zCal (zO y) k 0 with
    | some e => (match st.drop e.2.2.2.2.1 with
      | .ref b :: r => if (decide (e.2.2.1 = 4) || decide (e.2.2.1 = 5)) && zRoom y e.2.2.2.1 (.ref b :: (st.take e.2.2.2.2.1).reverse) r then some (e.2.2.2.1, .ref b :: (st.take e.2.2.2.2.1).reverse, r) else none
      | _ => none)
    | none => none)
  | .invokevirtual k => zVir y k false st M
  | .invokeinterface k _ => zVir y k true st M
  | _ => none
/-- look and edge throw: 1 IndexOutOfBoundsException, 2 NoSuchElementException -/
def zThw (y : Nat) (i : Instr) : Option Nat := match i with
  | .new k => if y = 70 ∨ y = 71 then (if k = 182 then some 1 else if k = 208 then some 2 else none) else none
  | _ => none
/-- the law's own look and edge, which catch -/
def zSpc (y : Nat) (i : Instr) (st : List Value) (M : zM) : Option (Nat × List Value × Nat × List Value) := match i with
  | .invokestatic k => if y = 198 then (match st with
    | .ref out :: .int b :: .int a :: .ref x :: r => if k = 61 ∧ zS M out = (3, 1) ∧ out < zN M ∧ (r.map Value.category).sum ≤ 8 then some (70, [.ref x, .int a, .int b], out, r) else none
    | .ref out :: .int c :: .int b :: .int a :: .ref x :: r => if k = 71 ∧ zS M out = (3, 1) ∧ out < zN M ∧ (r.map Value.category).sum ≤ 8 then some (71, [.ref x, .int a, .int b, .int c], out, r) else none
    | _ => none) else none
  | _ => none
def zIl (i : Instr) : Nat := match i with
  | .invokeinterface _ _ => 5
  | _ => 3
def zX : Nat → Nat → Nat → List (Option Value) → List Value → zM → Option (Option Value × zM)
  | 0, _, _, _, _, _ => none
  | n + 1, y, pc, L, st, M =>
    match zIns y pc with
    | none => none
    | some (i, len) =>
      match zRet y i st with
      | some r => some (r, M)
      | none =>
        match zThw y i with
        | some q => some (some (.retAddr q), zThr M)
        | none =>
          match zInv y i st M with
          | some (z, as, rest) =>
            (match zX n z 0 (zEnt z as) [] M with
            | some (none, M1) => zX n y (pc + zIl i) L rest M1
            | some (some (.int v), M1) => zX n y (pc + zIl i) L (.int v :: rest) M1
            | some (some (.long v), M1) => zX n y (pc + zIl i) L (.long v :: rest) M1
            | _ => none)
          | none =>
            match zSpc y i st M with
            | some (z, as, out, rest) =>
              (match zX n z 0 (zEnt z as) [] M with
              | some (some (.int v), M1) => zX n y (pc + 3) L (.int 0 :: rest) (zWJ M1 out 0 v.toInt64)
              | some (some (.retAddr q), M1) => zX n y (pc + 3) L (.int (nI q) :: rest) M1
              | _ => none)
            | none =>
              match zStep y i len pc L st M with
              | none => none
              | some (pc', L', st', M') => zX n y pc' L' st' M'
