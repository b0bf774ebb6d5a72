/-! A small picture of the machine: cells by number, locals by number, a step function. What it says is carried to the machine by the rows behind it. -/
section ZSEM
abbrev z_C : Type := Nat × List Value
abbrev z_H : Type := List z_C
abbrev z_L : Type := List (Nat × Value)
/-- numbers from here on stand for cells that were there before the law began (String constants) -/
def z_far : Nat := 1000000
def z_get : z_L → Nat → Option Value
  | [], _ => none
  | q :: r, i => if q.1 == i then some q.2 else z_get r i
theorem z_get_mem : ∀ {l : z_L} {i : Nat} {v : Value}, z_get l i = some v → ∃ k : Nat, l[k]? = some (i, v)
  | [], _, _, h => by cases h
  | q :: r, i, v, h => by
    unfold z_get at h
    split at h
    · rename_i e
      have e' : q.1 = i := by simpa using e
      cases h
      exact ⟨0, by rw [← e']; rfl⟩
    · obtain ⟨k, hk⟩ := z_get_mem h
      exact ⟨k + 1, by simpa using hk⟩
def z_set1 (l : z_L) (i : Nat) (v : Value) : z_L := (i, v) :: l.filter (fun q => !(q.1 == i) && !(q.1 + 1 == i && q.2.category == 2))
def z_set2 (l : z_L) (i : Nat) (v : Value) : z_L := (i, v) :: l.filter (fun q => !(q.1 == i) && (!(q.1 == i + 1) && !(q.1 + 1 == i && q.2.category == 2)))
/-- how long an instruction is -/
def z_len : Instr → Nat
  | .bipush _ | .iload _ | .istore _ | .lload _ | .lstore _ | .aload _ | .astore _ | .ldc _ | .newarray _ => 2
  | .sipush _ | .iinc _ _ | .ifCond _ _ | .if_icmp _ _ | .ifnull _ | .ifnonnull _ | .goto _ | .getfield _ | .putfield _ | .getstatic _ | .invokevirtual _ | .invokestatic _ | .invokespecial _ | .new _ | .anewarray _ | .ldc_w _ | .ldc2_w _ => 3
  | .multianewarray _ _ => 4
  | _ => 1
def z_i1 (f : Int32 → Value) : List Value → Option (List Value)
  | .int x :: st => some (f x :: st)
  | _ => none
def z_i2 (f : Int32 → Int32 → Value) : List Value → Option (List Value)
  | .int y :: .int x :: st => some (f x y :: st)
  | _ => none
def z_l1 (f : Int64 → Value) : List Value → Option (List Value)
  | .long x :: st => some (f x :: st)
  | _ => none
def z_l2 (f : Int64 → Int64 → Value) : List Value → Option (List Value)
  | .long y :: .long x :: st => some (f x y :: st)
  | _ => none
def z_i2d (f : Int32 → Int32 → Value) : List Value → Option (List Value)
  | .int y :: .int x :: st => if y = 0 then none else some (f x y :: st)
  | _ => none
def z_l2d (f : Int64 → Int64 → Value) : List Value → Option (List Value)
  | .long y :: .long x :: st => if y = 0 then none else some (f x y :: st)
  | _ => none
def z_dup : List Value → Option (List Value)
  | v :: st => if v.category = 1 then some (v :: v :: st) else none
  | _ => none
def z_pop : List Value → Option (List Value)
  | v :: st => if v.category = 1 then some st else none
  | _ => none
def z_dupx1 : List Value → Option (List Value)
  | v :: w :: st => if v.category = 1 ∧ w.category = 1 then some (v :: w :: v :: st) else none
  | _ => none
def z_dup2 : List Value → Option (List Value)
  | v :: w :: st => if v.category = 1 ∧ w.category = 1 then some (v :: w :: v :: w :: st) else none
  | _ => none
/-- what changes the stack alone -/
def z_pure : Instr → List Value → Option (List Value)
  | .iconst n => fun st => some (.int (Int32.ofInt n) :: st)
  | .bipush n => fun st => some (.int (Int8.ofInt n).toInt32 :: st)
  | .sipush n => fun st => some (.int (Int16.ofInt n).toInt32 :: st)
  | .lconst n => fun st => some (.long (Int64.ofNat n) :: st)
  | .aconst_null => fun st => some (.null :: st)
  | .iadd => z_i2 fun x y => .int (x + y)
  | .isub => z_i2 fun x y => .int (x - y)
  | .imul => z_i2 fun x y => .int (x * y)
  | .iand => z_i2 fun x y => .int (x &&& y)
  | .ior => z_i2 fun x y => .int (x ||| y)
  | .ixor => z_i2 fun x y => .int (x ^^^ y)
  | .ishl => z_i2 fun x y => .int (x <<< (y &&& 31))
  | .ishr => z_i2 fun x y => .int (x >>> (y &&& 31))
  | .iushr => z_i2 fun x y => .int (x.toUInt32 >>> (y.toUInt32 &&& Int32.toUInt32 31)).toInt32
  | .idiv => z_i2d fun x y => .int (x / y)
  | .irem => z_i2d fun x y => .int (x - x / y * y)
  | .ineg => z_i1 fun x => .int (-x)
  | .i2l => z_i1 fun x => .long x.toInt64
  | .i2b => z_i1 fun x => .int x.toInt8.toInt32
  | .i2s => z_i1 fun x => .int x.toInt16.toInt32
  | .i2c => z_i1 fun x => .int (x.toUInt32 % 65536).toInt32
  | .l2i => z_l1 fun x => .int x.toInt32
  | .ladd => z_l2 fun x y => .long (x + y)
  | .lsub => z_l2 fun x y => .long (x - y)
  | .lmul => z_l2 fun x y => .long (x * y)
  | .ldiv => z_l2d fun x y => .long (x / y)
  | .lrem => z_l2d fun x y => .long (x - x / y * y)
  | .lcmp => z_l2 fun x y => .int (lg_cmp x y)
  | .dup => z_dup
  | .pop => z_pop
  | .dup_x1 => z_dupx1
  | .dup2 => z_dup2
  | _ => fun _ => none
def z_ld (k : Value → Bool) (l : z_L) (i : Nat) (st : List Value) : Option (z_L × List Value) := match z_get l i with
  | some v => if k v then some (l, v :: st) else none
  | none => none
def z_isI : Value → Bool
  | .int _ => true
  | _ => false
def z_isL : Value → Bool
  | .long _ => true
  | _ => false
def z_isA : Value → Bool
  | .ref _ => true
  | .null => true
  | _ => false
def z_st1 (k : Value → Bool) (nL : Nat) (l : z_L) (i : Nat) : List Value → Option (z_L × List Value)
  | v :: st => if k v && decide (i < nL) then some (z_set1 l i v, st) else none
  | _ => none
def z_st2 (nL : Nat) (l : z_L) (i : Nat) : List Value → Option (z_L × List Value)
  | .long x :: st => if i + 1 < nL then some (z_set2 l i (.long x), st) else none
  | _ => none
def z_inc (nL : Nat) (l : z_L) (i : Nat) (n : Int) (st : List Value) : Option (z_L × List Value) := match z_get l i with
  | some (.int x) => if i < nL then some (z_set1 l i (.int (x + Int32.ofInt n)), st) else none
  | _ => none
/-- what reads and writes the locals -/
def z_loc (nL : Nat) : Instr → z_L → List Value → Option (z_L × List Value)
  | .iload i => fun l st => z_ld z_isI l i st
  | .iload_n i => fun l st => z_ld z_isI l i st
  | .lload i => fun l st => z_ld z_isL l i st
  | .lload_n i => fun l st => z_ld z_isL l i st
  | .aload i => fun l st => z_ld z_isA l i st
  | .aload_n i => fun l st => z_ld z_isA l i st
  | .istore i => fun l st => z_st1 z_isI nL l i st
  | .istore_n i => fun l st => z_st1 z_isI nL l i st
  | .astore i => fun l st => z_st1 z_isA nL l i st
  | .astore_n i => fun l st => z_st1 z_isA nL l i st
  | .lstore i => fun l st => z_st2 nL l i st
  | .lstore_n i => fun l st => z_st2 nL l i st
  | .iinc i n => fun l st => z_inc nL l i n st
  | _ => fun _ _ => none
def z_tg (pc : Nat) (off : Int) : Option Nat := if 0 ≤ (pc : Int) + off then some ((pc : Int) + off).toNat else none
theorem z_tg_eq {pc t : Nat} {off : Int} (h : z_tg pc off = some t) : (pc : Int) + off = (t : Int) := by
  unfold z_tg at h
  split at h
  · cases h; omega
  · cases h
def z_cmp : ClassFile.Cond → Int32 → Int32 → Bool
  | .eq, x, y => decide (x = y)
  | .ne, x, y => decide (x ≠ y)
  | .lt, x, y => decide (x < y)
  | .ge, x, y => decide (y ≤ x)
  | .gt, x, y => decide (y < x)
  | .le, x, y => decide (x ≤ y)
/-- jumps -/
def z_jmp : Instr → Nat → List Value → Option (Nat × List Value)
  | .goto off => fun pc st => (z_tg pc off).map fun t => (t, st)
  | .ifCond c off => fun pc st => match st with
    | .int x :: r => (z_tg pc off).map fun t => (if z_cmp c x 0 then t else pc + 3, r)
    | _ => none
  | .if_icmp c off => fun pc st => match st with
    | .int y :: .int x :: r => (z_tg pc off).map fun t => (if z_cmp c x y then t else pc + 3, r)
    | _ => none
  | .ifnull off => fun pc st => match st with
    | .null :: r => (z_tg pc off).map fun t => (t, r)
    | .ref _ :: r => some (pc + 3, r)
    | _ => none
  | .ifnonnull off => fun pc st => match st with
    | .null :: r => some (pc + 3, r)
    | .ref _ :: r => (z_tg pc off).map fun t => (t, r)
    | _ => none
  | .tableswitch dflt lo hi offs => fun pc st => match st with
    | .int x :: r => if x.toInt < lo ∨ hi < x.toInt then (z_tg pc dflt).map fun t => (t, r) else match offs[(x.toInt - lo).toNat]? with
      | some off => (z_tg pc off).map fun t => (t, r)
      | none => none
    | _ => none
  | _ => fun _ _ => none
/-- the far things: the Strings' bytes, the script -/
abbrev z_Ss : Type := List (List Int32) × List Int32
/-- a far cell: of String number i the object (2 i) and its bytes (2 i + 1); behind the Strings the script -/
def z_fc (strs : z_Ss) (j : Nat) : Option z_C := match strs.1[j / 2]? with
  | some b => if j % 2 = 0 then some (98, [.ref (z_far + j + 1), .int 0]) else some (101, b.map Value.int)
  | none => if j = 2 * strs.1.length then some (103, strs.2.map Value.int) else none
def z_lk (strs : z_Ss) (P : z_H) (a : Nat) : Option z_C := if a < z_far then P[a]? else z_fc strs (a - z_far)
/-- an element of an array of the kind t -/
def z_al (t : Nat) (k : Value → Bool) (H : Nat → Option z_C) : List Value → Option (List Value)
  | .int i :: .ref a :: st => match H a with
    | some q => if q.1 = t ∧ 0 ≤ i.toInt then match q.2[i.toNatClampNeg]? with
        | some v => if k v then some (v :: st) else none
        | none => none
      else none
    | none => none
  | _ => none
/-- an element of an array of references, of any kind among nA -/
def z_alq (nA : Nat) (H : Nat → Option z_C) : List Value → Option (List Value)
  | .int i :: .ref a :: st => match H a with
    | some q => if 105 ≤ q.1 ∧ q.1 < 100 + nA ∧ 0 ≤ i.toInt then match q.2[i.toNatClampNeg]? with
        | some v => if z_isA v then some (v :: st) else none
        | none => none
      else none
    | none => none
  | _ => none
def z_alen (nA : Nat) (H : Nat → Option z_C) : List Value → Option (List Value)
  | .ref a :: st => match H a with
    | some q => if 100 ≤ q.1 ∧ q.1 < 100 + nA then some (.int (Int32.ofNat q.2.length) :: st) else none
    | none => none
  | _ => none
/-- a field: fld gives for a number of the pool the class and the field's place -/
def z_gf (fk : Option (Nat × Nat)) (H : Nat → Option z_C) : List Value → Option (List Value)
  | .ref a :: st => match fk with
    | some f => match H a with
      | some q => if q.1 = f.1 ∧ q.1 < 99 then match q.2[f.2]? with
          | some v => some (v :: st)
          | none => none
        else none
      | none => none
    | none => none
  | _ => none
/-- what reads the cells -/
def z_rd (fld : Nat → Option (Nat × Nat)) (nA : Nat) (H : Nat → Option z_C) : Instr → List Value → Option (List Value)
  | .getfield n => z_gf (fld n) H
  | .iaload => z_al 103 z_isI H
  | .caload => z_al 102 z_isI H
  | .baload => fun st => (z_al 101 z_isI H st).or (z_al 100 z_isI H st)
  | .laload => z_al 104 z_isL H
  | .aaload => z_alq nA H
  | .arraylength => z_alen nA H
  | _ => fun _ => none
/-- what a small array keeps of an int -/
def z_as (t : Nat) (nf : Int32 → Int32) (P : z_H) : List Value → Option (List Value × z_H)
  | .int x :: .int i :: .ref a :: st => match P[a]? with
    | some q => if q.1 = t ∧ 0 ≤ i.toInt ∧ i.toNatClampNeg < q.2.length then some (st, P.set a (t, q.2.set i.toNatClampNeg (.int (nf x)))) else none
    | none => none
  | _ => none
def z_las (P : z_H) : List Value → Option (List Value × z_H)
  | .long x :: .int i :: .ref a :: st => match P[a]? with
    | some q => if q.1 = 104 ∧ 0 ≤ i.toInt ∧ i.toNatClampNeg < q.2.length then some (st, P.set a (104, q.2.set i.toNatClampNeg (.long x))) else none
    | none => none
  | _ => none
/-- an object into an array of its class: ac gives for a kind of array the class -/
def z_aas (ac : Nat → Option Nat) (P : z_H) : List Value → Option (List Value × z_H)
  | .ref v :: .int i :: .ref a :: st => match P[a]? with
    | some q => match P[v]? with
      | some w => if 105 ≤ q.1 ∧ w.1 < 99 ∧ ac (q.1 - 100) = some w.1 ∧ 0 ≤ i.toInt ∧ i.toNatClampNeg < q.2.length then some (st, P.set a (q.1, q.2.set i.toNatClampNeg (.ref v))) else none
      | none => none
    | none => none
  | _ => none
/-- a field; a final one only where ini names its class -/
def z_pf (fk : Option (Nat × Nat)) (fty : Nat → Nat → FieldType) (fin : Nat → Nat → Bool) (ini : Option Nat) (P : z_H) : List Value → Option (List Value × z_H)
  | v :: .ref a :: st => match fk with
    | some f => match P[a]? with
      | some q => if q.1 = f.1 ∧ q.1 < 99 ∧ f.2 < q.2.length ∧ fits (fty f.1 f.2) v = true ∧ narrow (fty f.1 f.2) v = v ∧ (fin f.1 f.2 = false ∨ ini = some f.1) then some (st, P.set a (f.1, q.2.set f.2 v)) else none
      | none => none
    | none => none
  | _ => none
/-- what writes the cells -/
def z_wr (fld : Nat → Option (Nat × Nat)) (fty : Nat → Nat → FieldType) (fin : Nat → Nat → Bool) (ini : Option Nat) (ac : Nat → Option Nat) (P : z_H) : Instr → List Value → Option (List Value × z_H)
  | .putfield n => z_pf (fld n) fty fin ini P
  | .iastore => z_as 103 (fun x => x) P
  | .castore => z_as 102 (fun x => x.toUInt32.toUInt16.toUInt32.toInt32) P
  | .bastore => fun st => (z_as 101 (fun x => x.toInt8.toInt32) P st).or (z_as 100 (fun x => x &&& 1) P st)
  | .lastore => z_las P
  | .aastore => z_aas ac P
  | _ => fun _ => none
/-- the place of a kind of number among the arrays -/
def z_atc : ArrayType → Option Nat
  | .boolean => some 0
  | .byte => some 1
  | .char => some 2
  | .int => some 3
  | .long => some 4
  | _ => none
def z_dv : Nat → Value
  | 4 => .long 0
  | _ => .int 0
def z_mka (o : Option Nat) (dv : Nat → Value) (P : z_H) : List Value → Option (List Value × z_H × Nat × Nat)
  | .int n :: st => match o with
    | some t => if 0 ≤ n.toInt ∧ n.toNatClampNeg ≤ 10000 ∧ P.length < z_far then some (.ref P.length :: st, P ++ [(100 + t, List.replicate n.toNatClampNeg (dv t))], 1, n.toNatClampNeg) else none
    | none => none
  | _ => none
def z_mkm (o : Option (Nat × Nat)) (P : z_H) : List Value → Option (List Value × z_H × Nat × Nat)
  | .int k :: .int n :: st => match o with
    | some t => if 0 ≤ n.toInt ∧ 0 ≤ k.toInt ∧ n.toNatClampNeg ≤ 10000 ∧ k.toNatClampNeg ≤ 10000 ∧ P.length + 1 + n.toNatClampNeg ≤ z_far then
        some (.ref P.length :: st, P ++ (100 + t.1, (List.range n.toNatClampNeg).map (fun j => .ref (P.length + 1 + j))) :: List.replicate n.toNatClampNeg (100 + t.2, List.replicate k.toNatClampNeg (z_dv t.2)), 1 + n.toNatClampNeg, n.toNatClampNeg + n.toNatClampNeg * k.toNatClampNeg) else none
    | none => none
  | _ => none
/-- what makes cells: the stack, the cells, how many and with how many slots -/
def z_mk (cls : Nat → Option (Nat × List Value)) (aan : Nat → Option Nat) (mna : Nat → Option (Nat × Nat)) (P : z_H) : Instr → List Value → Option (List Value × z_H × Nat × Nat)
  | .new n => fun st => match cls n with
    | some q => if q.1 < 99 ∧ P.length < z_far then some (.ref P.length :: st, P ++ [q], 1, q.2.length) else none
    | none => none
  | .newarray t => z_mka (z_atc t) z_dv P
  | .anewarray n => z_mka (aan n) (fun _ => .null) P
  | .multianewarray n d => fun st => if d = 2 then z_mkm (mna n) P st else none
  | _ => fun _ => none
/-- constants of the pool; what getstatic reads stands 100000 further -/
def z_okv (k : Value → Bool) : Option Value → Option Value
  | some v => if k v then some v else none
  | none => none
theorem z_okv_spec {k : Value → Bool} {n : Nat} {o : Option Value} {v : Value} (h : z_okv k (if n < 100000 then o else none) = some v) : n < 100000 ∧ o = some v ∧ k v = true := by
  split at h
  · rename_i hn
    unfold z_okv at h
    split at h
    · split at h
      · rename_i hk
        cases h
        exact ⟨hn, rfl, hk⟩
      · cases h
    · cases h
  · cases h
def z_cstv (cst : Nat → Option Value) : Instr → Option Value
  | .ldc n => z_okv (fun v => z_isI v || z_isA v) (if n < 100000 then cst n else none)
  | .ldc_w n => z_okv z_isI (if n < 100000 then cst n else none)
  | .ldc2_w n => z_okv z_isL (if n < 100000 then cst n else none)
  | .getstatic n => cst (n + 100000)
  | _ => none
def z_cst (cst : Nat → Option Value) (ins : Instr) (st : List Value) : Option (List Value) := (z_cstv cst ins).map (· :: st)
/-- System.arraycopy between rows of ints -/
def z_cpy (ws vs : List Value) (sp dp n : Nat) : List Value := (List.range ws.length).map fun k => if dp ≤ k ∧ k < dp + n then vs.getD (sp + (k - dp)) .null else ws.getD k .null
def z_acp (P : z_H) : List Value → Option (List Value × z_H)
  | .int n :: .int dp :: .ref b :: .int sp :: .ref a :: st => match P[a]?, P[b]? with
    | some q, some w => if q.1 = 103 ∧ w.1 = 103 ∧ 0 ≤ n.toInt ∧ 0 ≤ dp.toInt ∧ 0 ≤ sp.toInt ∧ sp.toNatClampNeg + n.toNatClampNeg ≤ q.2.length ∧ dp.toNatClampNeg + n.toNatClampNeg ≤ w.2.length ∧ q.2.all z_isI = true then
        some (st, P.set b (103, z_cpy w.2 q.2 sp.toNatClampNeg dp.toNatClampNeg n.toNatClampNeg)) else none
    | _, _ => none
  | _ => none
end ZSEM
