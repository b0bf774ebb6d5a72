/-! The picture's run: a big-step run by fuel, and that the machine follows it. -/
section ZEXEC
/-- a program: by method number and pc the instruction; by method number and pool number what the pool says; what is asked of the methods and classes -/
abbrev z_Pg : Type := (Nat → Nat → Option (Instr × Nat)) × (Nat → Nat → Option (Nat × Nat)) × (Nat → Nat → Option Value) × (Nat → Nat → Option (Nat × List Value)) × (Nat → Nat → Option Nat) × (Nat → Nat → Option (Nat × Nat)) × (Nat → Nat → Option (Nat × Nat)) × (Nat → Nat × Nat × Nat × Nat) × (Nat → Option FieldType) × (Nat → Option Nat) × (Nat → Nat) × (Nat → Nat → FieldType) × (Nat → Nat → Bool) × (Nat → Option Nat) × Nat × z_Ss
def z_cod (G : z_Pg) : Nat → Nat → Option (Instr × Nat) := G.1
def z_fld (G : z_Pg) : Nat → Nat → Option (Nat × Nat) := G.2.1
def z_cs (G : z_Pg) : Nat → Nat → Option Value := G.2.2.1
def z_cls (G : z_Pg) : Nat → Nat → Option (Nat × List Value) := G.2.2.2.1
def z_aan (G : z_Pg) : Nat → Nat → Option Nat := G.2.2.2.2.1
def z_mna (G : z_Pg) : Nat → Nat → Option (Nat × Nat) := G.2.2.2.2.2.1
/-- a call: the callee's number and the kind (0 static, 1 on an object, 2 a constructor, 3 Object's, 5 arraycopy) -/
def z_inv (G : z_Pg) : Nat → Nat → Option (Nat × Nat) := G.2.2.2.2.2.2.1
/-- locals, arguments with the receiver, cells and slots that it may make -/
def z_inf (G : z_Pg) : Nat → Nat × Nat × Nat × Nat := G.2.2.2.2.2.2.2.1
def z_rty (G : z_Pg) : Nat → Option FieldType := G.2.2.2.2.2.2.2.2.1
def z_ini (G : z_Pg) : Nat → Option Nat := G.2.2.2.2.2.2.2.2.2.1
def z_rcv (G : z_Pg) : Nat → Nat := G.2.2.2.2.2.2.2.2.2.2.1
def z_fty (G : z_Pg) : Nat → Nat → FieldType := G.2.2.2.2.2.2.2.2.2.2.2.1
def z_fin (G : z_Pg) : Nat → Nat → Bool := G.2.2.2.2.2.2.2.2.2.2.2.2.1
def z_ac (G : z_Pg) : Nat → Option Nat := G.2.2.2.2.2.2.2.2.2.2.2.2.2.1
def z_nA (G : z_Pg) : Nat := G.2.2.2.2.2.2.2.2.2.2.2.2.2.2.1
def z_strs (G : z_Pg) : z_Ss := G.2.2.2.2.2.2.2.2.2.2.2.2.2.2.2
def z_nL (G : z_Pg) (y : Nat) : Nat := (z_inf G y).1
def z_na (G : z_Pg) (y : Nat) : Nat := (z_inf G y).2.1
def z_mc (G : z_Pg) (y : Nat) : Nat := (z_inf G y).2.2.1
def z_ms (G : z_Pg) (y : Nat) : Nat := (z_inf G y).2.2.2
/-- a place in a run: pc, locals, stack, cells, how many cells and slots were made here -/
abbrev z_S : Type := Nat × z_L × List Value × z_H × Nat × Nat
def z_ret (rt : Option FieldType) : Instr → List Value → Option (Option Value)
  | .return_, [] => if rt = none then some none else none
  | .ireturn, [.int v] => match rt with
    | some ty => if narrow ty (.int v) = .int v then some (some (.int v)) else none
    | none => none
  | .lreturn, [.long v] => if rt = some .long then some (some (.long v)) else none
  | .areturn, [v] => match rt with
    | some (.object _) => if z_isA v then some (some v) else none
    | some (.array _) => if z_isA v then some (some v) else none
    | _ => none
  | _, _ => none
def z_cat (st : List Value) : Nat := (st.map fun v => v.category).sum
def z_at? (G : z_Pg) (P : z_H) (y kd : Nat) : List Value → Bool
  | .ref a :: _ => if kd = 1 then match z_lk (z_strs G) P a with
      | some q => q.1 == z_rcv G y
      | none => false
    else true
  | _ => kd == 0
/-- a call of y: its arguments, what stays on the stack -/
def z_args (G : z_Pg) (d : Nat) (y kd : Nat) (x : Nat) (st : List Value) (P : z_H) (c n : Nat) : Option (List Value × List Value) :=
  let as := (st.take (z_na G y)).reverse
  let r := st.drop (z_na G y)
  if z_na G y ≤ st.length ∧ 1 ≤ d ∧ z_cat r ≤ 8 ∧ z_nL G y ≤ 45 ∧ z_cat as ≤ z_nL G y ∧ c + z_mc G y ≤ z_mc G x ∧ n + z_ms G y ≤ z_ms G x ∧ (kd = 0 ∨ 1 ≤ z_na G y) ∧ (kd = 0 ∨ z_at? G P y kd as = true) then some (as, r) else none
def z_bump (G : z_Pg) (x : Nat) (q : z_S) : Option z_S := if q.2.2.2.2.1 ≤ z_mc G x ∧ q.2.2.2.2.2 ≤ z_ms G x then some q else none
/-- an instruction that calls nobody -/
def z_step (G : z_Pg) (x : Nat) (ins : Instr) (len pc : Nat) (l : z_L) (st : List Value) (P : z_H) (c n : Nat) : Option z_S :=
  match z_pure ins st with
  | some s' => some (pc + len, l, s', P, c, n)
  | none => match z_loc (z_nL G x) ins l st with
    | some q => some (pc + len, q.1, q.2, P, c, n)
    | none => match z_jmp ins pc st with
      | some q => some (q.1, l, q.2, P, c, n)
      | none => match z_rd (z_fld G x) (z_nA G) (z_lk (z_strs G) P) ins st with
        | some s' => some (pc + len, l, s', P, c, n)
        | none => match z_wr (z_fld G x) (z_fty G) (z_fin G) (z_ini G x) (z_ac G) P ins st with
          | some q => some (pc + len, l, q.1, q.2, c, n)
          | none => match z_mk (z_cls G x) (z_aan G x) (z_mna G x) P ins st with
            | some q => z_bump G x (pc + len, l, q.1, q.2.1, c + q.2.2.1, n + q.2.2.2)
            | none => match z_cst (z_cs G x) ins st with
              | some s' => some (pc + len, l, s', P, c, n)
              | none => none
def z_only (f : Nat → Bool) (o : Option (Nat × Nat)) : Option (Nat × Nat) := match o with
  | some q => if f q.2 then some q else none
  | none => none
def z_call (G : z_Pg) (x : Nat) : Instr → Option (Nat × Nat)
  | .invokevirtual n => z_only (fun k => k == 1) (z_inv G x n)
  | .invokestatic n => z_only (fun k => k == 0 || k == 5) (z_inv G x n)
  | .invokespecial n => z_only (fun k => k == 2 || k == 3) (z_inv G x n)
  | _ => none
/-- Object's own constructor, arraycopy -/
def z_prim (kd d pc : Nat) (l : z_L) (st : List Value) (P : z_H) (c n : Nat) : Option z_S :=
  if kd = 3 then match st with
    | .ref _ :: r => if 1 ≤ d ∧ z_cat r ≤ 8 then some (pc + 3, l, r, P, c, n) else none
    | _ => none
  else if kd = 5 then match z_acp P st with
    | some q => if 1 ≤ d ∧ z_cat q.1 ≤ 8 then some (pc + 3, l, q.1, q.2, c, n) else none
    | none => none
  else none
/-- what comes next: the end with a value; a place; a call with its arguments -/
def z_next (G : z_Pg) (d x : Nat) (q : z_S) : Option (Option Value ⊕ (z_S ⊕ (Nat × List Value × List Value))) :=
  match z_cod G x q.1 with
  | none => none
  | some i => match z_call G x i.1 with
    | some yk => if yk.2 < 3 then match z_args G d yk.1 yk.2 x q.2.2.1 q.2.2.2.1 q.2.2.2.2.1 q.2.2.2.2.2 with
        | some ar => some (.inr (.inr (yk.1, ar.1, ar.2)))
        | none => none
      else match z_prim yk.2 d q.1 q.2.1 q.2.2.1 q.2.2.2.1 q.2.2.2.2.1 q.2.2.2.2.2 with
        | some q' => some (.inr (.inl q'))
        | none => none
    | none => match z_ret (z_rty G x) i.1 q.2.2.1 with
      | some r => some (.inl r)
      | none => match z_step G x i.1 i.2 q.1 q.2.1 q.2.2.1 q.2.2.2.1 q.2.2.2.2.1 q.2.2.2.2.2 with
        | some q' => some (.inr (.inl q'))
        | none => none
def z_run (G : z_Pg) : Nat → Nat → Nat → z_S → Option (Option Value × z_H)
  | 0, _, _, _ => none
  | f + 1, d, x, q => match z_next G d x q with
    | none => none
    | some (.inl r) => some (r, q.2.2.2.1)
    | some (.inr (.inl q')) => z_run G f d x q'
    | some (.inr (.inr a)) => match z_run G f (d - 1) a.1 (0, lv_args 0 a.2.1, [], q.2.2.2.1, 0, 0) with
      | some o => z_run G f d x (q.1 + 3, q.2.1, o.1.toList ++ a.2.2, o.2, q.2.2.2.2.1 + z_mc G a.1, q.2.2.2.2.2 + z_ms G a.1)
      | none => none
/-- the run of a method from its start, some fuel given -/
def z_Runs (G : z_Pg) (d x : Nat) (q : z_S) (r : Option Value) (P' : z_H) : Prop := ∃ f, z_run G f d x q = some (r, P')
end ZEXEC
