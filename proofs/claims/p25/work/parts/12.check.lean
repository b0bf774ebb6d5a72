section ZCK
def z_isW (w : Nat) (u : Cond) : Bool := decide (tables_1[w]? = some u)
theorem z_isW_use {w : Nat} {u : Cond} (h : z_isW w u = true) : tables_1[w]? = some u := of_decide_eq_true h
/-- a field's entry -/
def z_ckF (CT : List z_Ct) (own : String) (n : Nat) (v : Nat × Nat × Nat) : Bool :=
  if v.1 = 98 then (v.2.1 == 0 && z_isW v.2.2 (.fieldLink own n "java/lang/String" "value" "[B")) || (v.2.1 == 1 && z_isW v.2.2 (.fieldLink own n "java/lang/String" "coder" "B"))
  else match CT[v.1]? with
    | none => false
    | some c => decide (v.2.1 < c.2.length) && (z_isW v.2.2 (.fieldLink own n (c.2.getD v.2.1 z_noF).1 (c.2.getD v.2.1 z_noF).2.1 (c.2.getD v.2.1 z_noF).2.2.1) ||
        ((!(c.2.getD v.2.1 z_noF).2.2.2 || decide ((c.2.getD v.2.1 z_noF).1 ≠ own)) && match tables_1[v.2.2]? with
          | some (.fieldLinkNest o m a b d _) => decide (o = own ∧ m = n ∧ a = (c.2.getD v.2.1 z_noF).1 ∧ b = (c.2.getD v.2.1 z_noF).2.1 ∧ d = (c.2.getD v.2.1 z_noF).2.2.1)
          | _ => false))
/-- a constant's -/
def z_ckC (rs : List (String × Nat × String × Nat)) (own : String) (n : Nat) (v : Value × Nat) : Bool :=
  if 100000 ≤ n then decide (v.1 = .int 1) && z_isW v.2 (.fieldLink own (n - 100000) "java/lang/String" "COMPACT_STRINGS" "Z") else match v.1 with
    | .int x => z_isW v.2 (.constant own n x)
    | .long x => z_isW v.2 (.constantLong own n x)
    | .ref k => rs.any fun r => decide (r.1 = own ∧ r.2.1 = n ∧ k = z_far + 2 * r.2.2.2)
    | _ => false
/-- a class's -/
def z_ckL (CT : List z_Ct) (FT : List (List FieldType)) (own : String) (n : Nat) (v : Nat × List Value × Nat × Nat × Nat) : Bool := match CT[v.1]? with
  | none => false
  | some c => decide ((FT.getD v.1 []).length = c.2.length) && decide (v.2.1 = (FT.getD v.1 []).map defaultValue) && z_isW v.2.2.1 (.classLink own n c.1) && z_isW v.2.2.2.1 (.instantiable c.1 c.2.length) && z_isW v.2.2.2.2 (.initialized c.1)
def z_ckA (aty : List FieldType) (own : String) (n : Nat) (v : Nat × Nat × Nat) : Bool := match aty[v.1]? with
  | some (.object C) => z_isW v.2.1 (.classLink own n C) && z_isW v.2.2 (.arrayOver (.object C))
  | _ => false
def z_ckM (aty : List FieldType) (own : String) (n : Nat) (v : Nat × Nat × Nat × Nat) : Bool := match aty[v.2.1]? with
  | some t => decide (v.2.1 < 5) && decide (aty[v.1]? = some (.array t)) && z_isW v.2.2.1 (.classLink own n ("[" ++ (FieldType.array t).toString)) && z_isW v.2.2.2 (.arrayOver (.array t))
  | none => false
/-- a method's entry at a place of call; gw: the words of Object's constructor and of arraycopy -/
def z_ckI (M : List (List z_Mr)) (own : String) (n : Nat) (v : Nat × Nat × Nat) : Bool :=
  if v.2.1 < 3 then match z_m2 M v.1 with
    | none => false
    | some r => v.2.1 == r.2.2.2.2.2.2.2.2.1 && (z_isW v.2.2 (.methodLink own n r.1) || match tables_1[v.2.2]? with
      | some (.methodLinkNest o m y _) => decide (o = own ∧ m = n ∧ y = r.1)
      | _ => false)
  else if v.2.1 = 3 then z_isW v.2.2 (.methodLink own n Lib.objectInit)
  else if v.2.1 = 5 then z_isW v.2.2 (.methodLink own n arraycopyName)
  else false
/-- a method's own words -/
def z_ckR (CT : List z_Ct) (sels : List Cond) (r : z_Mr) : Bool :=
  plainFor r.1 && z_isW r.2.2.2.2.2.2.2.2.2.1 (.code r.1 r.2.1 r.2.2.1.1 r.2.2.2.1) && z_isW r.2.2.2.2.2.2.2.2.2.2.1 (.initialized r.1.cls) && decide (r.1.cls ≠ "java/lang/invoke/MethodHandle") && decide (r.1.cls ≠ "java/lang/invoke/VarHandle") &&
  decide ((parseMethodDescriptor r.1.desc).map (fun d => d.parameters.length) = some (if r.2.2.2.2.2.2.2.2.1 = 0 then r.2.2.1.2.1 else r.2.2.1.2.1 - 1)) &&
  (if r.2.2.2.2.2.2.2.2.1 = 0 then z_isW r.2.2.2.2.2.2.2.2.2.2.2.1 (.static r.1)
   else if r.2.2.2.2.2.2.2.2.1 = 1 then z_isW r.2.2.2.2.2.2.2.2.2.2.2.1 (.instanceMethod r.1) && (if 100000 ≤ r.2.2.2.2.2.2.2.2.2.2.2.2 then decide (sels[r.2.2.2.2.2.2.2.2.2.2.2.2 - 100000]? = some (.selects r.1.cls r.1 r.1)) else z_isW r.2.2.2.2.2.2.2.2.2.2.2.2 (.selects r.1.cls r.1 r.1)) &&
     (if r.2.2.2.2.2.1 = 98 then decide (r.1.cls = "java/lang/String") else decide (r.2.2.2.2.2.1 < 98) && match CT[r.2.2.2.2.2.1]? with
       | some c => decide (c.1 = r.1.cls)
       | none => false)
   else decide (r.1.name = "<init>") && z_isW r.2.2.2.2.2.2.2.2.2.2.2.1 (.instanceMethod r.1) && decide (r.2.2.2.1 = none))
/-- a method's pool is its class's; a constructor's class has fields of its own alone -/
def z_ckP (PL : List z_Pl) (CT : List z_Ct) (r : z_Mr) : Bool := (match PL[r.2.2.2.2.2.2.1]? with
  | some q => decide (q.1 = r.1.cls)
  | none => true) && match r.2.2.2.2.1 with
  | none => true
  | some ci => match CT[ci]? with
    | some c => decide (r.1.name = "<init>") && c.2.all fun f => decide (f.1 = r.1.cls)
    | none => true
def z_ckPl (M : List (List z_Mr)) (CT : List z_Ct) (FT : List (List FieldType)) (aty : List FieldType) (rs : List (String × Nat × String × Nat)) (q : z_Pl) : Bool :=
  z_bck (z_ckF CT q.1) q.2.1 && z_bck (z_ckC rs q.1) q.2.2.1 && z_bck (z_ckL CT FT q.1) q.2.2.2.1 && z_bck (z_ckA aty q.1) q.2.2.2.2.1 && z_bck (z_ckM aty q.1) q.2.2.2.2.2.1 && z_bck (z_ckI M q.1) q.2.2.2.2.2.2
/-- a class: the types of its fields, their words, their names differ -/
def z_ckCl (c : z_Ct) (ft : List FieldType) (lw : List Nat) : Bool :=
  (List.range c.2.length).all (fun k => decide (parseFieldDescriptor (c.2.getD k z_noF).2.2.1 = some (ft.getD k .int)) && z_isW (lw.getD k 0) (u_lay c.1 (fun k => c.2.getD k z_noF) k)) && decide ((c.2.map fun f => f.2.1).Nodup)
/-- all that is checked beside the code -/
def z_ckAll (M : List (List z_Mr)) (PL : List z_Pl) (CT : List z_Ct) (FT : List (List FieldType)) (LW : List (List Nat)) (ac : List (Option Nat)) (aty : List FieldType) (rs : List (String × Nat × String × Nat)) (sels : List Cond) (gw : Nat × Nat × Nat × Nat × Nat) (aw : Nat × Nat × Nat × Nat × Nat) : Prop :=
  (∀ q ∈ PL, z_ckPl M CT FT aty rs q = true) ∧ (∀ r ∈ M, ∀ q ∈ r, z_ckR CT sels q = true ∨ q.2.2.2.2.2.2.2.2.1 = 9) ∧ (∀ r ∈ M, ∀ q ∈ r, z_ckP PL CT q = true) ∧ ((List.range CT.length).all (fun i => z_ckCl (CT.getD i ("", [])) (FT.getD i []) (LW.getD i [])) = true) ∧
  (decide (CT.length ≤ 98) && sels.all goodWord && decide (aty.length = ac.length) && decide (aty.take 5 = [.boolean, .byte, .char, .int, .long]) && (aty.drop 5).all (fun t => t.isReference) && z_isW aw.1 (.arrayClass .boolean) && z_isW aw.2.1 (.arrayClass .byte) && z_isW aw.2.2.1 (.arrayClass .char) && z_isW aw.2.2.2.1 (.arrayClass .int) && z_isW aw.2.2.2.2 (.arrayClass .long) &&
    (List.range ac.length).all (fun i => match (ac[i]?).join with
      | none => true
      | some ci => match CT[ci]? with
        | some c => decide (aty[i]? = some (.object c.1))
        | none => false) &&
    z_isW gw.1 (.instanceMethod Lib.objectInit) && z_isW gw.2.1 (.code Lib.objectInit ⟨#[0xb1]⟩ 1 none) && z_isW gw.2.2.1 (.native arraycopyName) && z_isW gw.2.2.2.1 (.static arraycopyName) && z_isW gw.2.2.2.2 (.initialized "java/lang/System") = true)
end ZCK
