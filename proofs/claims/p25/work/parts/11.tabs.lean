/-! A program as tables, and what must be checked of them, by decision, so that the rows above hold of it. -/
section ZTAB
abbrev z_bm (α : Type) : Type := List (Nat × List (Nat × α))
def z_bf {α : Type} : List (Nat × α) → Nat → Option α
  | [], _ => none
  | q :: r, n => if q.1 == n then some q.2 else z_bf r n
def z_bl {α : Type} : z_bm α → Nat → Option α
  | [], _ => none
  | b :: r, n => if Nat.ble n b.1 then z_bf b.2 n else z_bl r n
theorem z_bf_mem {α : Type} : ∀ {b : List (Nat × α)} {n : Nat} {v : α}, z_bf b n = some v → (n, v) ∈ b
  | [], _, _, h => by cases h
  | q :: r, n, v, h => by
    unfold z_bf at h
    split at h
    · rename_i e
      have e' : q.1 = n := by simpa using e
      cases h
      rw [← e']
      exact List.mem_cons_self
    · exact List.mem_cons_of_mem _ (z_bf_mem h)
theorem z_bl_mem {α : Type} : ∀ {m : z_bm α} {n : Nat} {v : α}, z_bl m n = some v → ∃ b ∈ m, (n, v) ∈ b.2
  | [], _, _, h => by cases h
  | b :: r, n, v, h => by
    unfold z_bl at h
    split at h
    · exact ⟨b, List.mem_cons_self, z_bf_mem h⟩
    · obtain ⟨b', h1, h2⟩ := z_bl_mem h
      exact ⟨b', List.mem_cons_of_mem _ h1, h2⟩
def z_bck {α : Type} (f : Nat → α → Bool) (m : z_bm α) : Bool := m.all fun b => b.2.all fun q => f q.1 q.2
theorem z_bck_use {α : Type} {f : Nat → α → Bool} {m : z_bm α} (h : z_bck f m = true) {n : Nat} {v : α} (hv : z_bl m n = some v) : f n v = true := by
  obtain ⟨b, h1, h2⟩ := z_bl_mem hv
  exact List.all_eq_true.mp (List.all_eq_true.mp h b h1) _ h2
/-- a method: name, bytes, (locals, arguments, cells, slots), what it returns, the class if a constructor, the receiver's class, its pool, its code; its kind (0 static, 1 on an object, 2 a constructor) and the places of its words -/
abbrev z_Mr : Type := MethodName × ByteArray × (Nat × Nat × Nat × Nat) × Option FieldType × Option Nat × Nat × Nat × z_bm (Instr × Nat) × (Nat × Nat × Nat × Nat × Nat)
/-- a class's pool: its name; fields (class, place, word); constants (value, word); classes (class, defaults, three words); arrays of objects (kind, two words); arrays of arrays (outer, inner, two words); methods (method, kind, word) -/
abbrev z_Pl : Type := String × z_bm (Nat × Nat × Nat) × z_bm (Value × Nat) × z_bm (Nat × List Value × Nat × Nat × Nat) × z_bm (Nat × Nat × Nat) × z_bm (Nat × Nat × Nat × Nat) × z_bm (Nat × Nat × Nat)
def z_m2 {α : Type} (M : List (List α)) (x : Nat) : Option α := match M[x / 16]? with
  | some r => r[x % 16]?
  | none => none
theorem z_m2_mem {α : Type} {M : List (List α)} {x : Nat} {a : α} (h : z_m2 M x = some a) : ∃ r ∈ M, a ∈ r := by
  unfold z_m2 at h
  split at h
  · rename_i r hr
    exact ⟨r, List.mem_of_getElem? hr, List.mem_of_getElem? h⟩
  · cases h
def z_pl (M : List (List z_Mr)) (PL : List z_Pl) (x : Nat) : Option z_Pl := match z_m2 M x with
  | some r => PL[r.2.2.2.2.2.2.1]?
  | none => none
abbrev z_Ct : Type := String × List (String × String × String × Bool)
def z_noF : String × String × String × Bool := ("", "", "", false)
def z_cl0 (CT : List z_Ct) : List vw_C := CT.map fun q => (q.1, fun k => q.2.getD k z_noF, q.2.length)
def z_mkG (M : List (List z_Mr)) (PL : List z_Pl) (CT : List z_Ct) (FT : List (List FieldType)) (ac : List (Option Nat)) (strs : z_Ss) : z_Pg :=
  (fun x pc => match z_m2 M x with | some r => z_bl r.2.2.2.2.2.2.2.1 pc | none => none,
   fun x n => match z_pl M PL x with | some q => (z_bl q.2.1 n).map fun v => (v.1, v.2.1) | none => none,
   fun x n => match z_pl M PL x with | some q => (z_bl q.2.2.1 n).map fun v => v.1 | none => none,
   fun x n => match z_pl M PL x with | some q => (z_bl q.2.2.2.1 n).map fun v => (v.1, v.2.1) | none => none,
   fun x n => match z_pl M PL x with | some q => (z_bl q.2.2.2.2.1 n).map fun v => v.1 | none => none,
   fun x n => match z_pl M PL x with | some q => (z_bl q.2.2.2.2.2.1 n).map fun v => (v.1, v.2.1) | none => none,
   fun x n => match z_pl M PL x with | some q => (z_bl q.2.2.2.2.2.2 n).map fun v => (v.1, v.2.1) | none => none,
   fun x => match z_m2 M x with | some r => r.2.2.1 | none => (0, 0, 0, 0),
   fun x => match z_m2 M x with | some r => r.2.2.2.1 | none => none,
   fun x => match z_m2 M x with | some r => r.2.2.2.2.1 | none => none,
   fun x => match z_m2 M x with | some r => r.2.2.2.2.2.1 | none => 0,
   fun ci k => (FT.getD ci []).getD k .int,
   fun ci k => ((CT.getD ci ("", [])).2.getD k z_noF).2.2.2,
   fun i => (ac[i]?).join,
   ac.length, strs)
def z_nm (M : List (List z_Mr)) (x : Nat) : MethodName := match z_m2 M x with
  | some r => r.1
  | none => ⟨"", "", ""⟩
def z_bt (M : List (List z_Mr)) (x : Nat) : ByteArray := match z_m2 M x with
  | some r => r.2.1
  | none => ⟨#[]⟩
def z_okDec (b : ByteArray) (pc : Nat) (i : Instr × Nat) : Bool := (match decode b pc with
  | .ok q => decide (q = i)
  | .error _ => false) && (match i.1 with
  | .tableswitch _ _ _ _ => true
  | ins => i.2 == z_len ins)
theorem z_okDec_use {b : ByteArray} {pc : Nat} {i : Instr × Nat} (h : z_okDec b pc i = true) : decode b pc = .ok (i.1, i.2) ∧ ((∃ d lo hi o, i.1 = .tableswitch d lo hi o) ∨ i.2 = z_len i.1) := by
  unfold z_okDec at h
  rw [Bool.and_eq_true] at h
  obtain ⟨h1, h2⟩ := h
  refine ⟨?_, ?_⟩
  · split at h1
    · rename_i q hq
      have : q = i := by simpa using h1
      rw [hq, this]
    · cases h1
  · split at h2
    · rename_i d lo hi o e
      exact Or.inl ⟨d, lo, hi, o, e⟩
    · exact Or.inr (by simpa using h2)
theorem z_tab_code {M : List (List z_Mr)} {PL : List z_Pl} {CT : List z_Ct} {FT : List (List FieldType)} {ac : List (Option Nat)} {strs : z_Ss} (h : ∀ r ∈ M, ∀ q ∈ r, z_bck (z_okDec q.2.1) q.2.2.2.2.2.2.2.1 = true) : z_OKc (z_mkG M PL CT FT ac strs) (z_bt M) := by
  intro x pc i hi
  have hi : (match z_m2 M x with | some r => z_bl r.2.2.2.2.2.2.2.1 pc | none => none) = some i := hi
  unfold z_bt
  split at hi
  · rename_i r hr
    obtain ⟨R, h1, h2⟩ := z_m2_mem hr
    exact z_okDec_use (z_bck_use (h R h1 r h2) hi)
  · cases hi
/-- the words: sels of private methods, the good ones of the tables; the others -/
def z_Ts (sels : List Cond) : List Cond := sels ++ tables_1.filter goodWord
def z_isN : Cond → Bool
  | .fieldLinkNest .. => true
  | .methodLinkNest .. => true
  | .arrayOver (.object _) => true
  | .arrayOver (.array _) => true
  | _ => false
def z_Ns : List Cond := tables_1.filter z_isN
theorem z_inT {sels : List Cond} {i : Nat} {w : Cond} (h : tables_1[i]? = some w) (hg : goodWord w = true) : w ∈ z_Ts sels := List.mem_append_right _ (List.mem_filter.mpr ⟨List.mem_of_getElem? h, hg⟩)
theorem z_inN {i : Nat} {w : Cond} (h : tables_1[i]? = some w) (hg : z_isN w = true) : w ∈ z_Ns := List.mem_filter.mpr ⟨List.mem_of_getElem? h, hg⟩
theorem z_AOA_moved {t : FieldType} {u U : State} {a : Array Value} (hvm : u.vm.Alike U.vm) (h : (Cond.arrayOver (.array t)).before #[] u = true) : (Cond.arrayOver (.array t)).before a U = true := by
  obtain ⟨comp, c, k, h1, h2, h3, h4, h5⟩ := arrayOverA_spec h
  obtain ⟨k', hk', he⟩ := hvm.2.2 _ _ h3
  have hi : (U.vm.classes.findIdx? fun (x : Class) => match x.kind with | .array component _ => component == comp | _ => false) = some c := by
    rw [hvm.findIdx?_eq _ (fun _ => rfl)]
    exact h2
  have hkind : k'.kind = .array comp (.array t) := by rw [he]; exact h4
  have f1 : U.vm.findClass (FieldType.array t).toString = some comp := by rw [hvm.findClass]; exact h1
  have f2 : U.vm.findClass ("[" ++ (FieldType.array t).toString) = some c := by rw [hvm.findClass]; exact h5
  unfold Cond.before Cond.holds
  simp only [Cond.value]
  rw [f1, Option.bind_some]
  refine (congrArg (fun o : Option Nat => (o.bind (fun c => (U.vm.classes[c]?).map fun (k : Class) => match k.kind with | .array _ ty => decide (ty = FieldType.array t) && decide (U.vm.findClass ("[" ++ (FieldType.array t).toString) = some c) | _ => false) == some true)) hi).trans ?_
  simp [hk', hkind, f2]
theorem z_Ns_ok : z_Nok z_Ns := by
  intro w hw s U a hW h
  obtain ⟨-, hN⟩ := List.mem_filter.mp hw
  unfold z_isN at hN
  split at hN
  · exact va_Nw.use rfl (va_Nw.warmF hW h)
  · exact va_Nw.use rfl (va_Nw.warmM hW h)
  · exact va_AO.use (va_AO.moved hW.alike (va_AO.of h))
  · exact z_AOA_moved hW.alike h
  · cases hN
end ZTAB
