section ZMAIN
def z_room (G : z_Pg) (x d : Nat) : Room := { frames := d, cells := z_mc G x, slots := z_ms G x, locals := 100 * d }
def z_ws (G : z_Pg) (nm : Nat → MethodName) (by_ : Nat → ByteArray) (Ts : List Cond) (x : Nat) : List Cond := Cond.code (nm x) (by_ x) (z_nL G x) (z_rty G x) :: Ts
/-- the words that say what a constant is -/
def z_ctw (Ts : List Cond) (own : String) (rs : List (String × Nat × String × Nat)) : Instr → Value → Prop
  | .ldc n, v => (∃ x, v = .int x ∧ Cond.constant own n x ∈ Ts) ∨ ∃ tx i, v = .ref (z_far + 2 * i) ∧ (own, n, tx, i) ∈ rs
  | .ldc_w n, v => ∃ x, v = .int x ∧ Cond.constant own n x ∈ Ts
  | .ldc2_w n, v => ∃ x, v = .long x ∧ Cond.constantLong own n x ∈ Ts
  | .getstatic n, v => v = .int 1 ∧ Cond.fieldLink own n "java/lang/String" "COMPACT_STRINGS" "Z" ∈ Ts
  | _, _ => False
theorem z_ctw.use {Ts : List Cond} {own : String} {rs : List (String × Nat × String × Nat)} {s : State} {args : Array Value} (hts : ∀ w ∈ Ts, w.before args s = true) {ins : Instr} {v : Value} (h : z_ctw Ts own rs ins v) : z_ct s args own rs ins v := by
  cases ins
  case ldc n =>
    rcases h with ⟨x, h1, h2⟩ | h
    · exact Or.inl ⟨x, h1, hts _ h2⟩
    · exact Or.inr h
  case ldc_w n =>
    obtain ⟨x, h1, h2⟩ := h
    exact ⟨x, h1, hts _ h2⟩
  case ldc2_w n =>
    obtain ⟨x, h1, h2⟩ := h
    exact ⟨x, h1, hts _ h2⟩
  case getstatic n => exact ⟨h.1, hts _ h.2⟩
  all_goals (exact h.elim)
def z_OKc (G : z_Pg) (by_ : Nat → ByteArray) : Prop := ∀ x pc i, z_cod G x pc = some i → decode (by_ x) pc = .ok (i.1, i.2) ∧ ((∃ d lo hi o, i.1 = .tableswitch d lo hi o) ∨ i.2 = z_len i.1)
def z_OKf (G : z_Pg) (nm : Nat → MethodName) (cl : List vw_C) (Ts Ns : List Cond) : Prop := ∀ x n ci k r, z_fld G x n = some (ci, k) → cl[ci]? = some r → k < r.2.2 ∧ (Cond.fieldLink (nm x).cls n (r.2.1 k).1 (r.2.1 k).2.1 (r.2.1 k).2.2.1 ∈ Ts ∨ ∃ host, Cond.fieldLinkNest (nm x).cls n (r.2.1 k).1 (r.2.1 k).2.1 (r.2.1 k).2.2.1 host ∈ Ns) ∧ (z_fin G ci k = true → z_ini G x = some ci → Cond.fieldLink (nm x).cls n (r.2.1 k).1 (r.2.1 k).2.1 (r.2.1 k).2.2.1 ∈ Ts)
def z_OKs (G : z_Pg) (nm : Nat → MethodName) (Ts : List Cond) : Prop := ∀ x n k, z_fld G x n = some (98, k) → (k = 0 ∧ Cond.fieldLink (nm x).cls n "java/lang/String" "value" "[B" ∈ Ts) ∨ (k = 1 ∧ Cond.fieldLink (nm x).cls n "java/lang/String" "coder" "B" ∈ Ts)
def z_OKk (G : z_Pg) (nm : Nat → MethodName) (Ts : List Cond) (rs : List (String × Nat × String × Nat)) : Prop := ∀ x ins v, z_cstv (z_cs G x) ins = some v → z_ctw Ts (nm x).cls rs ins v
def z_OKm (G : z_Pg) (nm : Nat → MethodName) (cl : List vw_C) (aty : List FieldType) (Ts Ns : List Cond) : Prop :=
  (∀ x n q, z_cls G x n = some q → ∃ r : vw_C, cl[q.1]? = some r ∧ q.2.length = r.2.2 ∧ (∀ k, k < r.2.2 → q.2[k]? = some (defaultValue (z_fty G q.1 k))) ∧ Cond.classLink (nm x).cls n r.1 ∈ Ts ∧ Cond.instantiable r.1 r.2.2 ∈ Ts ∧ Cond.initialized r.1 ∈ Ts) ∧
  (∀ x n i, z_aan G x n = some i → ∃ C, aty[i]? = some (.object C) ∧ Cond.classLink (nm x).cls n C ∈ Ts ∧ Cond.arrayOver (.object C) ∈ Ns) ∧
  (∀ x n q, z_mna G x n = some q → ∃ t, aty[q.2]? = some t ∧ q.2 < 5 ∧ aty[q.1]? = some (.array t) ∧ Cond.classLink (nm x).cls n ("[" ++ (FieldType.array t).toString) ∈ Ts ∧ Cond.arrayOver (.array t) ∈ Ns) ∧
  ∀ i t, i < 5 → aty[i]? = some t → Cond.arrayClass t ∈ Ts
def z_OKi (G : z_Pg) (nm : Nat → MethodName) (by_ : Nat → ByteArray) (cl : List vw_C) (Ts Ns : List Cond) : Prop := ∀ x n y kd, z_inv G x n = some (y, kd) →
  (kd < 3 → plainFor (nm y) = true ∧ Cond.code (nm y) (by_ y) (z_nL G y) (z_rty G y) ∈ Ts ∧ Cond.initialized (nm y).cls ∈ Ts ∧ ((nm y).cls ≠ "java/lang/invoke/MethodHandle" ∧ (nm y).cls ≠ "java/lang/invoke/VarHandle") ∧ (parseMethodDescriptor (nm y).desc).map (fun d => d.parameters.length) = some (if kd = 0 then z_na G y else z_na G y - 1) ∧ (Cond.methodLink (nm x).cls n (nm y) ∈ Ts ∨ ∃ host, Cond.methodLinkNest (nm x).cls n (nm y) host ∈ Ns)) ∧
  (kd = 0 → Cond.static (nm y) ∈ Ts) ∧
  (kd = 1 → Cond.instanceMethod (nm y) ∈ Ts ∧ Cond.selects (nm y).cls (nm y) (nm y) ∈ Ts ∧ ((z_rcv G y = 98 ∧ (nm y).cls = "java/lang/String") ∨ (z_rcv G y < 98 ∧ ∃ r : vw_C, cl[z_rcv G y]? = some r ∧ r.1 = (nm y).cls))) ∧
  (kd = 2 → (nm y).name = "<init>" ∧ Cond.instanceMethod (nm y) ∈ Ts ∧ z_rty G y = none) ∧
  (kd = 3 → Cond.methodLink (nm x).cls n Lib.objectInit ∈ Ts ∧ Cond.instanceMethod Lib.objectInit ∈ Ts ∧ Cond.code Lib.objectInit ⟨#[0xb1]⟩ 1 none ∈ Ts) ∧
  (kd = 5 → Cond.methodLink (nm x).cls n arraycopyName ∈ Ts ∧ Cond.native arraycopyName ∈ Ts ∧ Cond.static arraycopyName ∈ Ts ∧ Cond.initialized "java/lang/System" ∈ Ts)
def z_Nok (Ns : List Cond) : Prop := ∀ w ∈ Ns, ∀ (s U : State) (a : Array Value), s.WarmedH U.vm → w.before #[] s = true → w.before a U = true
def z_OKx (G : z_Pg) (nm : Nat → MethodName) (cl : List vw_C) (aty : List FieldType) (Ts Ns : List Cond) : Prop :=
  cl.length ≤ 98 ∧ (∀ w ∈ Ts, goodWord w = true) ∧ z_Nok Ns ∧ z_aty aty ∧ aty.length = z_nA G ∧ z_FT cl (z_fty G) (z_fin G) ∧ z_CL cl Ts ∧ (∀ i ci, z_ac G i = some ci → ∃ r : vw_C, cl[ci]? = some r ∧ aty[i]? = some (.object r.1)) ∧
  ∀ x ci (r : vw_C) k, z_ini G x = some ci → cl[ci]? = some r → k < r.2.2 → (nm x).name = "<init>" ∧ (r.2.1 k).1 = (nm x).cls
/-- all that must be checked of a program, once -/
def z_OK (G : z_Pg) (nm : Nat → MethodName) (by_ : Nat → ByteArray) (cl : List vw_C) (aty : List FieldType) (Ts Ns : List Cond) (rs : List (String × Nat × String × Nat)) : Prop :=
  z_OKc G by_ ∧ z_OKf G nm cl Ts Ns ∧ z_OKs G nm Ts ∧ z_OKk G nm Ts rs ∧ z_OKm G nm cl aty Ts Ns ∧ z_OKi G nm by_ cl Ts Ns ∧ z_OKx G nm cl aty Ts Ns
/-- what holds in a method's frame -/
def z_Cx (G : z_Pg) (nm : Nat → MethodName) (by_ : Nat → ByteArray) (cl : List vw_C) (aty : List FieldType) (Ts Ns : List Cond) (rs : List (String × Nat × String × Nat)) (D : va_G) (ta : Nat → ClassId) (ext : Nat → Nat) (base : Nat) (p : Program) (s : State) (m : MethodId) (args : Array Value) (meth : Method) (c : Code) (x : Nat) : Prop :=
  p.tables.exec = Jvm.exec ∧ c.code = by_ x ∧ meth.sig.returnType = z_rty G x ∧ c.maxLocals = z_nL G x ∧ s.vm.findClass (nm x).cls = some m.cls ∧ (∀ w ∈ Ts, w.before args s = true) ∧ (∀ w ∈ Ns, w.before #[] s = true) ∧ z_K D cl ta aty s ∧ meth.locks = false ∧ (z_ini G x ≠ none → meth.name = (nm x).name) ∧ z_X (z_strs G) ext base rs s ∧ base ≤ s.heap.size
variable {p : Program} {l : Launch} {e : Env} {s : State} {m : MethodId} {args : Array Value} {below : List Frame} {meth : Method} {c : Code} {H : Heap} {locs : List Loc} {Q : State → Prop}
variable {G : z_Pg} {nm : Nat → MethodName} {by_ : Nat → ByteArray} {cl : List vw_C} {aty : List FieldType} {Ts Ns : List Cond} {rs : List (String × Nat × String × Nat)} {D : va_G} {ta : Nat → ClassId} {ext : Nat → Nat} {base : Nat}
theorem z_nest (hN : z_Nok Ns) (h : ∀ w ∈ Ns, w.before #[] s = true) {w : Cond} (hw : w ∈ Ns) (a : Array Value) : w.before a s = true := hN w hw s s a (State.WarmedH.refl s) (h w hw)
set_option maxHeartbeats 4000000 in
theorem z_sim_step {R : Room} (hOK : z_OK G nm by_ cl aty Ts Ns rs) {x : Nat} (hC : z_Cx G nm by_ cl aty Ts Ns rs D ta ext base p s m args meth c x) (hRc : R.cells = z_mc G x) (hRs : R.slots = z_ms G x) {ins : Instr} {len pc cn sn : Nat} {ll : z_L} {st : List Value} {P : z_H} {q : z_S} (hcod : z_cod G x pc = some (ins, len)) (h : z_step G x ins len pc ll st P cn sn = some q)
    {ls : Array Slot} (hR : z_R D cl ta ext base P H) (hS : va_S (fun q => base ≤ q) s.heap H locs) (hl : lv_has ls (z_nL G x) (z_cl ext base ll))
    (k : ∀ H1 locs1 ls1, z_R D cl ta ext base q.2.2.2.1 H1 → va_S (fun q => base ≤ q) s.heap H1 locs1 → lv_has ls1 (z_nL G x) (z_cl ext base q.2.1) → W p l e R s m args below meth c H1 locs1 q.2.2.2.2.1 q.2.2.2.2.2 Q (F0 m q.1 ls1 (q.2.2.1.map (z_cv ext base)))) :
    W p l e R s m args below meth c H locs cn sn Q (F0 m pc ls (st.map (z_cv ext base))) := by
  obtain ⟨o1, o2, o3, o4, ⟨om1, om2, om3, om4⟩, o6, oL, og, oN, oa, oA, oF, oC, oac, oi⟩ := hOK
  obtain ⟨hx, hb, hr, hml, hown, hts, hns, hK, hlk, hnm, hX, hbs⟩ := hC
  obtain ⟨hd, hlen⟩ := o1 x pc _ hcod
  have hd : decode (by_ x) pc = .ok (ins, len) := hd
  have hlen : (∃ d lo hi o, ins = .tableswitch d lo hi o) ∨ len = z_len ins := hlen
  have hne : (∀ d lo hi o, ins ≠ .tableswitch d lo hi o) → len = z_len ins := fun hn => hlen.elim (fun ⟨d, lo, hi, o, h1⟩ => absurd h1 (hn d lo hi o)) id
  unfold z_step at h
  split at h
  · rename_i s' h1
    cases h
    exact z_sim_pure hx hb hd (hne fun d lo hi o q => by subst q; cases h1) h1 (k H locs ls hR hS hl)
  split at h
  · rename_i q' h1
    cases h
    exact z_sim_loc hx hb hd (hne fun d lo hi o q => by subst q; cases h1) h1 hl (fun ls' hl' => k H locs ls' hR hS hl')
  split at h
  · rename_i q' h1
    cases h
    exact z_sim_jmp hx hb hd hlen h1 (k H locs ls hR hS hl)
  split at h
  · rename_i s' h1
    cases h
    rw [← oA] at h1
    exact z_sim_rd hx hb hts hown hK oa oC hR hX hS (fun n ci kk r e1 e2 e3 => by
      obtain ⟨f1, f2, -⟩ := o2 x n ci kk r e2 e3
      refine ⟨f1, f2.elim (fun w => Or.inl (hts _ w)) (fun ⟨host, w⟩ => Or.inr ⟨host, z_nest oN hns w _⟩)⟩) (fun n kk e1 e2 => by
      rcases o3 x n kk e2 with ⟨w1, w2⟩ | ⟨w1, w2⟩
      · exact Or.inl ⟨w1, hts _ w2⟩
      · exact Or.inr ⟨w1, hts _ w2⟩) hd (hne fun d lo hi o q => by subst q; cases h1) h1 (k H locs ls hR hS hl)
  split at h
  · rename_i q' h1
    cases h
    exact z_sim_wr hx hb hts hown hK oa oC oF hR hS (fun _ h => h) oac (fun ci r kk e1 e2 e3 => by
      obtain ⟨f1, f2⟩ := oi x ci r kk e1 e2 e3
      exact ⟨(hnm (by rw [e1]; exact fun q => by cases q)).trans f1, f2⟩) (fun n ci kk r e1 e2 e3 => by
      obtain ⟨f1, f2, f3⟩ := o2 x n ci kk r e2 e3
      exact ⟨f1, f2.elim (fun w => Or.inl (hts _ w)) (fun ⟨host, w⟩ => Or.inr ⟨host, z_nest oN hns w _⟩), fun f g => hts _ (f3 f g)⟩) hd (hne fun d lo hi o q => by subst q; cases h1) h1 (fun H1 locs1 g1 g2 => k H1 locs1 ls g1 g2 hl)
  split at h
  · rename_i q' h1
    unfold z_bump at h
    split at h
    · rename_i hb2
      cases h
      refine z_sim_mk (P' := q'.2.1) (dc := q'.2.2.1) (ds := q'.2.2.2) (st' := q'.1) hx hb hts hown hK oa oC oF hR hS (fun i t e1 e2 => hts _ (om4 i t e1 e2)) (fun n ci dv e1 e2 => ?_) (fun n i e1 e2 => ?_) (fun n d io ii e1 e2 => ?_) hd (hne fun d lo hi o q => by subst q; cases h1) h1 (by rw [hRc]; exact hb2.1) (by rw [hRs]; exact hb2.2) (fun H1 g1 g2 => k H1 locs ls g1 g2 hl)
      · obtain ⟨r, f1, f2, f3, f4, f5, f6⟩ := om1 x n (ci, dv) e2
        exact ⟨r, f1, f2, f3, hts _ f4, hts _ f5, hts _ f6⟩
      · obtain ⟨C, f1, f2, f3⟩ := om2 x n i e2
        exact ⟨C, f1, hts _ f2, z_nest oN hns f3 _⟩
      · obtain ⟨t, f1, f2, f3, f4, f5⟩ := om3 x n (io, ii) e2
        exact ⟨t, f1, f2, f3, hts _ f4, z_nest oN hns f5 _⟩
    · cases h
  split at h
  · rename_i s' h1
    cases h
    exact z_sim_cst hx hb hown hX hS (fun v e1 => (o4 x ins v e1).use hts) hd (hne fun d lo hi o q => by subst q; cases h1) h1 (k H locs ls hR hS hl)
  · cases h
/-- a method's start and end -/
def z_Pc (cl : List vw_C) (aty : List FieldType) (Ns : List Cond) (strs : z_Ss) (rs : List (String × Nat × String × Nat)) (D : va_G) (ta : Nat → ClassId) (ext : Nat → Nat) (base : Nat) (as : List Value) (P : z_H) : Array Value → State → Prop := fun a U =>
  a = (as.map (z_cv ext base)).toArray ∧ z_R D cl ta ext base P U.heap ∧ z_K D cl ta aty U ∧ (∀ w ∈ Ns, w.before #[] U = true) ∧ z_X strs ext base rs U
def z_Qc (cl : List vw_C) (D : va_G) (ta : Nat → ClassId) (ext : Nat → Nat) (base : Nat) (r : Option Value) (P : z_H) : Array Value → State → Outcome → State → Prop := fun _ st o t =>
  o = .returned (r.map (z_cv ext base)) ∧ z_R D cl ta ext base P t.heap ∧ va_F (fun q => base ≤ q) st t
theorem z_X.same {strs : z_Ss} {u U : State} (hvm : u.vm = U.vm) (hh : U.heap = u.heap) (h : z_X strs ext base rs u) : z_X strs ext base rs U := by
  obtain ⟨h1, h2, h3, h4, h5⟩ := h
  have hal : u.vm.Alike U.vm := by rw [hvm]; exact Vm.Alike.refl _
  exact ⟨by rw [hh]; exact h1.moved hal, by rw [hh]; exact h2.moved hal, fun r hr => (h3 r hr).same hvm.symm, h4, by rw [hh]; exact h5.moved hal⟩
theorem z_X.on {strs : z_Ss} {u U : State} (hW : u.WarmedH U.vm) (hq : ∀ a : Nat, a < u.heap.size → ¬ base ≤ a → U.heap[a]? = u.heap[a]?) (h : z_X strs ext base rs u) : z_X strs ext base rs U := by
  obtain ⟨h1, h2, h3, h4, h5⟩ := h
  refine ⟨(h1.kept hq).moved hW.alike, (h2.kept hq).moved hW.alike, fun r hr => (h3 r hr).warm hW, h4, ?_⟩
  obtain ⟨scr, y1, -⟩ := id h5
  exact (h5.kept (hq _ (Array.getElem?_eq_some_iff.mp y1).1 (Nat.not_le.mpr h4))).moved hW.alike
theorem z_blind (hN : z_Nok Ns) {as : List Value} {P : z_H} {strs : z_Ss} : FrameBlind (z_Pc cl aty Ns strs rs D ta ext base as P) := by
  intro a U g mk ⟨h1, h2, h3, h4, h5⟩
  exact ⟨h1, h2, z_K.moved (u := U) (U := U.calling g mk a) (Vm.Alike.refl U.vm) h3, fun w hw => hN w hw U (U.calling g mk a) #[] (State.WarmedH.refl U) (h4 w hw), h5.same rfl rfl⟩
theorem z_sim_back {R : Room} {cells slots mc ms : Nat} {g : JFrame} {rest : List Value} {P' : z_H} {r : Option Value} {a : Array Value} (hr : va_Run p l e R s m args below meth c H locs cells slots mc ms g rest (z_Qc cl D ta ext base r P' a) (fun q => base ≤ q)) (hS : va_S (fun q => base ≤ q) s.heap H locs)
    (k : ∀ H1 locs1, z_R D cl ta ext base P' H1 → va_S (fun q => base ≤ q) s.heap H1 locs1 → W p l e R s m args below meth c H1 locs1 (cells + mc) (slots + ms) Q { g with pc := g.pc + 3, stack := (r.map (z_cv ext base)).toList ++ rest }) : W p l e R s m args below meth c H locs cells slots Q g := by
  intro T hT X
  obtain ⟨v, st₀, t, T', L, h0, X', hL, e1, e2, ⟨hv, hR', hF⟩, st⟩ := hr T hT X
  have hv : v = r.map (z_cv ext base) := Outcome.returned.inj hv
  subst hv
  obtain ⟨f1, f2⟩ := hF
  rw [h0] at f1 f2
  obtain ⟨t9, a9, b9⟩ := k T'.heap (locs ++ L) (by rw [e1]; exact hR') ⟨by rw [e1]; exact Nat.le_trans hS.1 f1, fun q g1 g2 => by
    rw [e1, f2 q (Nat.lt_of_lt_of_le g1 hS.1) g2]
    exact hS.2.1 q g1 g2, fun q hq => by
    rcases List.mem_append.mp hq with h | h
    · exact hS.2.2 q h
    · exact hL q h⟩ T' rfl X'
  exact ⟨t9, st t9 a9, b9⟩
theorem z_sim_ret {R : Room} {x : Nat} {ins : Instr} {len pc cn sn : Nat} {st : List Value} {P : z_H} {r : Option Value} (hC : z_Cx G nm by_ cl aty Ts Ns rs D ta ext base p s m args meth c x) (hd : decode (by_ x) pc = .ok (ins, len)) (hlen : len = z_len ins) (h : z_ret (z_rty G x) ins st = some r) (hR : z_R D cl ta ext base P H) (hS : va_S (fun q => base ≤ q) s.heap H locs) {ls : Array Slot} :
    W p l e R s m args below meth c H locs cn sn (MQ below (z_Qc cl D ta ext base r P) args s cn sn (fun q => base ≤ q)) (F0 m pc ls (st.map (z_cv ext base))) := by
  subst hlen
  obtain ⟨hx, hb, hr, hml, hown, hts, hns, hK, hlk, hnm, hX, hbs⟩ := hC
  unfold z_ret at h
  split at h
  · split at h
    · rename_i h1
      cases h
      exact W.vret hx hb (by rw [hr, h1]) (fun t ht hW => ⟨rfl, by rw [ht]; exact hR, hS.F ht⟩) hS.2.2 hd hlk
    · cases h
  · split at h
    · rename_i ty h1
      split at h
      · rename_i h2
        cases h
        exact W.zret hx hb (by rw [hr, h1]) h2 (fun t ht hW => ⟨rfl, by rw [ht]; exact hR, hS.F ht⟩) hS.2.2 hd hlk
      · cases h
    · cases h
  · split at h
    · rename_i h1
      cases h
      exact W.lret hx hb (by rw [hr, h1]) (fun t ht hW => ⟨rfl, by rw [ht]; exact hR, hS.F ht⟩) hS.2.2 hd hlk
    · cases h
  · rename_i v
    split at h
    · rename_i C h1
      split at h
      · rename_i h2
        cases h
        refine W.aret hx hb (by rw [hr, h1]) (Or.inl ⟨_, rfl⟩) ?_ (fun t ht hW => ⟨rfl, by rw [ht]; exact hR, hS.F ht⟩) hS.2.2 hd hlk
        rcases z_isA_spec h2 with rfl | ⟨q, rfl⟩
        · exact Or.inl rfl
        · exact Or.inr ⟨_, rfl⟩
      · cases h
    · rename_i C h1
      split at h
      · rename_i h2
        cases h
        refine W.aret hx hb (by rw [hr, h1]) (Or.inr ⟨_, rfl⟩) ?_ (fun t ht hW => ⟨rfl, by rw [ht]; exact hR, hS.F ht⟩) hS.2.2 hd hlk
        rcases z_isA_spec h2 with rfl | ⟨q, rfl⟩
        · exact Or.inl rfl
        · exact Or.inr ⟨_, rfl⟩
      · cases h
    · cases h
  · cases h
end ZMAIN
