/-! A method that runs, by the picture, to its 'throw new E()'. -/
section ZTHR
/-- the picture's cells lie there, and perhaps others behind them -/
def z_RW (D : va_G) (cl : List vw_C) (ta : Nat → ClassId) (ext : Nat → Nat) (base : Nat) (P : z_H) (H : Heap) : Prop :=
  base + P.length ≤ H.size ∧ P.length ≤ z_far ∧ ∀ (k : Nat) (q : z_C), P[k]? = some q → z_at D cl ta (z_cv ext base) q (base + k) H
theorem z_R.weak {D : va_G} {cl : List vw_C} {ta : Nat → ClassId} {ext : Nat → Nat} {base : Nat} {P : z_H} {H H1 : Heap} (h : z_R D cl ta ext base P H) (hz : H.size ≤ H1.size) (ho : ∀ q : Nat, q < H.size → H1[q]? = H[q]?) : z_RW D cl ta ext base P H1 := by
  refine ⟨by rw [← h.1]; exact hz, h.2.1, fun k q hk => (h.at hk).kept (ho _ ?_)⟩
  rw [h.1]
  have := z_get_lt hk
  omega
/-- with things of which nothing is said -/
theorem z_RW.full {D : va_G} {cl : List vw_C} {ta : Nat → ClassId} {ext : Nat → Nat} {base : Nat} {P : z_H} {H : Heap} (h : z_RW D cl ta ext base P H) (hz : H.size ≤ base + z_far) : z_R D cl ta ext base (P ++ List.replicate (H.size - base - P.length) (99, [])) H := by
  obtain ⟨h1, h2, h3⟩ := h
  refine ⟨by rw [List.length_append, List.length_replicate]; omega, by rw [List.length_append, List.length_replicate]; omega, fun k q hk => ?_⟩
  rw [List.getElem?_append] at hk
  split at hk
  · exact h3 k q hk
  · rw [List.getElem?_replicate] at hk
    split at hk
    · cases hk
      exact ⟨fun n => absurd n (by show ¬ 99 < 99; omega), fun n => absurd n (by show ¬ 100 ≤ 99; omega)⟩
    · cases hk
def z_X9 : String := "java/util/NoSuchElementException"
def z_x9s : List String := ["java/lang/RuntimeException", "java/lang/Exception"]
def z_bad : List Cond := (vx_at0 "ChaffInTheWind" 167 z_X9 z_x9s).filter fun w => !goodWord w
def z_isB : Cond → Bool
  | .castable .. => true
  | .declares .. => true
  | _ => false
theorem z_badB : ∀ w ∈ z_bad, z_isB w = true := by decide +kernel
theorem z_bad_on {w : Cond} (hw : w ∈ z_bad) {s U : State} (hW : s.WarmedH U.vm) (h : va_Nw w s) : va_Nw w U := by
  have hb := z_badB w hw
  unfold z_isB at hb
  split at hb
  · exact va_Nw.warmC hW h
  · exact va_Nw.warmD hW h
  · cases hb
theorem z_bad_tab {w : Cond} (hw : w ∈ z_bad) : w.onTables = true := by
  have hb := z_badB w hw
  unfold z_isB at hb
  split at hb
  · rfl
  · rfl
  · cases hb
theorem z_bad_cast : Cond.castable z_X9 z_X9 ∈ z_bad := by decide +kernel
/-- what a throw wants of the start, beside the words -/
def z_TW (base : Nat) (U : State) : Prop := vx_Zq Bundle.tN "UNASSIGNED_STACK" Bundle.steD (fun q => base ≤ q) U U.heap ∧ vx_Zq Bundle.tN "SUPPRESSED_SENTINEL" Bundle.listD (fun q => base ≤ q) U U.heap ∧ ∀ w ∈ z_bad, va_Nw w U
theorem z_TW.on {base : Nat} {u U : State} (hW : u.WarmedH U.vm) (hq : ∀ a : Nat, a < u.heap.size → ¬ base ≤ a → U.heap[a]? = u.heap[a]?) (h : z_TW base u) : z_TW base U :=
  ⟨vx_Zq.moved hW.alike (h.1.kept hq), vx_Zq.moved hW.alike (h.2.1.kept hq), fun w hw => z_bad_on hw hW (h.2.2 w hw)⟩
variable {l : Launch}
variable {G : z_Pg} {nm : Nat → MethodName} {by_ : Nat → ByteArray} {cl : List vw_C} {aty : List FieldType} {Ts Ns : List Cond} {rs : List (String × Nat × String × Nat)} {D : va_G} {ta : Nat → ClassId} {ext : Nat → Nat} {base : Nat}
def z_PcX (cl : List vw_C) (aty : List FieldType) (Ns : List Cond) (strs : z_Ss) (rs : List (String × Nat × String × Nat)) (D : va_G) (ta : Nat → ClassId) (ext : Nat → Nat) (base : Nat) (as : List Value) (P : z_H) : Array Value → State → Prop := fun a U =>
  z_Pc cl aty Ns strs rs D ta ext base as P a U ∧ z_TW base U ∧ base ≤ U.heap.size
theorem z_blindX (hN : z_Nok Ns) {as : List Value} {P : z_H} {strs : z_Ss} : FrameBlind (z_PcX cl aty Ns strs rs D ta ext base as P) := by
  intro a U g mk ⟨h1, ⟨h2, h3, h4⟩, h5⟩
  have hal : U.vm.Alike (U.calling g mk a).vm := Vm.Alike.refl U.vm
  exact ⟨z_blind hN a U g mk h1, ⟨vx_Zq.moved (u := U) (U := U.calling g mk a) hal h2, vx_Zq.moved (u := U) (U := U.calling g mk a) hal h3, fun w hw => va_Nw.same (u := U) (U := U.calling g mk a) (z_bad_tab hw) rfl (h4 w hw)⟩, h5⟩
/-- the world behind a throw -/
def z_XC (cl : List vw_C) (D : va_G) (ta : Nat → ClassId) (ext : Nat → Nat) (base : Nat) (P : z_H) : String → State → State → Prop := fun E st t => E = z_X9 ∧ z_RW D cl ta ext base P t.heap ∧ va_F (fun q => base ≤ q) st t
theorem z_thr (hl : l.stackTraces = false) (hOK : z_OK G nm by_ cl aty Ts Ns rs) {d y : Nat} {as : List Value} {P : z_H} {q9 : z_S} {Qc : Array Value → State → Outcome → State → Prop} {ik ic : Nat}
    (hpl : plainName (nm y).cls = true) (hcat : z_cat as ≤ z_nL G y) (hd : 6 ≤ d) (hto : z_To G d y (0, lv_args 0 as, [], P, 0, 0) q9) (hst : q9.2.2.1 = []) (hmc : q9.2.2.2.2.1 + 1 ≤ z_mc G y) (hms : q9.2.2.2.2.2 + 6 ≤ z_ms G y)
    (d0 : decode (by_ y) q9.1 = .ok (.new ik, 3)) (d3 : decode (by_ y) (q9.1 + 3) = .ok (.dup, 1)) (d4 : decode (by_ y) (q9.1 + 4) = .ok (.invokespecial ic, 3)) (d7 : decode (by_ y) (q9.1 + 7) = .ok (.athrow, 1))
    (hk : Cond.classLink (nm y).cls ik z_X9 ∈ Ts) (hini : Cond.initialized z_X9 ∈ Ts) (hat : ∀ w ∈ (vx_at0 (nm y).cls ic z_X9 z_x9s).filter goodWord, w ∈ Ts) (hat2 : ∀ w ∈ (vx_at0 (nm y).cls ic z_X9 z_x9s).filter (fun w => !goodWord w), w ∈ z_bad)
    (hgood : ∀ w ∈ Cond.classLink (nm y).cls ik z_X9 :: Cond.initialized z_X9 :: vx_at0 (nm y).cls ic z_X9 z_x9s, vx_ot w = true) :
    vx_Met l (nm y) (z_ws G nm by_ Ts y) (z_room G y d) (z_PcX cl aty Ns (z_strs G) rs D ta ext base as P) Qc (z_XC cl D ta ext base q9.2.2.2.1) (z_mc G y) (z_ms G y) (fun q => base ≤ q) := by
  refine vx_ofW (cc := by_ y) (maxL := z_nL G y) (ret := z_rty G y) hpl rfl ?_
  intro p e s m args below meth c s₁ B hml htab ⟨⟨hargs, hR, hK, hN, hX⟩, hT, hbs⟩
  subst hargs
  have hts := atoms_spec (ws := z_ws G nm by_ Ts y) B.pre
  have hTs : ∀ w ∈ Ts, w.before (as.map (z_cv ext base)).toArray s = true := fun w hw => hts w (List.mem_cons_of_mem _ hw)
  have hCx : z_Cx G nm by_ cl aty Ts Ns rs D ta ext base p s m (as.map (z_cv ext base)).toArray meth c y :=
    ⟨B.exec, B.bytes, B.returns, hml, findClass_of_methodNamed B.named, hTs, hN, hK, B.notSynchronized, fun _ => (name_of_methodNamed B.named B.method).1, hX, hbs⟩
  have hle := lv_entry (as.map (z_cv ext base)) (n := z_nL G y) (by rw [z_sl_len]; unfold z_cat; rw [z_cat_cv]; exact hcat)
  rw [lg_entry_eq]
  generalize (lg_sl (as.map (z_cv ext base)) ++ List.replicate (z_nL G y - (lg_sl (as.map (z_cv ext base))).length) Slot.unset).toArray = ls at hle ⊢
  rw [z_cl_args] at hle
  obtain ⟨n, hto⟩ := hto
  refine z_simto hOK n d y (0, lv_args 0 as, [], P, 0, 0) q9 hto (Nat.zero_le _) (Nat.zero_le _) p e s m _ below meth c _ s.heap [] ls _ hCx rfl rfl (Nat.le_refl _) (Nat.le_refl _) hR va_S.rf hle ?_
  intro H1 locs1 ls1 g1 g2 g3 g4 g5
  rw [hst]
  refine vx_throw0 (cc := by_ y) (names := z_x9s) (own := (nm y).cls) (cls := z_X9) (ik := ik) (ic := ic) (A := fun q => base ≤ q) B.exec B.bytes hl (findClass_of_methodNamed B.named) (by decide +kernel) (by decide +kernel) (hTs _ hk) (hTs _ hini) ?_ hgood hT.1 hT.2.1 g2 (by rw [hml]; exact g3.1) d0 d3 d4 d7 (fun x hx => (htab x hx).elim) ?_ ?_ ?_ ?_ B.notSynchronized ?_ (fun z hz => g2.2.2 z hz) hmc hms
  · exact vx_hat (fun w hw => hTs w (hat w hw)) hat2 (fun w hw => va_Nw.use (z_bad_tab hw) (hT.2.2 w hw))
  · show 2 + 3 < d
    omega
  · show 0 + (13 * (2 + 1) + 42) ≤ 100 * d
    omega
  · exact hmc
  · exact hms
  · intro t hal hz ho
    refine ⟨rfl, g1.weak hz ho, Nat.le_trans g2.1 hz, fun q h1 h2 => ?_⟩
    rw [ho q (Nat.lt_of_lt_of_le h1 g2.1)]
    exact g2.2.1 q h1 h2
end ZTHR
