section ZHLP
theorem z_tbl_Ts {w : Cond} (h : w ∈ lw_tbl) (hg : goodWord w = true) : w ∈ z_Ts (k2_sels lw_privs) := by
  rcases List.mem_append.mp h with h | h
  · exact List.mem_append_left _ h
  · exact List.mem_append_right _ (List.mem_filter.mpr ⟨h, hg⟩)
theorem z_at0in : ∀ w ∈ (vx_at0 "ChaffInTheWind" 167 z_X9 z_x9s).filter goodWord, w ∈ lw_tbl := by decide +kernel
theorem z_at0ot : ∀ w ∈ Cond.classLink "ChaffInTheWind" 165 z_X9 :: Cond.initialized z_X9 :: vx_at0 "ChaffInTheWind" 167 z_X9 z_x9s, vx_ot w = true := by decide +kernel
def z_QcW (cl : List vw_C) (D : va_G) (ta : Nat → ClassId) (ext : Nat → Nat) (base : Nat) (P : z_H) : Array Value → State → Outcome → State → Prop := fun _ st o t =>
  o = .returned (some (.int 1)) ∧ z_RW D cl ta ext base P t.heap ∧ va_F (fun q => base ≤ q) st t
section
variable {p : Program} {l : Launch} {e : Env} {R : Room} {s : State} {m : MethodId} {args : Array Value} {below : List Frame} {meth : Method} {c : Code} {H : Heap} {locs : List Loc} {cells slots : Nat} {Q : State → Prop}
theorem z_callx {cl : List vw_C} {D : va_G} {ta : Nat → ClassId} {ext : Nat → Nat} {base mc ms pc : Nat} {ls : Array Slot} {P2 : z_H} {st0 rest : List Value} (hr : vx_Run p l e R s m args below meth c H locs cells slots mc ms (F0 m pc ls st0) rest (fun _ _ _ => False) (z_XC cl D ta ext base P2) (fun q => base ≤ q)) (hS : va_S (fun q => base ≤ q) s.heap H locs)
    (kx : ∀ (H1 : Heap) (locs1 : List Loc) (q9 : Addr) (ce : Cell), z_RW D cl ta ext base P2 H1 → va_S (fun q => base ≤ q) s.heap H1 locs1 → H1[q9]? = some ce → ce.vm = .none → s.vm.findClass z_X9 = some ce.cls → vx_W p l e R s m args below meth c H1 locs1 (cells + mc) (slots + ms) Q (F0 m pc ls rest) q9) : W p l e R s m args below meth c H locs cells slots Q (F0 m pc ls st0) := by
  intro T hT X
  rcases hr T hT X with ⟨v, st₀, t, T', L, h0, X', hL, e1, e2, hF, st⟩ | ⟨q, st₀, t, T', L, E, ce, h0, X', hL, e1, e2, ⟨hE, hRW, hF⟩, hce, hcv, hcl, st⟩
  · exact hF.elim
  · subst hE
    obtain ⟨k1, k2, k3⟩ := vx_keep (A0 := fun q => base ≤ q) (A1 := fun q => base ≤ q) (free := fun q => base ≤ q) h0 e1 hS (fun q _ h => h) (fun q h => h) hL hF
    obtain ⟨t2, a1, b1⟩ := kx T'.heap (locs ++ L) q ce (by rw [e1]; exact hRW) k3 (by rw [e1]; exact hce) hcv hcl T' rfl X'
    exact ⟨t2, st.trans a1, b1⟩
/-- behind a call that gave 1, with things of which nothing is said -/
theorem z_backW {cl : List vw_C} {D : va_G} {ta : Nat → ClassId} {ext : Nat → Nat} {mc ms : Nat} {g : JFrame} {rest : List Value} {P2 : z_H} {a : Array Value} (hR2 : R.cells + 1 ≤ z_far) (hr : va_Run p l e R s m args below meth c H locs cells slots mc ms g rest (z_QcW cl D ta ext s.heap.size P2 a) (fun q => s.heap.size ≤ q)) (hS : va_S (fun q => s.heap.size ≤ q) s.heap H locs) (hfit : cells + mc ≤ R.cells)
    (k : ∀ (n : Nat) (H1 : Heap) (locs1 : List Loc), (P2 ++ List.replicate n (99, [])).length ≤ cells + mc → z_R D cl ta ext s.heap.size (P2 ++ List.replicate n (99, [])) H1 → va_S (fun q => s.heap.size ≤ q) s.heap H1 locs1 → W p l e R s m args below meth c H1 locs1 (cells + mc) (slots + ms) Q { g with pc := g.pc + 3, stack := .int 1 :: rest }) : W p l e R s m args below meth c H locs cells slots Q g := by
  intro T hT X
  obtain ⟨v, st₀, t, T', L, h0, X', hL, e1, e2, ⟨hv, hRW, hF⟩, st⟩ := hr T hT X
  have hv : v = some (.int 1) := Outcome.returned.inj hv
  subst hv
  obtain ⟨f1, f2⟩ := hF
  rw [h0] at f1 f2
  have hsz : T'.heap.size ≤ s.heap.size + (cells + mc) := X'.same.2.2.1
  have hRW' : z_RW D cl ta ext s.heap.size P2 T'.heap := by rw [e1]; exact hRW
  have hfull := hRW'.full (by omega)
  have hlen := hfull.1
  obtain ⟨t9, a9, b9⟩ := k _ T'.heap (locs ++ L) (by omega) hfull ⟨by rw [e1]; exact Nat.le_trans hS.1 f1, fun q g1 g2 => by
    rw [e1, f2 q (Nat.lt_of_lt_of_le g1 hS.1) g2]
    exact hS.2.1 q g1 g2, fun q hq => by
    rcases List.mem_append.mp hq with h | h
    · exact hS.2.2 q h
    · exact hL q h⟩ T' rfl X'
  exact ⟨t9, st t9 a9, b9⟩
end
/-- a helper of the law: the class throws, it is caught, 1 -/
theorem z_hlpG2 {l : Launch} {G : z_Pg} {nm : Nat → MethodName} {by_ : Nat → ByteArray} {cl : List vw_C} {aty : List FieldType} {Ts Ns : List Cond} {rs : List (String × Nat × String × Nat)} {D : va_G} {ta : Nat → ClassId} {ext : Nat → Nat} {base : Nat} (hOK : z_OK G nm by_ cl aty Ts Ns rs) {y x o o' iv : Nat} {p0 p1 : Int32} {P P2 : z_H} {hm : MethodName} {hbs : ByteArray}
    (hM : vx_Met l (nm y) (z_ws G nm by_ Ts y) (z_room G y 100) (z_PcX cl aty Ns (z_strs G) rs D ta ext base [.ref x, .int p0, .int p1] P) (fun _ _ _ _ => False) (z_XC cl D ta ext base P2) 1 6 (fun q => base ≤ q)) (hmc : z_mc G y = 1) (hms : z_ms G y = 6) (hnl : z_nL G y ≤ 45)
    (wcode : Cond.code (nm y) (by_ y) (z_nL G y) (z_rty G y) ∈ Ts) (wini : Cond.initialized (nm y).cls ∈ Ts) (wlink : Cond.methodLink hm.cls iv (nm y) ∈ Ts) (winst : Cond.instanceMethod (nm y) ∈ Ts) (wsel : Cond.selects (nm y).cls (nm y) (nm y) ∈ Ts) (wcl : Cond.classLink hm.cls 13 z_X9 ∈ Ts)
    (hne : (nm y).cls ≠ "java/lang/invoke/MethodHandle" ∧ (nm y).cls ≠ "java/lang/invoke/VarHandle") (hpar : (parseMethodDescriptor (nm y).desc).map (fun d => d.parameters.length) = some 2) (hpl : plainName hm.cls = true)
    {qx : z_C} {r : vw_C} (hqx : P[x]? = some qx) (hq9 : qx.1 < 99) (hcl : cl[qx.1]? = some r) (hr : r.1 = (nm y).cls) (ho : z_cv ext base (.ref o) = .ref o')
    (d0 : decode hbs 0 = .ok (.aload_n 3, 1)) (d1 : decode hbs 1 = .ok (.iconst 0, 1)) (d2 : decode hbs 2 = .ok (.aload_n 0, 1)) (d3 : decode hbs 3 = .ok (.iload_n 1, 1)) (d4 : decode hbs 4 = .ok (.iload_n 2, 1)) (d5 : decode hbs 5 = .ok (.invokevirtual iv, 3)) (d13 : decode hbs 13 = .ok (.astore 4, 2)) (d15 : decode hbs 15 = .ok (.iconst 1, 1)) (d16 : decode hbs 16 = .ok (.ireturn, 1)) :
    Met l hm (Cond.codeWith hm hbs 5 (some .int) [(0, 10, 13, 13)] :: Ts) { frames := 101, cells := 1, slots := 6, locals := 10100 } (z_PcX cl aty Ns (z_strs G) rs D ta ext base [.ref x, .int p0, .int p1, .ref o] P) (z_QcW cl D ta ext base P2) 1 6 (fun q => base ≤ q) := by
  obtain ⟨-, -, -, -, -, -, oL, og, oN, oa, oA, oF, oC, oac, oi⟩ := id hOK
  have hGY : GoodIn Ts (z_ws G nm by_ Ts y) := fun w hw => by
    rcases List.mem_cons.mp hw with rfl | hw
    · exact ⟨wcode, good_of_word (og _ wcode)⟩
    · exact ⟨hw, good_of_word (og _ hw)⟩
  refine va_MetW (cc := hbs) (maxL := 5) (ret := some .int) hpl rfl ?_
  intro p e s m args below meth c s₁ B hml ⟨⟨hargs, hR, hK, hN, hX⟩, hT, hbs9⟩
  have hmap : ([.ref x, .int p0, .int p1, .ref o] : List Value).map (z_cv ext base) = [.ref (base + x), .int p0, .int p1, .ref o'] := by
    show [z_cv ext base (.ref x), .int p0, .int p1, z_cv ext base (.ref o)] = _
    rw [hR.near hqx, ho]
  rw [hmap] at hargs
  subst hargs
  have hx := B.exec
  have hb := B.bytes
  have hts := atoms_spec (ws := Cond.codeWith hm hbs 5 (some .int) [(0, 10, 13, 13)] :: Ts) B.pre
  have hTs : ∀ w ∈ Ts, w.before ([.ref (base + x), .int p0, .int p1, .ref o'] : List Value).toArray s = true := fun w hw => hts w (List.mem_cons_of_mem _ hw)
  have htab := vx_table (x := hm) B (hts _ List.mem_cons_self)
  have hown := findClass_of_methodNamed B.named
  have hl0 := lv_entry [.ref (base + x), .int p0, .int p1, .ref o'] (n := 5) (Nat.le_of_ble_eq_true rfl)
  rw [lg_entry_eq]
  generalize (lg_sl [.ref (base + x), .int p0, .int p1, .ref o'] ++ List.replicate (5 - (lg_sl [.ref (base + x), .int p0, .int p1, .ref o']).length) Slot.unset).toArray = ls at hl0 ⊢
  have hl0 : lv_has ls 5 [(0, .ref (base + x)), (1, .int p0), (2, .int p1), (3, .ref o')] := hl0
  refine lv_aload_n hx hb d0 rfl (lv_at hl0 3 rfl) ?_
  refine lv_iconst (v := 0) hx hb d1 (by decide) ?_
  refine lv_aload_n hx hb d2 rfl (lv_at hl0 0 rfl) ?_
  refine lv_iload_n hx hb d3 rfl (lv_at hl0 1 rfl) ?_
  refine lv_iload_n hx hb d4 rfl (lv_at hl0 2 rfl) ?_
  have hrecv : ∃ cellB : Cell, s.heap[base + x]? = some cellB ∧ cellB.vm.isStatics = false ∧ s.vm.findClass (nm y).cls = some cellB.cls := by
    obtain ⟨r8, hr8, -, cell, g1, g2, g3, g4⟩ := (hR.at hqx).1 hq9
    cases hcl.symm.trans hr8
    exact ⟨cell, g1, by rw [g3]; rfl, by rw [g2, ← hr]; exact (hK.1 _ _ hr8).2.1⟩
  refine z_callx (mc := 1) (ms := 6) (rest := [.int 0, .ref o']) (vx_runV (n := 2) (C := (nm y).cls) (index := iv) (own := hm.cls) (As := [.int p0, .int p1]) (b := base + x) ⟨hx, hb, hml, hown, hTs⟩ hM
    ⟨callB_of 2 hTs hGY rfl hmc hms (hTs _ wini) (hTs _ wlink) ⟨hne.1, hne.2, hpar⟩ ⟨Nat.le_refl _, by show 8 + (z_nL G y + 11) + 100 * 100 ≤ 10100; omega⟩, hTs _ winst, hTs _ wsel⟩
    ⟨z_blindX oN, hrecv, fun U hU hW => ⟨⟨by show _ = ([z_cv ext base (.ref x), .int p0, .int p1] : List Value).toArray; rw [hR.near hqx], by rw [hU]; exact hR, z_K.moved hW.alike hK, fun w hw => oN w hw s U #[] hW (hN w hw), hX.on hW (fun a _ _ => by rw [hU])⟩, hT.on hW (fun a _ _ => by rw [hU]), by rw [hU]; exact hbs9⟩⟩
    rfl rfl hl0.1 rfl (Nat.le_of_ble_eq_true rfl) d5 ⟨Nat.le_of_ble_eq_true rfl, Nat.le_of_ble_eq_true rfl⟩) va_S.rf ?_
  intro H1 locs1 q1 ce hRW hS1 hce hcv hcl9
  refine vx_catch (own := hm.cls) (E := z_X9) (name := z_X9) hown [] _ [] htab (fun z hz => by cases hz) (by decide) (by decide) (hTs _ wcl) (va_Nw.use rfl (hT.2.2 _ z_bad_cast)) hce hcv hcl9 ?_
  refine lv_astore hx hb d13 hl0 (by decide) rfl (fun ls1 hl1 => ?_)
  refine lv_iconst (v := 1) hx hb d15 (by decide) ?_
  exact W.zret hx hb B.returns rfl (fun t ht hW => ⟨rfl, by rw [ht]; exact hRW, hS1.F ht⟩) hS1.2.2 d16 B.notSynchronized
/-- a helper of the law: the class throws, it is caught, 1 -/
theorem z_hlpG1 {l : Launch} {G : z_Pg} {nm : Nat → MethodName} {by_ : Nat → ByteArray} {cl : List vw_C} {aty : List FieldType} {Ts Ns : List Cond} {rs : List (String × Nat × String × Nat)} {D : va_G} {ta : Nat → ClassId} {ext : Nat → Nat} {base : Nat} (hOK : z_OK G nm by_ cl aty Ts Ns rs) {y x o o' iv : Nat} {p0 : Int32} {P P2 : z_H} {hm : MethodName} {hbs : ByteArray}
    (hM : vx_Met l (nm y) (z_ws G nm by_ Ts y) (z_room G y 100) (z_PcX cl aty Ns (z_strs G) rs D ta ext base [.ref x, .int p0] P) (fun _ _ _ _ => False) (z_XC cl D ta ext base P2) 1 6 (fun q => base ≤ q)) (hmc : z_mc G y = 1) (hms : z_ms G y = 6) (hnl : z_nL G y ≤ 45)
    (wcode : Cond.code (nm y) (by_ y) (z_nL G y) (z_rty G y) ∈ Ts) (wini : Cond.initialized (nm y).cls ∈ Ts) (wlink : Cond.methodLink hm.cls iv (nm y) ∈ Ts) (winst : Cond.instanceMethod (nm y) ∈ Ts) (wsel : Cond.selects (nm y).cls (nm y) (nm y) ∈ Ts) (wcl : Cond.classLink hm.cls 13 z_X9 ∈ Ts)
    (hne : (nm y).cls ≠ "java/lang/invoke/MethodHandle" ∧ (nm y).cls ≠ "java/lang/invoke/VarHandle") (hpar : (parseMethodDescriptor (nm y).desc).map (fun d => d.parameters.length) = some 1) (hpl : plainName hm.cls = true)
    {qx : z_C} {r : vw_C} (hqx : P[x]? = some qx) (hq9 : qx.1 < 99) (hcl : cl[qx.1]? = some r) (hr : r.1 = (nm y).cls) (ho : z_cv ext base (.ref o) = .ref o')
    (d0 : decode hbs 0 = .ok (.aload_n 2, 1)) (d1 : decode hbs 1 = .ok (.iconst 0, 1)) (d2 : decode hbs 2 = .ok (.aload_n 0, 1)) (d3 : decode hbs 3 = .ok (.iload_n 1, 1)) (d4 : decode hbs 4 = .ok (.invokevirtual iv, 3)) (d11 : decode hbs 11 = .ok (.astore_n 3, 1)) (d12 : decode hbs 12 = .ok (.iconst 1, 1)) (d13 : decode hbs 13 = .ok (.ireturn, 1)) :
    Met l hm (Cond.codeWith hm hbs 4 (some .int) [(0, 8, 11, 13)] :: Ts) { frames := 101, cells := 1, slots := 6, locals := 10100 } (z_PcX cl aty Ns (z_strs G) rs D ta ext base [.ref x, .int p0, .ref o] P) (z_QcW cl D ta ext base P2) 1 6 (fun q => base ≤ q) := by
  obtain ⟨-, -, -, -, -, -, oL, og, oN, oa, oA, oF, oC, oac, oi⟩ := id hOK
  have hGY : GoodIn Ts (z_ws G nm by_ Ts y) := fun w hw => by
    rcases List.mem_cons.mp hw with rfl | hw
    · exact ⟨wcode, good_of_word (og _ wcode)⟩
    · exact ⟨hw, good_of_word (og _ hw)⟩
  refine va_MetW (cc := hbs) (maxL := 4) (ret := some .int) hpl rfl ?_
  intro p e s m args below meth c s₁ B hml ⟨⟨hargs, hR, hK, hN, hX⟩, hT, hbs9⟩
  have hmap : ([.ref x, .int p0, .ref o] : List Value).map (z_cv ext base) = [.ref (base + x), .int p0, .ref o'] := by
    show [z_cv ext base (.ref x), .int p0, z_cv ext base (.ref o)] = _
    rw [hR.near hqx, ho]
  rw [hmap] at hargs
  subst hargs
  have hx := B.exec
  have hb := B.bytes
  have hts := atoms_spec (ws := Cond.codeWith hm hbs 4 (some .int) [(0, 8, 11, 13)] :: Ts) B.pre
  have hTs : ∀ w ∈ Ts, w.before ([.ref (base + x), .int p0, .ref o'] : List Value).toArray s = true := fun w hw => hts w (List.mem_cons_of_mem _ hw)
  have htab := vx_table (x := hm) B (hts _ List.mem_cons_self)
  have hown := findClass_of_methodNamed B.named
  have hl0 := lv_entry [.ref (base + x), .int p0, .ref o'] (n := 4) (Nat.le_of_ble_eq_true rfl)
  rw [lg_entry_eq]
  generalize (lg_sl [.ref (base + x), .int p0, .ref o'] ++ List.replicate (4 - (lg_sl [.ref (base + x), .int p0, .ref o']).length) Slot.unset).toArray = ls at hl0 ⊢
  have hl0 : lv_has ls 4 [(0, .ref (base + x)), (1, .int p0), (2, .ref o')] := hl0
  refine lv_aload_n hx hb d0 rfl (lv_at hl0 2 rfl) ?_
  refine lv_iconst (v := 0) hx hb d1 (by decide) ?_
  refine lv_aload_n hx hb d2 rfl (lv_at hl0 0 rfl) ?_
  refine lv_iload_n hx hb d3 rfl (lv_at hl0 1 rfl) ?_
  have hrecv : ∃ cellB : Cell, s.heap[base + x]? = some cellB ∧ cellB.vm.isStatics = false ∧ s.vm.findClass (nm y).cls = some cellB.cls := by
    obtain ⟨r8, hr8, -, cell, g1, g2, g3, g4⟩ := (hR.at hqx).1 hq9
    cases hcl.symm.trans hr8
    exact ⟨cell, g1, by rw [g3]; rfl, by rw [g2, ← hr]; exact (hK.1 _ _ hr8).2.1⟩
  refine z_callx (mc := 1) (ms := 6) (rest := [.int 0, .ref o']) (vx_runV (n := 1) (C := (nm y).cls) (index := iv) (own := hm.cls) (As := [.int p0]) (b := base + x) ⟨hx, hb, hml, hown, hTs⟩ hM
    ⟨callB_of 1 hTs hGY rfl hmc hms (hTs _ wini) (hTs _ wlink) ⟨hne.1, hne.2, hpar⟩ ⟨Nat.le_refl _, by show 8 + (z_nL G y + 11) + 100 * 100 ≤ 10100; omega⟩, hTs _ winst, hTs _ wsel⟩
    ⟨z_blindX oN, hrecv, fun U hU hW => ⟨⟨by show _ = ([z_cv ext base (.ref x), .int p0] : List Value).toArray; rw [hR.near hqx], by rw [hU]; exact hR, z_K.moved hW.alike hK, fun w hw => oN w hw s U #[] hW (hN w hw), hX.on hW (fun a _ _ => by rw [hU])⟩, hT.on hW (fun a _ _ => by rw [hU]), by rw [hU]; exact hbs9⟩⟩
    rfl rfl hl0.1 rfl (Nat.le_of_ble_eq_true rfl) d4 ⟨Nat.le_of_ble_eq_true rfl, Nat.le_of_ble_eq_true rfl⟩) va_S.rf ?_
  intro H1 locs1 q1 ce hRW hS1 hce hcv hcl9
  refine vx_catch (own := hm.cls) (E := z_X9) (name := z_X9) hown [] _ [] htab (fun z hz => by cases hz) (by decide) (by decide) (hTs _ wcl) (va_Nw.use rfl (hT.2.2 _ z_bad_cast)) hce hcv hcl9 ?_
  refine lv_astore_n hx hb d11 rfl hl0 (by decide) rfl (fun ls1 hl1 => ?_)
  refine lv_iconst (v := 1) hx hb d12 (by decide) ?_
  exact W.zret hx hb B.returns rfl (fun t ht hW => ⟨rfl, by rw [ht]; exact hRW, hS1.F ht⟩) hS1.2.2 d13 B.notSynchronized
theorem z_f6_nm : z_nm z_M 184 = ⟨"ChaffInTheWind", "sort", "(II)I"⟩ := rfl
theorem z_f6_mc (xs : List Int32) : z_mc (z_G xs) 184 = 1 := rfl
theorem z_f6_ms (xs : List Int32) : z_ms (z_G xs) 184 = 6 := rfl
theorem z_f6_nl (xs : List Int32) : z_nL (z_G xs) 184 = 3 := rfl
theorem z_f6_rt (xs : List Int32) : z_rty (z_G xs) 184 = some .int := rfl
theorem z_f6_wcodei : z_isW 1124 (Cond.code ⟨"ChaffInTheWind", "sort", "(II)I"⟩ (z_bt z_M 184) 3 (some .int)) = true := by decide +kernel
theorem z_f6_wcode : (Cond.code ⟨"ChaffInTheWind", "sort", "(II)I"⟩ (z_bt z_M 184) 3 (some .int)) ∈ z_Ts (k2_sels lw_privs) := z_tbl_Ts (z_isw_tbl z_f6_wcodei) rfl
theorem z_f6_wlinki : z_isW 1121 (Cond.methodLink "ChaffInTheWindLaw" 7 ⟨"ChaffInTheWind", "sort", "(II)I"⟩) = true := by decide +kernel
theorem z_f6_wlink : (Cond.methodLink "ChaffInTheWindLaw" 7 ⟨"ChaffInTheWind", "sort", "(II)I"⟩) ∈ z_Ts (k2_sels lw_privs) := z_tbl_Ts (z_isw_tbl z_f6_wlinki) rfl
theorem z_f6_winsti : z_isW 1122 (Cond.instanceMethod ⟨"ChaffInTheWind", "sort", "(II)I"⟩) = true := by decide +kernel
theorem z_f6_winst : (Cond.instanceMethod ⟨"ChaffInTheWind", "sort", "(II)I"⟩) ∈ z_Ts (k2_sels lw_privs) := z_tbl_Ts (z_isw_tbl z_f6_winsti) rfl
theorem z_f6_wseli : z_isW 1123 (Cond.selects "ChaffInTheWind" ⟨"ChaffInTheWind", "sort", "(II)I"⟩ ⟨"ChaffInTheWind", "sort", "(II)I"⟩) = true := by decide +kernel
theorem z_f6_wsel : (Cond.selects "ChaffInTheWind" ⟨"ChaffInTheWind", "sort", "(II)I"⟩ ⟨"ChaffInTheWind", "sort", "(II)I"⟩) ∈ z_Ts (k2_sels lw_privs) := z_tbl_Ts (z_isw_tbl z_f6_wseli) rfl
theorem z_fw_inii : z_isW 1 (Cond.initialized "ChaffInTheWind") = true := by decide +kernel
theorem z_fw_ini : (Cond.initialized "ChaffInTheWind") ∈ z_Ts (k2_sels lw_privs) := z_tbl_Ts (z_isw_tbl z_fw_inii) rfl
theorem z_fw_cli : z_isW 1120 (Cond.classLink "ChaffInTheWindLaw" 13 z_X9) = true := by decide +kernel
theorem z_fw_cl : (Cond.classLink "ChaffInTheWindLaw" 13 z_X9) ∈ z_Ts (k2_sels lw_privs) := z_tbl_Ts (z_isw_tbl z_fw_cli) rfl
theorem z_fw_ncli : z_isW 1125 (Cond.classLink "ChaffInTheWind" 165 z_X9) = true := by decide +kernel
theorem z_fw_ncl : (Cond.classLink "ChaffInTheWind" 165 z_X9) ∈ z_Ts (k2_sels lw_privs) := z_tbl_Ts (z_isw_tbl z_fw_ncli) rfl
theorem z_fw_nini : z_isW 21 (Cond.initialized z_X9) = true := by decide +kernel
theorem z_fw_nin : (Cond.initialized z_X9) ∈ z_Ts (k2_sels lw_privs) := z_tbl_Ts (z_isw_tbl z_fw_nini) rfl
theorem z_fw_c0 : ((z_cl0 z_CT)[0]?).map (fun r => r.1) = some "ChaffInTheWind" := rfl
theorem z_fw_r {q : z_C} (hq : q.1 = 0) : ∃ r, (z_cl0 z_CT)[q.1]? = some r ∧ r.1 = "ChaffInTheWind" := by
  rw [hq]
  have h0 := z_fw_c0
  cases hc : (z_cl0 z_CT)[0]? with
  | none => rw [hc] at h0; cases h0
  | some r => rw [hc] at h0; exact ⟨r, rfl, Option.some.inj h0⟩
theorem z_f6_d0 : decode (z_bt z_M 184) 17 = .ok (.new 165, 3) := by decide +kernel
theorem z_f6_d3 : decode (z_bt z_M 184) 20 = .ok (.dup, 1) := by decide +kernel
theorem z_f6_d4 : decode (z_bt z_M 184) 21 = .ok (.invokespecial 167, 3) := by decide +kernel
theorem z_f6_d7 : decode (z_bt z_M 184) 24 = .ok (.athrow, 1) := by decide +kernel
theorem z_f6_h0 : decode method_3_code 0 = .ok (.aload_n 3, 1) := by decide +kernel
theorem z_f6_h1 : decode method_3_code 1 = .ok (.iconst 0, 1) := by decide +kernel
theorem z_f6_h2 : decode method_3_code 2 = .ok (.aload_n 0, 1) := by decide +kernel
theorem z_f6_h3 : decode method_3_code 3 = .ok (.iload_n 1, 1) := by decide +kernel
theorem z_f6_h4 : decode method_3_code 4 = .ok (.iload_n 2, 1) := by decide +kernel
theorem z_f6_h5 : decode method_3_code 5 = .ok (.invokevirtual 7, 3) := by decide +kernel
theorem z_f6_h13 : decode method_3_code 13 = .ok (.astore 4, 2) := by decide +kernel
theorem z_f6_h15 : decode method_3_code 15 = .ok (.iconst 1, 1) := by decide +kernel
theorem z_f6_h16 : decode method_3_code 16 = .ok (.ireturn, 1) := by decide +kernel
theorem z_f6_h8 : decode method_3_code 8 = .ok (.i2l, 1) := by decide +kernel
theorem z_f6_h9 : decode method_3_code 9 = .ok (.lastore, 1) := by decide +kernel
theorem z_f6_h10 : decode method_3_code 10 = .ok (.goto 7, 3) := by decide +kernel
theorem z_f6_h17 : decode method_3_code 17 = .ok (.iconst 0, 1) := by decide +kernel
theorem z_f6_h18 : decode method_3_code 18 = .ok (.ireturn, 1) := by decide +kernel
theorem z_f6_par : (parseMethodDescriptor "(II)I").map (fun d => d.parameters.length) = some 2 := by decide +kernel
theorem z_hlp6 {l : Launch} (hl : l.stackTraces = false) {xs : List Int32} {D : va_G} {ta : Nat → ClassId} {ext : Nat → Nat} {base x o o' : Nat} {p0 p1 : Int32} {P : z_H} {q9 : z_S} (hto : z_To (z_G xs) 100 184 (0, lv_args 0 [.ref x, .int p0, .int p1], [], P, 0, 0) q9) (hpc : q9.1 = 17) (hst : q9.2.2.1 = []) (hcn : q9.2.2.2.2.1 = 0) (hsn : q9.2.2.2.2.2 = 0) {qx : z_C} (hqx : P[x]? = some qx) (hq0 : qx.1 = 0) (ho : z_cv ext base (.ref o) = .ref o') :
    Met l ⟨"ChaffInTheWindLaw", "sort", "(LChaffInTheWind;II[J)I"⟩ (Cond.codeWith ⟨"ChaffInTheWindLaw", "sort", "(LChaffInTheWind;II[J)I"⟩ method_3_code 5 (some .int) [(0, 10, 13, 13)] :: z_Ts (k2_sels lw_privs)) { frames := 101, cells := 1, slots := 6, locals := 10100 } (z_PcX (z_cl0 z_CT) z_atys z_Ns (z_strs (z_G xs)) z_rsl D ta ext base [.ref x, .int p0, .int p1, .ref o] P) (z_QcW (z_cl0 z_CT) D ta ext base q9.2.2.2.1) 1 6 (fun q => base ≤ q) := by
  have hM := z_thr (l := l) (Qc := fun _ _ _ _ => False) (ik := 165) (ic := 167) (D := D) (ta := ta) (ext := ext) (base := base) hl (z_prog_ok xs) (d := 100) (y := 184) (as := [.ref x, .int p0, .int p1]) (P := P) (q9 := q9) (by rw [z_f6_nm]; decide +kernel) (by rw [z_f6_nl]; exact Nat.le_of_ble_eq_true rfl) (by decide) hto hst (by rw [hcn, z_f6_mc]; exact Nat.le_refl _) (by rw [hsn, z_f6_ms]; exact Nat.le_refl _)
    (by rw [hpc]; exact z_f6_d0) (by rw [hpc]; exact z_f6_d3) (by rw [hpc]; exact z_f6_d4) (by rw [hpc]; exact z_f6_d7) (by rw [z_f6_nm]; exact z_fw_ncl) z_fw_nin (by rw [z_f6_nm]; exact fun w hw => z_tbl_Ts (z_at0in w hw) (List.mem_filter.mp hw).2) (by rw [z_f6_nm]; exact fun w hw => hw) (by rw [z_f6_nm]; exact z_at0ot)
  rw [z_f6_mc, z_f6_ms] at hM
  obtain ⟨r, hr, hr1⟩ := z_fw_r hq0
  exact z_hlpG2 (z_prog_ok xs) (iv := 7) hM (z_f6_mc xs) (z_f6_ms xs) (by rw [z_f6_nl]; decide) (by rw [z_f6_nm, z_f6_nl, z_f6_rt]; exact z_f6_wcode) (by rw [z_f6_nm]; exact z_fw_ini) (by rw [z_f6_nm]; exact z_f6_wlink) (by rw [z_f6_nm]; exact z_f6_winst) (by rw [z_f6_nm]; exact z_f6_wsel) z_fw_cl
    (by rw [z_f6_nm]; exact ⟨by decide, by decide⟩) (by rw [z_f6_nm]; exact z_f6_par) (by decide +kernel) hqx (by rw [hq0]; decide) hr (by rw [z_f6_nm]; exact hr1) ho z_f6_h0 z_f6_h1 z_f6_h2 z_f6_h3 z_f6_h4 z_f6_h5 z_f6_h13 z_f6_h15 z_f6_h16
theorem z_f26_nm : z_nm z_M 185 = ⟨"ChaffInTheWind", "price", "(II)I"⟩ := rfl
theorem z_f26_mc (xs : List Int32) : z_mc (z_G xs) 185 = 1 := rfl
theorem z_f26_ms (xs : List Int32) : z_ms (z_G xs) 185 = 6 := rfl
theorem z_f26_nl (xs : List Int32) : z_nL (z_G xs) 185 = 3 := rfl
theorem z_f26_rt (xs : List Int32) : z_rty (z_G xs) 185 = some .int := rfl
theorem z_f26_wcodei : z_isW 1192 (Cond.code ⟨"ChaffInTheWind", "price", "(II)I"⟩ (z_bt z_M 185) 3 (some .int)) = true := by decide +kernel
theorem z_f26_wcode : (Cond.code ⟨"ChaffInTheWind", "price", "(II)I"⟩ (z_bt z_M 185) 3 (some .int)) ∈ z_Ts (k2_sels lw_privs) := z_tbl_Ts (z_isw_tbl z_f26_wcodei) rfl
theorem z_f26_wlinki : z_isW 1189 (Cond.methodLink "ChaffInTheWindLaw" 15 ⟨"ChaffInTheWind", "price", "(II)I"⟩) = true := by decide +kernel
theorem z_f26_wlink : (Cond.methodLink "ChaffInTheWindLaw" 15 ⟨"ChaffInTheWind", "price", "(II)I"⟩) ∈ z_Ts (k2_sels lw_privs) := z_tbl_Ts (z_isw_tbl z_f26_wlinki) rfl
theorem z_f26_winsti : z_isW 1190 (Cond.instanceMethod ⟨"ChaffInTheWind", "price", "(II)I"⟩) = true := by decide +kernel
theorem z_f26_winst : (Cond.instanceMethod ⟨"ChaffInTheWind", "price", "(II)I"⟩) ∈ z_Ts (k2_sels lw_privs) := z_tbl_Ts (z_isw_tbl z_f26_winsti) rfl
theorem z_f26_wseli : z_isW 1191 (Cond.selects "ChaffInTheWind" ⟨"ChaffInTheWind", "price", "(II)I"⟩ ⟨"ChaffInTheWind", "price", "(II)I"⟩) = true := by decide +kernel
theorem z_f26_wsel : (Cond.selects "ChaffInTheWind" ⟨"ChaffInTheWind", "price", "(II)I"⟩ ⟨"ChaffInTheWind", "price", "(II)I"⟩) ∈ z_Ts (k2_sels lw_privs) := z_tbl_Ts (z_isw_tbl z_f26_wseli) rfl
theorem z_f26_d0 : decode (z_bt z_M 185) 27 = .ok (.new 165, 3) := by decide +kernel
theorem z_f26_d3 : decode (z_bt z_M 185) 30 = .ok (.dup, 1) := by decide +kernel
theorem z_f26_d4 : decode (z_bt z_M 185) 31 = .ok (.invokespecial 167, 3) := by decide +kernel
theorem z_f26_d7 : decode (z_bt z_M 185) 34 = .ok (.athrow, 1) := by decide +kernel
theorem z_f26_h0 : decode method_4_code 0 = .ok (.aload_n 3, 1) := by decide +kernel
theorem z_f26_h1 : decode method_4_code 1 = .ok (.iconst 0, 1) := by decide +kernel
theorem z_f26_h2 : decode method_4_code 2 = .ok (.aload_n 0, 1) := by decide +kernel
theorem z_f26_h3 : decode method_4_code 3 = .ok (.iload_n 1, 1) := by decide +kernel
theorem z_f26_h4 : decode method_4_code 4 = .ok (.iload_n 2, 1) := by decide +kernel
theorem z_f26_h5 : decode method_4_code 5 = .ok (.invokevirtual 15, 3) := by decide +kernel
theorem z_f26_h13 : decode method_4_code 13 = .ok (.astore 4, 2) := by decide +kernel
theorem z_f26_h15 : decode method_4_code 15 = .ok (.iconst 1, 1) := by decide +kernel
theorem z_f26_h16 : decode method_4_code 16 = .ok (.ireturn, 1) := by decide +kernel
theorem z_f26_h8 : decode method_4_code 8 = .ok (.i2l, 1) := by decide +kernel
theorem z_f26_h9 : decode method_4_code 9 = .ok (.lastore, 1) := by decide +kernel
theorem z_f26_h10 : decode method_4_code 10 = .ok (.goto 7, 3) := by decide +kernel
theorem z_f26_h17 : decode method_4_code 17 = .ok (.iconst 0, 1) := by decide +kernel
theorem z_f26_h18 : decode method_4_code 18 = .ok (.ireturn, 1) := by decide +kernel
theorem z_f26_par : (parseMethodDescriptor "(II)I").map (fun d => d.parameters.length) = some 2 := by decide +kernel
theorem z_hlp26 {l : Launch} (hl : l.stackTraces = false) {xs : List Int32} {D : va_G} {ta : Nat → ClassId} {ext : Nat → Nat} {base x o o' : Nat} {p0 p1 : Int32} {P : z_H} {q9 : z_S} (hto : z_To (z_G xs) 100 185 (0, lv_args 0 [.ref x, .int p0, .int p1], [], P, 0, 0) q9) (hpc : q9.1 = 27) (hst : q9.2.2.1 = []) (hcn : q9.2.2.2.2.1 = 0) (hsn : q9.2.2.2.2.2 = 0) {qx : z_C} (hqx : P[x]? = some qx) (hq0 : qx.1 = 0) (ho : z_cv ext base (.ref o) = .ref o') :
    Met l ⟨"ChaffInTheWindLaw", "price", "(LChaffInTheWind;II[J)I"⟩ (Cond.codeWith ⟨"ChaffInTheWindLaw", "price", "(LChaffInTheWind;II[J)I"⟩ method_4_code 5 (some .int) [(0, 10, 13, 13)] :: z_Ts (k2_sels lw_privs)) { frames := 101, cells := 1, slots := 6, locals := 10100 } (z_PcX (z_cl0 z_CT) z_atys z_Ns (z_strs (z_G xs)) z_rsl D ta ext base [.ref x, .int p0, .int p1, .ref o] P) (z_QcW (z_cl0 z_CT) D ta ext base q9.2.2.2.1) 1 6 (fun q => base ≤ q) := by
  have hM := z_thr (l := l) (Qc := fun _ _ _ _ => False) (ik := 165) (ic := 167) (D := D) (ta := ta) (ext := ext) (base := base) hl (z_prog_ok xs) (d := 100) (y := 185) (as := [.ref x, .int p0, .int p1]) (P := P) (q9 := q9) (by rw [z_f26_nm]; decide +kernel) (by rw [z_f26_nl]; exact Nat.le_of_ble_eq_true rfl) (by decide) hto hst (by rw [hcn, z_f26_mc]; exact Nat.le_refl _) (by rw [hsn, z_f26_ms]; exact Nat.le_refl _)
    (by rw [hpc]; exact z_f26_d0) (by rw [hpc]; exact z_f26_d3) (by rw [hpc]; exact z_f26_d4) (by rw [hpc]; exact z_f26_d7) (by rw [z_f26_nm]; exact z_fw_ncl) z_fw_nin (by rw [z_f26_nm]; exact fun w hw => z_tbl_Ts (z_at0in w hw) (List.mem_filter.mp hw).2) (by rw [z_f26_nm]; exact fun w hw => hw) (by rw [z_f26_nm]; exact z_at0ot)
  rw [z_f26_mc, z_f26_ms] at hM
  obtain ⟨r, hr, hr1⟩ := z_fw_r hq0
  exact z_hlpG2 (z_prog_ok xs) (iv := 15) hM (z_f26_mc xs) (z_f26_ms xs) (by rw [z_f26_nl]; decide) (by rw [z_f26_nm, z_f26_nl, z_f26_rt]; exact z_f26_wcode) (by rw [z_f26_nm]; exact z_fw_ini) (by rw [z_f26_nm]; exact z_f26_wlink) (by rw [z_f26_nm]; exact z_f26_winst) (by rw [z_f26_nm]; exact z_f26_wsel) z_fw_cl
    (by rw [z_f26_nm]; exact ⟨by decide, by decide⟩) (by rw [z_f26_nm]; exact z_f26_par) (by decide +kernel) hqx (by rw [hq0]; decide) hr (by rw [z_f26_nm]; exact hr1) ho z_f26_h0 z_f26_h1 z_f26_h2 z_f26_h3 z_f26_h4 z_f26_h5 z_f26_h13 z_f26_h15 z_f26_h16
theorem z_f48_nm : z_nm z_M 186 = ⟨"ChaffInTheWind", "row", "(I)J"⟩ := rfl
theorem z_f48_mc (xs : List Int32) : z_mc (z_G xs) 186 = 1 := rfl
theorem z_f48_ms (xs : List Int32) : z_ms (z_G xs) 186 = 6 := rfl
theorem z_f48_nl (xs : List Int32) : z_nL (z_G xs) 186 = 2 := rfl
theorem z_f48_rt (xs : List Int32) : z_rty (z_G xs) 186 = some .long := rfl
theorem z_f48_wcodei : z_isW 1202 (Cond.code ⟨"ChaffInTheWind", "row", "(I)J"⟩ (z_bt z_M 186) 2 (some .long)) = true := by decide +kernel
theorem z_f48_wcode : (Cond.code ⟨"ChaffInTheWind", "row", "(I)J"⟩ (z_bt z_M 186) 2 (some .long)) ∈ z_Ts (k2_sels lw_privs) := z_tbl_Ts (z_isw_tbl z_f48_wcodei) rfl
theorem z_f48_wlinki : z_isW 1199 (Cond.methodLink "ChaffInTheWindLaw" 18 ⟨"ChaffInTheWind", "row", "(I)J"⟩) = true := by decide +kernel
theorem z_f48_wlink : (Cond.methodLink "ChaffInTheWindLaw" 18 ⟨"ChaffInTheWind", "row", "(I)J"⟩) ∈ z_Ts (k2_sels lw_privs) := z_tbl_Ts (z_isw_tbl z_f48_wlinki) rfl
theorem z_f48_winsti : z_isW 1200 (Cond.instanceMethod ⟨"ChaffInTheWind", "row", "(I)J"⟩) = true := by decide +kernel
theorem z_f48_winst : (Cond.instanceMethod ⟨"ChaffInTheWind", "row", "(I)J"⟩) ∈ z_Ts (k2_sels lw_privs) := z_tbl_Ts (z_isw_tbl z_f48_winsti) rfl
theorem z_f48_wseli : z_isW 1201 (Cond.selects "ChaffInTheWind" ⟨"ChaffInTheWind", "row", "(I)J"⟩ ⟨"ChaffInTheWind", "row", "(I)J"⟩) = true := by decide +kernel
theorem z_f48_wsel : (Cond.selects "ChaffInTheWind" ⟨"ChaffInTheWind", "row", "(I)J"⟩ ⟨"ChaffInTheWind", "row", "(I)J"⟩) ∈ z_Ts (k2_sels lw_privs) := z_tbl_Ts (z_isw_tbl z_f48_wseli) rfl
theorem z_f48_d0 : decode (z_bt z_M 186) 15 = .ok (.new 165, 3) := by decide +kernel
theorem z_f48_d3 : decode (z_bt z_M 186) 18 = .ok (.dup, 1) := by decide +kernel
theorem z_f48_d4 : decode (z_bt z_M 186) 19 = .ok (.invokespecial 167, 3) := by decide +kernel
theorem z_f48_d7 : decode (z_bt z_M 186) 22 = .ok (.athrow, 1) := by decide +kernel
theorem z_f48_h0 : decode method_5_code 0 = .ok (.aload_n 2, 1) := by decide +kernel
theorem z_f48_h1 : decode method_5_code 1 = .ok (.iconst 0, 1) := by decide +kernel
theorem z_f48_h2 : decode method_5_code 2 = .ok (.aload_n 0, 1) := by decide +kernel
theorem z_f48_h3 : decode method_5_code 3 = .ok (.iload_n 1, 1) := by decide +kernel
theorem z_f48_h4 : decode method_5_code 4 = .ok (.invokevirtual 18, 3) := by decide +kernel
theorem z_f48_h11 : decode method_5_code 11 = .ok (.astore_n 3, 1) := by decide +kernel
theorem z_f48_h12 : decode method_5_code 12 = .ok (.iconst 1, 1) := by decide +kernel
theorem z_f48_h13 : decode method_5_code 13 = .ok (.ireturn, 1) := by decide +kernel
theorem z_f48_h7 : decode method_5_code 7 = .ok (.lastore, 1) := by decide +kernel
theorem z_f48_h8 : decode method_5_code 8 = .ok (.goto 6, 3) := by decide +kernel
theorem z_f48_h14 : decode method_5_code 14 = .ok (.iconst 0, 1) := by decide +kernel
theorem z_f48_h15 : decode method_5_code 15 = .ok (.ireturn, 1) := by decide +kernel
theorem z_f48_par : (parseMethodDescriptor "(I)J").map (fun d => d.parameters.length) = some 1 := by decide +kernel
theorem z_hlp48 {l : Launch} (hl : l.stackTraces = false) {xs : List Int32} {D : va_G} {ta : Nat → ClassId} {ext : Nat → Nat} {base x o o' : Nat} {p0 : Int32} {P : z_H} {q9 : z_S} (hto : z_To (z_G xs) 100 186 (0, lv_args 0 [.ref x, .int p0], [], P, 0, 0) q9) (hpc : q9.1 = 15) (hst : q9.2.2.1 = []) (hcn : q9.2.2.2.2.1 = 0) (hsn : q9.2.2.2.2.2 = 0) {qx : z_C} (hqx : P[x]? = some qx) (hq0 : qx.1 = 0) (ho : z_cv ext base (.ref o) = .ref o') :
    Met l ⟨"ChaffInTheWindLaw", "row", "(LChaffInTheWind;I[J)I"⟩ (Cond.codeWith ⟨"ChaffInTheWindLaw", "row", "(LChaffInTheWind;I[J)I"⟩ method_5_code 4 (some .int) [(0, 8, 11, 13)] :: z_Ts (k2_sels lw_privs)) { frames := 101, cells := 1, slots := 6, locals := 10100 } (z_PcX (z_cl0 z_CT) z_atys z_Ns (z_strs (z_G xs)) z_rsl D ta ext base [.ref x, .int p0, .ref o] P) (z_QcW (z_cl0 z_CT) D ta ext base q9.2.2.2.1) 1 6 (fun q => base ≤ q) := by
  have hM := z_thr (l := l) (Qc := fun _ _ _ _ => False) (ik := 165) (ic := 167) (D := D) (ta := ta) (ext := ext) (base := base) hl (z_prog_ok xs) (d := 100) (y := 186) (as := [.ref x, .int p0]) (P := P) (q9 := q9) (by rw [z_f48_nm]; decide +kernel) (by rw [z_f48_nl]; exact Nat.le_of_ble_eq_true rfl) (by decide) hto hst (by rw [hcn, z_f48_mc]; exact Nat.le_refl _) (by rw [hsn, z_f48_ms]; exact Nat.le_refl _)
    (by rw [hpc]; exact z_f48_d0) (by rw [hpc]; exact z_f48_d3) (by rw [hpc]; exact z_f48_d4) (by rw [hpc]; exact z_f48_d7) (by rw [z_f48_nm]; exact z_fw_ncl) z_fw_nin (by rw [z_f48_nm]; exact fun w hw => z_tbl_Ts (z_at0in w hw) (List.mem_filter.mp hw).2) (by rw [z_f48_nm]; exact fun w hw => hw) (by rw [z_f48_nm]; exact z_at0ot)
  rw [z_f48_mc, z_f48_ms] at hM
  obtain ⟨r, hr, hr1⟩ := z_fw_r hq0
  exact z_hlpG1 (z_prog_ok xs) (iv := 18) hM (z_f48_mc xs) (z_f48_ms xs) (by rw [z_f48_nl]; decide) (by rw [z_f48_nm, z_f48_nl, z_f48_rt]; exact z_f48_wcode) (by rw [z_f48_nm]; exact z_fw_ini) (by rw [z_f48_nm]; exact z_f48_wlink) (by rw [z_f48_nm]; exact z_f48_winst) (by rw [z_f48_nm]; exact z_f48_wsel) z_fw_cl
    (by rw [z_f48_nm]; exact ⟨by decide, by decide⟩) (by rw [z_f48_nm]; exact z_f48_par) (by decide +kernel) hqx (by rw [hq0]; decide) hr (by rw [z_f48_nm]; exact hr1) ho z_f48_h0 z_f48_h1 z_f48_h2 z_f48_h3 z_f48_h4 z_f48_h11 z_f48_h12 z_f48_h13
end ZHLP
