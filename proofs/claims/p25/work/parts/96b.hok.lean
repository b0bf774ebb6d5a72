/-! The law's helpers where nothing is thrown. -/
section ZHOK
def z_QcX (cl : List vw_C) (D : va_G) (ta : Nat → ClassId) (ext : Nat → Nat) (base : Nat) (k : Int32) (P : z_H) : Array Value → State → Outcome → State → Prop := fun _ st o t =>
  o = .returned (some (.int k)) ∧ z_RW D cl ta ext base P t.heap ∧ va_F (fun q => base ≤ q) st t
section
variable {p : Program} {l : Launch} {e : Env} {R : Room} {s : State} {m : MethodId} {args : Array Value} {below : List Frame} {meth : Method} {c : Code} {H : Heap} {locs : List Loc} {cells slots : Nat} {Q : State → Prop}
/-- behind a call that gave k, with things of which nothing is said -/
theorem z_backX {cl : List vw_C} {D : va_G} {ta : Nat → ClassId} {ext : Nat → Nat} {mc ms : Nat} {g : JFrame} {rest : List Value} {P2 : z_H} {a : Array Value} {kv : Int32} (hR2 : R.cells + 1 ≤ z_far) (hr : va_Run p l e R s m args below meth c H locs cells slots mc ms g rest (z_QcX cl D ta ext s.heap.size kv P2 a) (fun q => s.heap.size ≤ q)) (hS : va_S (fun q => s.heap.size ≤ q) s.heap H locs) (hfit : cells + mc ≤ R.cells)
    (k : ∀ (n : Nat) (H1 : Heap) (locs1 : List Loc), (P2 ++ List.replicate n (99, [])).length ≤ cells + mc → z_R D cl ta ext s.heap.size (P2 ++ List.replicate n (99, [])) H1 → va_S (fun q => s.heap.size ≤ q) s.heap H1 locs1 → W p l e R s m args below meth c H1 locs1 (cells + mc) (slots + ms) Q { g with pc := g.pc + 3, stack := .int kv :: rest }) : W p l e R s m args below meth c H locs cells slots Q g := by
  intro T hT X
  obtain ⟨v, st₀, t, T', L, h0, X', hL, e1, e2, ⟨hv, hRW, hF⟩, st⟩ := hr T hT X
  have hv : v = some (.int kv) := Outcome.returned.inj hv
  subst hv
  obtain ⟨f1, f2⟩ := hF
  rw [h0] at f1 f2
  have hsz : T'.heap.size ≤ s.heap.size + (cells + mc) := X'.same.2.2.1
  have hRW' : z_RW D cl ta ext s.heap.size P2 T'.heap := by rw [e1]; exact hRW
  have hfull := hRW'.full (by omega)
  have hlen := hfull.1
  obtain ⟨t9, a9, b9⟩ := k _ T'.heap (locs ++ L) (by omega) hfull ⟨by rw [e1]; exact Nat.le_trans hS.1 f1, fun q g1 g2 => by
    rw [e1, f2 q (Nat.lt_of_lt_of_le g1 hS.1) g2]
    exact hS.2.1 q g1 g2, fun q hq => by
    rcases List.mem_append.mp hq with h | h
    · exact hS.2.2 q h
    · exact hL q h⟩ T' rfl X'
  exact ⟨t9, st t9 a9, b9⟩
end
/-- a helper of the law: the class gives its answer, it is put down, 0 -/
theorem z_hokG2 {l : Launch} {G : z_Pg} {nm : Nat → MethodName} {by_ : Nat → ByteArray} {cl : List vw_C} {aty : List FieldType} {Ts Ns : List Cond} {rs : List (String × Nat × String × Nat)} {D : va_G} {ta : Nat → ClassId} {ext : Nat → Nat} {base : Nat} (hOK : z_OK G nm by_ cl aty Ts Ns rs) {y x o iv : Nat} {p0 p1 v : Int32} {w0 : Value} {P P2 : z_H} {hm : MethodName} {hbs : ByteArray}
    (hM : Met l (nm y) (z_ws G nm by_ Ts y) (z_room G y 100) (z_Pc cl aty Ns (z_strs G) rs D ta ext base [.ref x, .int p0, .int p1] P) (z_Qc cl D ta ext base (some (.int v)) P2) (z_mc G y) (z_ms G y) (fun q => base ≤ q)) (hmc : z_mc G y = 1) (hms : z_ms G y = 6) (hnl : z_nL G y ≤ 45)
    (wcode : Cond.code (nm y) (by_ y) (z_nL G y) (z_rty G y) ∈ Ts) (wini : Cond.initialized (nm y).cls ∈ Ts) (wlink : Cond.methodLink hm.cls iv (nm y) ∈ Ts) (winst : Cond.instanceMethod (nm y) ∈ Ts) (wsel : Cond.selects (nm y).cls (nm y) (nm y) ∈ Ts)
    (hne : (nm y).cls ≠ "java/lang/invoke/MethodHandle" ∧ (nm y).cls ≠ "java/lang/invoke/VarHandle") (hpar : (parseMethodDescriptor (nm y).desc).map (fun d => d.parameters.length) = some 2) (hpl : plainName hm.cls = true)
    {qx qo : z_C} {r : vw_C} (hqx : P[x]? = some qx) (hq9 : qx.1 < 99) (hcl : cl[qx.1]? = some r) (hr : r.1 = (nm y).cls) (hqo : P[o]? = some qo) (ho2 : P2[o]? = some (104, [w0]))
    (d0 : decode hbs 0 = .ok (.aload_n 3, 1)) (d1 : decode hbs 1 = .ok (.iconst 0, 1)) (d2 : decode hbs 2 = .ok (.aload_n 0, 1)) (d3 : decode hbs 3 = .ok (.iload_n 1, 1)) (d4 : decode hbs 4 = .ok (.iload_n 2, 1)) (d5 : decode hbs 5 = .ok (.invokevirtual iv, 3)) (d8 : decode hbs 8 = .ok (.i2l, 1)) (d9 : decode hbs 9 = .ok (.lastore, 1)) (d10 : decode hbs 10 = .ok (.goto 7, 3)) (d17 : decode hbs 17 = .ok (.iconst 0, 1)) (d18 : decode hbs 18 = .ok (.ireturn, 1)) :
    Met l hm (Cond.codeWith hm hbs 5 (some .int) [(0, 10, 13, 13)] :: Ts) { frames := 101, cells := 1, slots := 6, locals := 10100 } (z_PcX cl aty Ns (z_strs G) rs D ta ext base [.ref x, .int p0, .int p1, .ref o] P) (z_QcX cl D ta ext base 0 (P2.set o (104, [.long v.toInt64]))) 1 6 (fun q => base ≤ q) := by
  obtain ⟨-, -, -, -, -, -, oL, og, oN, oa, oA, oF, oC, oac, oi⟩ := id hOK
  have hGY : GoodIn Ts (z_ws G nm by_ Ts y) := fun w hw => by
    rcases List.mem_cons.mp hw with rfl | hw
    · exact ⟨wcode, good_of_word (og _ wcode)⟩
    · exact ⟨hw, good_of_word (og _ hw)⟩
  refine va_MetW (cc := hbs) (maxL := 5) (ret := some .int) hpl rfl ?_
  intro p e s m args below meth c s₁ B hml ⟨⟨hargs, hR, hK, hN, hX⟩, hT, hbs9⟩
  have hmap : ([.ref x, .int p0, .int p1, .ref o] : List Value).map (z_cv ext base) = [.ref (base + x), .int p0, .int p1, .ref (base + o)] := by
    show [z_cv ext base (.ref x), .int p0, .int p1, z_cv ext base (.ref o)] = _
    rw [hR.near hqx, hR.near hqo]
  rw [hmap] at hargs
  subst hargs
  have hx := B.exec
  have hb := B.bytes
  have hts := atoms_spec (ws := Cond.codeWith hm hbs 5 (some .int) [(0, 10, 13, 13)] :: Ts) B.pre
  have hTs : ∀ w ∈ Ts, w.before ([.ref (base + x), .int p0, .int p1, .ref (base + o)] : List Value).toArray s = true := fun w hw => hts w (List.mem_cons_of_mem _ hw)
  have hown := findClass_of_methodNamed B.named
  have hl0 := lv_entry [.ref (base + x), .int p0, .int p1, .ref (base + o)] (n := 5) (Nat.le_of_ble_eq_true rfl)
  rw [lg_entry_eq]
  generalize (lg_sl [.ref (base + x), .int p0, .int p1, .ref (base + o)] ++ List.replicate (5 - (lg_sl [.ref (base + x), .int p0, .int p1, .ref (base + o)]).length) Slot.unset).toArray = ls at hl0 ⊢
  have hl0 : lv_has ls 5 [(0, .ref (base + x)), (1, .int p0), (2, .int p1), (3, .ref (base + o))] := hl0
  refine lv_aload_n hx hb d0 rfl (lv_at hl0 3 rfl) ?_
  refine lv_iconst (v := 0) hx hb d1 (by decide) ?_
  refine lv_aload_n hx hb d2 rfl (lv_at hl0 0 rfl) ?_
  refine lv_iload_n hx hb d3 rfl (lv_at hl0 1 rfl) ?_
  refine lv_iload_n hx hb d4 rfl (lv_at hl0 2 rfl) ?_
  have hrecv : ∃ cellB : Cell, s.heap[base + x]? = some cellB ∧ cellB.vm.isStatics = false ∧ s.vm.findClass (nm y).cls = some cellB.cls := by
    obtain ⟨r8, hr8, -, cell, g1, g2, g3, g4⟩ := (hR.at hqx).1 hq9
    cases hcl.symm.trans hr8
    exact ⟨cell, g1, by rw [g3]; rfl, by rw [g2, ← hr]; exact (hK.1 _ _ hr8).2.1⟩
  rw [hmc, hms] at hM
  refine z_sim_back (rest := [.int 0, .ref (base + o)]) (mc := 1) (ms := 6) (va_runV (n := 2) (C := (nm y).cls) (index := iv) (own := hm.cls) (As := [.int p0, .int p1]) (b := base + x) ⟨hx, hb, hml, hown, hTs⟩ hM
    ⟨callB_of 2 hTs hGY rfl hmc hms (hTs _ wini) (hTs _ wlink) ⟨hne.1, hne.2, hpar⟩ ⟨Nat.le_refl _, by show 8 + (z_nL G y + 11) + 100 * 100 ≤ 10100; omega⟩, hTs _ winst, hTs _ wsel⟩
    ⟨z_blind oN, hrecv, fun U hU hW => ⟨by show _ = ([z_cv ext base (.ref x), .int p0, .int p1] : List Value).toArray; rw [hR.near hqx], by rw [hU]; exact hR, z_K.moved hW.alike hK, fun w hw => oN w hw s U #[] hW (hN w hw), hX.on hW (fun a _ _ => by rw [hU])⟩⟩
    rfl rfl hl0.1 rfl (Nat.le_of_ble_eq_true rfl) d5 ⟨Nat.le_of_ble_eq_true rfl, Nat.le_of_ble_eq_true rfl⟩) va_S.rf ?_
  intro H1 locs1 hR1 hS1
  have hst : ([.int v, .int 0, .ref o] : List Value).map (z_cv ext base) = [.int v, .int 0, .ref (base + o)] := by
    show [.int v, .int 0, z_cv ext base (.ref o)] = _
    rw [hR1.near ho2]
  refine (fun h => by rw [hst] at h; exact h : W _ _ _ _ _ _ _ _ _ _ H1 locs1 _ _ _ (F0 m 8 ls (([.int v, .int 0, .ref o] : List Value).map (z_cv ext base))) → _) ?_
  refine z_sim_pure (ext := ext) (base := base) (st := [.int v, .int 0, .ref o]) (st' := [.long v.toInt64, .int 0, .ref o]) (len := 1) hx hb d8 rfl rfl ?_
  refine z_sim_wr (D := D) (cl := cl) (ta := ta) (aty := aty) (ext := ext) (base := base) (Ts := Ts) (own := hm.cls) (P := P2) (P' := P2.set o (104, [.long v.toInt64])) (fld := fun _ => none) (fty := z_fty G) (fin := z_fin G) (ini := none) (ac := z_ac G) (A := fun q => base ≤ q) (H0 := s.heap) (ins := .lastore) (len := 1) (st := [.long v.toInt64, .int 0, .ref o]) (st' := []) hx hb hTs hown hK oa oC oF hR1 hS1 (fun _ h => h) oac (fun ci r kk e1 => by cases e1) (fun n ci kk r e1 => by cases e1) d9 rfl (z_lsv (j := 0) ho2 rfl (Nat.le_of_ble_eq_true rfl)) ?_
  intro H2 locs2 hR2 hS2
  refine z_sim_jmp (ext := ext) (base := base) (st := []) (st' := []) (pc' := 17) hx hb d10 (Or.inr rfl) rfl ?_
  refine z_sim_pure (ext := ext) (base := base) (st := []) (st' := [.int 0]) (len := 1) hx hb d17 rfl rfl ?_
  exact W.zret hx hb B.returns rfl (fun t ht hW => ⟨rfl, by rw [ht]; exact hR2.weak (Nat.le_refl _) (fun _ _ => rfl), hS2.F ht⟩) hS2.2.2 d18 B.notSynchronized
/-- a helper of the law: the class gives its answer, it is put down, 0 -/
theorem z_hokG1 {l : Launch} {G : z_Pg} {nm : Nat → MethodName} {by_ : Nat → ByteArray} {cl : List vw_C} {aty : List FieldType} {Ts Ns : List Cond} {rs : List (String × Nat × String × Nat)} {D : va_G} {ta : Nat → ClassId} {ext : Nat → Nat} {base : Nat} (hOK : z_OK G nm by_ cl aty Ts Ns rs) {y x o iv : Nat} {p0 : Int32} {v : Int64} {w0 : Value} {P P2 : z_H} {hm : MethodName} {hbs : ByteArray}
    (hM : Met l (nm y) (z_ws G nm by_ Ts y) (z_room G y 100) (z_Pc cl aty Ns (z_strs G) rs D ta ext base [.ref x, .int p0] P) (z_Qc cl D ta ext base (some (.long v)) P2) (z_mc G y) (z_ms G y) (fun q => base ≤ q)) (hmc : z_mc G y = 1) (hms : z_ms G y = 6) (hnl : z_nL G y ≤ 45)
    (wcode : Cond.code (nm y) (by_ y) (z_nL G y) (z_rty G y) ∈ Ts) (wini : Cond.initialized (nm y).cls ∈ Ts) (wlink : Cond.methodLink hm.cls iv (nm y) ∈ Ts) (winst : Cond.instanceMethod (nm y) ∈ Ts) (wsel : Cond.selects (nm y).cls (nm y) (nm y) ∈ Ts)
    (hne : (nm y).cls ≠ "java/lang/invoke/MethodHandle" ∧ (nm y).cls ≠ "java/lang/invoke/VarHandle") (hpar : (parseMethodDescriptor (nm y).desc).map (fun d => d.parameters.length) = some 1) (hpl : plainName hm.cls = true)
    {qx qo : z_C} {r : vw_C} (hqx : P[x]? = some qx) (hq9 : qx.1 < 99) (hcl : cl[qx.1]? = some r) (hr : r.1 = (nm y).cls) (hqo : P[o]? = some qo) (ho2 : P2[o]? = some (104, [w0]))
    (d0 : decode hbs 0 = .ok (.aload_n 2, 1)) (d1 : decode hbs 1 = .ok (.iconst 0, 1)) (d2 : decode hbs 2 = .ok (.aload_n 0, 1)) (d3 : decode hbs 3 = .ok (.iload_n 1, 1)) (d4 : decode hbs 4 = .ok (.invokevirtual iv, 3)) (d7 : decode hbs 7 = .ok (.lastore, 1)) (d8 : decode hbs 8 = .ok (.goto 6, 3)) (d14 : decode hbs 14 = .ok (.iconst 0, 1)) (d15 : decode hbs 15 = .ok (.ireturn, 1)) :
    Met l hm (Cond.codeWith hm hbs 4 (some .int) [(0, 8, 11, 13)] :: Ts) { frames := 101, cells := 1, slots := 6, locals := 10100 } (z_PcX cl aty Ns (z_strs G) rs D ta ext base [.ref x, .int p0, .ref o] P) (z_QcX cl D ta ext base 0 (P2.set o (104, [.long v]))) 1 6 (fun q => base ≤ q) := by
  obtain ⟨-, -, -, -, -, -, oL, og, oN, oa, oA, oF, oC, oac, oi⟩ := id hOK
  have hGY : GoodIn Ts (z_ws G nm by_ Ts y) := fun w hw => by
    rcases List.mem_cons.mp hw with rfl | hw
    · exact ⟨wcode, good_of_word (og _ wcode)⟩
    · exact ⟨hw, good_of_word (og _ hw)⟩
  refine va_MetW (cc := hbs) (maxL := 4) (ret := some .int) hpl rfl ?_
  intro p e s m args below meth c s₁ B hml ⟨⟨hargs, hR, hK, hN, hX⟩, hT, hbs9⟩
  have hmap : ([.ref x, .int p0, .ref o] : List Value).map (z_cv ext base) = [.ref (base + x), .int p0, .ref (base + o)] := by
    show [z_cv ext base (.ref x), .int p0, z_cv ext base (.ref o)] = _
    rw [hR.near hqx, hR.near hqo]
  rw [hmap] at hargs
  subst hargs
  have hx := B.exec
  have hb := B.bytes
  have hts := atoms_spec (ws := Cond.codeWith hm hbs 4 (some .int) [(0, 8, 11, 13)] :: Ts) B.pre
  have hTs : ∀ w ∈ Ts, w.before ([.ref (base + x), .int p0, .ref (base + o)] : List Value).toArray s = true := fun w hw => hts w (List.mem_cons_of_mem _ hw)
  have hown := findClass_of_methodNamed B.named
  have hl0 := lv_entry [.ref (base + x), .int p0, .ref (base + o)] (n := 4) (Nat.le_of_ble_eq_true rfl)
  rw [lg_entry_eq]
  generalize (lg_sl [.ref (base + x), .int p0, .ref (base + o)] ++ List.replicate (4 - (lg_sl [.ref (base + x), .int p0, .ref (base + o)]).length) Slot.unset).toArray = ls at hl0 ⊢
  have hl0 : lv_has ls 4 [(0, .ref (base + x)), (1, .int p0), (2, .ref (base + o))] := hl0
  refine lv_aload_n hx hb d0 rfl (lv_at hl0 2 rfl) ?_
  refine lv_iconst (v := 0) hx hb d1 (by decide) ?_
  refine lv_aload_n hx hb d2 rfl (lv_at hl0 0 rfl) ?_
  refine lv_iload_n hx hb d3 rfl (lv_at hl0 1 rfl) ?_
  have hrecv : ∃ cellB : Cell, s.heap[base + x]? = some cellB ∧ cellB.vm.isStatics = false ∧ s.vm.findClass (nm y).cls = some cellB.cls := by
    obtain ⟨r8, hr8, -, cell, g1, g2, g3, g4⟩ := (hR.at hqx).1 hq9
    cases hcl.symm.trans hr8
    exact ⟨cell, g1, by rw [g3]; rfl, by rw [g2, ← hr]; exact (hK.1 _ _ hr8).2.1⟩
  rw [hmc, hms] at hM
  refine z_sim_back (rest := [.int 0, .ref (base + o)]) (mc := 1) (ms := 6) (va_runV (n := 1) (C := (nm y).cls) (index := iv) (own := hm.cls) (As := [.int p0]) (b := base + x) ⟨hx, hb, hml, hown, hTs⟩ hM
    ⟨callB_of 1 hTs hGY rfl hmc hms (hTs _ wini) (hTs _ wlink) ⟨hne.1, hne.2, hpar⟩ ⟨Nat.le_refl _, by show 8 + (z_nL G y + 11) + 100 * 100 ≤ 10100; omega⟩, hTs _ winst, hTs _ wsel⟩
    ⟨z_blind oN, hrecv, fun U hU hW => ⟨by show _ = ([z_cv ext base (.ref x), .int p0] : List Value).toArray; rw [hR.near hqx], by rw [hU]; exact hR, z_K.moved hW.alike hK, fun w hw => oN w hw s U #[] hW (hN w hw), hX.on hW (fun a _ _ => by rw [hU])⟩⟩
    rfl rfl hl0.1 rfl (Nat.le_of_ble_eq_true rfl) d4 ⟨Nat.le_of_ble_eq_true rfl, Nat.le_of_ble_eq_true rfl⟩) va_S.rf ?_
  intro H1 locs1 hR1 hS1
  have hst : ([.long v, .int 0, .ref o] : List Value).map (z_cv ext base) = [.long v, .int 0, .ref (base + o)] := by
    show [.long v, .int 0, z_cv ext base (.ref o)] = _
    rw [hR1.near ho2]
  refine (fun h => by rw [hst] at h; exact h : W _ _ _ _ _ _ _ _ _ _ H1 locs1 _ _ _ (F0 m 7 ls (([.long v, .int 0, .ref o] : List Value).map (z_cv ext base))) → _) ?_
  refine z_sim_wr (D := D) (cl := cl) (ta := ta) (aty := aty) (ext := ext) (base := base) (Ts := Ts) (own := hm.cls) (P := P2) (P' := P2.set o (104, [.long v])) (fld := fun _ => none) (fty := z_fty G) (fin := z_fin G) (ini := none) (ac := z_ac G) (A := fun q => base ≤ q) (H0 := s.heap) (ins := .lastore) (len := 1) (st := [.long v, .int 0, .ref o]) (st' := []) hx hb hTs hown hK oa oC oF hR1 hS1 (fun _ h => h) oac (fun ci r kk e1 => by cases e1) (fun n ci kk r e1 => by cases e1) d7 rfl (z_lsv (j := 0) ho2 rfl (Nat.le_of_ble_eq_true rfl)) ?_
  intro H2 locs2 hR2 hS2
  refine z_sim_jmp (ext := ext) (base := base) (st := []) (st' := []) (pc' := 14) hx hb d8 (Or.inr rfl) rfl ?_
  refine z_sim_pure (ext := ext) (base := base) (st := []) (st' := [.int 0]) (len := 1) hx hb d14 rfl rfl ?_
  exact W.zret hx hb B.returns rfl (fun t ht hW => ⟨rfl, by rw [ht]; exact hR2.weak (Nat.le_refl _) (fun _ _ => rfl), hS2.F ht⟩) hS2.2.2 d15 B.notSynchronized
theorem z_hok6 {l : Launch} {xs : List Int32} {D : va_G} {ta : Nat → ClassId} {ext : Nat → Nat} {base x o : Nat} {p0 p1 v : Int32} {w0 : Value} {P P2 : z_H} (hrun : z_Runs (z_G xs) 100 184 (0, lv_args 0 [.ref x, .int p0, .int p1], [], P, 0, 0) (some (.int v)) P2) {qx qo : z_C} (hqx : P[x]? = some qx) (hq0 : qx.1 = 0) (hqo : P[o]? = some qo) (ho2 : P2[o]? = some (104, [w0])) :
    Met l ⟨"ChaffInTheWindLaw", "sort", "(LChaffInTheWind;II[J)I"⟩ (Cond.codeWith ⟨"ChaffInTheWindLaw", "sort", "(LChaffInTheWind;II[J)I"⟩ method_3_code 5 (some .int) [(0, 10, 13, 13)] :: z_Ts (k2_sels lw_privs)) { frames := 101, cells := 1, slots := 6, locals := 10100 } (z_PcX (z_cl0 z_CT) z_atys z_Ns (z_strs (z_G xs)) z_rsl D ta ext base [.ref x, .int p0, .int p1, .ref o] P) (z_QcX (z_cl0 z_CT) D ta ext base 0 (P2.set o (104, [.long v.toInt64]))) 1 6 (fun q => base ≤ q) := by
  obtain ⟨f, hrun⟩ := hrun
  have hM := z_met (l := l) (D := D) (ta := ta) (ext := ext) (base := base) (z_prog_ok xs) (z_sim (z_prog_ok xs) f) (d := 100) (y := 184) (as := [.ref x, .int p0, .int p1]) (P := P) (by rw [z_f6_nm]; decide +kernel) (by rw [z_f6_nl]; exact Nat.le_of_ble_eq_true rfl) hrun
  obtain ⟨r, hr, hr1⟩ := z_fw_r hq0
  exact z_hokG2 (z_prog_ok xs) (iv := 7) hM (z_f6_mc xs) (z_f6_ms xs) (by rw [z_f6_nl]; decide) (by rw [z_f6_nm, z_f6_nl, z_f6_rt]; exact z_f6_wcode) (by rw [z_f6_nm]; exact z_fw_ini) (by rw [z_f6_nm]; exact z_f6_wlink) (by rw [z_f6_nm]; exact z_f6_winst) (by rw [z_f6_nm]; exact z_f6_wsel)
    (by rw [z_f6_nm]; exact ⟨by decide, by decide⟩) (by rw [z_f6_nm]; exact z_f6_par) (by decide +kernel) hqx (by rw [hq0]; decide) hr (by rw [z_f6_nm]; exact hr1) hqo ho2 z_f6_h0 z_f6_h1 z_f6_h2 z_f6_h3 z_f6_h4 z_f6_h5 z_f6_h8 z_f6_h9 z_f6_h10 z_f6_h17 z_f6_h18
theorem z_hok26 {l : Launch} {xs : List Int32} {D : va_G} {ta : Nat → ClassId} {ext : Nat → Nat} {base x o : Nat} {p0 p1 v : Int32} {w0 : Value} {P P2 : z_H} (hrun : z_Runs (z_G xs) 100 185 (0, lv_args 0 [.ref x, .int p0, .int p1], [], P, 0, 0) (some (.int v)) P2) {qx qo : z_C} (hqx : P[x]? = some qx) (hq0 : qx.1 = 0) (hqo : P[o]? = some qo) (ho2 : P2[o]? = some (104, [w0])) :
    Met l ⟨"ChaffInTheWindLaw", "price", "(LChaffInTheWind;II[J)I"⟩ (Cond.codeWith ⟨"ChaffInTheWindLaw", "price", "(LChaffInTheWind;II[J)I"⟩ method_4_code 5 (some .int) [(0, 10, 13, 13)] :: z_Ts (k2_sels lw_privs)) { frames := 101, cells := 1, slots := 6, locals := 10100 } (z_PcX (z_cl0 z_CT) z_atys z_Ns (z_strs (z_G xs)) z_rsl D ta ext base [.ref x, .int p0, .int p1, .ref o] P) (z_QcX (z_cl0 z_CT) D ta ext base 0 (P2.set o (104, [.long v.toInt64]))) 1 6 (fun q => base ≤ q) := by
  obtain ⟨f, hrun⟩ := hrun
  have hM := z_met (l := l) (D := D) (ta := ta) (ext := ext) (base := base) (z_prog_ok xs) (z_sim (z_prog_ok xs) f) (d := 100) (y := 185) (as := [.ref x, .int p0, .int p1]) (P := P) (by rw [z_f26_nm]; decide +kernel) (by rw [z_f26_nl]; exact Nat.le_of_ble_eq_true rfl) hrun
  obtain ⟨r, hr, hr1⟩ := z_fw_r hq0
  exact z_hokG2 (z_prog_ok xs) (iv := 15) hM (z_f26_mc xs) (z_f26_ms xs) (by rw [z_f26_nl]; decide) (by rw [z_f26_nm, z_f26_nl, z_f26_rt]; exact z_f26_wcode) (by rw [z_f26_nm]; exact z_fw_ini) (by rw [z_f26_nm]; exact z_f26_wlink) (by rw [z_f26_nm]; exact z_f26_winst) (by rw [z_f26_nm]; exact z_f26_wsel)
    (by rw [z_f26_nm]; exact ⟨by decide, by decide⟩) (by rw [z_f26_nm]; exact z_f26_par) (by decide +kernel) hqx (by rw [hq0]; decide) hr (by rw [z_f26_nm]; exact hr1) hqo ho2 z_f26_h0 z_f26_h1 z_f26_h2 z_f26_h3 z_f26_h4 z_f26_h5 z_f26_h8 z_f26_h9 z_f26_h10 z_f26_h17 z_f26_h18
theorem z_hok48 {l : Launch} {xs : List Int32} {D : va_G} {ta : Nat → ClassId} {ext : Nat → Nat} {base x o : Nat} {p0 : Int32} {v : Int64} {w0 : Value} {P P2 : z_H} (hrun : z_Runs (z_G xs) 100 186 (0, lv_args 0 [.ref x, .int p0], [], P, 0, 0) (some (.long v)) P2) {qx qo : z_C} (hqx : P[x]? = some qx) (hq0 : qx.1 = 0) (hqo : P[o]? = some qo) (ho2 : P2[o]? = some (104, [w0])) :
    Met l ⟨"ChaffInTheWindLaw", "row", "(LChaffInTheWind;I[J)I"⟩ (Cond.codeWith ⟨"ChaffInTheWindLaw", "row", "(LChaffInTheWind;I[J)I"⟩ method_5_code 4 (some .int) [(0, 8, 11, 13)] :: z_Ts (k2_sels lw_privs)) { frames := 101, cells := 1, slots := 6, locals := 10100 } (z_PcX (z_cl0 z_CT) z_atys z_Ns (z_strs (z_G xs)) z_rsl D ta ext base [.ref x, .int p0, .ref o] P) (z_QcX (z_cl0 z_CT) D ta ext base 0 (P2.set o (104, [.long v]))) 1 6 (fun q => base ≤ q) := by
  obtain ⟨f, hrun⟩ := hrun
  have hM := z_met (l := l) (D := D) (ta := ta) (ext := ext) (base := base) (z_prog_ok xs) (z_sim (z_prog_ok xs) f) (d := 100) (y := 186) (as := [.ref x, .int p0]) (P := P) (by rw [z_f48_nm]; decide +kernel) (by rw [z_f48_nl]; exact Nat.le_of_ble_eq_true rfl) hrun
  obtain ⟨r, hr, hr1⟩ := z_fw_r hq0
  exact z_hokG1 (z_prog_ok xs) (iv := 18) hM (z_f48_mc xs) (z_f48_ms xs) (by rw [z_f48_nl]; decide) (by rw [z_f48_nm, z_f48_nl, z_f48_rt]; exact z_f48_wcode) (by rw [z_f48_nm]; exact z_fw_ini) (by rw [z_f48_nm]; exact z_f48_wlink) (by rw [z_f48_nm]; exact z_f48_winst) (by rw [z_f48_nm]; exact z_f48_wsel)
    (by rw [z_f48_nm]; exact ⟨by decide, by decide⟩) (by rw [z_f48_nm]; exact z_f48_par) (by decide +kernel) hqx (by rw [hq0]; decide) hr (by rw [z_f48_nm]; exact hr1) hqo ho2 z_f48_h0 z_f48_h1 z_f48_h2 z_f48_h3 z_f48_h4 z_f48_h7 z_f48_h8 z_f48_h14 z_f48_h15
end ZHOK
