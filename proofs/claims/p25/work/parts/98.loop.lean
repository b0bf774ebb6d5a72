/-! The law's loop on the machine. -/
section ZLOOP
theorem z_bt_law : z_bt z_M 290 = code := rfl
theorem z_ns0 {w : Cond} (hw : w ∈ z_Ns) {s : State} {a : Array Value} (h : w.before a s = true) : w.before #[] s = true := by
  obtain ⟨-, hN⟩ := List.mem_filter.mp hw
  unfold z_isN at hN
  split at hN
  · exact va_Nw.of rfl h
  · exact va_Nw.of rfl h
  · exact va_AO.of h
  · exact h
  · cases hN
abbrev z_LCx (xl : List Int32) (D : va_G) (ta : Nat → ClassId) (ext : Nat → Nat) (p : Program) (s : State) (m : MethodId) (meth : Method) (c : Code) (b : Nat) : Prop :=
  z_Cx (z_G xl) (z_nm z_M) (z_bt z_M) (z_cl0 z_CT) z_atys (z_Ts (k2_sels lw_privs)) z_Ns z_rsl D ta ext s.heap.size p s m #[Value.ref b] meth c 290
variable {p : Program} {l : Launch} {e : Env} {s : State} {m : MethodId} {below : List Frame} {meth : Method} {c : Code} {b : Nat} {xl : List Int32} {D : va_G} {ta : Nat → ClassId} {ext : Nat → Nat}
theorem z_gh_junk {strs : z_Ss} {N : List Int} {al : Nat → Option Nat} {AH : List z_ac_} {P Q : z_H} (h : z_gh strs N al AH P) : z_gh strs N al AH (P ++ Q) := by
  intro a c hac
  obtain ⟨q, A, h1, h2⟩ := h a c hac
  refine ⟨q, A, ?_, h2⟩
  unfold z_lk at h1 ⊢
  split
  · rename_i hlt
    rw [if_pos hlt] at h1
    rw [List.getElem?_append_left (List.getElem?_eq_some_iff.mp h1).1]
    exact h1
  · rename_i hlt
    rw [if_neg hlt] at h1
    exact h1
theorem z_J_junk {strs : z_Ss} {N : List Int} {al : Nat → Option Nat} {AH : List z_ac_} {P Q : z_H} (h : z_gh strs N al AH P) (hj : z_J al P) : z_J al (P ++ Q) := by
  refine ⟨fun a b' ha hb fa fb => ?_, fun a c' hac hc fa p' hp x hx => ?_⟩
  · obtain ⟨q, w, s', g1, g2, g3, g4⟩ := hj.1 a b' ha hb fa fb
    exact ⟨q, w, s', by rw [List.getElem?_append_left (List.getElem?_eq_some_iff.mp g1).1]; exact g1, by rw [List.getElem?_append_left (List.getElem?_eq_some_iff.mp g2).1]; exact g2, g3, g4⟩
  · obtain ⟨q, A, g1, -⟩ := z_gh_near h hac fa
    rw [List.getElem?_append_left (List.getElem?_eq_some_iff.mp g1).1] at hp
    exact hj.2 a c' hac hc fa p' hp x hx
theorem z_H0c_cl : (List.range 126).all (fun c => match z_H0c[c]? with | some A => z_cle [] 1 126 A A | none => false) = true := by decide +kernel
theorem z_isl_ok2 {N : List Int} {al : Nat → Option Nat} {o : Option z_av} {rv : Option Value} (h : z_isl o = true) (k : z_go_ N al o rv) : ∃ v : Int64, rv = some (.long v) := by
  unfold z_isl at h
  exact z_isl_ok h k
theorem z_In_junk {xs : List Int32} {al : Nat → Option Nat} {P Q : z_H} (h : z_In xs al P) : z_In xs al (P ++ Q) := ⟨z_gh_junk h.1, h.2.1, z_J_junk h.1 h.2.2⟩
/-- the law's row for answers -/
theorem z_out {xs : List Int32} {al : Nat → Option Nat} {P : z_H} {ao : Nat} (h : z_In xs al P) (ha : al ao = some 124) : ao < z_far ∧ (∀ b, al b = some 124 → b = ao) ∧ ∃ w0, P[ao]? = some (104, [w0]) := by
  obtain ⟨h1, hu, vs, h2, h3, -⟩ := z_plr h.1 ha (A := z_hg 124) rfl rfl
  have h3 : z_all2 (z_gv [0] al) [.inr (.inl (0, 0, 0, -9223372036854775808, 9223372036854775807))] vs := h3 rfl
  match vs, h3 with
  | [w0], _ => exact ⟨h1, hu rfl, w0, h2⟩
theorem z_out_set {xs : List Int32} {al : Nat → Option Nat} {P : z_H} {ao : Nat} {v : Int64} (h : z_In xs al P) (ha : al ao = some 124) : z_In xs al (P.set ao (104, [.long v])) := by
  obtain ⟨fo, hu, w0, hPo⟩ := z_out h ha
  refine ⟨fun a c' hac => ?_, h.2.1, z_Jok_d (D := [(124, none)]) rfl (fun _ _ k => k) (fun _ _ k => Or.inl k) (z_same_set h.1 ha hPo rfl rfl (fun e he => by cases he)) h.2.2⟩
  obtain ⟨q, A, e1, e2, e3, e4, e5⟩ := h.1 a c' hac
  by_cases hao : a = ao
  · subst hao
    cases ha.symm.trans hac
    have b1 := v.le_toInt
    have b2 := v.toInt_lt
    refine ⟨(104, [.long v]), z_hg 124, z_lkn fo (List.getElem?_set_self (List.getElem?_eq_some_iff.mp hPo).1), rfl, ⟨rfl, ?_⟩, fun _ => hu, fun _ => fo⟩
    exact (⟨⟨v, rfl, by show (-9223372036854775808 : Int) ≤ _; omega, by show _ ≤ (9223372036854775807 : Int); omega, Or.inl rfl⟩, trivial⟩ : z_all2 (z_gv [0] al) [.inr (.inl (0, 0, 0, -9223372036854775808, 9223372036854775807))] [.long v])
  · refine ⟨q, A, ?_, e2, e3, e4, e5⟩
    unfold z_lk at e1 ⊢
    rw [List.getElem?_set_ne (fun k => hao k.symm)]
    exact e1
/-- behind a contract's end -/
theorem z_In_post {xs : List Int32} {al al' : Nat → Option Nat} {P P' : z_H} {X : z_Xe} {gr : Nat} {rv : Option Value} (hok : z_okX gr X = true) (h : z_In xs al P) (hj : z_J al' P') (hp : z_post [0] al P X rv P' al') : z_In xs al' P' ∧ P'.length ≤ P.length + gr := by
  unfold z_okX at hok
  rw [Bool.and_eq_true] at hok
  obtain ⟨hg, hok⟩ := hok
  split at hok
  rotate_left
  · cases hok
  rename_i R hR
  have hgh := z_ptc_gh (N := [0]) (m := 1) (bd := []) (iv := fun _ => none) (strs := z_strs (z_G xs)) (fun k q h => by cases h) hR h.1 (by rw [z_bN0]; exact hp) (fun c A' hx => z_ptc_in hR hx)
  have p1 := hp.1
  refine ⟨⟨z_hl0_gh hok hgh, fun j hj => p1 _ _ (h.2.1 j hj), hj⟩, ?_⟩
  have := Nat.le_of_ble_eq_true hg
  have := hp.2.2.2.2.2.2
  omega
theorem z_tp_junk {c e : Nat} {al : Nat → Option Nat} {P Q : z_H} {v : Value} (h : z_tp c e al P v) : z_tp c e al (P ++ Q) v := by
  obtain ⟨a, q, h1, h2, h3, h4⟩ := h
  exact ⟨a, q, h1, h2, by rw [List.getElem?_append_left (List.getElem?_eq_some_iff.mp h3).1]; exact h3, h4⟩
theorem ye_ct_junk {c : Nat} {al : Nat → Option Nat} {P Q : z_H} {Φ : List Value → Prop} (h : ye_ct c al P Φ) : ye_ct c al (P ++ Q) Φ := by
  obtain ⟨a, q, h1, h2, h3, h4⟩ := h
  exact ⟨a, q, h1, h2, by rw [List.getElem?_append_left (List.getElem?_eq_some_iff.mp h3).1]; exact h3, h4⟩
theorem z_tp_out {c e ao co : Nat} {al : Nat → Option Nat} {P : z_H} {v : Value} {q0 : z_C} (ha : al ao = some co) (hc : c ≠ co) (h : z_tp c e al P v) : z_tp c e al (P.set ao q0) v := by
  obtain ⟨a, q, h1, h2, h3, h4⟩ := h
  have hne : ao ≠ a := fun k => by
    subst k
    cases ha.symm.trans h1
    exact hc rfl
  exact ⟨a, q, h1, h2, by rw [List.getElem?_set_ne hne]; exact h3, h4⟩
theorem ye_ct_out {c ao co : Nat} {al : Nat → Option Nat} {P : z_H} {Φ : List Value → Prop} {q0 : z_C} (ha : al ao = some co) (hc : c ≠ co) (h : ye_ct c al P Φ) : ye_ct c al (P.set ao q0) Φ := by
  obtain ⟨a, q, h1, h2, h3, h4⟩ := h
  have hne : ao ≠ a := fun k => by
    subst k
    cases ha.symm.trans h1
    exact hc rfl
  exact ⟨a, q, h1, h2, by rw [List.getElem?_set_ne hne]; exact h3, h4⟩
theorem ye_PC_junk {u : yb_G} {al : Nat → Option Nat} {P Q : z_H} (h : ye_PC u al P) : ye_PC u al (P ++ Q) := ⟨⟨h.1.1, z_tp_junk h.1.2.1, ye_ct_junk h.1.2.2⟩, ⟨h.2.1, z_tp_junk h.2.2.1, z_tp_junk h.2.2.2.1, ye_ct_junk h.2.2.2.2.1, ye_ct_junk h.2.2.2.2.2.1, ye_ct_junk h.2.2.2.2.2.2.1, ye_ct_junk h.2.2.2.2.2.2.2⟩⟩
theorem ye_PC_out {u : yb_G} {al : Nat → Option Nat} {P : z_H} {ao : Nat} {q0 : z_C} (ha : al ao = some 124) (h : ye_PC u al P) : ye_PC u al (P.set ao q0) := ⟨⟨h.1.1, z_tp_out ha (by decide) h.1.2.1, ye_ct_out ha (by decide) h.1.2.2⟩, ⟨h.2.1, z_tp_out ha (by decide) h.2.2.1, z_tp_out ha (by decide) h.2.2.2.1, ye_ct_out ha (by decide) h.2.2.2.2.1, ye_ct_out ha (by decide) h.2.2.2.2.2.1, ye_ct_out ha (by decide) h.2.2.2.2.2.2.1, ye_ct_out ha (by decide) h.2.2.2.2.2.2.2⟩⟩
theorem ye_PC_same {W : z_Ws} {u : yb_G} {al al' : Nat → Option Nat} {P P' : z_H} (hw : (z_win W 14 1 || (!(z_wget W 15).isNone || (z_win W 18 5 || (z_win W 18 6 || (!(z_wget W 19).isNone || (!(z_wget W 20).isNone || (!(z_wget W 21).isNone || !(z_wget W 22).isNone))))))) = false) (hs : z_same W al P P') (hm : ∀ a c, al a = some c → al' a = some c) (h : ye_PC u al P) : ye_PC u al' P' := by
  simp only [Bool.or_eq_false_iff, Bool.not_eq_false'] at hw
  obtain ⟨w1, w2, w3, w4, w5, w6, w7, w8⟩ := hw
  exact ⟨⟨h.1.1, z_tp_keep w1 hs hm h.1.2.1, ye_ct_keep w2 hs hm h.1.2.2⟩, ⟨h.2.1, z_tp_keep w3 hs hm h.2.2.1, z_tp_keep w4 hs hm h.2.2.2.1, ye_ct_keep w5 hs hm h.2.2.2.2.1, ye_ct_keep w6 hs hm h.2.2.2.2.2.1, ye_ct_keep w7 hs hm h.2.2.2.2.2.2.1, ye_ct_keep w8 hs hm h.2.2.2.2.2.2.2⟩⟩
theorem ye_PM_junk {u : yb_G} {al : Nat → Option Nat} {P Q : z_H} (h : ye_PM u al P) : ye_PM u al (P ++ Q) := ⟨⟨h.1.1, z_tp_junk h.1.2.1, ye_ct_junk h.1.2.2⟩, ⟨h.2.1, z_tp_junk h.2.2.1, z_tp_junk h.2.2.2.1, ye_ct_junk h.2.2.2.2.1, ye_ct_junk h.2.2.2.2.2.1, ye_ct_junk h.2.2.2.2.2.2.1, ye_ct_junk h.2.2.2.2.2.2.2⟩⟩
theorem ye_PM_out {u : yb_G} {al : Nat → Option Nat} {P : z_H} {ao : Nat} {q0 : z_C} (ha : al ao = some 124) (h : ye_PM u al P) : ye_PM u al (P.set ao q0) := ⟨⟨h.1.1, z_tp_out ha (by decide) h.1.2.1, ye_ct_out ha (by decide) h.1.2.2⟩, ⟨h.2.1, z_tp_out ha (by decide) h.2.2.1, z_tp_out ha (by decide) h.2.2.2.1, ye_ct_out ha (by decide) h.2.2.2.2.1, ye_ct_out ha (by decide) h.2.2.2.2.2.1, ye_ct_out ha (by decide) h.2.2.2.2.2.2.1, ye_ct_out ha (by decide) h.2.2.2.2.2.2.2⟩⟩
theorem ye_PM_same {W : z_Ws} {u : yb_G} {al al' : Nat → Option Nat} {P P' : z_H} (hw : (z_win W 90 11 || (!(z_wget W 97).isNone || (z_win W 90 0 || (z_win W 90 5 || (!(z_wget W 91).isNone || (!(z_wget W 92).isNone || (!(z_wget W 93).isNone || !(z_wget W 94).isNone))))))) = false) (hs : z_same W al P P') (hm : ∀ a c, al a = some c → al' a = some c) (h : ye_PM u al P) : ye_PM u al' P' := by
  simp only [Bool.or_eq_false_iff, Bool.not_eq_false'] at hw
  obtain ⟨w1, w2, w3, w4, w5, w6, w7, w8⟩ := hw
  exact ⟨⟨h.1.1, z_tp_keep w1 hs hm h.1.2.1, ye_ct_keep w2 hs hm h.1.2.2⟩, ⟨h.2.1, z_tp_keep w3 hs hm h.2.2.1, z_tp_keep w4 hs hm h.2.2.2.1, ye_ct_keep w5 hs hm h.2.2.2.2.1, ye_ct_keep w6 hs hm h.2.2.2.2.2.1, ye_ct_keep w7 hs hm h.2.2.2.2.2.2.1, ye_ct_keep w8 hs hm h.2.2.2.2.2.2.2⟩⟩
theorem yc_XC_junk {g : yc_Y} {al : Nat → Option Nat} {P Q : z_H} (h : yc_XC g al P) : yc_XC g al (P ++ Q) := by
  obtain ⟨aO, aG, cO, h1, h2, h3, h4, h5, h6, q, h7, h8⟩ := h
  exact ⟨aO, aG, cO, z_tp_junk h1, z_tp_junk h2, h3, h4, h5, h6, q, by rw [List.getElem?_append_left (List.getElem?_eq_some_iff.mp h7).1]; exact h7, h8⟩
theorem yc_XM_junk {g : yc_Y} {al : Nat → Option Nat} {P Q : z_H} (h : yc_XM g al P) : yc_XM g al (P ++ Q) := z_tp_junk h
theorem yc_XC_out {g : yc_Y} {al : Nat → Option Nat} {P : z_H} {ao : Nat} {q0 : z_C} (ha : al ao = some 124) (h : yc_XC g al P) : yc_XC g al (P.set ao q0) := by
  obtain ⟨aO, aG, cO, h1, h2, h3, h4, h5, h6, q, h7, h8⟩ := h
  have hne : ao ≠ aO := fun k => by
    subst k
    cases ha.symm.trans h5
    omega
  exact ⟨aO, aG, cO, z_tp_out ha (by decide) h1, z_tp_out ha (by decide) h2, h3, h4, h5, h6, q, by rw [List.getElem?_set_ne hne]; exact h7, h8⟩
theorem yc_XM_out {g : yc_Y} {al : Nat → Option Nat} {P : z_H} {ao : Nat} {q0 : z_C} (ha : al ao = some 124) (h : yc_XM g al P) : yc_XM g al (P.set ao q0) := z_tp_out ha (by decide) h
theorem z_In2_junk {xs : List Int32} {u v : yc_G} {al : Nat → Option Nat} {P Q : z_H} (h : z_In2 xs u v al P) : z_In2 xs u v al (P ++ Q) := ⟨z_In_junk h.1, ⟨ye_PC_junk h.2.1.1, yc_XC_junk h.2.1.2⟩, ⟨ye_PM_junk h.2.2.1, yc_XM_junk h.2.2.2⟩⟩
theorem z_In2_out {xs : List Int32} {u v : yc_G} {al : Nat → Option Nat} {P : z_H} {ao : Nat} {k : Int64} (h : z_In2 xs u v al P) (ha : al ao = some 124) : z_In2 xs u v al (P.set ao (104, [.long k])) := ⟨z_out_set h.1 ha, ⟨ye_PC_out ha h.2.1.1, yc_XC_out ha h.2.1.2⟩, ⟨ye_PM_out ha h.2.2.1, yc_XM_out ha h.2.2.2⟩⟩
theorem z_In2_post {xs : List Int32} {u v : yc_G} {al al' : Nat → Option Nat} {P P' : z_H} {X : z_Xe} {gr : Nat} {rv : Option Value} (hok : z_okX gr X = true) (hkT : z_okT 0 X = true) (h : z_In2 xs u v al P) (hj : z_J al' P') (hp : z_post [0] al P X rv P' al') : z_In2 xs u v al' P' ∧ P'.length ≤ P.length + gr := by
  obtain ⟨h1, h2⟩ := z_In_post hok h.1 hj hp
  exact ⟨⟨h1, z_okT_ok hp hkT h.2.1 h.2.2⟩, h2⟩
theorem z_lawEnd (hC : z_LCx xl D ta ext p s m meth c b) {cn sn : Nat} {H : Heap} {locs : List Loc} {ls : Array Slot} (hSv : va_S (fun q => s.heap.size ≤ q) s.heap H locs) (h4 : cn ≤ 601024) (h5 : sn ≤ 7293034) : W p l e room_1 s m #[Value.ref b] below meth c H locs cn sn (lw_Z below #[Value.ref b] s) (F0 m 1989 ls [.int 1]) := by
  obtain ⟨hx, hb, hrt, hml, hown, hts, hns, hK, hlk, hnm, hX, hbs⟩ := id hC
  refine va_forget (fun q hq => hSv.2.2 q hq) ?_
  refine W.widen h4 h5 ?_
  have hd := ((z_prog_ok xl).1 290 1989 (.ireturn, 1) (z_eqc_ok (by decide +kernel))).1
  exact lw_ret hx hb hrt hlk hd
set_option maxHeartbeats 4000000 in
/-- the call of ⟨"ChaffInTheWindLaw", "sort", "(LChaffInTheWind;II[J)I"⟩ -/
theorem z_xc6 (hl : l.stackTraces = false) (hC : z_LCx xl D ta ext p s m meth c b) (hT : z_TW s.heap.size s) {t ax am ao cn sn : Nat} {lz : z_L} {P : z_H} {jv : Int32} (hL : z_Lc lz ax am ao jv) (hj : jv.toInt = ((6 * t : Nat) : Int)) (hI : z_Is xl t ax am ao P cn sn) (h6 : 6 * t + 6 ≤ xl.length) (hx3 : xl.length ≤ 3072) {H : Heap} {locs : List Loc} {ls : Array Slot} (g1 : z_R D (z_cl0 z_CT) ta ext s.heap.size P H) (g2 : va_S (fun q => s.heap.size ≤ q) s.heap H locs) (g3 : lv_has ls (z_nL (z_G xl) 290) (z_cl ext s.heap.size lz))
    (kk : ∀ (lz : z_L) (P : z_H) (cn sn : Nat) (jv : Int32) (H : Heap) (locs : List Loc) (ls : Array Slot), z_Lc lz ax am ao jv → jv.toInt = ((6 * (t + 1) : Nat) : Int) → z_Is xl (t + 1) ax am ao P cn sn → z_R D (z_cl0 z_CT) ta ext s.heap.size P H → va_S (fun q => s.heap.size ≤ q) s.heap H locs → lv_has ls (z_nL (z_G xl) 290) (z_cl ext s.heap.size lz) → W p l e room_1 s m #[Value.ref b] below meth c H locs cn sn (lw_Z below #[Value.ref b] s) (F0 m 23 ls [])) :
    W p l e room_1 s m #[Value.ref b] below meth c H locs cn sn (lw_Z below #[Value.ref b] s) (F0 m 404 ls (([.ref ao, .int (xl.getD (6 * t + 2) 0), .int (xl.getD (6 * t + 1) 0), .ref ax] : List Value).map (z_cv ext s.heap.size))) := by
  obtain ⟨⟨al, u, hIn, hax, ham, hao⟩, hPc, hc, hn⟩ := hI
  obtain ⟨fx, qx, hPx⟩ := z_plc13 hIn.1 hax
  obtain ⟨fo, uo, w0, hPo⟩ := z_out hIn.1 hao
  have hSy : z_gs (z_strs (z_G xl)) [0] al z_Ke100 (184, 0, lv_args 0 [.ref ax, .int (xl.getD (6 * t + 1) 0), .int (xl.getD (6 * t + 2) 0)], [], 0, 0) [] P :=
    ⟨⟨rfl, rfl, z_alv_ok (ts := [.inr (.inr (false, [13])), z_tI, z_tI]) (i := 0) ⟨Or.inr ⟨ax, 13, rfl, hax, List.mem_singleton_self _⟩, z_tI_ok _, z_tI_ok _, trivial⟩, trivial, rfl, rfl⟩, trivial, hIn.1.1, rfl, fun q hq => (by cases hq), by show P.length ≤ 900000; omega⟩
  obtain ⟨kv, P3, al3, hM, hIn3, hal3⟩ : ∃ (kv : Int32) (P3 : z_H) (al3 : Nat → Option Nat), Met l ⟨"ChaffInTheWindLaw", "sort", "(LChaffInTheWind;II[J)I"⟩ (Cond.codeWith ⟨"ChaffInTheWindLaw", "sort", "(LChaffInTheWind;II[J)I"⟩ method_3_code 5 (some .int) [(0, 10, 13, 13)] :: z_Ts (k2_sels lw_privs)) { frames := 101, cells := 1, slots := 6, locals := 10100 } (z_PcX (z_cl0 z_CT) z_atys z_Ns (z_strs (z_G xl)) z_rsl D ta ext s.heap.size [.ref ax, .int (xl.getD (6 * t + 1) 0), .int (xl.getD (6 * t + 2) 0), .ref ao] P) (z_QcX (z_cl0 z_CT) D ta ext s.heap.size kv P3) 1 6 (fun q => s.heap.size ≤ q) ∧ z_In2 xl u u al3 P3 ∧ ∀ a c, al a = some c → al3 a = some c := by
    rcases z_Kth100 (d := 100) (Nat.le_of_ble_eq_true rfl) hSy hIn.1.2.1 hIn.1.2.2 with ⟨rv, P2, al2, X, hX, hr, hj2, hp⟩ | ⟨q9, N1, al1, hto, h1, h2, h3, hgh, hN1, hf1, hj1, hal, hlen, hsm⟩
    · have hchk : (z_Kx100.all fun X => z_isi X.1 && (z_okT 0 X && z_okX 1 X)) = true := by decide +kernel
      have hck := List.all_eq_true.mp hchk X hX
      rw [Bool.and_eq_true, Bool.and_eq_true] at hck
      obtain ⟨v, rfl⟩ := z_isi_ok hck.1 hp.2.2.2.1
      obtain ⟨hIn2, -⟩ := z_In2_post hck.2.2 hck.2.1 hIn hj2 hp
      have hao2 := hp.1 _ _ hao
      obtain ⟨fo2, uo2, w2, hPo2⟩ := z_out hIn2.1 hao2
      exact ⟨0, _, al2, z_hok6 (l := l) (D := D) (ta := ta) (ext := ext) (base := s.heap.size) hr hPx rfl hPo hPo2, z_In2_out hIn2 hao2, hp.1⟩
    · obtain ⟨o', ho'⟩ : ∃ o', z_cv ext s.heap.size (.ref ao) = .ref o' := ⟨_, rfl⟩
      refine ⟨1, q9.2.2.2.1, al1, z_hlp6 (l := l) hl (D := D) (ta := ta) (ext := ext) (base := s.heap.size) (o := ao) (o' := o') hto h1 h2 (congrArg Prod.fst h3) (congrArg Prod.snd h3) hPx rfl ho', ⟨⟨?_, hf1, hj1⟩, ⟨⟨ye_PC_same rfl hsm hal hIn.2.1.1, yc_XC_same rfl hsm hal hIn.2.1.2⟩, ⟨ye_PM_same rfl hsm hal hIn.2.2.1, yc_XM_same rfl hsm hal hIn.2.2.2⟩⟩⟩, hal⟩
      intro a c' hac
      obtain ⟨q, A, e1, e2, e3, e4, e5⟩ := hgh a c' hac
      refine ⟨q, A, e1, e2, ?_, e4, e5⟩
      have hc126 : c' < 126 := (List.getElem?_eq_some_iff.mp e2).1
      have hcl := List.all_eq_true.mp z_H0c_cl c' (List.mem_range.mpr hc126)
      rw [e2] at hcl
      have hcl : z_cle [] 1 126 A A = true := hcl
      obtain ⟨m1, -, -⟩ := z_cle_ok hcl e3
      rw [z_alc_le (m := 126) hgh (Nat.le_of_eq z_H0c_len)] at m1
      exact m1
  obtain ⟨hx, hb, hrt, hml, hown, hts, hns, hK, hlk, hnm, hX, hbs⟩ := id hC
  obtain ⟨-, -, -, -, -, -, oL, og, oN, oa, oA, oF, oC, oac, oi⟩ := id (z_prog_ok xl)
  have hcw : Cond.codeWith ⟨"ChaffInTheWindLaw", "sort", "(LChaffInTheWind;II[J)I"⟩ method_3_code 5 (some .int) [(0, 10, 13, 13)] ∈ z_Ts (k2_sels lw_privs) := z_tbl_Ts (z_isw_tbl (i := 1119) (by decide +kernel)) rfl
  have hGood : GoodIn (z_Ts (k2_sels lw_privs)) (Cond.codeWith ⟨"ChaffInTheWindLaw", "sort", "(LChaffInTheWind;II[J)I"⟩ method_3_code 5 (some .int) [(0, 10, 13, 13)] :: z_Ts (k2_sels lw_privs)) := fun w hw => by
    rcases List.mem_cons.mp hw with rfl | hw
    · exact ⟨hcw, good_of_word (og _ hcw)⟩
    · exact ⟨hw, good_of_word (og _ hw)⟩
  have hfc : cn + 1 ≤ room_1.cells := by show cn + 1 ≤ 601024; omega
  have hfs : sn + 6 ≤ room_1.slots := by show sn + 6 ≤ 7293034; omega
  refine z_backX (mc := 1) (ms := 6) (rest := []) (Nat.le_of_ble_eq_true rfl) (vx_runSW (n := 4) (own := "ChaffInTheWindLaw") (index := 53) (As := ([.ref ax, .int (xl.getD (6 * t + 1) 0), .int (xl.getD (6 * t + 2) 0), .ref ao] : List Value).map (z_cv ext s.heap.size)) ⟨hx, hb, hml, hown, hts⟩ hM
    ⟨⟨rfl, rfl, Nat.le_of_ble_eq_true rfl, by decide +kernel, pay_in hts hGood, List.mem_cons_self⟩, hts _ hcw, hts _ (z_tbl_Ts (z_isw_tbl (i := 0) (by decide +kernel)) rfl), ⟨by decide +kernel, by decide +kernel⟩, fun sig h => ?_, hts _ (z_tbl_Ts (z_isw_tbl (i := 1117) (by decide +kernel)) rfl), hts _ (z_tbl_Ts (z_isw_tbl (i := 1118) (by decide +kernel)) rfl)⟩
    ⟨z_blindX oN, fun U hU hW => ⟨⟨rfl, by rw [hU]; exact g1, z_K.moved hW.alike hK, fun w hw => oN w hw s U #[] hW (hns w hw), hX.on hW (fun a h1 h2 => by rw [hU]; exact g2.2.1 a h1 h2)⟩, hT.on hW (fun a h1 h2 => by rw [hU]; exact g2.2.1 a h1 h2), by rw [hU]; exact g2.1⟩⟩
    rfl rfl g3.1 rfl (Nat.le_of_ble_eq_true rfl) (by rw [z_bt_law]; show decode code 404 = Except.ok (Instr.invokestatic 53, 3); decide +kernel) ⟨hfc, hfs⟩) g2 hfc ?_
  · have h2 : (parseMethodDescriptor "(LChaffInTheWind;II[J)I").map (fun d => d.parameters.length) = some 4 := by decide +kernel
    have h : parseMethodDescriptor "(LChaffInTheWind;II[J)I" = some sig := h
    rw [h] at h2
    exact (Option.some.inj h2).symm
  · intro nj H2 locs2 hlen hR2 hSv2
    have hIs : z_Is xl (t + 1) ax am ao (P3 ++ List.replicate nj (99, [])) (cn + 1) (sn + 6) := ⟨⟨al3, u, z_In2_junk hIn3, hal3 _ _ hax, hal3 _ _ ham, hal3 _ _ hao⟩, hlen, by omega, by omega⟩
    obtain ⟨q', ⟨n', hto⟩, lz', P', cn', sn', jv', rfl, k1, k2, k3, k4⟩ := z_yy0 hIs hL hj h6 hx3 kv
    refine z_simto (z_prog_ok xl) n' 800 290 (404 + 3, lz, [.int kv], P3 ++ List.replicate nj (99, []), cn + 1, sn + 6) (23, lz', [], P', cn', sn') hto (by show cn + 1 ≤ 601024; omega) (by show sn + 6 ≤ 7293034; omega) p e s m _ below meth c room_1 H2 locs2 ls _ hC rfl rfl (Nat.le_of_ble_eq_true rfl) (Nat.le_of_ble_eq_true rfl) hR2 hSv2 g3 ?_
    intro H1 locs1 ls1 r1 r2 r3 r4 r5
    exact kk lz' P' cn' sn' jv' H1 locs1 ls1 k1 k2 k3 r1 r2 r3
set_option maxHeartbeats 4000000 in
/-- the call of ⟨"ChaffInTheWindLaw", "price", "(LChaffInTheWind;II[J)I"⟩ -/
theorem z_xc26 (hl : l.stackTraces = false) (hC : z_LCx xl D ta ext p s m meth c b) (hT : z_TW s.heap.size s) {t ax am ao cn sn : Nat} {lz : z_L} {P : z_H} {jv : Int32} (hL : z_Lc lz ax am ao jv) (hj : jv.toInt = ((6 * t : Nat) : Int)) (hI : z_Is xl t ax am ao P cn sn) (h6 : 6 * t + 6 ≤ xl.length) (hx3 : xl.length ≤ 3072) {H : Heap} {locs : List Loc} {ls : Array Slot} (g1 : z_R D (z_cl0 z_CT) ta ext s.heap.size P H) (g2 : va_S (fun q => s.heap.size ≤ q) s.heap H locs) (g3 : lv_has ls (z_nL (z_G xl) 290) (z_cl ext s.heap.size lz))
    (kk : ∀ (lz : z_L) (P : z_H) (cn sn : Nat) (jv : Int32) (H : Heap) (locs : List Loc) (ls : Array Slot), z_Lc lz ax am ao jv → jv.toInt = ((6 * (t + 1) : Nat) : Int) → z_Is xl (t + 1) ax am ao P cn sn → z_R D (z_cl0 z_CT) ta ext s.heap.size P H → va_S (fun q => s.heap.size ≤ q) s.heap H locs → lv_has ls (z_nL (z_G xl) 290) (z_cl ext s.heap.size lz) → W p l e room_1 s m #[Value.ref b] below meth c H locs cn sn (lw_Z below #[Value.ref b] s) (F0 m 23 ls [])) :
    W p l e room_1 s m #[Value.ref b] below meth c H locs cn sn (lw_Z below #[Value.ref b] s) (F0 m 1171 ls (([.ref ao, .int (xl.getD (6 * t + 2) 0), .int (xl.getD (6 * t + 1) 0), .ref ax] : List Value).map (z_cv ext s.heap.size))) := by
  obtain ⟨⟨al, u, hIn, hax, ham, hao⟩, hPc, hc, hn⟩ := hI
  obtain ⟨fx, qx, hPx⟩ := z_plc13 hIn.1 hax
  obtain ⟨fo, uo, w0, hPo⟩ := z_out hIn.1 hao
  have hSy : z_gs (z_strs (z_G xl)) [0] al z_Ke101 (185, 0, lv_args 0 [.ref ax, .int (xl.getD (6 * t + 1) 0), .int (xl.getD (6 * t + 2) 0)], [], 0, 0) [] P :=
    ⟨⟨rfl, rfl, z_alv_ok (ts := [.inr (.inr (false, [13])), z_tI, z_tI]) (i := 0) ⟨Or.inr ⟨ax, 13, rfl, hax, List.mem_singleton_self _⟩, z_tI_ok _, z_tI_ok _, trivial⟩, trivial, rfl, rfl⟩, trivial, hIn.1.1, rfl, fun q hq => (by cases hq), by show P.length ≤ 900000; omega⟩
  obtain ⟨kv, P3, al3, hM, hIn3, hal3⟩ : ∃ (kv : Int32) (P3 : z_H) (al3 : Nat → Option Nat), Met l ⟨"ChaffInTheWindLaw", "price", "(LChaffInTheWind;II[J)I"⟩ (Cond.codeWith ⟨"ChaffInTheWindLaw", "price", "(LChaffInTheWind;II[J)I"⟩ method_4_code 5 (some .int) [(0, 10, 13, 13)] :: z_Ts (k2_sels lw_privs)) { frames := 101, cells := 1, slots := 6, locals := 10100 } (z_PcX (z_cl0 z_CT) z_atys z_Ns (z_strs (z_G xl)) z_rsl D ta ext s.heap.size [.ref ax, .int (xl.getD (6 * t + 1) 0), .int (xl.getD (6 * t + 2) 0), .ref ao] P) (z_QcX (z_cl0 z_CT) D ta ext s.heap.size kv P3) 1 6 (fun q => s.heap.size ≤ q) ∧ z_In2 xl u u al3 P3 ∧ ∀ a c, al a = some c → al3 a = some c := by
    rcases z_Kth101 (d := 100) (Nat.le_of_ble_eq_true rfl) hSy hIn.1.2.1 hIn.1.2.2 with ⟨rv, P2, al2, X, hX, hr, hj2, hp⟩ | ⟨q9, N1, al1, hto, h1, h2, h3, hgh, hN1, hf1, hj1, hal, hlen, hsm⟩
    · have hchk : (z_Kx101.all fun X => z_isi X.1 && (z_okT 0 X && z_okX 1 X)) = true := by decide +kernel
      have hck := List.all_eq_true.mp hchk X hX
      rw [Bool.and_eq_true, Bool.and_eq_true] at hck
      obtain ⟨v, rfl⟩ := z_isi_ok hck.1 hp.2.2.2.1
      obtain ⟨hIn2, -⟩ := z_In2_post hck.2.2 hck.2.1 hIn hj2 hp
      have hao2 := hp.1 _ _ hao
      obtain ⟨fo2, uo2, w2, hPo2⟩ := z_out hIn2.1 hao2
      exact ⟨0, _, al2, z_hok26 (l := l) (D := D) (ta := ta) (ext := ext) (base := s.heap.size) hr hPx rfl hPo hPo2, z_In2_out hIn2 hao2, hp.1⟩
    · obtain ⟨o', ho'⟩ : ∃ o', z_cv ext s.heap.size (.ref ao) = .ref o' := ⟨_, rfl⟩
      refine ⟨1, q9.2.2.2.1, al1, z_hlp26 (l := l) hl (D := D) (ta := ta) (ext := ext) (base := s.heap.size) (o := ao) (o' := o') hto h1 h2 (congrArg Prod.fst h3) (congrArg Prod.snd h3) hPx rfl ho', ⟨⟨?_, hf1, hj1⟩, ⟨⟨ye_PC_same rfl hsm hal hIn.2.1.1, yc_XC_same rfl hsm hal hIn.2.1.2⟩, ⟨ye_PM_same rfl hsm hal hIn.2.2.1, yc_XM_same rfl hsm hal hIn.2.2.2⟩⟩⟩, hal⟩
      intro a c' hac
      obtain ⟨q, A, e1, e2, e3, e4, e5⟩ := hgh a c' hac
      refine ⟨q, A, e1, e2, ?_, e4, e5⟩
      have hc126 : c' < 126 := (List.getElem?_eq_some_iff.mp e2).1
      have hcl := List.all_eq_true.mp z_H0c_cl c' (List.mem_range.mpr hc126)
      rw [e2] at hcl
      have hcl : z_cle [] 1 126 A A = true := hcl
      obtain ⟨m1, -, -⟩ := z_cle_ok hcl e3
      rw [z_alc_le (m := 126) hgh (Nat.le_of_eq z_H0c_len)] at m1
      exact m1
  obtain ⟨hx, hb, hrt, hml, hown, hts, hns, hK, hlk, hnm, hX, hbs⟩ := id hC
  obtain ⟨-, -, -, -, -, -, oL, og, oN, oa, oA, oF, oC, oac, oi⟩ := id (z_prog_ok xl)
  have hcw : Cond.codeWith ⟨"ChaffInTheWindLaw", "price", "(LChaffInTheWind;II[J)I"⟩ method_4_code 5 (some .int) [(0, 10, 13, 13)] ∈ z_Ts (k2_sels lw_privs) := z_tbl_Ts (z_isw_tbl (i := 1188) (by decide +kernel)) rfl
  have hGood : GoodIn (z_Ts (k2_sels lw_privs)) (Cond.codeWith ⟨"ChaffInTheWindLaw", "price", "(LChaffInTheWind;II[J)I"⟩ method_4_code 5 (some .int) [(0, 10, 13, 13)] :: z_Ts (k2_sels lw_privs)) := fun w hw => by
    rcases List.mem_cons.mp hw with rfl | hw
    · exact ⟨hcw, good_of_word (og _ hcw)⟩
    · exact ⟨hw, good_of_word (og _ hw)⟩
  have hfc : cn + 1 ≤ room_1.cells := by show cn + 1 ≤ 601024; omega
  have hfs : sn + 6 ≤ room_1.slots := by show sn + 6 ≤ 7293034; omega
  refine z_backX (mc := 1) (ms := 6) (rest := []) (Nat.le_of_ble_eq_true rfl) (vx_runSW (n := 4) (own := "ChaffInTheWindLaw") (index := 138) (As := ([.ref ax, .int (xl.getD (6 * t + 1) 0), .int (xl.getD (6 * t + 2) 0), .ref ao] : List Value).map (z_cv ext s.heap.size)) ⟨hx, hb, hml, hown, hts⟩ hM
    ⟨⟨rfl, rfl, Nat.le_of_ble_eq_true rfl, by decide +kernel, pay_in hts hGood, List.mem_cons_self⟩, hts _ hcw, hts _ (z_tbl_Ts (z_isw_tbl (i := 0) (by decide +kernel)) rfl), ⟨by decide +kernel, by decide +kernel⟩, fun sig h => ?_, hts _ (z_tbl_Ts (z_isw_tbl (i := 1186) (by decide +kernel)) rfl), hts _ (z_tbl_Ts (z_isw_tbl (i := 1187) (by decide +kernel)) rfl)⟩
    ⟨z_blindX oN, fun U hU hW => ⟨⟨rfl, by rw [hU]; exact g1, z_K.moved hW.alike hK, fun w hw => oN w hw s U #[] hW (hns w hw), hX.on hW (fun a h1 h2 => by rw [hU]; exact g2.2.1 a h1 h2)⟩, hT.on hW (fun a h1 h2 => by rw [hU]; exact g2.2.1 a h1 h2), by rw [hU]; exact g2.1⟩⟩
    rfl rfl g3.1 rfl (Nat.le_of_ble_eq_true rfl) (by rw [z_bt_law]; show decode code 1171 = Except.ok (Instr.invokestatic 138, 3); decide +kernel) ⟨hfc, hfs⟩) g2 hfc ?_
  · have h2 : (parseMethodDescriptor "(LChaffInTheWind;II[J)I").map (fun d => d.parameters.length) = some 4 := by decide +kernel
    have h : parseMethodDescriptor "(LChaffInTheWind;II[J)I" = some sig := h
    rw [h] at h2
    exact (Option.some.inj h2).symm
  · intro nj H2 locs2 hlen hR2 hSv2
    have hIs : z_Is xl (t + 1) ax am ao (P3 ++ List.replicate nj (99, [])) (cn + 1) (sn + 6) := ⟨⟨al3, u, z_In2_junk hIn3, hal3 _ _ hax, hal3 _ _ ham, hal3 _ _ hao⟩, hlen, by omega, by omega⟩
    obtain ⟨q', ⟨n', hto⟩, lz', P', cn', sn', jv', rfl, k1, k2, k3, k4⟩ := z_yy1 hIs hL hj h6 hx3 kv
    refine z_simto (z_prog_ok xl) n' 800 290 (1171 + 3, lz, [.int kv], P3 ++ List.replicate nj (99, []), cn + 1, sn + 6) (23, lz', [], P', cn', sn') hto (by show cn + 1 ≤ 601024; omega) (by show sn + 6 ≤ 7293034; omega) p e s m _ below meth c room_1 H2 locs2 ls _ hC rfl rfl (Nat.le_of_ble_eq_true rfl) (Nat.le_of_ble_eq_true rfl) hR2 hSv2 g3 ?_
    intro H1 locs1 ls1 r1 r2 r3 r4 r5
    exact kk lz' P' cn' sn' jv' H1 locs1 ls1 k1 k2 k3 r1 r2 r3
set_option maxHeartbeats 4000000 in
/-- the call of ⟨"ChaffInTheWindLaw", "row", "(LChaffInTheWind;I[J)I"⟩ -/
theorem z_xc48 (hl : l.stackTraces = false) (hC : z_LCx xl D ta ext p s m meth c b) (hT : z_TW s.heap.size s) {t ax am ao cn sn : Nat} {lz : z_L} {P : z_H} {jv : Int32} (hL : z_Lc lz ax am ao jv) (hj : jv.toInt = ((6 * t : Nat) : Int)) (hI : z_Is xl t ax am ao P cn sn) (h6 : 6 * t + 6 ≤ xl.length) (hx3 : xl.length ≤ 3072) {H : Heap} {locs : List Loc} {ls : Array Slot} (g1 : z_R D (z_cl0 z_CT) ta ext s.heap.size P H) (g2 : va_S (fun q => s.heap.size ≤ q) s.heap H locs) (g3 : lv_has ls (z_nL (z_G xl) 290) (z_cl ext s.heap.size lz))
    (kk : ∀ (lz : z_L) (P : z_H) (cn sn : Nat) (jv : Int32) (H : Heap) (locs : List Loc) (ls : Array Slot), z_Lc lz ax am ao jv → jv.toInt = ((6 * (t + 1) : Nat) : Int) → z_Is xl (t + 1) ax am ao P cn sn → z_R D (z_cl0 z_CT) ta ext s.heap.size P H → va_S (fun q => s.heap.size ≤ q) s.heap H locs → lv_has ls (z_nL (z_G xl) 290) (z_cl ext s.heap.size lz) → W p l e room_1 s m #[Value.ref b] below meth c H locs cn sn (lw_Z below #[Value.ref b] s) (F0 m 23 ls [])) :
    W p l e room_1 s m #[Value.ref b] below meth c H locs cn sn (lw_Z below #[Value.ref b] s) (F0 m 1962 ls (([.ref ao, .int (xl.getD (6 * t + 1) 0), .ref ax] : List Value).map (z_cv ext s.heap.size))) := by
  obtain ⟨⟨al, u, hIn, hax, ham, hao⟩, hPc, hc, hn⟩ := hI
  obtain ⟨fx, qx, hPx⟩ := z_plc13 hIn.1 hax
  obtain ⟨fo, uo, w0, hPo⟩ := z_out hIn.1 hao
  have hSy : z_gs (z_strs (z_G xl)) [0] al z_Ke102 (186, 0, lv_args 0 [.ref ax, .int (xl.getD (6 * t + 1) 0)], [], 0, 0) [] P :=
    ⟨⟨rfl, rfl, z_alv_ok (ts := [.inr (.inr (false, [13])), z_tI]) (i := 0) ⟨Or.inr ⟨ax, 13, rfl, hax, List.mem_singleton_self _⟩, z_tI_ok _, trivial⟩, trivial, rfl, rfl⟩, trivial, hIn.1.1, rfl, fun q hq => (by cases hq), by show P.length ≤ 900000; omega⟩
  obtain ⟨kv, P3, al3, hM, hIn3, hal3⟩ : ∃ (kv : Int32) (P3 : z_H) (al3 : Nat → Option Nat), Met l ⟨"ChaffInTheWindLaw", "row", "(LChaffInTheWind;I[J)I"⟩ (Cond.codeWith ⟨"ChaffInTheWindLaw", "row", "(LChaffInTheWind;I[J)I"⟩ method_5_code 4 (some .int) [(0, 8, 11, 13)] :: z_Ts (k2_sels lw_privs)) { frames := 101, cells := 1, slots := 6, locals := 10100 } (z_PcX (z_cl0 z_CT) z_atys z_Ns (z_strs (z_G xl)) z_rsl D ta ext s.heap.size [.ref ax, .int (xl.getD (6 * t + 1) 0), .ref ao] P) (z_QcX (z_cl0 z_CT) D ta ext s.heap.size kv P3) 1 6 (fun q => s.heap.size ≤ q) ∧ z_In2 xl u u al3 P3 ∧ ∀ a c, al a = some c → al3 a = some c := by
    rcases z_Kth102 (d := 100) (Nat.le_of_ble_eq_true rfl) hSy hIn.1.2.1 hIn.1.2.2 with ⟨rv, P2, al2, X, hX, hr, hj2, hp⟩ | ⟨q9, N1, al1, hto, h1, h2, h3, hgh, hN1, hf1, hj1, hal, hlen, hsm⟩
    · have hchk : (z_Kx102.all fun X => z_isl X.1 && (z_okT 0 X && z_okX 1 X)) = true := by decide +kernel
      have hck := List.all_eq_true.mp hchk X hX
      rw [Bool.and_eq_true, Bool.and_eq_true] at hck
      obtain ⟨v, rfl⟩ := z_isl_ok2 hck.1 hp.2.2.2.1
      obtain ⟨hIn2, -⟩ := z_In2_post hck.2.2 hck.2.1 hIn hj2 hp
      have hao2 := hp.1 _ _ hao
      obtain ⟨fo2, uo2, w2, hPo2⟩ := z_out hIn2.1 hao2
      exact ⟨0, _, al2, z_hok48 (l := l) (D := D) (ta := ta) (ext := ext) (base := s.heap.size) hr hPx rfl hPo hPo2, z_In2_out hIn2 hao2, hp.1⟩
    · obtain ⟨o', ho'⟩ : ∃ o', z_cv ext s.heap.size (.ref ao) = .ref o' := ⟨_, rfl⟩
      refine ⟨1, q9.2.2.2.1, al1, z_hlp48 (l := l) hl (D := D) (ta := ta) (ext := ext) (base := s.heap.size) (o := ao) (o' := o') hto h1 h2 (congrArg Prod.fst h3) (congrArg Prod.snd h3) hPx rfl ho', ⟨⟨?_, hf1, hj1⟩, ⟨⟨ye_PC_same rfl hsm hal hIn.2.1.1, yc_XC_same rfl hsm hal hIn.2.1.2⟩, ⟨ye_PM_same rfl hsm hal hIn.2.2.1, yc_XM_same rfl hsm hal hIn.2.2.2⟩⟩⟩, hal⟩
      intro a c' hac
      obtain ⟨q, A, e1, e2, e3, e4, e5⟩ := hgh a c' hac
      refine ⟨q, A, e1, e2, ?_, e4, e5⟩
      have hc126 : c' < 126 := (List.getElem?_eq_some_iff.mp e2).1
      have hcl := List.all_eq_true.mp z_H0c_cl c' (List.mem_range.mpr hc126)
      rw [e2] at hcl
      have hcl : z_cle [] 1 126 A A = true := hcl
      obtain ⟨m1, -, -⟩ := z_cle_ok hcl e3
      rw [z_alc_le (m := 126) hgh (Nat.le_of_eq z_H0c_len)] at m1
      exact m1
  obtain ⟨hx, hb, hrt, hml, hown, hts, hns, hK, hlk, hnm, hX, hbs⟩ := id hC
  obtain ⟨-, -, -, -, -, -, oL, og, oN, oa, oA, oF, oC, oac, oi⟩ := id (z_prog_ok xl)
  have hcw : Cond.codeWith ⟨"ChaffInTheWindLaw", "row", "(LChaffInTheWind;I[J)I"⟩ method_5_code 4 (some .int) [(0, 8, 11, 13)] ∈ z_Ts (k2_sels lw_privs) := z_tbl_Ts (z_isw_tbl (i := 1198) (by decide +kernel)) rfl
  have hGood : GoodIn (z_Ts (k2_sels lw_privs)) (Cond.codeWith ⟨"ChaffInTheWindLaw", "row", "(LChaffInTheWind;I[J)I"⟩ method_5_code 4 (some .int) [(0, 8, 11, 13)] :: z_Ts (k2_sels lw_privs)) := fun w hw => by
    rcases List.mem_cons.mp hw with rfl | hw
    · exact ⟨hcw, good_of_word (og _ hcw)⟩
    · exact ⟨hw, good_of_word (og _ hw)⟩
  have hfc : cn + 1 ≤ room_1.cells := by show cn + 1 ≤ 601024; omega
  have hfs : sn + 6 ≤ room_1.slots := by show sn + 6 ≤ 7293034; omega
  refine z_backX (mc := 1) (ms := 6) (rest := []) (Nat.le_of_ble_eq_true rfl) (vx_runSW (n := 3) (own := "ChaffInTheWindLaw") (index := 226) (As := ([.ref ax, .int (xl.getD (6 * t + 1) 0), .ref ao] : List Value).map (z_cv ext s.heap.size)) ⟨hx, hb, hml, hown, hts⟩ hM
    ⟨⟨rfl, rfl, Nat.le_of_ble_eq_true rfl, by decide +kernel, pay_in hts hGood, List.mem_cons_self⟩, hts _ hcw, hts _ (z_tbl_Ts (z_isw_tbl (i := 0) (by decide +kernel)) rfl), ⟨by decide +kernel, by decide +kernel⟩, fun sig h => ?_, hts _ (z_tbl_Ts (z_isw_tbl (i := 1196) (by decide +kernel)) rfl), hts _ (z_tbl_Ts (z_isw_tbl (i := 1197) (by decide +kernel)) rfl)⟩
    ⟨z_blindX oN, fun U hU hW => ⟨⟨rfl, by rw [hU]; exact g1, z_K.moved hW.alike hK, fun w hw => oN w hw s U #[] hW (hns w hw), hX.on hW (fun a h1 h2 => by rw [hU]; exact g2.2.1 a h1 h2)⟩, hT.on hW (fun a h1 h2 => by rw [hU]; exact g2.2.1 a h1 h2), by rw [hU]; exact g2.1⟩⟩
    rfl rfl g3.1 rfl (Nat.le_of_ble_eq_true rfl) (by rw [z_bt_law]; show decode code 1962 = Except.ok (Instr.invokestatic 226, 3); decide +kernel) ⟨hfc, hfs⟩) g2 hfc ?_
  · have h2 : (parseMethodDescriptor "(LChaffInTheWind;I[J)I").map (fun d => d.parameters.length) = some 3 := by decide +kernel
    have h : parseMethodDescriptor "(LChaffInTheWind;I[J)I" = some sig := h
    rw [h] at h2
    exact (Option.some.inj h2).symm
  · intro nj H2 locs2 hlen hR2 hSv2
    have hIs : z_Is xl (t + 1) ax am ao (P3 ++ List.replicate nj (99, [])) (cn + 1) (sn + 6) := ⟨⟨al3, u, z_In2_junk hIn3, hal3 _ _ hax, hal3 _ _ ham, hal3 _ _ hao⟩, hlen, by omega, by omega⟩
    obtain ⟨q', ⟨n', hto⟩, lz', P', cn', sn', jv', rfl, k1, k2, k3, k4⟩ := z_yy2 hIs hL hj h6 hx3 kv
    refine z_simto (z_prog_ok xl) n' 800 290 (1962 + 3, lz, [.int kv], P3 ++ List.replicate nj (99, []), cn + 1, sn + 6) (23, lz', [], P', cn', sn') hto (by show cn + 1 ≤ 601024; omega) (by show sn + 6 ≤ 7293034; omega) p e s m _ below meth c room_1 H2 locs2 ls _ hC rfl rfl (Nat.le_of_ble_eq_true rfl) (Nat.le_of_ble_eq_true rfl) hR2 hSv2 g3 ?_
    intro H1 locs1 ls1 r1 r2 r3 r4 r5
    exact kk lz' P' cn' sn' jv' H1 locs1 ls1 k1 k2 k3 r1 r2 r3
set_option maxHeartbeats 4000000 in
theorem z_loop (hl : l.stackTraces = false) (hC : z_LCx xl D ta ext p s m meth c b) (hT : z_TW s.heap.size s) (hx3 : xl.length ≤ 3072) {ax am ao : Nat} : ∀ (r t : Nat), r + t = 513 → ∀ (lz : z_L) (P : z_H) (cn sn : Nat) (jv : Int32) (H : Heap) (locs : List Loc) (ls : Array Slot), 6 * t ≤ 3072 → z_Lc lz ax am ao jv → jv.toInt = ((6 * t : Nat) : Int) → z_Is xl t ax am ao P cn sn → z_R D (z_cl0 z_CT) ta ext s.heap.size P H → va_S (fun q => s.heap.size ≤ q) s.heap H locs → lv_has ls (z_nL (z_G xl) 290) (z_cl ext s.heap.size lz) → W p l e room_1 s m #[Value.ref b] below meth c H locs cn sn (lw_Z below #[Value.ref b] s) (F0 m 23 ls []) := by
  intro r
  induction r with
  | zero => intro t hr lz P cn sn jv H locs ls h6; omega
  | succ r ih =>
    intro t hr lz P cn sn jv H locs ls h6 hL hj hI g1 g2 g3
    have hIc := hI.2.2.1
    have hIn := hI.2.2.2
    obtain ⟨q', ⟨n', hto⟩, hq⟩ := z_round hI hL hj h6 hx3
    refine z_simto (z_prog_ok xl) n' 800 290 (23, lz, [], P, cn, sn) q' hto (by show cn ≤ 601024; omega) (by show sn ≤ 7293034; omega) p e s m _ below meth c room_1 H locs ls _ hC rfl rfl (Nat.le_of_ble_eq_true rfl) (Nat.le_of_ble_eq_true rfl) g1 g2 g3 ?_
    intro H1 locs1 ls1 r1 r2 r3 r4 r5
    rcases hq with ⟨lz', P', cn', sn', rfl, k1, k2⟩ | ⟨lz', P', cn', sn', jv', rfl, k1, k2, k3, k4⟩ | ⟨lz', P', cn', sn', jv', k1, k2, k3, k4, k5⟩
    · exact z_lawEnd hC r2 k1 k2
    · exact ih (t + 1) (by omega) lz' P' cn' sn' jv' H1 locs1 ls1 (by omega) k1 k2 k3 r1 r2 r3
    · have kk : ∀ (lz : z_L) (P : z_H) (cn sn : Nat) (jv : Int32) (H : Heap) (locs : List Loc) (ls : Array Slot), z_Lc lz ax am ao jv → jv.toInt = ((6 * (t + 1) : Nat) : Int) → z_Is xl (t + 1) ax am ao P cn sn → z_R D (z_cl0 z_CT) ta ext s.heap.size P H → va_S (fun q => s.heap.size ≤ q) s.heap H locs → lv_has ls (z_nL (z_G xl) 290) (z_cl ext s.heap.size lz) → W p l e room_1 s m #[Value.ref b] below meth c H locs cn sn (lw_Z below #[Value.ref b] s) (F0 m 23 ls []) :=
        fun lz P cn sn jv H locs ls m1 m2 m3 m4 m5 m6 => ih (t + 1) (by omega) lz P cn sn jv H locs ls (by omega) m1 m2 m3 m4 m5 m6
      rcases k5 with rfl | rfl | rfl
      · exact z_xc6 hl hC hT k1 k2 k3 k4 hx3 r1 r2 r3 kk
      · exact z_xc26 hl hC hT k1 k2 k3 k4 hx3 r1 r2 r3 kk
      · exact z_xc48 hl hC hT k1 k2 k3 k4 hx3 r1 r2 r3 kk
theorem z_badin : ∀ w ∈ z_bad, w ∈ lw_tbl := by decide +kernel
set_option maxHeartbeats 4000000 in
theorem whole_start {p : Program} {e : Env} {s : State} {m : MethodId} {below : List Frame} {meth : Method} {c : Code} (l : Launch) (hflags : l.flags = flags0) {b L : Nat} {xs : Nat → Int32} (hL : L ≤ 3072) (C0 : lw_At p s m meth c b L xs) : W p l e room_1 s m #[Value.ref b] below meth c s.heap [] 0 0 (lw_Z below #[Value.ref b] s) (entryFrame m ([Value.ref b] : List Value).toArray 8) := by
  obtain ⟨hx, hb, hr, hml, hown, hts, hX, hbl, hlocks, hgv⟩ := id C0
  have hst : l.stackTraces = false := by
    unfold Launch.stackTraces
    rw [hflags]
    decide +kernel
  obtain ⟨-, -, -, -, -, -, oL, og, oN, oa, oA, oF, oC, oac, oi⟩ := id (z_prog_ok [])
  obtain ⟨D, ta, hK⟩ := z_startK hts oC
  obtain ⟨ext, x12, hX'⟩ := z_startX hts hgv hX hbl
  have hlen : ((List.range L).map xs).length = L := by simp
  generalize (List.range L).map xs = xl at hX' hlen
  have hA : ∀ a : Nat, a < s.heap.size → ¬ s.heap.size ≤ a := fun a ha => Nat.not_le.mpr ha
  have hT : z_TW s.heap.size s := ⟨vx_Zqof (args := #[Value.ref b]) (hts _ (by decide +kernel)) (hts _ (by decide +kernel)) (z_ci_use (w := Cond.isRef (.static Bundle.tN "UNASSIGNED_STACK" Bundle.steD)) (by decide +kernel) hgv) hA, vx_Zqof (args := #[Value.ref b]) (hts _ (by decide +kernel)) (hts _ (by decide +kernel)) (z_ci_use (w := Cond.isRef (.static Bundle.tN "SUPPRESSED_SENTINEL" Bundle.listD)) (by decide +kernel) hgv) hA, fun w hw => va_Nw.of (z_bad_tab hw) (hts w (z_badin w hw))⟩
  have hC : z_LCx xl D ta ext p s m meth c b := ⟨hx, hb, hr, hml, hown, fun w hw => hts w (z_tsub w hw), fun w hw => z_ns0 hw (hts w (z_nsub w hw)), hK, hlocks, fun h => absurd rfl h, hX', Nat.le_refl _⟩
  have hR0 : z_R D (z_cl0 z_CT) ta ext s.heap.size [] s.heap := ⟨rfl, Nat.zero_le _, fun k q h => by simp at h⟩
  have hl := lv_entry ([.ref b]) (n := 8) (Nat.le_of_ble_eq_true rfl)
  rw [lg_entry_eq]
  generalize (lg_sl ([.ref b]) ++ List.replicate (8 - (lg_sl ([.ref b])).length) Slot.unset).toArray = ls at hl ⊢
  have hl : lv_has ls 8 [(0, .ref b)] := hl
  have hcl : z_cl ext s.heap.size [(0, .ref (z_far + 12))] = [(0, .ref b)] := by
    show [(0, z_cv ext s.heap.size (.ref (z_far + 12)))] = _
    rw [z_cv_far, x12]
  have hl8 : lv_has ls (z_nL (z_G xl) 290) (z_cl ext s.heap.size [(0, .ref (z_far + 12))]) := by
    rw [hcl]
    exact hl
  obtain ⟨q', ⟨n, hto⟩, lz, ax, am, ao, P, rfl, hL0, hI0⟩ := z_first (xl := xl)
  refine z_simto (z_prog_ok xl) n 800 290 (0, [(0, .ref (z_far + 12))], [], [], 0, 0) _ hto (Nat.zero_le _) (Nat.zero_le _) p e s m _ below meth c room_1 s.heap [] ls _ hC rfl rfl (Nat.le_of_ble_eq_true rfl) (Nat.le_of_ble_eq_true rfl) hR0 va_S.rf hl8 ?_
  intro H1 locs1 ls1 g1 g2 g3 g4 g5
  exact z_loop hst hC hT (by rw [hlen]; exact hL) 513 0 rfl lz P 282 6856 0 H1 locs1 ls1 (Nat.zero_le _) hL0 rfl hI0 g1 g2 g3
end ZLOOP
