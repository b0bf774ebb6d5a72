/-! An operation of the law, in the picture. -/
section ZOPG
theorem z_cod_S {G : z_Pg} {s : z_Ss} : z_cod (z_setS G s) = z_cod G := rfl
theorem z_call_xs (xs : List Int32) (x : Nat) (ins : Instr) : z_call (z_G xs) x ins = z_call (z_G []) x ins := by rw [← z_G_setS xs, z_call_S]
theorem z_inf_S {G : z_Pg} {s : z_Ss} : z_inf (z_setS G s) = z_inf G := rfl
theorem z_inf_xs (xs : List Int32) : z_inf (z_G xs) = z_inf (z_G []) := by rw [← z_G_setS xs, z_inf_S]
theorem z_rcv_S {G : z_Pg} {s : z_Ss} : z_rcv (z_setS G s) = z_rcv G := rfl
theorem z_rcv_xs (xs : List Int32) : z_rcv (z_G xs) = z_rcv (z_G []) := by rw [← z_G_setS xs, z_rcv_S]
theorem z_strs_xs (xs : List Int32) : z_strs (z_G xs) = (z_strl, xs) := rfl
theorem z_na_xs (xs : List Int32) (y : Nat) : z_na (z_G xs) y = z_na (z_G []) y := by unfold z_na; rw [z_inf_xs]
theorem z_nL_xs (xs : List Int32) (y : Nat) : z_nL (z_G xs) y = z_nL (z_G []) y := by unfold z_nL; rw [z_inf_xs]
theorem z_mc_xs (xs : List Int32) (y : Nat) : z_mc (z_G xs) y = z_mc (z_G []) y := by unfold z_mc; rw [z_inf_xs]
theorem z_ms_xs (xs : List Int32) (y : Nat) : z_ms (z_G xs) y = z_ms (z_G []) y := by unfold z_ms; rw [z_inf_xs]
def z_eqc (pc : Nat) (i : Instr × Nat) : Bool := decide (z_cod (z_G []) 290 pc = some i)
theorem z_eqc_ok {xs : List Int32} {pc : Nat} {i : Instr × Nat} (h : z_eqc pc i = true) : z_cod (z_G xs) 290 pc = some i := by
  rw [← z_G_setS xs, z_cod_S]
  exact of_decide_eq_true h
/-- the far script -/
theorem z_lkfj {strs : z_Ss} {P : z_H} {j : Nat} : z_lk strs P (z_far + j) = z_fc strs j := by
  unfold z_lk
  rw [if_neg (Nat.not_lt.mpr (Nat.le_add_right _ _)), Nat.add_sub_cancel_left]
theorem z_fc12 {xl : List Int32} : z_fc (z_strl, xl) 12 = some (103, xl.map Value.int) := rfl
/-- an argument out of the script -/
def z_ckb (pc k : Nat) : Bool := z_eqc pc (.aload_n 0, 1) && (z_eqc (pc + 1) (.iload 4, 2) && (z_eqc (pc + 3) (.iconst k, 1) && (z_eqc (pc + 4) (.iadd, 1) && z_eqc (pc + 5) (.iaload, 1))))
variable {xs : List Int32} {d : Nat} {Ψ : z_S → Prop} {c n i : Nat} {l : z_L} {P : z_H} {iv : Int32}
theorem z_r_blk {pc k : Nat} {st : List Value} (h : z_ckb pc k = true) (hk5 : k ≤ 5) (h0 : z_get l 0 = some (.ref (z_far + 12))) (h4 : z_get l 4 = some (.int iv)) (hi : iv.toInt = (i : Int)) (hk : i + k < xs.length) (hx : xs.length ≤ 3072) (kk : z_Rh (z_G xs) d 290 Ψ (pc + 6, l, .int (xs.getD (i + k) 0) :: st, P, c, n)) : z_Rh (z_G xs) d 290 Ψ (pc, l, st, P, c, n) := by
  unfold z_ckb at h
  simp only [Bool.and_eq_true] at h
  obtain ⟨b1, b2, b3, b4, b5⟩ := h
  refine z_r_ld (ins := .aload_n 0) (len := 1) (t := pc + 1) (i := 0) (z_eqc_ok b1) rfl rfl rfl rfl (fun _ => rfl) h0 rfl ?_
  refine z_r_ld (ins := .iload 4) (len := 2) (t := pc + 3) (i := 4) (z_eqc_ok b2) rfl rfl rfl rfl (fun _ => rfl) h4 rfl ?_
  refine z_r_pu (ins := .iconst k) (len := 1) (t := pc + 4) (z_eqc_ok b3) rfl rfl rfl rfl ?_
  refine z_r_pu (ins := .iadd) (len := 1) (t := pc + 5) (z_eqc_ok b4) rfl rfl rfl rfl ?_
  have hkk : (Int32.ofInt (k : Int)).toInt = (k : Int) := by
    have : k = 0 ∨ k = 1 ∨ k = 2 ∨ k = 3 ∨ k = 4 ∨ k = 5 := by omega
    rcases this with rfl | rfl | rfl | rfl | rfl | rfl <;> rfl
  have hsum : (iv + Int32.ofInt (k : Int)).toInt = ((i + k : Nat) : Int) := by
    rw [z_ad32 (by rw [hkk]; omega) (by rw [hkk]; omega), hkk]
    omega
  refine z_r_rd (ins := .iaload) (len := 1) (t := pc + 6) (z_eqc_ok b5) rfl rfl rfl rfl (z_iav (H := z_lk (z_strs (z_G xs)) P) (vs := xs.map Value.int) (v := xs.getD (i + k) 0) (show z_lk (z_strs (z_G xs)) P (z_far + 12) = some (103, xs.map Value.int) from z_lkfj.trans z_fc12) hsum ?_) kk
  rw [List.getElem?_map, List.getElem?_eq_getElem hk]
  simp [hk]
def z_cka : Nat → List Nat → Bool
  | _, [] => true
  | pc, k :: ks => z_ckb pc k && (Nat.ble k 5 && z_cka (pc + 6) ks)
/-- the arguments -/
def z_vals (xs : List Int32) (i : Nat) (ks : List Nat) : List Value := ks.map fun k => .int (xs.getD (i + k) 0)
theorem z_r_args : ∀ {ks : List Nat} {pc : Nat} {st : List Value}, z_cka pc ks = true → z_get l 0 = some (.ref (z_far + 12)) → z_get l 4 = some (.int iv) → iv.toInt = (i : Int) → i + 6 ≤ xs.length → xs.length ≤ 3072 → z_Rh (z_G xs) d 290 Ψ (pc + 6 * ks.length, l, (z_vals xs i ks).reverse ++ st, P, c, n) → z_Rh (z_G xs) d 290 Ψ (pc, l, st, P, c, n)
  | [], pc, st, _, _, _, _, _, _, kk => kk
  | k :: ks, pc, st, h, h0, h4, hi, hl, hx, kk => by
    unfold z_cka at h
    rw [Bool.and_eq_true, Bool.and_eq_true] at h
    have hk5 := Nat.le_of_ble_eq_true h.2.1
    refine z_r_blk h.1 hk5 h0 h4 hi (by omega) hx (z_r_args h.2.2 h0 h4 hi hl hx ?_)
    have e : pc + 6 + 6 * ks.length = pc + 6 * (k :: ks).length := by rw [List.length_cons]; omega
    rw [e]
    show z_Rh (z_G xs) d 290 Ψ (pc + 6 * (k :: ks).length, l, (z_vals xs i ks).reverse ++ (.int (xs.getD (i + k) 0) :: st), P, c, n)
    have e2 : (z_vals xs i (k :: ks)).reverse ++ st = (z_vals xs i ks).reverse ++ (Value.int (xs.getD (i + k) 0) :: st) := by
      show ((Value.int (xs.getD (i + k) 0)) :: z_vals xs i ks).reverse ++ st = _
      rw [List.reverse_cons, List.append_assoc]
      rfl
    rw [← e2]
    exact kk
/-- a call that may make cells -/
theorem z_r_cl {G : z_Pg} {x pc y kd t : Nat} {ins : Instr} {st as r : List Value} {rv : Option Value} {P1 : z_H} (hc : z_cod G x pc = some (ins, 3)) (hy : z_call G x ins = some (y, kd)) (hk : kd < 3) (ha : z_args G d y kd x st P c n = some (as, r)) (ht : pc + 3 = t) (hr : z_Runs G (d - 1) y (0, lv_args 0 as, [], P, 0, 0) rv P1) (k : z_Rh G d x Ψ (t, l, rv.toList ++ r, P1, c + z_mc G y, n + z_ms G y)) : z_Rh G d x Ψ (pc, l, st, P, c, n) := by
  subst ht
  obtain ⟨q', k1, k2⟩ := k
  refine ⟨q', z_To_call (y := y) (as := as) (rst := r) (rv := rv) (P1 := P1) ?_ hr k1, k2⟩
  unfold z_next
  show (match z_cod G x pc with | none => none | some i => _) = _
  rw [hc]
  dsimp only
  rw [hy]
  dsimp only
  rw [if_pos hk]
  show (match z_args G d y kd x st P c n with | some ar => _ | none => none) = _
  rw [ha]
theorem z_cat_ints {xs : List Int32} {i : Nat} : ∀ {ks : List Nat}, z_cat (z_vals xs i ks) = ks.length
  | [] => rfl
  | k :: ks => by
    show z_cat (Value.int (xs.getD (i + k) 0) :: z_vals xs i ks) = _
    have h := z_cat_ints (xs := xs) (i := i) (ks := ks)
    unfold z_cat at h ⊢
    rw [List.map_cons, List.sum_cons, h, List.length_cons]
    show 1 + ks.length = ks.length + 1
    omega
theorem z_vals_len {xs : List Int32} {i : Nat} {ks : List Nat} : (z_vals xs i ks).length = ks.length := List.length_map ..
/-- one side of an operation: the receiver, the arguments, the call, the answer let go -/
def z_cks (pc : Nat) (rl : Fin 4) (ks : List Nat) (iv y : Nat) : Bool :=
  z_eqc pc (.aload_n rl, 1) && (z_cka (pc + 1) ks && (z_eqc (pc + 1 + 6 * ks.length) (.invokevirtual iv, 3) && (decide (z_call (z_G []) 290 (.invokevirtual iv) = some (y, 1)) && (Nat.beq (z_na (z_G []) y) (ks.length + 1) && (Nat.ble (z_nL (z_G []) y) 45 && Nat.ble (ks.length + 1) (z_nL (z_G []) y))))))
theorem z_side {pc a t iv y : Nat} {rl : Fin 4} {ks : List Nat} {st : List Value} {q : List Value} {rv : Option Value} {P1 : z_H} {j : Int32} (h : z_cks pc rl ks iv y = true) (hr : z_get l rl = some (.ref a)) (h0 : z_get l 0 = some (.ref (z_far + 12))) (h4 : z_get l 4 = some (.int j)) (hi : j.toInt = (i : Int)) (hl : i + 6 ≤ xs.length) (hx : xs.length ≤ 3072) (hd : 1 ≤ d) (hst : z_cat st ≤ 8) (hP : P[a]? = some (t, q)) (ha : a < z_far) (ht : z_rcv (z_G []) y = t) (hmc : c + z_mc (z_G []) y ≤ 601024) (hms : n + z_ms (z_G []) y ≤ 7293034)
    (hrun : z_Runs (z_G xs) (d - 1) y (0, lv_args 0 (.ref a :: z_vals xs i ks), [], P, 0, 0) rv P1) (kk : z_Rh (z_G xs) d 290 Ψ (pc + 4 + 6 * ks.length, l, rv.toList ++ st, P1, c + z_mc (z_G []) y, n + z_ms (z_G []) y)) : z_Rh (z_G xs) d 290 Ψ (pc, l, st, P, c, n) := by
  unfold z_cks at h
  simp only [Bool.and_eq_true] at h
  obtain ⟨b1, b2, b3, b4, b5, b6, b7⟩ := h
  have b4 := of_decide_eq_true b4
  have b5 := Nat.eq_of_beq_eq_true b5
  refine z_r_ld (ins := .aload_n rl) (len := 1) (t := pc + 1) (i := rl) (z_eqc_ok b1) rfl rfl rfl rfl (fun _ => rfl) hr rfl ?_
  refine z_r_args b2 h0 h4 hi hl hx ?_
  have hna : z_na (z_G xs) y = ks.length + 1 := by rw [z_na_xs, b5]
  have hlen : (z_vals xs i ks).reverse.length = ks.length := by rw [List.length_reverse, z_vals_len]
  refine z_r_cl (ins := .invokevirtual iv) (y := y) (kd := 1) (as := .ref a :: z_vals xs i ks) (r := st) (rv := rv) (P1 := P1) (z_eqc_ok b3) (by rw [z_call_xs]; exact b4) (by decide) ?_ rfl hrun ?_
  · refine z_argsv ?_ ?_ ?_ hd hst ?_ ?_ ?_ ?_ ?_ ?_
    · rw [hna, List.take_append, hlen, show ks.length + 1 - ks.length = 1 by omega, List.take_of_length_le (by rw [hlen]; omega)]
      simp
    · rw [hna, List.drop_append, hlen, show ks.length + 1 - ks.length = 1 by omega, List.drop_of_length_le (by rw [hlen]; omega)]
      rfl
    · rw [hna]
      refine Nat.ble_eq.mpr ?_
      rw [List.length_append, hlen, List.length_cons]
      omega
    · rw [z_nL_xs]
      exact b6
    · rw [z_nL_xs]
      have := z_cat_ints (xs := xs) (i := i) (ks := ks)
      have e : z_cat (Value.ref a :: z_vals xs i ks) = 1 + z_cat (z_vals xs i ks) := by
        unfold z_cat
        rw [List.map_cons, List.sum_cons]
        rfl
      rw [e, this]
      have := Nat.le_of_ble_eq_true b7
      omega
    · rw [z_mc_xs]
      exact hmc
    · rw [z_ms_xs]
      exact hms
    · right
      rw [hna]
      exact Nat.le_add_left 1 _
    · right
      exact z_atv (z_lkn ha hP) (by rw [z_rcv_xs]; exact ht)
  · rw [z_mc_xs, z_ms_xs, show pc + 1 + 6 * ks.length + 3 = pc + 4 + 6 * ks.length by omega]
    exact kk
/-- one abstract heap below the typed cells -/
def z_hl0 (R : List z_ac_) : Bool := Nat.beq R.length 126 && ((List.range 126).all fun c => match R[c]?, z_H0c[c]? with
  | some A, some B => z_cle [] 1 126 A B
  | _, _ => false)
theorem z_bN0 : z_bN [0] [] 1 = [0] := rfl
theorem z_H0c_len : z_H0c.length = 126 := rfl
theorem z_hl0_gh {strs : z_Ss} {al : Nat → Option Nat} {R : List z_ac_} (h : z_hl0 R = true) (hR : z_gh strs [0] al R P) : z_gh strs [0] al z_H0c P := by
  unfold z_hl0 at h
  rw [Bool.and_eq_true] at h
  have hlen := Nat.eq_of_beq_eq_true h.1
  intro a c hac
  obtain ⟨q, A, e1, e2, e3, e4, e5⟩ := hR a c hac
  have hc : c < 126 := by rw [← hlen]; exact (List.getElem?_eq_some_iff.mp e2).1
  have h2 := List.all_eq_true.mp h.2 c (List.mem_range.mpr hc)
  rw [e2] at h2
  cases hB : z_H0c[c]? with
  | none => rw [hB] at h2; cases h2
  | some B =>
    rw [hB] at h2
    have h2 : z_cle [] 1 126 A B = true := h2
    obtain ⟨m1, m2, m3⟩ := z_cle_ok h2 e3
    rw [z_bN0, z_alc_id hR hlen] at m1
    exact ⟨q, B, e1, rfl, m1, fun hs => e4 (m2 hs), fun hn => e5 (m3 hn)⟩
def z_okX (g : Nat) (X : z_Xe) : Bool := Nat.ble X.2.2 g && match z_ptc [] (fun _ => none) 1 X.2.1 z_H0c with
  | some R => z_hl0 R
  | none => false
/-- what the law holds of its cells between two operations -/
def z_In (xs : List Int32) (al : Nat → Option Nat) (P : z_H) : Prop := z_gh (z_strs (z_G xs)) [0] al z_H0c P ∧ z_fr 12 al ∧ z_J al P
/-- a call of y at the receiver of the cell's number, its answer -/
def z_Use (xs : List Int32) (y cell : Nat) (ts : List z_av) (A : Option z_av → Bool) : Prop := ∀ {al : Nat → Option Nat} {P : z_H} {a : Nat} {vs : List Value}, z_In xs al P → al a = some cell → P.length ≤ 900000 → z_all2 (z_gv [0] al) ts vs → ∃ rv P' al' o, A o = true ∧ z_go_ [0] al' o rv ∧ z_Runs (z_G xs) 799 y (0, lv_args 0 (.ref a :: vs), [], P, 0, 0) rv P' ∧ z_In xs al' P' ∧ (∀ a c, al a = some c → al' a = some c) ∧ P'.length ≤ P.length + z_mc (z_G []) y
theorem z_use_of {K : z_Kc} {y cell : Nat} {ts : List z_av} {A : Option z_av → Bool} (hK : z_cn (z_G xs) 12 z_J K) (hy : K.1 = y) (hE : K.2.2.1 = ((y, 0, z_alv 0 (.inr (.inr (false, [cell])) :: ts), [], 0, 0), [], z_H0c, 1, [], 900000)) (hX : (K.2.2.2.2.1.all fun X => A X.1 && z_okX (z_mc (z_G []) y) X) = true) (hd : Nat.ble K.2.1 799 = true) : z_Use xs y cell ts A := by
  intro al P a vs ⟨hH, hf, hj⟩ ha hlen hvs
  subst hy
  have hS : z_gs (z_strs (z_G xs)) [0] al K.2.2.1 (K.1, 0, lv_args 0 (.ref a :: vs), [], 0, 0) [] P := by
    rw [hE]
    exact ⟨⟨rfl, rfl, z_alv_ok ⟨Or.inr ⟨a, cell, rfl, ha, List.mem_singleton_self _⟩, hvs⟩, trivial, rfl, rfl⟩, trivial, hH, rfl, fun q hq => (by cases hq), hlen⟩
  obtain ⟨rv, P', al', X, hX', hr, hj', hp⟩ := hK (d := 799) (Nat.le_of_ble_eq_true hd) hS hf hj
  have hok := List.all_eq_true.mp hX X hX'
  rw [Bool.and_eq_true] at hok
  obtain ⟨hA, hok⟩ := hok
  unfold z_okX at hok
  rw [Bool.and_eq_true] at hok
  obtain ⟨hg, hok⟩ := hok
  split at hok
  rotate_left
  · cases hok
  rename_i R hR
  have hgh := z_ptc_gh (N := [0]) (m := 1) (bd := []) (iv := fun _ => none) (strs := z_strs (z_G xs)) (fun k q h => by cases h) hR hH (by rw [z_bN0]; exact hp) (fun c A' hx => z_ptc_in hR hx)
  have p1 := hp.1
  refine ⟨rv, P', al', X.1, hA, hp.2.2.2.1, hr, ⟨z_hl0_gh hok hgh, fun j hj => p1 _ _ (hf j hj), hj'⟩, p1, ?_⟩
  have := Nat.le_of_ble_eq_true hg
  have := hp.2.2.2.2.2.2
  omega
def z_isi : Option z_av → Bool
  | some (.inl _) => true
  | _ => false
theorem z_isi_ok {N : List Int} {al : Nat → Option Nat} {o : Option z_av} {rv : Option Value} (h : z_isi o = true) (k : z_go_ N al o rv) : ∃ v : Int32, rv = some (.int v) := by
  unfold z_isi at h
  split at h
  · match rv, k with
    | some w, k =>
      obtain ⟨x, e, -⟩ := k
      exact ⟨x, by rw [e]⟩
  · cases h
def z_tI : z_av := .inl (0, 0, 0, -2147483648, 2147483647)
theorem z_tI_ok {N : List Int} {al : Nat → Option Nat} (x : Int32) : z_gv N al z_tI (.int x) := by
  have h1 := x.le_toInt
  have h2 := x.toInt_lt
  exact ⟨x, rfl, by show (-2147483648 : Int) ≤ _; omega, by show _ ≤ (2147483647 : Int); omega, Or.inl rfl⟩
theorem z_vals_ok {al : Nat → Option Nat} : ∀ {ks : List Nat}, z_all2 (z_gv [0] al) (List.replicate ks.length z_tI) (z_vals xs i ks)
  | [] => trivial
  | k :: ks => ⟨z_tI_ok _, z_vals_ok (ks := ks)⟩
end ZOPG
