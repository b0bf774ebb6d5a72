/-! says, the class, exactly. -/
section YGCA
variable {xs : List Int32} {d aS aT aF aC aK aX aQ aU sA sB : Nat} {P : z_H} {vs cv xv uv : List Value} {T : Int → Int} {L : List Int} {len lim mo p n v ch : Int} {th : Value} {l : z_L} {Ψ : z_S → Prop}
/-- the text of an EXPRESSION as a whole: whether, the place then -/
def yx (T : Int → Int) (lim : Int) (L : List Int) : Bool × Int := if lim ≤ 0 then (true, 0) else ((yf T lim L 164 0 0 0).1 && decide (lim ≤ (yf T lim L 164 0 0 0).2), (yf T lim L 164 0 0 0).2)
def yx_L (what : Int) : List Int := if what = 3 then [119, 122, 100, 105, 107] else [109, 99, 104, 119, 115, 110, 107, 112]
/-- what says(what) answers to a text of len signs -/
def yx_a (T : Int → Int) (len what : Int) : Int := if what < 0 ∨ 3 < what then -100 else if (yx T (yq_lim len 40) (yx_L what)).1 = true ∧ len ≤ 40 then 0 else -1 - (yx T (yq_lim len 40) (yx_L what)).2
theorem yx_bd {T : Int → Int} {lim : Int} {L : List Int} (hl : 0 ≤ lim) : 0 ≤ (yx T lim L).2 ∧ (yx T lim L).2 ≤ lim := by
  unfold yx
  split
  · exact ⟨Int.le_refl _, hl⟩
  · have g := yf_bd (T := T) (L := L) (lim := lim) 164 0 0 0 (by omega)
    exact ⟨g.1, g.2.1⟩
theorem yg_aas {fld : Nat → Option (Nat × Nat)} {fty : Nat → Nat → FieldType} {fin : Nat → Nat → Bool} {ini : Option Nat} {ac : Nat → Option Nat} {st : List Value} {a t ci f : Nat} {q : Int} {ws us : List Value} (hP : P[a]? = some (t, us)) (hv : P[f]? = some (ci, ws)) (h1 : 105 ≤ t) (h2 : ci < 99) (hac : ac (t - 100) = some ci) (h0 : 0 ≤ q) (h3 : q < us.length) (h4 : q < 2147483648) : z_wr fld fty fin ini ac P .aastore (.ref f :: ye_v q :: .ref a :: st) = some (st, P.set a (t, us.set q.toNat (.ref f))) := by
  have e1 : (Int32.ofInt q).toInt = q := ye_to (by omega) h4
  have e2 : (Int32.ofInt q).toNatClampNeg = q.toNat := by
    show (Int32.ofInt q).toInt.toNat = _
    rw [e1]
  show z_aas ac P (.ref f :: ye_v q :: .ref a :: st) = _
  unfold z_aas
  dsimp only
  rw [hP]
  dsimp only
  rw [hv]
  dsimp only
  rw [e2, if_pos ⟨h1, h2, hac, by rw [e1]; exact h0, by omega⟩]
theorem yg_fread (fS : aS < z_far) (fT : aT < z_far) (fF : aF < z_far) (fC : aC < z_far) (hx : ye_tx T len 0 255 vs) (hbl : lim ≤ len ∧ len ≤ 80 ∧ lim ≤ 40) (hA : ∀ P, z_lk (z_strs (z_G xs)) P sA = some (98, [.ref sB, ye_v 0])) (hB : ∀ P, z_lk (z_strs (z_G xs)) P sB = some (101, L.map ye_v)) (hL : ∀ a ∈ L, 0 ≤ a ∧ a < 128) (hLl : L.length ≤ 100) (hLp : 1 ≤ L.length) (hL4 : yi_fr L 40 0 = -1)
    (hS : P[aS]? = some (1, [.ref aT, ye_v len, ye_v 0, ye_v lim, ye_v mo])) (hT : P[aT]? = some (102, vs)) (hF : P[aF]? = some (8, [.ref aC, .ref aK, ye_v n])) (hC : P[aC]? = some (103, cv)) (hcl : cv.length = 40) (hp : 0 ≤ lim)
    (hd : 341 ≤ d) : ye_X xs d 48 [.ref aF, .ref aS, .ref sA] P (fun r P' => ∃ b n' cv', r = some (ye_v b) ∧ P'[aS]? = some (1, [.ref aT, ye_v len, ye_v (yx T lim L).2, ye_v lim, ye_v mo]) ∧ P'[aF]? = some (8, [.ref aC, .ref aK, ye_v n']) ∧ P'[aC]? = some (103, cv') ∧ ye_oth [aS, aF, aC] P P' ∧ ((b = 1 ∧ (yx T lim L).1 = true) ∨ (b = 0 ∧ (yx T lim L).1 = false))) := by
  refine ye_go ?_
  have a0 : z_get (lv_args 0 [.ref aF, .ref aS, .ref sA]) 0 = some (.ref aF) := rfl
  have a1 : z_get (lv_args 0 [.ref aF, .ref aS, .ref sA]) 1 = some (.ref aS) := rfl
  have a2 : z_get (lv_args 0 [.ref aF, .ref aS, .ref sA]) 2 = some (.ref sA) := rfl
  have ho0 : ye_oth [aS, aF, aC] P P := ye_oth_rf
  refine z_r_ld (kk := z_isA) (ins := (.aload_n 0)) (len := 1) (t := 1) (i := 0) rfl rfl rfl rfl rfl (fun _ => rfl) a0 rfl ?_
  refine z_r_pu (ins := (.iconst 0)) (len := 1) (t := 2) (st' := [ye_v 0, .ref aF]) rfl rfl rfl rfl rfl ?_
  refine ye_r_wr (ins := (.putfield 18)) (len := 3) (t := 5) (a := aF) (q := (8, [.ref aC, .ref aK, ye_v 0])) rfl rfl rfl rfl rfl hF (z_pfv (ci := 8) (k := 2) rfl hF (by decide) (Nat.le_of_ble_eq_true rfl) rfl rfl rfl) (fun P_1 c_2 o_3 => ?_)
  have c_4 := ye_kp o_3 (ye_n1 (ye_ne hC hF (by decide))) hC
  have c_5 := ye_kp o_3 (ye_n1 (ye_ne hS hF (by decide))) hS
  have c_6 := ye_kp o_3 (ye_n1 (ye_ne hT hF (by decide))) hT
  have o_7 := ye_oth_tr ho0 o_3 (ye_s1 (List.mem_cons_of_mem _ (List.mem_cons_self)))
  refine z_r_ld (kk := z_isA) (ins := (.aload_n 1)) (len := 1) (t := 6) (i := 1) rfl rfl rfl rfl rfl (fun _ => rfl) a1 rfl ?_
  refine ye_ca (ins := (.invokevirtual 22)) (kd := 1) (t := 9) rfl rfl (by decide) (z_argsv rfl rfl rfl (by omega) (Nat.le_of_ble_eq_true rfl) rfl (Nat.le_of_ble_eq_true rfl) (Nat.le_refl _) (Nat.le_refl _) (Or.inr (Nat.le_of_ble_eq_true rfl)) (Or.inr (z_atv (z_lkn fS c_5) rfl))) rfl rfl rfl (ye_isDone c_5 fS c_6 fT hx (by omega)) ?_
  rintro _ _ ⟨rfl, b_8, rfl, h_9⟩
  by_cases b_10 : b_8 ≠ 0
  · skip
    refine z_r_jm (ins := (.ifCond .ne 20)) (len := 3) (t := 29) rfl rfl rfl rfl (ye_iy (t := 29) rfl (by omega) (by omega) b_10) ?_
    refine z_r_pu (ins := (.iconst 1)) (len := 1) (t := 30) (st' := [ye_v 1]) rfl rfl rfl rfl rfl ?_
    refine z_r_jm (ins := (.goto 4)) (len := 3) (t := 34) rfl rfl rfl rfl (z_gty rfl) ?_
    refine ye_ret (ins := .ireturn) rfl rfl rfl (ye_retz rfl (by omega)) ?_
    have eL : yx T lim L = (true, 0) := if_pos (by omega)
    rw [eL]
    exact ⟨1, _, _, rfl, c_5, c_2, c_4, o_7, Or.inl ⟨rfl, rfl⟩⟩
  · skip
    refine z_r_jm (ins := (.ifCond .ne 20)) (len := 3) (t := 12) rfl rfl rfl rfl (ye_in (t := 29) rfl (by omega) (by omega) b_10) ?_
    refine z_r_ld (kk := z_isA) (ins := (.aload_n 0)) (len := 1) (t := 13) (i := 0) rfl rfl rfl rfl rfl (fun _ => rfl) a0 rfl ?_
    refine z_r_ld (kk := z_isA) (ins := (.aload_n 1)) (len := 1) (t := 14) (i := 1) rfl rfl rfl rfl rfl (fun _ => rfl) a1 rfl ?_
    refine z_r_ld (kk := z_isA) (ins := (.aload_n 2)) (len := 1) (t := 15) (i := 2) rfl rfl rfl rfl rfl (fun _ => rfl) a2 rfl ?_
    refine z_r_pu (ins := (.iconst 0)) (len := 1) (t := 16) (st' := [ye_v 0, .ref sA, .ref aS, .ref aF]) rfl rfl rfl rfl rfl ?_
    refine ye_ca (ins := (.invokevirtual 28)) (kd := 1) (t := 19) rfl rfl (by decide) (z_argsv rfl rfl rfl (by omega) (Nat.le_of_ble_eq_true rfl) rfl (Nat.le_of_ble_eq_true rfl) (Nat.le_refl _) (Nat.le_refl _) (Or.inr (Nat.le_of_ble_eq_true rfl)) (Or.inr (z_atv (z_lkn fF c_2) rfl))) rfl rfl rfl ((yg_all (sB := sB) fS fT fF fC hx hbl hA hB hL hLl hLp hL4 164).1 _ _ _ _ _ _ c_5 c_6 c_2 c_4 hcl (by omega) (by omega) (by omega) (by omega) (by omega)) ?_
    rintro _ P_11 ⟨b_12, n_13, w_14, rfl, c_15, c_16, c_17, h_18, o_19, i_20, i_21, h_22⟩
    have d_23 := yf_bd (T := T) (L := L) (lim := lim) 164 0 0 0 (by omega)
    generalize er_24 : yf T lim L 164 0 0 0 = r_24 at c_15 i_21 h_22 d_23
    have c_25 := ye_kp o_19 (ye_nc (ye_ne c_6 c_5 (by decide)) (ye_nc (ye_ne c_6 c_2 (by decide)) (ye_n1 (ye_ne c_6 c_4 (by decide))))) c_6
    have o_26 := ye_oth_tr o_7 o_19 ((fun b hb => by simp only [List.mem_cons, List.not_mem_nil, or_false] at hb ⊢; (repeat (rcases hb with h | hb; · simp [h])); simp [hb]))
    by_cases b_27 : b_12 = 0
    · skip
      refine z_r_jm (ins := (.ifCond .eq 14)) (len := 3) (t := 33) rfl rfl rfl rfl (ye_iy (t := 33) rfl (by omega) (by omega) b_27) ?_
      refine z_r_pu (ins := (.iconst 0)) (len := 1) (t := 34) (st' := [ye_v 0]) rfl rfl rfl rfl rfl ?_
      refine ye_ret (ins := .ireturn) rfl rfl rfl (ye_retz rfl (by omega)) ?_
      have q1 : r_24.1 = false := by
        rcases h_22 with ⟨g1, g2⟩ | ⟨g1, g2⟩
        · exact absurd g1 (by omega)
        · exact g2
      have eL : yx T lim L = (false, r_24.2) := by
        unfold yx
        rw [if_neg (by omega), er_24, q1]
        rfl
      rw [eL]
      exact ⟨0, _, _, rfl, c_15, c_16, c_17, o_26, Or.inr ⟨rfl, rfl⟩⟩
    · skip
      refine z_r_jm (ins := (.ifCond .eq 14)) (len := 3) (t := 22) rfl rfl rfl rfl (ye_in (t := 33) rfl (by omega) (by omega) b_27) ?_
      refine z_r_ld (kk := z_isA) (ins := (.aload_n 1)) (len := 1) (t := 23) (i := 1) rfl rfl rfl rfl rfl (fun _ => rfl) a1 rfl ?_
      refine ye_ca (ins := (.invokevirtual 22)) (kd := 1) (t := 26) rfl rfl (by decide) (z_argsv rfl rfl rfl (by omega) (Nat.le_of_ble_eq_true rfl) rfl (Nat.le_of_ble_eq_true rfl) (Nat.le_refl _) (Nat.le_refl _) (Or.inr (Nat.le_of_ble_eq_true rfl)) (Or.inr (z_atv (z_lkn fS c_15) rfl))) rfl rfl rfl (ye_isDone c_15 fS c_25 fT hx (by omega)) ?_
      rintro _ _ ⟨rfl, b_28, rfl, h_29⟩
      by_cases b_30 : b_28 = 0
      · skip
        refine z_r_jm (ins := (.ifCond .eq 7)) (len := 3) (t := 33) rfl rfl rfl rfl (ye_iy (t := 33) rfl (by omega) (by omega) b_30) ?_
        refine z_r_pu (ins := (.iconst 0)) (len := 1) (t := 34) (st' := [ye_v 0]) rfl rfl rfl rfl rfl ?_
        refine ye_ret (ins := .ireturn) rfl rfl rfl (ye_retz rfl (by omega)) ?_
        have q1 : r_24.1 = true := by
          rcases h_22 with ⟨g1, g2⟩ | ⟨g1, g2⟩
          · exact g2
          · exact absurd g1 (by omega)
        have eL : yx T lim L = (false, r_24.2) := by
          unfold yx
          rw [if_neg (by omega), er_24, q1, decide_eq_false (by omega)]
          rfl
        rw [eL]
        exact ⟨0, _, _, rfl, c_15, c_16, c_17, o_26, Or.inr ⟨rfl, rfl⟩⟩
      · skip
        refine z_r_jm (ins := (.ifCond .eq 7)) (len := 3) (t := 29) rfl rfl rfl rfl (ye_in (t := 33) rfl (by omega) (by omega) b_30) ?_
        refine z_r_pu (ins := (.iconst 1)) (len := 1) (t := 30) (st' := [ye_v 1]) rfl rfl rfl rfl rfl ?_
        refine z_r_jm (ins := (.goto 4)) (len := 3) (t := 34) rfl rfl rfl rfl (z_gty rfl) ?_
        refine ye_ret (ins := .ireturn) rfl rfl rfl (ye_retz rfl (by omega)) ?_
        have q1 : r_24.1 = true := by
          rcases h_22 with ⟨g1, g2⟩ | ⟨g1, g2⟩
          · exact g2
          · exact absurd g1 (by omega)
        have eL : yx T lim L = (true, r_24.2) := by
          unfold yx
          rw [if_neg (by omega), er_24, q1, decide_eq_true (by omega)]
          rfl
        rw [eL]
        exact ⟨1, _, _, rfl, c_15, c_16, c_17, o_26, Or.inl ⟨rfl, rfl⟩⟩
theorem yg_mread (fS : aS < z_far) (fT : aT < z_far) (fF : aF < z_far) (fC : aC < z_far) (hx : ye_tx T len 0 255 vs) (hbl : lim ≤ len ∧ len ≤ 80 ∧ lim ≤ 40)
    (hS : P[aS]? = some (1, [.ref aT, ye_v len, ye_v 0, ye_v lim, ye_v mo])) (hT : P[aT]? = some (102, vs)) (hF : P[aF]? = some (8, [.ref aC, .ref aK, ye_v n])) (hC : P[aC]? = some (103, cv)) (hcl : cv.length = 40) (hp : 0 ≤ lim) (hQ : P[aQ]? = some (7, [.ref aU, .ref aF, th, ye_v ch])) (fQ : aQ < z_far)
    (hv : 0 ≤ v ∧ v ≤ 3) (hd : 342 ≤ d) : ye_X xs d 47 [.ref aQ, .ref aS, ye_v v] P (fun r P' => ∃ b n' cv', r = some (ye_v b) ∧ P'[aS]? = some (1, [.ref aT, ye_v len, ye_v (yx T lim (yx_L v)).2, ye_v lim, ye_v mo]) ∧ P'[aF]? = some (8, [.ref aC, .ref aK, ye_v n']) ∧ P'[aC]? = some (103, cv') ∧ ye_oth [aS, aF, aC] P P' ∧ ((b = 1 ∧ (yx T lim (yx_L v)).1 = true) ∨ (b = 0 ∧ (yx T lim (yx_L v)).1 = false))) := by
  refine ye_go ?_
  have a0 : z_get (lv_args 0 [.ref aQ, .ref aS, ye_v v]) 0 = some (.ref aQ) := rfl
  have a1 : z_get (lv_args 0 [.ref aQ, .ref aS, ye_v v]) 1 = some (.ref aS) := rfl
  have a2 : z_get (lv_args 0 [.ref aQ, .ref aS, ye_v v]) 2 = some (ye_v v) := rfl
  have ho0 : ye_oth [aS, aF, aC] P P := ye_oth_rf
  refine z_r_ld (kk := z_isA) (ins := (.aload_n 0)) (len := 1) (t := 1) (i := 0) rfl rfl rfl rfl rfl (fun _ => rfl) a0 rfl ?_
  refine z_r_rd (ins := (.getfield 18)) (len := 3) (t := 4) rfl rfl rfl rfl rfl (z_gfv (ci := 7) (k := 1) (v := .ref aF) rfl (z_lkn fQ hQ) (by decide) rfl) ?_
  refine z_r_ld (kk := z_isA) (ins := (.aload_n 1)) (len := 1) (t := 5) (i := 1) rfl rfl rfl rfl rfl (fun _ => rfl) a1 rfl ?_
  refine z_r_ld (kk := z_isI) (ins := (.iload_n 2)) (len := 1) (t := 6) (i := 2) rfl rfl rfl rfl rfl (fun _ => rfl) a2 rfl ?_
  refine z_r_pu (ins := (.iconst 3)) (len := 1) (t := 7) (st' := [ye_v 3, ye_v v, .ref aS, .ref aF]) rfl rfl rfl rfl rfl ?_
  by_cases b_1 : v ≠ 3
  · skip
    refine z_r_jm (ins := (.if_icmp .ne 8)) (len := 3) (t := 15) rfl rfl rfl rfl (ye_jy (t := 15) rfl (by omega) (by omega) (by omega) (by omega) b_1) ?_
    refine z_r_cs (ins := (.ldc 32)) (len := 2) (t := 17) (v := .ref (z_far + 4)) rfl rfl rfl rfl rfl rfl ?_
    refine ye_ca (ins := (.invokevirtual 34)) (kd := 1) (t := 20) rfl rfl (by decide) (z_argsv rfl rfl rfl (by omega) (Nat.le_of_ble_eq_true rfl) rfl (Nat.le_of_ble_eq_true rfl) (Nat.le_refl _) (Nat.le_refl _) (Or.inr (Nat.le_of_ble_eq_true rfl)) (Or.inr (z_atv (z_lkn fF hF) rfl))) rfl rfl rfl (yg_fread (L := [109, 99, 104, 119, 115, 110, 107, 112]) fS fT fF fC hx hbl (fun _ => yg_lk4) (fun _ => yg_lk5) (by decide) (by decide) (by decide) (by decide) hS hT hF hC hcl hp (by omega)) ?_
    rintro _ P_5 ⟨b_2, n_3, w_4, rfl, c_6, c_7, c_8, o_9, h_10⟩
    have eW : yx_L v = [109, 99, 104, 119, 115, 110, 107, 112] := if_neg (by omega)
    rw [← eW] at c_6 h_10
    have c_11 := ye_kp o_9 (ye_nc (ye_ne hQ hS (by decide)) (ye_nc (ye_ne hQ hF (by decide)) (ye_n1 (ye_ne hQ hC (by decide))))) hQ
    have c_12 := ye_kp o_9 (ye_nc (ye_ne hT hS (by decide)) (ye_nc (ye_ne hT hF (by decide)) (ye_n1 (ye_ne hT hC (by decide))))) hT
    have o_13 := ye_oth_tr ho0 o_9 ((fun b hb => by simp only [List.mem_cons, List.not_mem_nil, or_false] at hb ⊢; (repeat (rcases hb with h | hb; · simp [h])); simp [hb]))
    refine ye_ret (ins := .ireturn) rfl rfl rfl (ye_retz rfl (by omega)) ?_
    exact ⟨b_2, _, _, rfl, c_6, c_7, c_8, o_13, h_10⟩
  · skip
    refine z_r_jm (ins := (.if_icmp .ne 8)) (len := 3) (t := 10) rfl rfl rfl rfl (ye_jn (t := 15) rfl (by omega) (by omega) (by omega) (by omega) b_1) ?_
    refine z_r_cs (ins := (.ldc 30)) (len := 2) (t := 12) (v := .ref (z_far + 2)) rfl rfl rfl rfl rfl rfl ?_
    refine z_r_jm (ins := (.goto 5)) (len := 3) (t := 17) rfl rfl rfl rfl (z_gty rfl) ?_
    refine ye_ca (ins := (.invokevirtual 34)) (kd := 1) (t := 20) rfl rfl (by decide) (z_argsv rfl rfl rfl (by omega) (Nat.le_of_ble_eq_true rfl) rfl (Nat.le_of_ble_eq_true rfl) (Nat.le_refl _) (Nat.le_refl _) (Or.inr (Nat.le_of_ble_eq_true rfl)) (Or.inr (z_atv (z_lkn fF hF) rfl))) rfl rfl rfl (yg_fread (L := [119, 122, 100, 105, 107]) fS fT fF fC hx hbl (fun _ => yg_lk2) (fun _ => yg_lk3) (by decide) (by decide) (by decide) (by decide) hS hT hF hC hcl hp (by omega)) ?_
    rintro _ P_17 ⟨b_14, n_15, w_16, rfl, c_18, c_19, c_20, o_21, h_22⟩
    have eW : yx_L v = [119, 122, 100, 105, 107] := if_pos (by omega)
    rw [← eW] at c_18 h_22
    have c_23 := ye_kp o_21 (ye_nc (ye_ne hQ hS (by decide)) (ye_nc (ye_ne hQ hF (by decide)) (ye_n1 (ye_ne hQ hC (by decide))))) hQ
    have c_24 := ye_kp o_21 (ye_nc (ye_ne hT hS (by decide)) (ye_nc (ye_ne hT hF (by decide)) (ye_n1 (ye_ne hT hC (by decide))))) hT
    have o_25 := ye_oth_tr ho0 o_21 ((fun b hb => by simp only [List.mem_cons, List.not_mem_nil, or_false] at hb ⊢; (repeat (rcases hb with h | hb; · simp [h])); simp [hb]))
    refine ye_ret (ins := .ireturn) rfl rfl rfl (ye_retz rfl (by omega)) ?_
    exact ⟨b_14, _, _, rfl, c_18, c_19, c_20, o_25, h_22⟩
theorem yg_settle (hQ : P[aQ]? = some (7, [.ref aU, .ref aF, th, ye_v ch])) (fQ : aQ < z_far) (hF : P[aF]? = some (8, [.ref aC, .ref aK, ye_v n])) (hU : P[aU]? = some (107, uv)) (fU : aU < z_far) {g : Nat} (hg : uv[v.toNat]? = some (.ref g)) (hul : uv.length = 4)
    (hv : 0 ≤ v ∧ v ≤ 3) : ye_X xs d 55 [.ref aQ, ye_v v] P (fun _ P' => ye_oth [aQ, aU] P P') := by
  refine ye_go ?_
  have a0 : z_get (lv_args 0 [.ref aQ, ye_v v]) 0 = some (.ref aQ) := rfl
  have a1 : z_get (lv_args 0 [.ref aQ, ye_v v]) 1 = some (ye_v v) := rfl
  have ho0 : ye_oth [aQ, aU] P P := ye_oth_rf
  refine z_r_ld (kk := z_isA) (ins := (.aload_n 0)) (len := 1) (t := 1) (i := 0) rfl rfl rfl rfl rfl (fun _ => rfl) a0 rfl ?_
  refine z_r_rd (ins := (.getfield 12)) (len := 3) (t := 4) rfl rfl rfl rfl rfl (z_gfv (ci := 7) (k := 0) (v := .ref aU) rfl (z_lkn fQ hQ) (by decide) rfl) ?_
  refine z_r_ld (kk := z_isI) (ins := (.iload_n 1)) (len := 1) (t := 5) (i := 1) rfl rfl rfl rfl rfl (fun _ => rfl) a1 rfl ?_
  refine z_r_rd (ins := .aaload) (len := 1) (t := 6) rfl rfl rfl rfl rfl (ye_aal (p := v) (z_lkn fU hU) (Nat.le_of_ble_eq_true rfl) (Nat.le_of_ble_eq_true rfl) (by omega) (by omega) hg) ?_
  refine z_r_is (kk := z_isA) (ins := (.astore_n 2)) (len := 1) (t := 7) (i := 2) rfl rfl rfl rfl rfl rfl rfl rfl (fun l l_1 k_2 => ?_)
  have l_3 := k_2 _ _ a0 (by decide) (Or.inl (by decide))
  have l_4 := k_2 _ _ a1 (by decide) (Or.inr (by show (1 : Nat) ≠ 2; decide))
  refine z_r_ld (kk := z_isA) (ins := (.aload_n 0)) (len := 1) (t := 8) (i := 0) rfl rfl rfl rfl rfl (fun _ => rfl) l_3 rfl ?_
  refine z_r_rd (ins := (.getfield 12)) (len := 3) (t := 11) rfl rfl rfl rfl rfl (z_gfv (ci := 7) (k := 0) (v := .ref aU) rfl (z_lkn fQ hQ) (by decide) rfl) ?_
  refine z_r_ld (kk := z_isI) (ins := (.iload_n 1)) (len := 1) (t := 12) (i := 1) rfl rfl rfl rfl rfl (fun _ => rfl) l_4 rfl ?_
  refine z_r_ld (kk := z_isA) (ins := (.aload_n 0)) (len := 1) (t := 13) (i := 0) rfl rfl rfl rfl rfl (fun _ => rfl) l_3 rfl ?_
  refine z_r_rd (ins := (.getfield 18)) (len := 3) (t := 16) rfl rfl rfl rfl rfl (z_gfv (ci := 7) (k := 1) (v := .ref aF) rfl (z_lkn fQ hQ) (by decide) rfl) ?_
  refine ye_r_wr (ins := .aastore) (len := 1) (t := 17) (a := aU) (q := (107, uv.set (v).toNat (.ref aF))) rfl rfl rfl rfl rfl hU (yg_aas hU hF (by decide) (by decide) rfl (by omega) (by omega) (by omega)) (fun P_5 c_6 o_7 => ?_)
  have c_8 := ye_kp o_7 (ye_n1 (ye_ne hF hU (by decide))) hF
  have c_9 := ye_kp o_7 (ye_n1 (ye_ne hQ hU (by decide))) hQ
  have o_10 := ye_oth_tr ho0 o_7 (ye_s1 (List.mem_cons_of_mem _ (List.mem_cons_self)))
  refine z_r_ld (kk := z_isA) (ins := (.aload_n 0)) (len := 1) (t := 18) (i := 0) rfl rfl rfl rfl rfl (fun _ => rfl) l_3 rfl ?_
  refine z_r_ld (kk := z_isA) (ins := (.aload_n 2)) (len := 1) (t := 19) (i := 2) rfl rfl rfl rfl rfl (fun _ => rfl) l_1 rfl ?_
  refine ye_r_wr (ins := (.putfield 18)) (len := 3) (t := 22) (a := aQ) (q := (7, [.ref aU, .ref g, th, ye_v ch])) rfl rfl rfl rfl rfl c_9 (z_pfv (ci := 7) (k := 1) rfl c_9 (by decide) (Nat.le_of_ble_eq_true rfl) rfl rfl rfl) (fun P_11 c_12 o_13 => ?_)
  have c_14 := ye_kp o_13 (ye_n1 (ye_ne c_8 c_9 (by decide))) c_8
  have c_15 := ye_kp o_13 (ye_n1 (ye_ne c_6 c_9 (by decide))) c_6
  have o_16 := ye_oth_tr o_10 o_13 (ye_s1 (List.mem_cons_self))
  refine ye_ret (ins := .return_) rfl rfl rfl (ye_retv rfl) ?_
  exact o_16
set_option maxHeartbeats 8000000 in
theorem yg_Csays (fS : aS < z_far) (fT : aT < z_far) (fF : aF < z_far) (fC : aC < z_far) (hx : ye_tx T len 0 255 vs) (hn : 0 ≤ len ∧ len ≤ 80)
    (hS : P[aS]? = some (1, [.ref aT, ye_v len, ye_v p, ye_v lim, ye_v mo])) (hT : P[aT]? = some (102, vs)) (hF : P[aF]? = some (8, [.ref aC, .ref aK, ye_v n])) (hC : P[aC]? = some (103, cv)) (hcl : cv.length = 40)  (hQ : P[aQ]? = some (7, [.ref aU, .ref aF, th, ye_v ch])) (fQ : aQ < z_far) (hU : P[aU]? = some (107, uv)) (fU : aU < z_far) (hug : 0 ≤ v ∧ v ≤ 3 → ∃ g : Nat, uv[v.toNat]? = some (.ref g)) (hul : uv.length = 4) (hX : P[aX]? = some (0, xv)) (fX : aX < z_far) (x0 : xv[0]? = some (.ref aS)) (x7 : xv[7]? = some (.ref aQ))
    (hv : -2147483648 ≤ v ∧ v < 2147483648) (hd : 344 ≤ d) : ye_X xs d 46 [.ref aX, ye_v v] P (fun r P' => r = some (ye_v (yx_a T len v)) ∧ (∃ a lim mo, P'[aS]? = some (1, [.ref aT, ye_v 0, ye_v a, ye_v lim, ye_v mo])) ∧ ye_oth [aS, aF, aC, aQ, aU] P P') := by
  refine ye_go ?_
  have a0 : z_get (lv_args 0 [.ref aX, ye_v v]) 0 = some (.ref aX) := rfl
  have a1 : z_get (lv_args 0 [.ref aX, ye_v v]) 1 = some (ye_v v) := rfl
  have ho0 : ye_oth [aS, aF, aC, aQ, aU] P P := ye_oth_rf
  refine z_r_ld (kk := z_isI) (ins := (.iload_n 1)) (len := 1) (t := 1) (i := 1) rfl rfl rfl rfl rfl (fun _ => rfl) a1 rfl ?_
  by_cases b_1 : v < 0
  · skip
    refine z_r_jm (ins := (.ifCond .lt 8)) (len := 3) (t := 9) rfl rfl rfl rfl (ye_iy (t := 9) rfl (by omega) (by omega) b_1) ?_
    refine z_r_ld (kk := z_isA) (ins := (.aload_n 0)) (len := 1) (t := 10) (i := 0) rfl rfl rfl rfl rfl (fun _ => rfl) a0 rfl ?_
    refine z_r_rd (ins := (.getfield 12)) (len := 3) (t := 13) rfl rfl rfl rfl rfl (z_gfv (ci := 0) (k := 0) (v := .ref aS) rfl (z_lkn fX hX) (by decide) x0) ?_
    refine ye_cav (ins := (.invokevirtual 115)) (kd := 1) (t := 16) rfl rfl (by decide) (z_argsv rfl rfl rfl (by omega) (Nat.le_of_ble_eq_true rfl) rfl (Nat.le_of_ble_eq_true rfl) (Nat.le_refl _) (Nat.le_refl _) (Or.inr (Nat.le_of_ble_eq_true rfl)) (Or.inr (z_atv (z_lkn fS hS) rfl))) rfl rfl rfl rfl (ye_clear hS fS) ?_
    rintro _ P_2 ⟨c_3, o_4⟩
    have c_5 := ye_kp o_4 (ye_n1 (ye_ne hC hS (by decide))) hC
    have c_6 := ye_kp o_4 (ye_n1 (ye_ne hF hS (by decide))) hF
    have c_7 := ye_kp o_4 (ye_n1 (ye_ne hQ hS (by decide))) hQ
    have c_8 := ye_kp o_4 (ye_n1 (ye_ne hT hS (by decide))) hT
    have c_9 := ye_kp o_4 (ye_n1 (ye_ne hU hS (by decide))) hU
    have c_10 := ye_kp o_4 (ye_n1 (ye_ne hX hS (by decide))) hX
    have o_11 := ye_oth_tr ho0 o_4 (ye_s1 (List.mem_cons_self))
    refine z_r_pu (ins := (.bipush (-100))) (len := 2) (t := 18) rfl rfl rfl rfl (ye_bi (by decide) (by decide)) ?_
    refine ye_ret (ins := .ireturn) rfl rfl rfl (ye_reti rfl) ?_
    have ea : yx_a T len v = -100 := if_pos (by omega)
    rw [ea]
    exact ⟨rfl, ⟨_, _, _, c_3⟩, o_11⟩
  · skip
    refine z_r_jm (ins := (.ifCond .lt 8)) (len := 3) (t := 4) rfl rfl rfl rfl (ye_in (t := 9) rfl (by omega) (by omega) b_1) ?_
    refine z_r_ld (kk := z_isI) (ins := (.iload_n 1)) (len := 1) (t := 5) (i := 1) rfl rfl rfl rfl rfl (fun _ => rfl) a1 rfl ?_
    refine z_r_pu (ins := (.iconst 3)) (len := 1) (t := 6) (st' := [ye_v 3, ye_v v]) rfl rfl rfl rfl rfl ?_
    by_cases b_12 : v ≤ 3
    · skip
      refine z_r_jm (ins := (.if_icmp .le 13)) (len := 3) (t := 19) rfl rfl rfl rfl (ye_jy (t := 19) rfl (by omega) (by omega) (by omega) (by omega) b_12) ?_
      refine z_r_ld (kk := z_isA) (ins := (.aload_n 0)) (len := 1) (t := 20) (i := 0) rfl rfl rfl rfl rfl (fun _ => rfl) a0 rfl ?_
      refine z_r_rd (ins := (.getfield 12)) (len := 3) (t := 23) rfl rfl rfl rfl rfl (z_gfv (ci := 0) (k := 0) (v := .ref aS) rfl (z_lkn fX hX) (by decide) x0) ?_
      refine z_r_pu (ins := (.bipush 40)) (len := 2) (t := 25) rfl rfl rfl rfl (ye_bi (by decide) (by decide)) ?_
      refine ye_cav (ins := (.invokevirtual 103)) (kd := 1) (t := 28) rfl rfl (by decide) (z_argsv rfl rfl rfl (by omega) (Nat.le_of_ble_eq_true rfl) rfl (Nat.le_of_ble_eq_true rfl) (Nat.le_refl _) (Nat.le_refl _) (Or.inr (Nat.le_of_ble_eq_true rfl)) (Or.inr (z_atv (z_lkn fS hS) rfl))) rfl rfl rfl rfl (ye_open (most := 40) hS fS (by omega) (by decide) (by omega)) ?_
      rintro _ P_13 ⟨lim, mo, c_14, o_15, h_16, h_17⟩
      have c_18 := ye_kp o_15 (ye_n1 (ye_ne hC hS (by decide))) hC
      have c_19 := ye_kp o_15 (ye_n1 (ye_ne hF hS (by decide))) hF
      have c_20 := ye_kp o_15 (ye_n1 (ye_ne hQ hS (by decide))) hQ
      have c_21 := ye_kp o_15 (ye_n1 (ye_ne hT hS (by decide))) hT
      have c_22 := ye_kp o_15 (ye_n1 (ye_ne hU hS (by decide))) hU
      have c_23 := ye_kp o_15 (ye_n1 (ye_ne hX hS (by decide))) hX
      have o_24 := ye_oth_tr ho0 o_15 (ye_s1 (List.mem_cons_self))
      refine z_r_ld (kk := z_isA) (ins := (.aload_n 0)) (len := 1) (t := 29) (i := 0) rfl rfl rfl rfl rfl (fun _ => rfl) a0 rfl ?_
      refine z_r_rd (ins := (.getfield 54)) (len := 3) (t := 32) rfl rfl rfl rfl rfl (z_gfv (ci := 0) (k := 7) (v := .ref aQ) rfl (z_lkn fX c_23) (by decide) x7) ?_
      refine z_r_ld (kk := z_isA) (ins := (.aload_n 0)) (len := 1) (t := 33) (i := 0) rfl rfl rfl rfl rfl (fun _ => rfl) a0 rfl ?_
      refine z_r_rd (ins := (.getfield 12)) (len := 3) (t := 36) rfl rfl rfl rfl rfl (z_gfv (ci := 0) (k := 0) (v := .ref aS) rfl (z_lkn fX c_23) (by decide) x0) ?_
      refine z_r_ld (kk := z_isI) (ins := (.iload_n 1)) (len := 1) (t := 37) (i := 1) rfl rfl rfl rfl rfl (fun _ => rfl) a1 rfl ?_
      refine ye_ca (ins := (.invokevirtual 147)) (kd := 1) (t := 40) rfl rfl (by decide) (z_argsv rfl rfl rfl (by omega) (Nat.le_of_ble_eq_true rfl) rfl (Nat.le_of_ble_eq_true rfl) (Nat.le_refl _) (Nat.le_refl _) (Or.inr (Nat.le_of_ble_eq_true rfl)) (Or.inr (z_atv (z_lkn fQ c_20) rfl))) rfl rfl rfl (yg_mread fS fT fF fC hx (by omega) c_14 c_21 c_19 c_18 hcl (by omega) c_20 fQ (by omega) (by omega)) ?_
      rintro _ P_28 ⟨b_25, n_26, w_27, rfl, c_29, c_30, c_31, o_32, h_33⟩
      have rb := yx_bd (T := T) (lim := lim) (L := yx_L v) (by omega)
      generalize er : yx T lim (yx_L v) = rd at rb c_29 h_33
      have c_34 := ye_kp o_32 (ye_nc (ye_ne c_20 c_14 (by decide)) (ye_nc (ye_ne c_20 c_19 (by decide)) (ye_n1 (ye_ne c_20 c_18 (by decide))))) c_20
      have c_35 := ye_kp o_32 (ye_nc (ye_ne c_21 c_14 (by decide)) (ye_nc (ye_ne c_21 c_19 (by decide)) (ye_n1 (ye_ne c_21 c_18 (by decide))))) c_21
      have c_36 := ye_kp o_32 (ye_nc (ye_ne c_22 c_14 (by decide)) (ye_nc (ye_ne c_22 c_19 (by decide)) (ye_n1 (ye_ne c_22 c_18 (by decide))))) c_22
      have c_37 := ye_kp o_32 (ye_nc (ye_ne c_23 c_14 (by decide)) (ye_nc (ye_ne c_23 c_19 (by decide)) (ye_n1 (ye_ne c_23 c_18 (by decide))))) c_23
      have o_38 := ye_oth_tr o_24 o_32 ((fun b hb => by simp only [List.mem_cons, List.not_mem_nil, or_false] at hb ⊢; (repeat (rcases hb with h | hb; · simp [h])); simp [hb]))
      by_cases b_39 : b_25 = 0
      · skip
        refine z_r_jm (ins := (.ifCond .eq 17)) (len := 3) (t := 57) rfl rfl rfl rfl (ye_iy (t := 57) rfl (by omega) (by omega) b_39) ?_
        refine z_r_pu (ins := (.iconst 0)) (len := 1) (t := 58) (st' := [ye_v 0]) rfl rfl rfl rfl rfl ?_
        refine z_r_is (kk := z_isI) (ins := (.istore_n 2)) (len := 1) (t := 59) (i := 2) rfl rfl rfl rfl rfl rfl rfl rfl (fun l l_40 k_41 => ?_)
        have l_42 := k_41 _ _ a0 (by decide) (Or.inl (by decide))
        have l_43 := k_41 _ _ a1 (by decide) (Or.inr (by show (1 : Nat) ≠ 2; decide))
        refine z_r_ld (kk := z_isA) (ins := (.aload_n 0)) (len := 1) (t := 60) (i := 0) rfl rfl rfl rfl rfl (fun _ => rfl) l_42 rfl ?_
        refine z_r_rd (ins := (.getfield 12)) (len := 3) (t := 63) rfl rfl rfl rfl rfl (z_gfv (ci := 0) (k := 0) (v := .ref aS) rfl (z_lkn fX c_37) (by decide) x0) ?_
        refine ye_cav (ins := (.invokevirtual 115)) (kd := 1) (t := 66) rfl rfl (by decide) (z_argsv rfl rfl rfl (by omega) (Nat.le_of_ble_eq_true rfl) rfl (Nat.le_of_ble_eq_true rfl) (Nat.le_refl _) (Nat.le_refl _) (Or.inr (Nat.le_of_ble_eq_true rfl)) (Or.inr (z_atv (z_lkn fS c_29) rfl))) rfl rfl rfl rfl (ye_clear c_29 fS) ?_
        rintro _ P_44 ⟨c_45, o_46⟩
        have c_47 := ye_kp o_46 (ye_n1 (ye_ne c_31 c_29 (by decide))) c_31
        have c_48 := ye_kp o_46 (ye_n1 (ye_ne c_30 c_29 (by decide))) c_30
        have c_49 := ye_kp o_46 (ye_n1 (ye_ne c_34 c_29 (by decide))) c_34
        have c_50 := ye_kp o_46 (ye_n1 (ye_ne c_35 c_29 (by decide))) c_35
        have c_51 := ye_kp o_46 (ye_n1 (ye_ne c_36 c_29 (by decide))) c_36
        have c_52 := ye_kp o_46 (ye_n1 (ye_ne c_37 c_29 (by decide))) c_37
        have o_53 := ye_oth_tr o_38 o_46 (ye_s1 (List.mem_cons_self))
        refine z_r_ld (kk := z_isI) (ins := (.iload_n 2)) (len := 1) (t := 67) (i := 2) rfl rfl rfl rfl rfl (fun _ => rfl) l_40 rfl ?_
        refine z_r_jm (ins := (.ifCond .ne 11)) (len := 3) (t := 70) rfl rfl rfl rfl (ye_in (t := 78) rfl (by omega) (by omega) (by show ¬ ((0 : Int) ≠ 0); decide)) ?_
        refine z_r_ld (kk := z_isA) (ins := (.aload_n 0)) (len := 1) (t := 71) (i := 0) rfl rfl rfl rfl rfl (fun _ => rfl) l_42 rfl ?_
        refine z_r_rd (ins := (.getfield 12)) (len := 3) (t := 74) rfl rfl rfl rfl rfl (z_gfv (ci := 0) (k := 0) (v := .ref aS) rfl (z_lkn fX c_52) (by decide) x0) ?_
        refine ye_ca (ins := (.invokevirtual 118)) (kd := 1) (t := 77) rfl rfl (by decide) (z_argsv rfl rfl rfl (by omega) (Nat.le_of_ble_eq_true rfl) rfl (Nat.le_of_ble_eq_true rfl) (Nat.le_refl _) (Nat.le_refl _) (Or.inr (Nat.le_of_ble_eq_true rfl)) (Or.inr (z_atv (z_lkn fS c_45) rfl))) rfl rfl rfl (ye_fault0 c_45 fS (by omega)) ?_
        rintro _ _ ⟨rfl, rfl⟩
        refine ye_ret (ins := .ireturn) rfl rfl rfl (ye_reti rfl) ?_
        have el : yq_lim len 40 = lim := by
          unfold yq_lim
          split <;> omega
        have kw : ¬ (rd.1 = true ∧ len ≤ 40) := by
          rintro ⟨g1, g2⟩
          rcases h_33 with ⟨g3, g4⟩ | ⟨g3, g4⟩
          · omega
          · rw [g1] at g4; cases g4
        have ea : yx_a T len v = -1 - rd.2 := by
          unfold yx_a
          rw [if_neg (by omega), el, er, if_neg kw]
        rw [ea]
        exact ⟨rfl, ⟨_, _, _, c_45⟩, o_53⟩
      · skip
        refine z_r_jm (ins := (.ifCond .eq 17)) (len := 3) (t := 43) rfl rfl rfl rfl (ye_in (t := 57) rfl (by omega) (by omega) b_39) ?_
        refine z_r_ld (kk := z_isA) (ins := (.aload_n 0)) (len := 1) (t := 44) (i := 0) rfl rfl rfl rfl rfl (fun _ => rfl) a0 rfl ?_
        refine z_r_rd (ins := (.getfield 12)) (len := 3) (t := 47) rfl rfl rfl rfl rfl (z_gfv (ci := 0) (k := 0) (v := .ref aS) rfl (z_lkn fX c_37) (by decide) x0) ?_
        refine ye_ca (ins := (.invokevirtual 111)) (kd := 1) (t := 50) rfl rfl (by decide) (z_argsv rfl rfl rfl (by omega) (Nat.le_of_ble_eq_true rfl) rfl (Nat.le_of_ble_eq_true rfl) (Nat.le_refl _) (Nat.le_refl _) (Or.inr (Nat.le_of_ble_eq_true rfl)) (Or.inr (z_atv (z_lkn fS c_29) rfl))) rfl rfl rfl (ye_hasMore c_29 fS c_35 fT hx (by omega) (by omega)) ?_
        rintro _ _ ⟨rfl, rfl⟩
        by_cases b_54 : mo ≠ 0
        · skip
          refine z_r_jm (ins := (.ifCond .ne 7)) (len := 3) (t := 57) rfl rfl rfl rfl (ye_iy (t := 57) rfl (by omega) (by omega) b_54) ?_
          refine z_r_pu (ins := (.iconst 0)) (len := 1) (t := 58) (st' := [ye_v 0]) rfl rfl rfl rfl rfl ?_
          refine z_r_is (kk := z_isI) (ins := (.istore_n 2)) (len := 1) (t := 59) (i := 2) rfl rfl rfl rfl rfl rfl rfl rfl (fun l l_55 k_56 => ?_)
          have l_57 := k_56 _ _ a0 (by decide) (Or.inl (by decide))
          have l_58 := k_56 _ _ a1 (by decide) (Or.inr (by show (1 : Nat) ≠ 2; decide))
          refine z_r_ld (kk := z_isA) (ins := (.aload_n 0)) (len := 1) (t := 60) (i := 0) rfl rfl rfl rfl rfl (fun _ => rfl) l_57 rfl ?_
          refine z_r_rd (ins := (.getfield 12)) (len := 3) (t := 63) rfl rfl rfl rfl rfl (z_gfv (ci := 0) (k := 0) (v := .ref aS) rfl (z_lkn fX c_37) (by decide) x0) ?_
          refine ye_cav (ins := (.invokevirtual 115)) (kd := 1) (t := 66) rfl rfl (by decide) (z_argsv rfl rfl rfl (by omega) (Nat.le_of_ble_eq_true rfl) rfl (Nat.le_of_ble_eq_true rfl) (Nat.le_refl _) (Nat.le_refl _) (Or.inr (Nat.le_of_ble_eq_true rfl)) (Or.inr (z_atv (z_lkn fS c_29) rfl))) rfl rfl rfl rfl (ye_clear c_29 fS) ?_
          rintro _ P_59 ⟨c_60, o_61⟩
          have c_62 := ye_kp o_61 (ye_n1 (ye_ne c_31 c_29 (by decide))) c_31
          have c_63 := ye_kp o_61 (ye_n1 (ye_ne c_30 c_29 (by decide))) c_30
          have c_64 := ye_kp o_61 (ye_n1 (ye_ne c_34 c_29 (by decide))) c_34
          have c_65 := ye_kp o_61 (ye_n1 (ye_ne c_35 c_29 (by decide))) c_35
          have c_66 := ye_kp o_61 (ye_n1 (ye_ne c_36 c_29 (by decide))) c_36
          have c_67 := ye_kp o_61 (ye_n1 (ye_ne c_37 c_29 (by decide))) c_37
          have o_68 := ye_oth_tr o_38 o_61 (ye_s1 (List.mem_cons_self))
          refine z_r_ld (kk := z_isI) (ins := (.iload_n 2)) (len := 1) (t := 67) (i := 2) rfl rfl rfl rfl rfl (fun _ => rfl) l_55 rfl ?_
          refine z_r_jm (ins := (.ifCond .ne 11)) (len := 3) (t := 70) rfl rfl rfl rfl (ye_in (t := 78) rfl (by omega) (by omega) (by show ¬ ((0 : Int) ≠ 0); decide)) ?_
          refine z_r_ld (kk := z_isA) (ins := (.aload_n 0)) (len := 1) (t := 71) (i := 0) rfl rfl rfl rfl rfl (fun _ => rfl) l_57 rfl ?_
          refine z_r_rd (ins := (.getfield 12)) (len := 3) (t := 74) rfl rfl rfl rfl rfl (z_gfv (ci := 0) (k := 0) (v := .ref aS) rfl (z_lkn fX c_67) (by decide) x0) ?_
          refine ye_ca (ins := (.invokevirtual 118)) (kd := 1) (t := 77) rfl rfl (by decide) (z_argsv rfl rfl rfl (by omega) (Nat.le_of_ble_eq_true rfl) rfl (Nat.le_of_ble_eq_true rfl) (Nat.le_refl _) (Nat.le_refl _) (Or.inr (Nat.le_of_ble_eq_true rfl)) (Or.inr (z_atv (z_lkn fS c_60) rfl))) rfl rfl rfl (ye_fault0 c_60 fS (by omega)) ?_
          rintro _ _ ⟨rfl, rfl⟩
          refine ye_ret (ins := .ireturn) rfl rfl rfl (ye_reti rfl) ?_
          have el : yq_lim len 40 = lim := by
            unfold yq_lim
            split <;> omega
          have kw : ¬ (rd.1 = true ∧ len ≤ 40) := by
            rintro ⟨g1, g2⟩
            rcases h_33 with ⟨g3, g4⟩ | ⟨g3, g4⟩
            · omega
            · rw [g1] at g4; cases g4
          have ea : yx_a T len v = -1 - rd.2 := by
            unfold yx_a
            rw [if_neg (by omega), el, er, if_neg kw]
          rw [ea]
          exact ⟨rfl, ⟨_, _, _, c_60⟩, o_68⟩
        · skip
          refine z_r_jm (ins := (.ifCond .ne 7)) (len := 3) (t := 53) rfl rfl rfl rfl (ye_in (t := 57) rfl (by omega) (by omega) b_54) ?_
          refine z_r_pu (ins := (.iconst 1)) (len := 1) (t := 54) (st' := [ye_v 1]) rfl rfl rfl rfl rfl ?_
          refine z_r_jm (ins := (.goto 4)) (len := 3) (t := 58) rfl rfl rfl rfl (z_gty rfl) ?_
          refine z_r_is (kk := z_isI) (ins := (.istore_n 2)) (len := 1) (t := 59) (i := 2) rfl rfl rfl rfl rfl rfl rfl rfl (fun l l_69 k_70 => ?_)
          have l_71 := k_70 _ _ a0 (by decide) (Or.inl (by decide))
          have l_72 := k_70 _ _ a1 (by decide) (Or.inr (by show (1 : Nat) ≠ 2; decide))
          refine z_r_ld (kk := z_isA) (ins := (.aload_n 0)) (len := 1) (t := 60) (i := 0) rfl rfl rfl rfl rfl (fun _ => rfl) l_71 rfl ?_
          refine z_r_rd (ins := (.getfield 12)) (len := 3) (t := 63) rfl rfl rfl rfl rfl (z_gfv (ci := 0) (k := 0) (v := .ref aS) rfl (z_lkn fX c_37) (by decide) x0) ?_
          refine ye_cav (ins := (.invokevirtual 115)) (kd := 1) (t := 66) rfl rfl (by decide) (z_argsv rfl rfl rfl (by omega) (Nat.le_of_ble_eq_true rfl) rfl (Nat.le_of_ble_eq_true rfl) (Nat.le_refl _) (Nat.le_refl _) (Or.inr (Nat.le_of_ble_eq_true rfl)) (Or.inr (z_atv (z_lkn fS c_29) rfl))) rfl rfl rfl rfl (ye_clear c_29 fS) ?_
          rintro _ P_73 ⟨c_74, o_75⟩
          have c_76 := ye_kp o_75 (ye_n1 (ye_ne c_31 c_29 (by decide))) c_31
          have c_77 := ye_kp o_75 (ye_n1 (ye_ne c_30 c_29 (by decide))) c_30
          have c_78 := ye_kp o_75 (ye_n1 (ye_ne c_34 c_29 (by decide))) c_34
          have c_79 := ye_kp o_75 (ye_n1 (ye_ne c_35 c_29 (by decide))) c_35
          have c_80 := ye_kp o_75 (ye_n1 (ye_ne c_36 c_29 (by decide))) c_36
          have c_81 := ye_kp o_75 (ye_n1 (ye_ne c_37 c_29 (by decide))) c_37
          have o_82 := ye_oth_tr o_38 o_75 (ye_s1 (List.mem_cons_self))
          refine z_r_ld (kk := z_isI) (ins := (.iload_n 2)) (len := 1) (t := 67) (i := 2) rfl rfl rfl rfl rfl (fun _ => rfl) l_69 rfl ?_
          refine z_r_jm (ins := (.ifCond .ne 11)) (len := 3) (t := 78) rfl rfl rfl rfl (ye_iy (t := 78) rfl (by omega) (by omega) (by show (1 : Int) ≠ 0; decide)) ?_
          refine z_r_ld (kk := z_isA) (ins := (.aload_n 0)) (len := 1) (t := 79) (i := 0) rfl rfl rfl rfl rfl (fun _ => rfl) l_71 rfl ?_
          refine z_r_rd (ins := (.getfield 54)) (len := 3) (t := 82) rfl rfl rfl rfl rfl (z_gfv (ci := 0) (k := 7) (v := .ref aQ) rfl (z_lkn fX c_81) (by decide) x7) ?_
          refine z_r_ld (kk := z_isI) (ins := (.iload_n 1)) (len := 1) (t := 83) (i := 1) rfl rfl rfl rfl rfl (fun _ => rfl) l_72 rfl ?_
          obtain ⟨g, hg⟩ := hug (by omega)
          refine ye_cav (ins := (.invokevirtual 150)) (kd := 1) (t := 86) rfl rfl (by decide) (z_argsv rfl rfl rfl (by omega) (Nat.le_of_ble_eq_true rfl) rfl (Nat.le_of_ble_eq_true rfl) (Nat.le_refl _) (Nat.le_refl _) (Or.inr (Nat.le_of_ble_eq_true rfl)) (Or.inr (z_atv (z_lkn fQ c_78) rfl))) rfl rfl rfl rfl (yg_settle c_78 fQ c_77 c_80 fU hg hul (by omega)) ?_
          rintro _ P_83 o_84
          have c_85 := ye_kp o_84 (ye_nc (ye_ne c_74 c_78 (by decide)) (ye_n1 (ye_ne c_74 c_80 (by decide)))) c_74
          have o_86 := ye_oth_tr o_82 o_84 (fun b hb => by simp at hb ⊢; omega)
          refine z_r_pu (ins := (.iconst 0)) (len := 1) (t := 87) (st' := [ye_v 0]) rfl rfl rfl rfl rfl ?_
          refine ye_ret (ins := .ireturn) rfl rfl rfl (ye_reti rfl) ?_
          have el : yq_lim len 40 = lim := by
            unfold yq_lim
            split <;> omega
          have kw : rd.1 = true := by
            rcases h_33 with ⟨g1, g2⟩ | ⟨g1, g2⟩
            · exact g2
            · exact absurd g1 (by omega)
          have ea : yx_a T len v = 0 := by
            unfold yx_a
            rw [if_neg (by omega), el, er, if_pos ⟨kw, by omega⟩]
          rw [ea]
          exact ⟨rfl, ⟨_, _, _, c_85⟩, o_86⟩
    · skip
      refine z_r_jm (ins := (.if_icmp .le 13)) (len := 3) (t := 9) rfl rfl rfl rfl (ye_jn (t := 19) rfl (by omega) (by omega) (by omega) (by omega) b_12) ?_
      refine z_r_ld (kk := z_isA) (ins := (.aload_n 0)) (len := 1) (t := 10) (i := 0) rfl rfl rfl rfl rfl (fun _ => rfl) a0 rfl ?_
      refine z_r_rd (ins := (.getfield 12)) (len := 3) (t := 13) rfl rfl rfl rfl rfl (z_gfv (ci := 0) (k := 0) (v := .ref aS) rfl (z_lkn fX hX) (by decide) x0) ?_
      refine ye_cav (ins := (.invokevirtual 115)) (kd := 1) (t := 16) rfl rfl (by decide) (z_argsv rfl rfl rfl (by omega) (Nat.le_of_ble_eq_true rfl) rfl (Nat.le_of_ble_eq_true rfl) (Nat.le_refl _) (Nat.le_refl _) (Or.inr (Nat.le_of_ble_eq_true rfl)) (Or.inr (z_atv (z_lkn fS hS) rfl))) rfl rfl rfl rfl (ye_clear hS fS) ?_
      rintro _ P_87 ⟨c_88, o_89⟩
      have c_90 := ye_kp o_89 (ye_n1 (ye_ne hC hS (by decide))) hC
      have c_91 := ye_kp o_89 (ye_n1 (ye_ne hF hS (by decide))) hF
      have c_92 := ye_kp o_89 (ye_n1 (ye_ne hQ hS (by decide))) hQ
      have c_93 := ye_kp o_89 (ye_n1 (ye_ne hT hS (by decide))) hT
      have c_94 := ye_kp o_89 (ye_n1 (ye_ne hU hS (by decide))) hU
      have c_95 := ye_kp o_89 (ye_n1 (ye_ne hX hS (by decide))) hX
      have o_96 := ye_oth_tr ho0 o_89 (ye_s1 (List.mem_cons_self))
      refine z_r_pu (ins := (.bipush (-100))) (len := 2) (t := 18) rfl rfl rfl rfl (ye_bi (by decide) (by decide)) ?_
      refine ye_ret (ins := .ireturn) rfl rfl rfl (ye_reti rfl) ?_
      have ea : yx_a T len v = -100 := if_pos (by omega)
      rw [ea]
      exact ⟨rfl, ⟨_, _, _, c_88⟩, o_96⟩
end YGCA
