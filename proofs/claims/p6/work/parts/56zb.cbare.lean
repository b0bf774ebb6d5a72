/-! A thing of an EXPRESSION, the class, exactly. -/
section YGCB
/-- a method of the class that reads a piece of an EXPRESSION -/
def yg_C (xs : List Int32) (aS aT aF aC aK sA : Nat) (T : Int → Int) (len lim mo : Int) (L : List Int) (vs : List Value) (y m k : Nat) : Prop := ∀ (d : Nat) (P : z_H) (p n dp : Int) (cv : List Value), P[aS]? = some (1, [.ref aT, ye_v len, ye_v p, ye_v lim, ye_v mo]) → P[aT]? = some (102, vs) → P[aF]? = some (8, [.ref aC, .ref aK, ye_v n]) → P[aC]? = some (103, cv) → cv.length = 40 → 0 ≤ p ∧ p ≤ lim → 0 ≤ n ∧ n ≤ p → 0 ≤ dp ∧ dp ≤ 4 → 4 * (lim - p) + (4 - (m : Int)) ≤ (k : Int) → 2 * k + 12 ≤ d → ye_X xs d y [.ref aF, .ref aS, .ref sA, ye_v dp] P (fun r P' => ∃ b n' cv', r = some (ye_v b) ∧ P'[aS]? = some (1, [.ref aT, ye_v len, ye_v (yf T lim L k m dp p).2, ye_v lim, ye_v mo]) ∧ P'[aF]? = some (8, [.ref aC, .ref aK, ye_v n']) ∧ P'[aC]? = some (103, cv') ∧ cv'.length = 40 ∧ ye_oth [aS, aF, aC] P P' ∧ n ≤ n' ∧ n' - n ≤ (yf T lim L k m dp p).2 - p ∧ ((b = 1 ∧ (yf T lim L k m dp p).1 = true) ∨ (b = 0 ∧ (yf T lim L k m dp p).1 = false)))
variable {xs : List Int32} {d aS aT aF aC aK sA sB k : Nat} {P : z_H} {vs cv : List Value} {T : Int → Int} {L : List Int} {len lim mo p n dp c neg i q : Int} {l : z_L} {Ψ : z_S → Prop}
theorem yg_app (hF : P[aF]? = some (8, [.ref aC, .ref aK, ye_v n])) (fF : aF < z_far) (hC : P[aC]? = some (103, cv)) (fC : aC < z_far) (hcl : cv.length = 40)
    (hn : 0 ≤ n ∧ n < 40) (hc : 0 ≤ c ∧ c ≤ 3000) : ye_X xs d 54 [.ref aF, ye_v c] P (fun r P' => r = some (ye_v 1) ∧ P'[aF]? = some (8, [.ref aC, .ref aK, ye_v (n + 1)]) ∧ (∃ cv', P'[aC]? = some (103, cv') ∧ cv'.length = 40) ∧ ye_oth [aF, aC] P P') := by
  refine ye_go ?_
  have a0 : z_get (lv_args 0 [.ref aF, ye_v c]) 0 = some (.ref aF) := rfl
  have a1 : z_get (lv_args 0 [.ref aF, ye_v c]) 1 = some (ye_v c) := rfl
  have ho0 : ye_oth [aF, aC] P P := ye_oth_rf
  refine z_r_ld (kk := z_isA) (ins := (.aload_n 0)) (len := 1) (t := 1) (i := 0) rfl rfl rfl rfl rfl (fun _ => rfl) a0 rfl ?_
  refine z_r_rd (ins := (.getfield 18)) (len := 3) (t := 4) rfl rfl rfl rfl rfl (z_gfv (ci := 8) (k := 2) (v := ye_v n) rfl (z_lkn fF hF) (by decide) rfl) ?_
  refine z_r_ld (kk := z_isA) (ins := (.aload_n 0)) (len := 1) (t := 5) (i := 0) rfl rfl rfl rfl rfl (fun _ => rfl) a0 rfl ?_
  refine z_r_rd (ins := (.getfield 9)) (len := 3) (t := 8) rfl rfl rfl rfl rfl (z_gfv (ci := 8) (k := 0) (v := .ref aC) rfl (z_lkn fF hF) (by decide) rfl) ?_
  refine z_r_rd (ins := .arraylength) (len := 1) (t := 9) rfl rfl rfl rfl rfl (ye_len (n := 40) (z_lkn fC hC) (Nat.le_of_ble_eq_true rfl) (Nat.le_of_ble_eq_true rfl) (by omega)) ?_
  refine z_r_jm (ins := (.if_icmp .lt 5)) (len := 3) (t := 14) rfl rfl rfl rfl (ye_jy (t := 14) rfl (by omega) (by omega) (by omega) (by omega) (by show n < 40; omega)) ?_
  refine z_r_ld (kk := z_isA) (ins := (.aload_n 0)) (len := 1) (t := 15) (i := 0) rfl rfl rfl rfl rfl (fun _ => rfl) a0 rfl ?_
  refine z_r_rd (ins := (.getfield 9)) (len := 3) (t := 18) rfl rfl rfl rfl rfl (z_gfv (ci := 8) (k := 0) (v := .ref aC) rfl (z_lkn fF hF) (by decide) rfl) ?_
  refine z_r_ld (kk := z_isA) (ins := (.aload_n 0)) (len := 1) (t := 19) (i := 0) rfl rfl rfl rfl rfl (fun _ => rfl) a0 rfl ?_
  refine z_r_rd (ins := (.getfield 18)) (len := 3) (t := 22) rfl rfl rfl rfl rfl (z_gfv (ci := 8) (k := 2) (v := ye_v n) rfl (z_lkn fF hF) (by decide) rfl) ?_
  refine z_r_ld (kk := z_isI) (ins := (.iload_n 1)) (len := 1) (t := 23) (i := 1) rfl rfl rfl rfl rfl (fun _ => rfl) a1 rfl ?_
  refine ye_r_wr (ins := .iastore) (len := 1) (t := 24) (a := aC) (q := (103, cv.set (n).toNat (ye_v c))) rfl rfl rfl rfl rfl hC (ye_as (t := 103) (nf := fun x => x) (p := n) (e := c) (e' := c) hC (by omega) (by omega) (by omega) rfl) (fun P_1 c_2 o_3 => ?_)
  have c_4 := ye_kp o_3 (ye_n1 (ye_ne hF hC (by decide))) hF
  have o_5 := ye_oth_tr ho0 o_3 (ye_s1 (List.mem_cons_of_mem _ (List.mem_cons_self)))
  refine z_r_ld (kk := z_isA) (ins := (.aload_n 0)) (len := 1) (t := 25) (i := 0) rfl rfl rfl rfl rfl (fun _ => rfl) a0 rfl ?_
  refine z_r_pu (ins := .dup) (len := 1) (t := 26) rfl rfl rfl rfl rfl ?_
  refine z_r_rd (ins := (.getfield 18)) (len := 3) (t := 29) rfl rfl rfl rfl rfl (z_gfv (ci := 8) (k := 2) (v := ye_v n) rfl (z_lkn fF c_4) (by decide) rfl) ?_
  refine z_r_pu (ins := (.iconst 1)) (len := 1) (t := 30) (st' := [ye_v 1, ye_v n, .ref aF]) rfl rfl rfl rfl rfl ?_
  refine z_r_pu (ins := .iadd) (len := 1) (t := 31) rfl rfl rfl rfl ye_add ?_
  refine ye_r_wr (ins := (.putfield 18)) (len := 3) (t := 34) (a := aF) (q := (8, [.ref aC, .ref aK, ye_v (n + 1)])) rfl rfl rfl rfl rfl c_4 (z_pfv (ci := 8) (k := 2) rfl c_4 (by decide) (Nat.le_of_ble_eq_true rfl) rfl rfl rfl) (fun P_6 c_7 o_8 => ?_)
  have c_9 := ye_kp o_8 (ye_n1 (ye_ne c_2 c_4 (by decide))) c_2
  have o_10 := ye_oth_tr o_5 o_8 (ye_s1 (List.mem_cons_self))
  refine z_r_pu (ins := (.iconst 1)) (len := 1) (t := 35) (st' := [ye_v 1]) rfl rfl rfl rfl rfl ?_
  refine ye_ret (ins := .ireturn) rfl rfl rfl (ye_retz rfl (by omega)) ?_
  exact ⟨rfl, c_7, ⟨_, c_9, by rw [List.length_set]; exact hcl⟩, o_10⟩
set_option maxHeartbeats 8000000 in
theorem yg_bare (fS : aS < z_far) (fT : aT < z_far) (fF : aF < z_far) (fC : aC < z_far) (hx : ye_tx T len 0 255 vs) (hbl : lim ≤ len ∧ len ≤ 80 ∧ lim ≤ 40) (hA : ∀ P, z_lk (z_strs (z_G xs)) P sA = some (98, [.ref sB, ye_v 0])) (hB : ∀ P, z_lk (z_strs (z_G xs)) P sB = some (101, L.map ye_v)) (hL : ∀ a ∈ L, 0 ≤ a ∧ a < 128) (hLl : L.length ≤ 100) (hLp : 1 ≤ L.length) (hL4 : yi_fr L 40 0 = -1)
    (H0 : yg_C xs aS aT aF aC aK sA T len lim mo L vs 49 0 k)
    (hS : P[aS]? = some (1, [.ref aT, ye_v len, ye_v p, ye_v lim, ye_v mo])) (hT : P[aT]? = some (102, vs)) (hF : P[aF]? = some (8, [.ref aC, .ref aK, ye_v n])) (hC : P[aC]? = some (103, cv)) (hcl : cv.length = 40) (hp : 0 ≤ p ∧ p ≤ lim) (hn : 0 ≤ n ∧ n ≤ p) (hdp : 0 ≤ dp ∧ dp ≤ 4)
    (hk : 4 * (lim - p) ≤ (k : Int)) (hd : 2 * k + 13 ≤ d) : ye_X xs d 53 [.ref aF, .ref aS, .ref sA, ye_v dp] P (fun r P' => ∃ b n' cv', r = some (ye_v b) ∧ P'[aS]? = some (1, [.ref aT, ye_v len, ye_v (yg_b T lim L k dp p).2, ye_v lim, ye_v mo]) ∧ P'[aF]? = some (8, [.ref aC, .ref aK, ye_v n']) ∧ P'[aC]? = some (103, cv') ∧ cv'.length = 40 ∧ ye_oth [aS, aF, aC] P P' ∧ n ≤ n' ∧ n' - n ≤ (yg_b T lim L k dp p).2 - p ∧ ((b = 1 ∧ (yg_b T lim L k dp p).1 = true) ∨ (b = 0 ∧ (yg_b T lim L k dp p).1 = false))) := by
  refine ye_go ?_
  have a0 : z_get (lv_args 0 [.ref aF, .ref aS, .ref sA, ye_v dp]) 0 = some (.ref aF) := rfl
  have a1 : z_get (lv_args 0 [.ref aF, .ref aS, .ref sA, ye_v dp]) 1 = some (.ref aS) := rfl
  have a2 : z_get (lv_args 0 [.ref aF, .ref aS, .ref sA, ye_v dp]) 2 = some (.ref sA) := rfl
  have a3 : z_get (lv_args 0 [.ref aF, .ref aS, .ref sA, ye_v dp]) 3 = some (ye_v dp) := rfl
  have ho0 : ye_oth [aS, aF, aC] P P := ye_oth_rf
  refine z_r_ld (kk := z_isA) (ins := (.aload_n 1)) (len := 1) (t := 1) (i := 1) rfl rfl rfl rfl rfl (fun _ => rfl) a1 rfl ?_
  refine z_r_pu (ins := (.bipush 40)) (len := 2) (t := 3) rfl rfl rfl rfl (ye_bi (by decide) (by decide)) ?_
  refine ye_ca (ins := (.invokevirtual 62)) (kd := 1) (t := 6) rfl rfl (by decide) (z_argsv rfl rfl rfl (by omega) (Nat.le_of_ble_eq_true rfl) rfl (Nat.le_of_ble_eq_true rfl) (Nat.le_refl _) (Nat.le_refl _) (Or.inr (Nat.le_of_ble_eq_true rfl)) (Or.inr (z_atv (z_lkn fS hS) rfl))) rfl rfl rfl (ye_isNext hS fS hT fT hx (by omega) (by omega)) ?_
  rintro _ _ ⟨rfl, b_1, rfl, h_2⟩
  unfold ye_nx at h_2
  by_cases b_3 : b_1 = 0
  · skip
    refine z_r_jm (ins := (.ifCond .eq 44)) (len := 3) (t := 50) rfl rfl rfl rfl (ye_iy (t := 50) rfl (by omega) (by omega) b_3) ?_
    refine z_r_ld (kk := z_isA) (ins := (.aload_n 1)) (len := 1) (t := 51) (i := 1) rfl rfl rfl rfl rfl (fun _ => rfl) a1 rfl ?_
    refine z_r_ld (kk := z_isA) (ins := (.aload_n 2)) (len := 1) (t := 52) (i := 2) rfl rfl rfl rfl rfl (fun _ => rfl) a2 rfl ?_
    refine ye_ca (ins := (.invokevirtual 37)) (kd := 1) (t := 55) rfl rfl (by decide) (z_argsv rfl rfl rfl (by omega) (Nat.le_of_ble_eq_true rfl) rfl (Nat.le_of_ble_eq_true rfl) (Nat.le_refl _) (Nat.le_refl _) (Or.inr (Nat.le_of_ble_eq_true rfl)) (Or.inr (z_atv (z_lkn fS hS) rfl))) rfl rfl rfl (ye_take1 (L := L) hS fS hT fT hx (by omega) (hA _) (hB _) hL hLl hLp (by omega)) ?_
    rintro _ P_6 ⟨k_4, p_5, rfl, c_7, o_8, h_9, h_10⟩
    change k_4 = yl T lim L p at h_9
    have yb_k_4 := yl_bd (T := T) (lim := lim) (LL := L) (r := p)
    have c_11 := ye_kp o_8 (ye_n1 (ye_ne hC hS (by decide))) hC
    have c_12 := ye_kp o_8 (ye_n1 (ye_ne hF hS (by decide))) hF
    have c_13 := ye_kp o_8 (ye_n1 (ye_ne hT hS (by decide))) hT
    have o_14 := ye_oth_tr ho0 o_8 (ye_s1 (List.mem_cons_self))
    refine z_r_is (kk := z_isI) (ins := (.istore 4)) (len := 2) (t := 57) (i := 4) rfl rfl rfl rfl rfl rfl rfl rfl (fun l l_15 k_16 => ?_)
    have l_17 := k_16 _ _ a0 (by decide) (Or.inl (by decide))
    have l_18 := k_16 _ _ a1 (by decide) (Or.inl (by decide))
    have l_19 := k_16 _ _ a2 (by decide) (Or.inl (by decide))
    have l_20 := k_16 _ _ a3 (by decide) (Or.inr (by show (1 : Nat) ≠ 2; decide))
    refine z_r_ld (kk := z_isI) (ins := (.iload 4)) (len := 2) (t := 59) (i := 4) rfl rfl rfl rfl rfl (fun _ => rfl) l_15 rfl ?_
    refine z_r_pu (ins := (.iconst (-1))) (len := 1) (t := 60) (st' := [ye_v ((-1)), ye_v k_4]) rfl rfl rfl rfl rfl ?_
    by_cases b_21 : k_4 = (-1)
    · skip
      refine z_r_jm (ins := (.if_icmp .eq 14)) (len := 3) (t := 74) rfl rfl rfl rfl (ye_jy (t := 74) rfl (by omega) (by omega) (by omega) (by omega) b_21) ?_
      refine z_r_ld (kk := z_isA) (ins := (.aload_n 1)) (len := 1) (t := 75) (i := 1) rfl rfl rfl rfl rfl (fun _ => rfl) l_18 rfl ?_
      refine z_r_pu (ins := (.iconst 3)) (len := 1) (t := 76) (st' := [ye_v 3, .ref aS]) rfl rfl rfl rfl rfl ?_
      refine z_r_pu (ins := (.iconst 0)) (len := 1) (t := 77) (st' := [ye_v 0, ye_v 3, .ref aS]) rfl rfl rfl rfl rfl ?_
      refine z_r_pu (ins := (.sipush 999)) (len := 3) (t := 80) rfl rfl rfl rfl (ye_si (by decide) (by decide)) ?_
      refine ye_ca (ins := (.invokevirtual 65)) (kd := 1) (t := 83) rfl rfl (by decide) (z_argsv rfl rfl rfl (by omega) (Nat.le_of_ble_eq_true rfl) rfl (Nat.le_of_ble_eq_true rfl) (Nat.le_refl _) (Nat.le_refl _) (Or.inr (Nat.le_of_ble_eq_true rfl)) (Or.inr (z_atv (z_lkn fS c_7) rfl))) rfl rfl rfl (ye_number (k := 3) c_7 fS c_13 fT hx (by omega) (by omega) (by decide) (by decide) (by decide) (by omega)) ?_
      rintro _ P_25 ⟨v_22, rfl, c_23, o_24, n_26⟩
      have bdn1 := yq_num_bd (T := T) (lim := lim) (p := p_5) (lo := 0) (hi := 999) (k := 3) (by decide) (by omega)
      generalize en1 : yq_num T lim 3 0 999 (p_5) = n1 at bdn1 n_26 c_23
      have c_27 := ye_kp o_24 (ye_n1 (ye_ne c_11 c_7 (by decide))) c_11
      have c_28 := ye_kp o_24 (ye_n1 (ye_ne c_12 c_7 (by decide))) c_12
      have c_29 := ye_kp o_24 (ye_n1 (ye_ne c_13 c_7 (by decide))) c_13
      have o_30 := ye_oth_tr o_14 o_24 (ye_s1 (List.mem_cons_self))
      refine z_r_is (kk := z_isI) (ins := (.istore 5)) (len := 2) (t := 85) (i := 5) rfl rfl rfl rfl rfl rfl rfl rfl (fun l l_31 k_32 => ?_)
      have l_33 := k_32 _ _ l_17 (by decide) (Or.inl (by decide))
      have l_34 := k_32 _ _ l_18 (by decide) (Or.inl (by decide))
      have l_35 := k_32 _ _ l_19 (by decide) (Or.inl (by decide))
      have l_36 := k_32 _ _ l_20 (by decide) (Or.inl (by decide))
      have l_37 := k_32 _ _ l_15 (by decide) (Or.inr (by show (1 : Nat) ≠ 2; decide))
      refine z_r_ld (kk := z_isI) (ins := (.iload 5)) (len := 2) (t := 87) (i := 5) rfl rfl rfl rfl rfl (fun _ => rfl) l_31 rfl ?_
      refine z_r_pu (ins := (.iconst (-1))) (len := 1) (t := 88) (st' := [ye_v ((-1)), ye_v v_22]) rfl rfl rfl rfl rfl ?_
      by_cases b_38 : v_22 = (-1)
      · skip
        refine z_r_jm (ins := (.if_icmp .eq 16)) (len := 3) (t := 104) rfl rfl rfl rfl (ye_jy (t := 104) rfl (by omega) (by omega) (by omega) (by omega) b_38) ?_
        refine z_r_pu (ins := (.iconst 0)) (len := 1) (t := 105) (st' := [ye_v 0]) rfl rfl rfl rfl rfl ?_
        refine ye_ret (ins := .ireturn) rfl rfl rfl (ye_retz rfl (by omega)) ?_
        have eN : yq_num T lim 3 0 999 p = n1 := by rw [← en1, show p = p_5 by omega]
        have hk0 : yl T lim L p = -1 := by omega
        have q1 : n1.1 = false := by
          rcases n_26 with ⟨g1, g2, g3⟩ | ⟨g1, g2⟩
          · exact absurd g2 (by omega)
          · exact g1
        have hn40 : ¬ ((p < lim ∧ T p = 40) ∧ dp < 4) := by omega
        have eL : yg_b T lim L k dp p = (false, n1.2.1) := by
          unfold yg_b
          rw [if_neg hn40, if_neg (by omega), eN, q1]
        rw [eL]
        exact ⟨0, n, _, rfl, c_23, c_28, c_27, hcl, o_30, by omega, by show n - n ≤ n1.2.1 - p; omega, Or.inr ⟨by omega, rfl⟩⟩
      · skip
        refine z_r_jm (ins := (.if_icmp .eq 16)) (len := 3) (t := 91) rfl rfl rfl rfl (ye_jn (t := 104) rfl (by omega) (by omega) (by omega) (by omega) b_38) ?_
        refine z_r_ld (kk := z_isA) (ins := (.aload_n 0)) (len := 1) (t := 92) (i := 0) rfl rfl rfl rfl rfl (fun _ => rfl) l_33 rfl ?_
        refine z_r_ld (kk := z_isI) (ins := (.iload 5)) (len := 2) (t := 94) (i := 5) rfl rfl rfl rfl rfl (fun _ => rfl) l_31 rfl ?_
        have q9 : n1.1 = true := by
          rcases n_26 with ⟨g1, g2, g3⟩ | ⟨g1, g2⟩
          · exact g1
          · exact absurd g2 (by omega)
        have q8 := bdn1.2.2.2.1 q9
        refine ye_ca (ins := (.invokevirtual 41)) (kd := 1) (t := 97) rfl rfl (by decide) (z_argsv rfl rfl rfl (by omega) (Nat.le_of_ble_eq_true rfl) rfl (Nat.le_of_ble_eq_true rfl) (Nat.le_refl _) (Nat.le_refl _) (Or.inr (Nat.le_of_ble_eq_true rfl)) (Or.inr (z_atv (z_lkn fF c_28) rfl))) rfl rfl rfl (yg_app c_28 fF c_27 fC hcl (by omega) (by omega)) ?_
        rintro _ P_39 ⟨rfl, c_40, ⟨w_41, c_42, h_43⟩, o_44⟩
        have c_45 := ye_kp o_44 (ye_nc (ye_ne c_23 c_28 (by decide)) (ye_n1 (ye_ne c_23 c_27 (by decide)))) c_23
        have c_46 := ye_kp o_44 (ye_nc (ye_ne c_29 c_28 (by decide)) (ye_n1 (ye_ne c_29 c_27 (by decide)))) c_29
        have o_47 := ye_oth_tr o_30 o_44 (ye_s2 (List.mem_cons_of_mem _ (List.mem_cons_self)) (List.mem_cons_of_mem _ (List.mem_cons_of_mem _ (List.mem_cons_self))))
        refine z_r_jm (ins := (.ifCond .eq 7)) (len := 3) (t := 100) rfl rfl rfl rfl (ye_in (t := 104) rfl (by omega) (by omega) (by show ¬ ((1 : Int) = 0); decide)) ?_
        refine z_r_pu (ins := (.iconst 1)) (len := 1) (t := 101) (st' := [ye_v 1]) rfl rfl rfl rfl rfl ?_
        refine z_r_jm (ins := (.goto 4)) (len := 3) (t := 105) rfl rfl rfl rfl (z_gty rfl) ?_
        refine ye_ret (ins := .ireturn) rfl rfl rfl (ye_retz rfl (by omega)) ?_
        have eN : yq_num T lim 3 0 999 p = n1 := by rw [← en1, show p = p_5 by omega]
        have hk0 : yl T lim L p = -1 := by omega
        have q1 : n1.1 = true := by
          rcases n_26 with ⟨g1, g2, g3⟩ | ⟨g1, g2⟩
          · exact g1
          · exact absurd g2 (by omega)
        have hn40 : ¬ ((p < lim ∧ T p = 40) ∧ dp < 4) := by omega
        have eL : yg_b T lim L k dp p = (true, n1.2.1) := by
          unfold yg_b
          rw [if_neg hn40, if_neg (by omega), eN, q1]
        rw [eL]
        exact ⟨1, n + 1, _, rfl, c_45, c_40, c_42, h_43, o_47, by omega, by show n + 1 - n ≤ n1.2.1 - p; omega, Or.inl ⟨by omega, rfl⟩⟩
    · skip
      refine z_r_jm (ins := (.if_icmp .eq 14)) (len := 3) (t := 63) rfl rfl rfl rfl (ye_jn (t := 74) rfl (by omega) (by omega) (by omega) (by omega) b_21) ?_
      refine z_r_ld (kk := z_isA) (ins := (.aload_n 0)) (len := 1) (t := 64) (i := 0) rfl rfl rfl rfl rfl (fun _ => rfl) l_17 rfl ?_
      refine z_r_pu (ins := (.sipush 1000)) (len := 3) (t := 67) rfl rfl rfl rfl (ye_si (by decide) (by decide)) ?_
      refine z_r_ld (kk := z_isI) (ins := (.iload 4)) (len := 2) (t := 69) (i := 4) rfl rfl rfl rfl rfl (fun _ => rfl) l_15 rfl ?_
      refine z_r_pu (ins := .iadd) (len := 1) (t := 70) rfl rfl rfl rfl ye_add ?_
      refine ye_ca (ins := (.invokevirtual 41)) (kd := 1) (t := 73) rfl rfl (by decide) (z_argsv rfl rfl rfl (by omega) (Nat.le_of_ble_eq_true rfl) rfl (Nat.le_of_ble_eq_true rfl) (Nat.le_refl _) (Nat.le_refl _) (Or.inr (Nat.le_of_ble_eq_true rfl)) (Or.inr (z_atv (z_lkn fF c_12) rfl))) rfl rfl rfl (yg_app c_12 fF c_11 fC hcl (by omega) (by omega)) ?_
      rintro _ P_48 ⟨rfl, c_49, ⟨w_50, c_51, h_52⟩, o_53⟩
      have c_54 := ye_kp o_53 (ye_nc (ye_ne c_7 c_12 (by decide)) (ye_n1 (ye_ne c_7 c_11 (by decide)))) c_7
      have c_55 := ye_kp o_53 (ye_nc (ye_ne c_13 c_12 (by decide)) (ye_n1 (ye_ne c_13 c_11 (by decide)))) c_13
      have o_56 := ye_oth_tr o_14 o_53 (ye_s2 (List.mem_cons_of_mem _ (List.mem_cons_self)) (List.mem_cons_of_mem _ (List.mem_cons_of_mem _ (List.mem_cons_self))))
      refine ye_ret (ins := .ireturn) rfl rfl rfl (ye_retz rfl (by omega)) ?_
      have hn40 : ¬ ((p < lim ∧ T p = 40) ∧ dp < 4) := by omega
      have eL : yg_b T lim L k dp p = (true, p + 1) := by
        unfold yg_b
        rw [if_neg hn40, if_pos (by omega)]
      have ep : p_5 = p + 1 := by omega
      rw [ep] at c_54
      rw [eL]
      exact ⟨1, n + 1, _, rfl, c_54, c_49, c_51, h_52, o_56, by omega, by show n + 1 - n ≤ p + 1 - p; omega, Or.inl ⟨by omega, rfl⟩⟩
  · skip
    refine z_r_jm (ins := (.ifCond .eq 44)) (len := 3) (t := 9) rfl rfl rfl rfl (ye_in (t := 50) rfl (by omega) (by omega) b_3) ?_
    refine z_r_ld (kk := z_isI) (ins := (.iload_n 3)) (len := 1) (t := 10) (i := 3) rfl rfl rfl rfl rfl (fun _ => rfl) a3 rfl ?_
    refine z_r_pu (ins := (.iconst 4)) (len := 1) (t := 11) (st' := [ye_v 4, ye_v dp]) rfl rfl rfl rfl rfl ?_
    by_cases b_57 : 4 ≤ dp
    · skip
      refine z_r_jm (ins := (.if_icmp .ge 37)) (len := 3) (t := 48) rfl rfl rfl rfl (ye_jy (t := 48) rfl (by omega) (by omega) (by omega) (by omega) b_57) ?_
      refine z_r_pu (ins := (.iconst 0)) (len := 1) (t := 49) (st' := [ye_v 0]) rfl rfl rfl rfl rfl ?_
      refine ye_ret (ins := .ireturn) rfl rfl rfl (ye_retz rfl (by omega)) ?_
      have hl40 : yl T lim L p = -1 := by
        unfold yl
        rw [if_pos (by omega), show T p = 40 by omega]
        exact hL4
      have eN : yq_num T lim 3 0 999 p = (false, p, 0) := yq_num_nd (by omega)
      have eL : yg_b T lim L k dp p = (false, p) := by
        unfold yg_b
        rw [if_neg (by omega), if_neg (by omega), eN]
      rw [eL]
      exact ⟨0, n, _, rfl, hS, hF, hC, hcl, ho0, by omega, by show n - n ≤ p - p; omega, Or.inr ⟨by omega, rfl⟩⟩
    · skip
      refine z_r_jm (ins := (.if_icmp .ge 37)) (len := 3) (t := 14) rfl rfl rfl rfl (ye_jn (t := 48) rfl (by omega) (by omega) (by omega) (by omega) b_57) ?_
      refine z_r_ld (kk := z_isA) (ins := (.aload_n 1)) (len := 1) (t := 15) (i := 1) rfl rfl rfl rfl rfl (fun _ => rfl) a1 rfl ?_
      refine z_r_pu (ins := (.bipush 40)) (len := 2) (t := 17) rfl rfl rfl rfl (ye_bi (by decide) (by decide)) ?_
      refine ye_ca (ins := (.invokevirtual 55)) (kd := 1) (t := 20) rfl rfl (by decide) (z_argsv rfl rfl rfl (by omega) (Nat.le_of_ble_eq_true rfl) rfl (Nat.le_of_ble_eq_true rfl) (Nat.le_refl _) (Nat.le_refl _) (Or.inr (Nat.le_of_ble_eq_true rfl)) (Or.inr (z_atv (z_lkn fS hS) rfl))) rfl rfl rfl (ye_take hS fS hT fT hx (by omega) (by omega) (by omega)) ?_
      rintro _ P_60 ⟨bt_58, p_59, rfl, c_61, o_62, ht_63⟩
      unfold ye_tk at ht_63
      have c_64 := ye_kp o_62 (ye_n1 (ye_ne hC hS (by decide))) hC
      have c_65 := ye_kp o_62 (ye_n1 (ye_ne hF hS (by decide))) hF
      have c_66 := ye_kp o_62 (ye_n1 (ye_ne hT hS (by decide))) hT
      have o_67 := ye_oth_tr ho0 o_62 (ye_s1 (List.mem_cons_self))
      refine z_r_jm (ins := (.ifCond .eq 28)) (len := 3) (t := 23) rfl rfl rfl rfl (ye_in (t := 48) rfl (by omega) (by omega) (by show ¬ (bt_58 = 0); omega)) ?_
      refine z_r_ld (kk := z_isA) (ins := (.aload_n 0)) (len := 1) (t := 24) (i := 0) rfl rfl rfl rfl rfl (fun _ => rfl) a0 rfl ?_
      refine z_r_ld (kk := z_isA) (ins := (.aload_n 1)) (len := 1) (t := 25) (i := 1) rfl rfl rfl rfl rfl (fun _ => rfl) a1 rfl ?_
      refine z_r_ld (kk := z_isA) (ins := (.aload_n 2)) (len := 1) (t := 26) (i := 2) rfl rfl rfl rfl rfl (fun _ => rfl) a2 rfl ?_
      refine z_r_ld (kk := z_isI) (ins := (.iload_n 3)) (len := 1) (t := 27) (i := 3) rfl rfl rfl rfl rfl (fun _ => rfl) a3 rfl ?_
      refine z_r_pu (ins := (.iconst 1)) (len := 1) (t := 28) (st' := [ye_v 1, ye_v dp, .ref sA, .ref aS, .ref aF]) rfl rfl rfl rfl rfl ?_
      refine z_r_pu (ins := .iadd) (len := 1) (t := 29) rfl rfl rfl rfl ye_add ?_
      refine ye_ca (ins := (.invokevirtual 28)) (kd := 1) (t := 32) rfl rfl (by decide) (z_argsv rfl rfl rfl (by omega) (Nat.le_of_ble_eq_true rfl) rfl (Nat.le_of_ble_eq_true rfl) (Nat.le_refl _) (Nat.le_refl _) (Or.inr (Nat.le_of_ble_eq_true rfl)) (Or.inr (z_atv (z_lkn fF c_65) rfl))) rfl rfl rfl (H0 _ _ _ _ _ _ c_61 c_66 c_65 c_64 hcl (by omega) (by omega) (by omega) (by omega) (by omega)) ?_
      rintro _ P_68 ⟨b_69, n_70, w_71, rfl, c_72, c_73, c_74, h_75, o_76, i_77, i_78, h_79⟩
      have d_80 := yf_bd (T := T) (L := L) (lim := lim) k 0 (dp + 1) p_59 (by omega)
      generalize er_81 : yf T lim L k 0 (dp + 1) p_59 = r_81 at c_72 i_78 h_79 d_80
      have c_82 := ye_kp o_76 (ye_nc (ye_ne c_66 c_61 (by decide)) (ye_nc (ye_ne c_66 c_65 (by decide)) (ye_n1 (ye_ne c_66 c_64 (by decide))))) c_66
      have o_83 := ye_oth_tr o_67 o_76 ((fun b hb => by simp only [List.mem_cons, List.not_mem_nil, or_false] at hb ⊢; (repeat (rcases hb with h | hb; · simp [h])); simp [hb]))
      by_cases b_84 : b_69 = 0
      · skip
        refine z_r_jm (ins := (.ifCond .eq 16)) (len := 3) (t := 48) rfl rfl rfl rfl (ye_iy (t := 48) rfl (by omega) (by omega) b_84) ?_
        refine z_r_pu (ins := (.iconst 0)) (len := 1) (t := 49) (st' := [ye_v 0]) rfl rfl rfl rfl rfl ?_
        refine ye_ret (ins := .ireturn) rfl rfl rfl (ye_retz rfl (by omega)) ?_
        have eq0 : yf T lim L k 0 (dp + 1) (p + 1) = r_81 := by rw [← er_81, show p + 1 = p_59 by omega]
        have q1 : r_81.1 = false := by
          rcases h_79 with ⟨g1, g2⟩ | ⟨g1, g2⟩
          · exact absurd g1 (by omega)
          · exact g2
        have eL : yg_b T lim L k dp p = (false, r_81.2) := by
          unfold yg_b
          rw [if_pos ⟨by omega, by omega⟩, eq0, if_neg (by rw [q1]; decide)]
        rw [eL]
        exact ⟨0, n_70, _, rfl, c_72, c_73, c_74, h_75, o_83, by omega, by show n_70 - n ≤ r_81.2 - p; omega, Or.inr ⟨by omega, rfl⟩⟩
      · skip
        refine z_r_jm (ins := (.ifCond .eq 16)) (len := 3) (t := 35) rfl rfl rfl rfl (ye_in (t := 48) rfl (by omega) (by omega) b_84) ?_
        refine z_r_ld (kk := z_isA) (ins := (.aload_n 1)) (len := 1) (t := 36) (i := 1) rfl rfl rfl rfl rfl (fun _ => rfl) a1 rfl ?_
        refine z_r_pu (ins := (.bipush 41)) (len := 2) (t := 38) rfl rfl rfl rfl (ye_bi (by decide) (by decide)) ?_
        refine ye_ca (ins := (.invokevirtual 55)) (kd := 1) (t := 41) rfl rfl (by decide) (z_argsv rfl rfl rfl (by omega) (Nat.le_of_ble_eq_true rfl) rfl (Nat.le_of_ble_eq_true rfl) (Nat.le_refl _) (Nat.le_refl _) (Or.inr (Nat.le_of_ble_eq_true rfl)) (Or.inr (z_atv (z_lkn fS c_72) rfl))) rfl rfl rfl (ye_take c_72 fS c_82 fT hx (by omega) (by omega) (by omega)) ?_
        rintro _ P_87 ⟨bt_85, p_86, rfl, c_88, o_89, ht_90⟩
        unfold ye_tk at ht_90
        have c_91 := ye_kp o_89 (ye_n1 (ye_ne c_74 c_72 (by decide))) c_74
        have c_92 := ye_kp o_89 (ye_n1 (ye_ne c_73 c_72 (by decide))) c_73
        have c_93 := ye_kp o_89 (ye_n1 (ye_ne c_82 c_72 (by decide))) c_82
        have o_94 := ye_oth_tr o_83 o_89 (ye_s1 (List.mem_cons_self))
        by_cases b_95 : bt_85 = 0
        · skip
          refine z_r_jm (ins := (.ifCond .eq 7)) (len := 3) (t := 48) rfl rfl rfl rfl (ye_iy (t := 48) rfl (by omega) (by omega) b_95) ?_
          refine z_r_pu (ins := (.iconst 0)) (len := 1) (t := 49) (st' := [ye_v 0]) rfl rfl rfl rfl rfl ?_
          refine ye_ret (ins := .ireturn) rfl rfl rfl (ye_retz rfl (by omega)) ?_
          have eq0 : yf T lim L k 0 (dp + 1) (p + 1) = r_81 := by rw [← er_81, show p + 1 = p_59 by omega]
          have q1 : r_81.1 = true := by
            rcases h_79 with ⟨g1, g2⟩ | ⟨g1, g2⟩
            · exact g2
            · exact absurd g1 (by omega)
          have eL : yg_b T lim L k dp p = (false, r_81.2) := by
            unfold yg_b
            rw [if_pos ⟨by omega, by omega⟩, eq0, if_pos q1, if_neg (by omega)]
          have ep : p_86 = r_81.2 := by omega
          rw [ep] at c_88
          rw [eL]
          exact ⟨0, n_70, _, rfl, c_88, c_92, c_91, h_75, o_94, by omega, by show n_70 - n ≤ r_81.2 - p; omega, Or.inr ⟨by omega, rfl⟩⟩
        · skip
          refine z_r_jm (ins := (.ifCond .eq 7)) (len := 3) (t := 44) rfl rfl rfl rfl (ye_in (t := 48) rfl (by omega) (by omega) b_95) ?_
          refine z_r_pu (ins := (.iconst 1)) (len := 1) (t := 45) (st' := [ye_v 1]) rfl rfl rfl rfl rfl ?_
          refine z_r_jm (ins := (.goto 4)) (len := 3) (t := 49) rfl rfl rfl rfl (z_gty rfl) ?_
          refine ye_ret (ins := .ireturn) rfl rfl rfl (ye_retz rfl (by omega)) ?_
          have eq0 : yf T lim L k 0 (dp + 1) (p + 1) = r_81 := by rw [← er_81, show p + 1 = p_59 by omega]
          have q1 : r_81.1 = true := by
            rcases h_79 with ⟨g1, g2⟩ | ⟨g1, g2⟩
            · exact g2
            · exact absurd g1 (by omega)
          have eL : yg_b T lim L k dp p = (true, r_81.2 + 1) := by
            unfold yg_b
            rw [if_pos ⟨by omega, by omega⟩, eq0, if_pos q1, if_pos ⟨by omega, by omega⟩]
          have ep : p_86 = r_81.2 + 1 := by omega
          rw [ep] at c_88
          rw [eL]
          exact ⟨1, n_70, _, rfl, c_88, c_92, c_91, h_75, o_94, by omega, by show n_70 - n ≤ r_81.2 + 1 - p; omega, Or.inl ⟨by omega, rfl⟩⟩
end YGCB
