/-! A thing and its signs, the class, exactly. -/
section YGCT
variable {xs : List Int32} {d aS aT aF aC aK sA sB k K : Nat} {P : z_H} {vs cv : List Value} {T : Int → Int} {L : List Int} {len lim mo p n dp c neg i q : Int} {l : z_L} {Ψ : z_S → Prop}
theorem yg_rh_mono {G : z_Pg} {d x : Nat} {Ψ Ψ' : z_S → Prop} {q : z_S} (h : z_Rh G d x Ψ q) (k : ∀ q', Ψ q' → Ψ' q') : z_Rh G d x Ψ' q := by
  obtain ⟨q', h1, h2⟩ := h
  exact ⟨q', h1, k q' h2⟩
theorem yg_thI (fS : aS < z_far) (fT : aT < z_far) (fF : aF < z_far) (fC : aC < z_far) (hx : ye_tx T len 0 255 vs) (hbl : lim ≤ len ∧ len ≤ 80 ∧ lim ≤ 40) (hA : ∀ P, z_lk (z_strs (z_G xs)) P sA = some (98, [.ref sB, ye_v 0])) (hB : ∀ P, z_lk (z_strs (z_G xs)) P sB = some (101, L.map ye_v)) (hL : ∀ a ∈ L, 0 ≤ a ∧ a < 128) (hLl : L.length ≤ 100) (hLp : 1 ≤ L.length) (hL4 : yi_fr L 40 0 = -1)
    (hS : P[aS]? = some (1, [.ref aT, ye_v len, ye_v q, ye_v lim, ye_v mo])) (hT : P[aT]? = some (102, vs)) (hF : P[aF]? = some (8, [.ref aC, .ref aK, ye_v n])) (hC : P[aC]? = some (103, cv)) (hcl : cv.length = 40) (hp : 0 ≤ q ∧ q ≤ lim)
    (h0 : z_get l 0 = some (.ref aF)) (h1 : z_get l 1 = some (.ref aS)) (h2 : z_get l 2 = some (.ref sA)) (h3 : z_get l 3 = some (ye_v dp)) (h4 : z_get l 4 = some (ye_v neg)) (h5 : z_get l 5 = some (ye_v i)) (hng : neg = 0 ∨ neg = 1) (hi : 0 ≤ i ∧ i ≤ q) (hq : q < lim ∧ T q = 45) (hd : 4 ≤ d)
    (kk : ∀ l P' neg', (neg' = 0 ∨ neg' = 1) → z_get l 0 = some (.ref aF) → z_get l 1 = some (.ref aS) → z_get l 2 = some (.ref sA) → z_get l 3 = some (ye_v dp) → z_get l 4 = some (ye_v neg') → z_get l 5 = some (ye_v (i + 1)) → P'[aS]? = some (1, [.ref aT, ye_v len, ye_v (q + 1), ye_v lim, ye_v mo]) → P'[aT]? = some (102, vs) → P'[aF]? = some (8, [.ref aC, .ref aK, ye_v n]) → P'[aC]? = some (103, cv) → ye_oth [aS] P P' → z_Rh (z_G xs) d 52 Ψ (6, l, [], P', 0, 0)) : z_Rh (z_G xs) d 52 Ψ (6, l, [], P, 0, 0) := by
  have ho0 : ye_oth [aS] P P := ye_oth_rf
  refine z_r_ld (kk := z_isI) (ins := (.iload 5)) (len := 2) (t := 8) (i := 5) rfl rfl rfl rfl rfl (fun _ => rfl) h5 rfl ?_
  refine z_r_pu (ins := (.bipush 40)) (len := 2) (t := 10) rfl rfl rfl rfl (ye_bi (by decide) (by decide)) ?_
  refine z_r_jm (ins := (.if_icmp .ge 30)) (len := 3) (t := 13) rfl rfl rfl rfl (ye_jn (t := 40) rfl (by omega) (by omega) (by omega) (by omega) (by show ¬ (40 ≤ i); omega)) ?_
  refine z_r_ld (kk := z_isA) (ins := (.aload_n 1)) (len := 1) (t := 14) (i := 1) rfl rfl rfl rfl rfl (fun _ => rfl) h1 rfl ?_
  refine z_r_pu (ins := (.bipush 45)) (len := 2) (t := 16) rfl rfl rfl rfl (ye_bi (by decide) (by decide)) ?_
  refine ye_ca (ins := (.invokevirtual 55)) (kd := 1) (t := 19) rfl rfl (by decide) (z_argsv rfl rfl rfl (by omega) (Nat.le_of_ble_eq_true rfl) rfl (Nat.le_of_ble_eq_true rfl) (Nat.le_refl _) (Nat.le_refl _) (Or.inr (Nat.le_of_ble_eq_true rfl)) (Or.inr (z_atv (z_lkn fS hS) rfl))) rfl rfl rfl (ye_take hS fS hT fT hx (by omega) (by omega) (by omega)) ?_
  rintro _ P_3 ⟨bt_1, p_2, rfl, c_4, o_5, ht_6⟩
  unfold ye_tk at ht_6
  have c_7 := ye_kp o_5 (ye_n1 (ye_ne hC hS (by decide))) hC
  have c_8 := ye_kp o_5 (ye_n1 (ye_ne hF hS (by decide))) hF
  have c_9 := ye_kp o_5 (ye_n1 (ye_ne hT hS (by decide))) hT
  have o_10 := ye_oth_tr ho0 o_5 (ye_s1 (List.mem_cons_self))
  refine z_r_jm (ins := (.ifCond .eq 21)) (len := 3) (t := 22) rfl rfl rfl rfl (ye_in (t := 40) rfl (by omega) (by omega) (by show ¬ (bt_1 = 0); omega)) ?_
  refine z_r_ld (kk := z_isI) (ins := (.iload 4)) (len := 2) (t := 24) (i := 4) rfl rfl rfl rfl rfl (fun _ => rfl) h4 rfl ?_
  by_cases b_11 : neg ≠ 0
  · skip
    refine z_r_jm (ins := (.ifCond .ne 7)) (len := 3) (t := 31) rfl rfl rfl rfl (ye_iy (t := 31) rfl (by omega) (by omega) b_11) ?_
    refine z_r_pu (ins := (.iconst 0)) (len := 1) (t := 32) (st' := [ye_v 0]) rfl rfl rfl rfl rfl ?_
    refine z_r_is (kk := z_isI) (ins := (.istore 4)) (len := 2) (t := 34) (i := 4) rfl rfl rfl rfl rfl rfl rfl rfl (fun l l_12 k_13 => ?_)
    have l_14 := k_13 _ _ h0 (by decide) (Or.inl (by decide))
    have l_15 := k_13 _ _ h1 (by decide) (Or.inl (by decide))
    have l_16 := k_13 _ _ h2 (by decide) (Or.inl (by decide))
    have l_17 := k_13 _ _ h3 (by decide) (Or.inr (by show (1 : Nat) ≠ 2; decide))
    have l_18 := k_13 _ _ h5 (by decide) (Or.inl (by decide))
    refine ye_ic (ins := (.iinc 5 1)) (len := 3) (t := 37) (i := 5) (a := i) (kk := 1) rfl rfl rfl rfl rfl rfl l_18 (fun l l_19 k_20 => ?_)
    have l_21 := k_20 _ _ l_14 (by decide) (Or.inl (by decide))
    have l_22 := k_20 _ _ l_15 (by decide) (Or.inl (by decide))
    have l_23 := k_20 _ _ l_16 (by decide) (Or.inl (by decide))
    have l_24 := k_20 _ _ l_17 (by decide) (Or.inl (by decide))
    have l_25 := k_20 _ _ l_12 (by decide) (Or.inr (by show (1 : Nat) ≠ 2; decide))
    refine z_r_jm (ins := (.goto (-31))) (len := 3) (t := 6) rfl rfl rfl rfl (z_gty rfl) ?_
    have ep : p_2 = q + 1 := by omega
    rw [ep] at c_4
    exact kk _ _ _ (by omega) l_21 l_22 l_23 l_24 l_25 l_19 c_4 c_9 c_8 c_7 o_10
  · skip
    refine z_r_jm (ins := (.ifCond .ne 7)) (len := 3) (t := 27) rfl rfl rfl rfl (ye_in (t := 31) rfl (by omega) (by omega) b_11) ?_
    refine z_r_pu (ins := (.iconst 1)) (len := 1) (t := 28) (st' := [ye_v 1]) rfl rfl rfl rfl rfl ?_
    refine z_r_jm (ins := (.goto 4)) (len := 3) (t := 32) rfl rfl rfl rfl (z_gty rfl) ?_
    refine z_r_is (kk := z_isI) (ins := (.istore 4)) (len := 2) (t := 34) (i := 4) rfl rfl rfl rfl rfl rfl rfl rfl (fun l l_26 k_27 => ?_)
    have l_28 := k_27 _ _ h0 (by decide) (Or.inl (by decide))
    have l_29 := k_27 _ _ h1 (by decide) (Or.inl (by decide))
    have l_30 := k_27 _ _ h2 (by decide) (Or.inl (by decide))
    have l_31 := k_27 _ _ h3 (by decide) (Or.inr (by show (1 : Nat) ≠ 2; decide))
    have l_32 := k_27 _ _ h5 (by decide) (Or.inl (by decide))
    refine ye_ic (ins := (.iinc 5 1)) (len := 3) (t := 37) (i := 5) (a := i) (kk := 1) rfl rfl rfl rfl rfl rfl l_32 (fun l l_33 k_34 => ?_)
    have l_35 := k_34 _ _ l_28 (by decide) (Or.inl (by decide))
    have l_36 := k_34 _ _ l_29 (by decide) (Or.inl (by decide))
    have l_37 := k_34 _ _ l_30 (by decide) (Or.inl (by decide))
    have l_38 := k_34 _ _ l_31 (by decide) (Or.inl (by decide))
    have l_39 := k_34 _ _ l_26 (by decide) (Or.inr (by show (1 : Nat) ≠ 2; decide))
    refine z_r_jm (ins := (.goto (-31))) (len := 3) (t := 6) rfl rfl rfl rfl (z_gty rfl) ?_
    have ep : p_2 = q + 1 := by omega
    rw [ep] at c_4
    exact kk _ _ _ (by omega) l_35 l_36 l_37 l_38 l_39 l_33 c_4 c_9 c_8 c_7 o_10
theorem yg_thE {P0 : z_H} (fS : aS < z_far) (fT : aT < z_far) (fF : aF < z_far) (fC : aC < z_far) (hx : ye_tx T len 0 255 vs) (hbl : lim ≤ len ∧ len ≤ 80 ∧ lim ≤ 40) (hA : ∀ P, z_lk (z_strs (z_G xs)) P sA = some (98, [.ref sB, ye_v 0])) (hB : ∀ P, z_lk (z_strs (z_G xs)) P sB = some (101, L.map ye_v)) (hL : ∀ a ∈ L, 0 ≤ a ∧ a < 128) (hLl : L.length ≤ 100) (hLp : 1 ≤ L.length) (hL4 : yi_fr L 40 0 = -1)
    (H0 : yg_C xs aS aT aF aC aK sA T len lim mo L vs 49 0 k)
    (hS : P[aS]? = some (1, [.ref aT, ye_v len, ye_v q, ye_v lim, ye_v mo])) (hT : P[aT]? = some (102, vs)) (hF : P[aF]? = some (8, [.ref aC, .ref aK, ye_v n])) (hC : P[aC]? = some (103, cv)) (hcl : cv.length = 40) (hp : 0 ≤ q ∧ q ≤ lim)
    (h0 : z_get l 0 = some (.ref aF)) (h1 : z_get l 1 = some (.ref aS)) (h2 : z_get l 2 = some (.ref sA)) (h3 : z_get l 3 = some (ye_v dp)) (h4 : z_get l 4 = some (ye_v neg)) (h5 : z_get l 5 = some (ye_v i)) (hng : neg = 0 ∨ neg = 1) (hi : 0 ≤ i ∧ i ≤ q) (hn : 0 ≤ n ∧ n + neg ≤ q) (hdp : 0 ≤ dp ∧ dp ≤ 4) (hq : ¬ (q < lim ∧ T q = 45)) (hk : 4 * (lim - q) ≤ (k : Int)) (hd : 2 * k + 14 ≤ d) (hP0 : ye_oth [aS, aF, aC] P0 P) : z_Rh (z_G xs) d 52 (ye_E xs d 52 (fun r P' => ∃ b n' cv', r = some (ye_v b) ∧ P'[aS]? = some (1, [.ref aT, ye_v len, ye_v (yg_b T lim L k dp q).2, ye_v lim, ye_v mo]) ∧ P'[aF]? = some (8, [.ref aC, .ref aK, ye_v n']) ∧ P'[aC]? = some (103, cv') ∧ cv'.length = 40 ∧ ye_oth [aS, aF, aC] P0 P' ∧ n ≤ n' ∧ n' - n ≤ (yg_b T lim L k dp q).2 - q + neg ∧ ((b = 1 ∧ (yg_b T lim L k dp q).1 = true) ∨ (b = 0 ∧ (yg_b T lim L k dp q).1 = false)))) (6, l, [], P, 0, 0) := by
  have ho0 : ye_oth [aS, aF, aC] P P := ye_oth_rf
  have bb : q ≤ (yg_b T lim L k dp q).2 ∧ (yg_b T lim L k dp q).2 ≤ lim := by
    have g := yf_bd (T := T) (L := L) (lim := lim) (k + 1) 3 dp q (by omega)
    rw [yf_3, if_neg hq] at g
    exact ⟨g.1, g.2.1⟩
  refine z_r_ld (kk := z_isI) (ins := (.iload 5)) (len := 2) (t := 8) (i := 5) rfl rfl rfl rfl rfl (fun _ => rfl) h5 rfl ?_
  refine z_r_pu (ins := (.bipush 40)) (len := 2) (t := 10) rfl rfl rfl rfl (ye_bi (by decide) (by decide)) ?_
  by_cases b_1 : 40 ≤ i
  · skip
    refine z_r_jm (ins := (.if_icmp .ge 30)) (len := 3) (t := 40) rfl rfl rfl rfl (ye_jy (t := 40) rfl (by omega) (by omega) (by omega) (by omega) b_1) ?_
    refine z_r_ld (kk := z_isA) (ins := (.aload_n 0)) (len := 1) (t := 41) (i := 0) rfl rfl rfl rfl rfl (fun _ => rfl) h0 rfl ?_
    refine z_r_ld (kk := z_isA) (ins := (.aload_n 1)) (len := 1) (t := 42) (i := 1) rfl rfl rfl rfl rfl (fun _ => rfl) h1 rfl ?_
    refine z_r_ld (kk := z_isA) (ins := (.aload_n 2)) (len := 1) (t := 43) (i := 2) rfl rfl rfl rfl rfl (fun _ => rfl) h2 rfl ?_
    refine z_r_ld (kk := z_isI) (ins := (.iload_n 3)) (len := 1) (t := 44) (i := 3) rfl rfl rfl rfl rfl (fun _ => rfl) h3 rfl ?_
    refine ye_ca (ins := (.invokevirtual 59)) (kd := 1) (t := 47) rfl rfl (by decide) (z_argsv rfl rfl rfl (by omega) (Nat.le_of_ble_eq_true rfl) rfl (Nat.le_of_ble_eq_true rfl) (Nat.le_refl _) (Nat.le_refl _) (Or.inr (Nat.le_of_ble_eq_true rfl)) (Or.inr (z_atv (z_lkn fF hF) rfl))) rfl rfl rfl (yg_bare (k := k) fS fT fF fC hx hbl hA hB hL hLl hLp hL4 H0 hS hT hF hC hcl (by omega) (by omega) (by omega) (by omega) (by omega)) ?_
    rintro _ P_2 ⟨b_3, n_4, w_5, rfl, c_6, c_7, c_8, h_9, o_10, i_11, i_12, h_13⟩
    have eq0 : yg_b T lim L k dp q = yg_b T lim L k dp q := by rw [show q = q by omega]
    rw [eq0] at c_6 i_12 h_13
    generalize er : yg_b T lim L k dp q = r at c_6 i_12 h_13 bb ⊢
    have c_14 := ye_kp o_10 (ye_nc (ye_ne hT hS (by decide)) (ye_nc (ye_ne hT hF (by decide)) (ye_n1 (ye_ne hT hC (by decide))))) hT
    have o_15 := ye_oth_tr ho0 o_10 ((fun b hb => by simp only [List.mem_cons, List.not_mem_nil, or_false] at hb ⊢; (repeat (rcases hb with h | hb; · simp [h])); simp [hb]))
    by_cases b_16 : b_3 = 0
    · skip
      refine z_r_jm (ins := (.ifCond .eq 22)) (len := 3) (t := 69) rfl rfl rfl rfl (ye_iy (t := 69) rfl (by omega) (by omega) b_16) ?_
      refine z_r_pu (ins := (.iconst 0)) (len := 1) (t := 70) (st' := [ye_v 0]) rfl rfl rfl rfl rfl ?_
      refine ye_ret (ins := .ireturn) rfl rfl rfl (ye_retz rfl (by omega)) ?_
      have q1 : r.1 = false := by
        rcases h_13 with ⟨g1, g2⟩ | ⟨g1, g2⟩
        · exact absurd g1 (by omega)
        · exact g2
      exact ⟨0, n_4, _, rfl, c_6, c_7, c_8, h_9, ye_oth_tr hP0 o_15 (fun _ q => q), by omega, by omega, Or.inr ⟨rfl, q1⟩⟩
    · skip
      refine z_r_jm (ins := (.ifCond .eq 22)) (len := 3) (t := 50) rfl rfl rfl rfl (ye_in (t := 69) rfl (by omega) (by omega) b_16) ?_
      refine z_r_ld (kk := z_isI) (ins := (.iload 4)) (len := 2) (t := 52) (i := 4) rfl rfl rfl rfl rfl (fun _ => rfl) h4 rfl ?_
      by_cases b_17 : neg = 0
      · skip
        refine z_r_jm (ins := (.ifCond .eq 13)) (len := 3) (t := 65) rfl rfl rfl rfl (ye_iy (t := 65) rfl (by omega) (by omega) b_17) ?_
        refine z_r_pu (ins := (.iconst 1)) (len := 1) (t := 66) (st' := [ye_v 1]) rfl rfl rfl rfl rfl ?_
        refine z_r_jm (ins := (.goto 4)) (len := 3) (t := 70) rfl rfl rfl rfl (z_gty rfl) ?_
        refine ye_ret (ins := .ireturn) rfl rfl rfl (ye_retz rfl (by omega)) ?_
        have q1 : r.1 = true := by
          rcases h_13 with ⟨g1, g2⟩ | ⟨g1, g2⟩
          · exact g2
          · exact absurd g1 (by omega)
        exact ⟨1, n_4, _, rfl, c_6, c_7, c_8, h_9, ye_oth_tr hP0 o_15 (fun _ q => q), by omega, by omega, Or.inl ⟨rfl, q1⟩⟩
      · skip
        refine z_r_jm (ins := (.ifCond .eq 13)) (len := 3) (t := 55) rfl rfl rfl rfl (ye_in (t := 65) rfl (by omega) (by omega) b_17) ?_
        refine z_r_ld (kk := z_isA) (ins := (.aload_n 0)) (len := 1) (t := 56) (i := 0) rfl rfl rfl rfl rfl (fun _ => rfl) h0 rfl ?_
        refine z_r_pu (ins := (.sipush 2007)) (len := 3) (t := 59) rfl rfl rfl rfl (ye_si (by decide) (by decide)) ?_
        refine ye_ca (ins := (.invokevirtual 41)) (kd := 1) (t := 62) rfl rfl (by decide) (z_argsv rfl rfl rfl (by omega) (Nat.le_of_ble_eq_true rfl) rfl (Nat.le_of_ble_eq_true rfl) (Nat.le_refl _) (Nat.le_refl _) (Or.inr (Nat.le_of_ble_eq_true rfl)) (Or.inr (z_atv (z_lkn fF c_7) rfl))) rfl rfl rfl (yg_app c_7 fF c_8 fC h_9 (by omega) (by omega)) ?_
        rintro _ P_18 ⟨rfl, c_19, ⟨w_20, c_21, h_22⟩, o_23⟩
        have c_24 := ye_kp o_23 (ye_nc (ye_ne c_6 c_7 (by decide)) (ye_n1 (ye_ne c_6 c_8 (by decide)))) c_6
        have c_25 := ye_kp o_23 (ye_nc (ye_ne c_14 c_7 (by decide)) (ye_n1 (ye_ne c_14 c_8 (by decide)))) c_14
        have o_26 := ye_oth_tr o_15 o_23 (ye_s2 (List.mem_cons_of_mem _ (List.mem_cons_self)) (List.mem_cons_of_mem _ (List.mem_cons_of_mem _ (List.mem_cons_self))))
        refine z_r_jm (ins := (.ifCond .eq 7)) (len := 3) (t := 65) rfl rfl rfl rfl (ye_in (t := 69) rfl (by omega) (by omega) (by show ¬ ((1 : Int) = 0); decide)) ?_
        refine z_r_pu (ins := (.iconst 1)) (len := 1) (t := 66) (st' := [ye_v 1]) rfl rfl rfl rfl rfl ?_
        refine z_r_jm (ins := (.goto 4)) (len := 3) (t := 70) rfl rfl rfl rfl (z_gty rfl) ?_
        refine ye_ret (ins := .ireturn) rfl rfl rfl (ye_retz rfl (by omega)) ?_
        have q1 : r.1 = true := by
          rcases h_13 with ⟨g1, g2⟩ | ⟨g1, g2⟩
          · exact g2
          · exact absurd g1 (by omega)
        exact ⟨1, n_4 + 1, _, rfl, c_24, c_19, c_21, h_22, ye_oth_tr hP0 o_26 (fun _ q => q), by omega, by omega, Or.inl ⟨rfl, q1⟩⟩
  · skip
    refine z_r_jm (ins := (.if_icmp .ge 30)) (len := 3) (t := 13) rfl rfl rfl rfl (ye_jn (t := 40) rfl (by omega) (by omega) (by omega) (by omega) b_1) ?_
    refine z_r_ld (kk := z_isA) (ins := (.aload_n 1)) (len := 1) (t := 14) (i := 1) rfl rfl rfl rfl rfl (fun _ => rfl) h1 rfl ?_
    refine z_r_pu (ins := (.bipush 45)) (len := 2) (t := 16) rfl rfl rfl rfl (ye_bi (by decide) (by decide)) ?_
    refine ye_ca (ins := (.invokevirtual 55)) (kd := 1) (t := 19) rfl rfl (by decide) (z_argsv rfl rfl rfl (by omega) (Nat.le_of_ble_eq_true rfl) rfl (Nat.le_of_ble_eq_true rfl) (Nat.le_refl _) (Nat.le_refl _) (Or.inr (Nat.le_of_ble_eq_true rfl)) (Or.inr (z_atv (z_lkn fS hS) rfl))) rfl rfl rfl (ye_take hS fS hT fT hx (by omega) (by omega) (by omega)) ?_
    rintro _ P_29 ⟨bt_27, p_28, rfl, c_30, o_31, ht_32⟩
    unfold ye_tk at ht_32
    have c_33 := ye_kp o_31 (ye_n1 (ye_ne hC hS (by decide))) hC
    have c_34 := ye_kp o_31 (ye_n1 (ye_ne hF hS (by decide))) hF
    have c_35 := ye_kp o_31 (ye_n1 (ye_ne hT hS (by decide))) hT
    have o_36 := ye_oth_tr ho0 o_31 (ye_s1 (List.mem_cons_self))
    refine z_r_jm (ins := (.ifCond .eq 21)) (len := 3) (t := 40) rfl rfl rfl rfl (ye_iy (t := 40) rfl (by omega) (by omega) (by show bt_27 = 0; omega)) ?_
    refine z_r_ld (kk := z_isA) (ins := (.aload_n 0)) (len := 1) (t := 41) (i := 0) rfl rfl rfl rfl rfl (fun _ => rfl) h0 rfl ?_
    refine z_r_ld (kk := z_isA) (ins := (.aload_n 1)) (len := 1) (t := 42) (i := 1) rfl rfl rfl rfl rfl (fun _ => rfl) h1 rfl ?_
    refine z_r_ld (kk := z_isA) (ins := (.aload_n 2)) (len := 1) (t := 43) (i := 2) rfl rfl rfl rfl rfl (fun _ => rfl) h2 rfl ?_
    refine z_r_ld (kk := z_isI) (ins := (.iload_n 3)) (len := 1) (t := 44) (i := 3) rfl rfl rfl rfl rfl (fun _ => rfl) h3 rfl ?_
    refine ye_ca (ins := (.invokevirtual 59)) (kd := 1) (t := 47) rfl rfl (by decide) (z_argsv rfl rfl rfl (by omega) (Nat.le_of_ble_eq_true rfl) rfl (Nat.le_of_ble_eq_true rfl) (Nat.le_refl _) (Nat.le_refl _) (Or.inr (Nat.le_of_ble_eq_true rfl)) (Or.inr (z_atv (z_lkn fF c_34) rfl))) rfl rfl rfl (yg_bare (k := k) fS fT fF fC hx hbl hA hB hL hLl hLp hL4 H0 c_30 c_35 c_34 c_33 hcl (by omega) (by omega) (by omega) (by omega) (by omega)) ?_
    rintro _ P_37 ⟨b_38, n_39, w_40, rfl, c_41, c_42, c_43, h_44, o_45, i_46, i_47, h_48⟩
    have eq0 : yg_b T lim L k dp p_28 = yg_b T lim L k dp q := by rw [show p_28 = q by omega]
    rw [eq0] at c_41 i_47 h_48
    generalize er : yg_b T lim L k dp q = r at c_41 i_47 h_48 bb ⊢
    have c_49 := ye_kp o_45 (ye_nc (ye_ne c_35 c_30 (by decide)) (ye_nc (ye_ne c_35 c_34 (by decide)) (ye_n1 (ye_ne c_35 c_33 (by decide))))) c_35
    have o_50 := ye_oth_tr o_36 o_45 ((fun b hb => by simp only [List.mem_cons, List.not_mem_nil, or_false] at hb ⊢; (repeat (rcases hb with h | hb; · simp [h])); simp [hb]))
    by_cases b_51 : b_38 = 0
    · skip
      refine z_r_jm (ins := (.ifCond .eq 22)) (len := 3) (t := 69) rfl rfl rfl rfl (ye_iy (t := 69) rfl (by omega) (by omega) b_51) ?_
      refine z_r_pu (ins := (.iconst 0)) (len := 1) (t := 70) (st' := [ye_v 0]) rfl rfl rfl rfl rfl ?_
      refine ye_ret (ins := .ireturn) rfl rfl rfl (ye_retz rfl (by omega)) ?_
      have q1 : r.1 = false := by
        rcases h_48 with ⟨g1, g2⟩ | ⟨g1, g2⟩
        · exact absurd g1 (by omega)
        · exact g2
      exact ⟨0, n_39, _, rfl, c_41, c_42, c_43, h_44, ye_oth_tr hP0 o_50 (fun _ q => q), by omega, by omega, Or.inr ⟨rfl, q1⟩⟩
    · skip
      refine z_r_jm (ins := (.ifCond .eq 22)) (len := 3) (t := 50) rfl rfl rfl rfl (ye_in (t := 69) rfl (by omega) (by omega) b_51) ?_
      refine z_r_ld (kk := z_isI) (ins := (.iload 4)) (len := 2) (t := 52) (i := 4) rfl rfl rfl rfl rfl (fun _ => rfl) h4 rfl ?_
      by_cases b_52 : neg = 0
      · skip
        refine z_r_jm (ins := (.ifCond .eq 13)) (len := 3) (t := 65) rfl rfl rfl rfl (ye_iy (t := 65) rfl (by omega) (by omega) b_52) ?_
        refine z_r_pu (ins := (.iconst 1)) (len := 1) (t := 66) (st' := [ye_v 1]) rfl rfl rfl rfl rfl ?_
        refine z_r_jm (ins := (.goto 4)) (len := 3) (t := 70) rfl rfl rfl rfl (z_gty rfl) ?_
        refine ye_ret (ins := .ireturn) rfl rfl rfl (ye_retz rfl (by omega)) ?_
        have q1 : r.1 = true := by
          rcases h_48 with ⟨g1, g2⟩ | ⟨g1, g2⟩
          · exact g2
          · exact absurd g1 (by omega)
        exact ⟨1, n_39, _, rfl, c_41, c_42, c_43, h_44, ye_oth_tr hP0 o_50 (fun _ q => q), by omega, by omega, Or.inl ⟨rfl, q1⟩⟩
      · skip
        refine z_r_jm (ins := (.ifCond .eq 13)) (len := 3) (t := 55) rfl rfl rfl rfl (ye_in (t := 65) rfl (by omega) (by omega) b_52) ?_
        refine z_r_ld (kk := z_isA) (ins := (.aload_n 0)) (len := 1) (t := 56) (i := 0) rfl rfl rfl rfl rfl (fun _ => rfl) h0 rfl ?_
        refine z_r_pu (ins := (.sipush 2007)) (len := 3) (t := 59) rfl rfl rfl rfl (ye_si (by decide) (by decide)) ?_
        refine ye_ca (ins := (.invokevirtual 41)) (kd := 1) (t := 62) rfl rfl (by decide) (z_argsv rfl rfl rfl (by omega) (Nat.le_of_ble_eq_true rfl) rfl (Nat.le_of_ble_eq_true rfl) (Nat.le_refl _) (Nat.le_refl _) (Or.inr (Nat.le_of_ble_eq_true rfl)) (Or.inr (z_atv (z_lkn fF c_42) rfl))) rfl rfl rfl (yg_app c_42 fF c_43 fC h_44 (by omega) (by omega)) ?_
        rintro _ P_53 ⟨rfl, c_54, ⟨w_55, c_56, h_57⟩, o_58⟩
        have c_59 := ye_kp o_58 (ye_nc (ye_ne c_41 c_42 (by decide)) (ye_n1 (ye_ne c_41 c_43 (by decide)))) c_41
        have c_60 := ye_kp o_58 (ye_nc (ye_ne c_49 c_42 (by decide)) (ye_n1 (ye_ne c_49 c_43 (by decide)))) c_49
        have o_61 := ye_oth_tr o_50 o_58 (ye_s2 (List.mem_cons_of_mem _ (List.mem_cons_self)) (List.mem_cons_of_mem _ (List.mem_cons_of_mem _ (List.mem_cons_self))))
        refine z_r_jm (ins := (.ifCond .eq 7)) (len := 3) (t := 65) rfl rfl rfl rfl (ye_in (t := 69) rfl (by omega) (by omega) (by show ¬ ((1 : Int) = 0); decide)) ?_
        refine z_r_pu (ins := (.iconst 1)) (len := 1) (t := 66) (st' := [ye_v 1]) rfl rfl rfl rfl rfl ?_
        refine z_r_jm (ins := (.goto 4)) (len := 3) (t := 70) rfl rfl rfl rfl (z_gty rfl) ?_
        refine ye_ret (ins := .ireturn) rfl rfl rfl (ye_retz rfl (by omega)) ?_
        have q1 : r.1 = true := by
          rcases h_48 with ⟨g1, g2⟩ | ⟨g1, g2⟩
          · exact g2
          · exact absurd g1 (by omega)
        exact ⟨1, n_39 + 1, _, rfl, c_59, c_54, c_56, h_57, ye_oth_tr hP0 o_61 (fun _ q => q), by omega, by omega, Or.inl ⟨rfl, q1⟩⟩
theorem yg_thL {P0 : z_H} (fS : aS < z_far) (fT : aT < z_far) (fF : aF < z_far) (fC : aC < z_far) (hx : ye_tx T len 0 255 vs) (hbl : lim ≤ len ∧ len ≤ 80 ∧ lim ≤ 40) (hA : ∀ P, z_lk (z_strs (z_G xs)) P sA = some (98, [.ref sB, ye_v 0])) (hB : ∀ P, z_lk (z_strs (z_G xs)) P sB = some (101, L.map ye_v)) (hL : ∀ a ∈ L, 0 ≤ a ∧ a < 128) (hLl : L.length ≤ 100) (hLp : 1 ≤ L.length) (hL4 : yi_fr L 40 0 = -1) (HH : ∀ j, j < K → yg_C xs aS aT aF aC aK sA T len lim mo L vs 49 0 j) (hdp : 0 ≤ dp ∧ dp ≤ 4) : ∀ (k : Nat), k ≤ K → ∀ {neg i q n : Int} {l : z_L} {P : z_H} {cv : List Value}, P[aS]? = some (1, [.ref aT, ye_v len, ye_v q, ye_v lim, ye_v mo]) → P[aT]? = some (102, vs) → P[aF]? = some (8, [.ref aC, .ref aK, ye_v n]) → P[aC]? = some (103, cv) → cv.length = 40 → 0 ≤ q ∧ q ≤ lim → z_get l 0 = some (.ref aF) → z_get l 1 = some (.ref aS) → z_get l 2 = some (.ref sA) → z_get l 3 = some (ye_v dp) → z_get l 4 = some (ye_v neg) → z_get l 5 = some (ye_v i) → (neg = 0 ∨ neg = 1) → 0 ≤ i ∧ i ≤ q → 0 ≤ n ∧ n + neg ≤ q → 4 * (lim - q) + 1 ≤ (k : Int) → 2 * k + 12 ≤ d → ye_oth [aS, aF, aC] P0 P → z_Rh (z_G xs) d 52 (ye_E xs d 52 (fun r P' => ∃ b n' cv', r = some (ye_v b) ∧ P'[aS]? = some (1, [.ref aT, ye_v len, ye_v (yf T lim L k 3 dp q).2, ye_v lim, ye_v mo]) ∧ P'[aF]? = some (8, [.ref aC, .ref aK, ye_v n']) ∧ P'[aC]? = some (103, cv') ∧ cv'.length = 40 ∧ ye_oth [aS, aF, aC] P0 P' ∧ n ≤ n' ∧ n' - n ≤ (yf T lim L k 3 dp q).2 - q + neg ∧ ((b = 1 ∧ (yf T lim L k 3 dp q).1 = true) ∨ (b = 0 ∧ (yf T lim L k 3 dp q).1 = false)))) (6, l, [], P, 0, 0) := by
  intro k
  induction k with
  | zero => intro hK neg i q n l P cv hS hT hF hC hcl hp h0 h1 h2 h3 h4 h5 hng hi hn hk; omega
  | succ k ih =>
    intro hK neg i q n l P cv hS hT hF hC hcl hp h0 h1 h2 h3 h4 h5 hng hi hn hk hd hP0
    rw [yf_3]
    by_cases hq : q < lim ∧ T q = 45
    · rw [if_pos hq]
      refine yg_thI fS fT fF fC hx hbl hA hB hL hLl hLp hL4 hS hT hF hC hcl hp h0 h1 h2 h3 h4 h5 hng hi hq (by omega) ?_
      intro l P' neg' hng' g0 g1 g2 g3 g4 g5 hS' hT' hF' hC' ho'
      have := ih (by omega) (n := n) hS' hT' hF' hC' hcl ⟨by omega, by omega⟩ g0 g1 g2 g3 g4 g5 hng' ⟨by omega, by omega⟩ ⟨by omega, by omega⟩ (by omega) (by omega) (ye_oth_tr hP0 ho' (ye_s1 List.mem_cons_self))
      refine yg_rh_mono this ?_
      rintro q' ⟨r, P2, k1, b, n', cv', k2, k3, k4, k5, k6, k7, k8, k9, k10⟩
      exact ⟨r, P2, k1, b, n', cv', k2, k3, k4, k5, k6, k7, k8, by omega, k10⟩
    · rw [if_neg hq]
      exact yg_thE fS fT fF fC hx hbl hA hB hL hLl hLp hL4 (HH k (by omega)) hS hT hF hC hcl hp h0 h1 h2 h3 h4 h5 hng hi hn hdp hq (by omega) (by omega) hP0
theorem yg_thing (fS : aS < z_far) (fT : aT < z_far) (fF : aF < z_far) (fC : aC < z_far) (hx : ye_tx T len 0 255 vs) (hbl : lim ≤ len ∧ len ≤ 80 ∧ lim ≤ 40) (hA : ∀ P, z_lk (z_strs (z_G xs)) P sA = some (98, [.ref sB, ye_v 0])) (hB : ∀ P, z_lk (z_strs (z_G xs)) P sB = some (101, L.map ye_v)) (hL : ∀ a ∈ L, 0 ≤ a ∧ a < 128) (hLl : L.length ≤ 100) (hLp : 1 ≤ L.length) (hL4 : yi_fr L 40 0 = -1) (HH : ∀ j, j < K → yg_C xs aS aT aF aC aK sA T len lim mo L vs 49 0 j) : yg_C xs aS aT aF aC aK sA T len lim mo L vs 52 3 K := by
  intro d P p n dp cv hS hT hF hC hcl hp hn hdp hk hd
  refine ye_go ?_
  have a0 : z_get (lv_args 0 [.ref aF, .ref aS, .ref sA, ye_v dp]) 0 = some (.ref aF) := rfl
  have a1 : z_get (lv_args 0 [.ref aF, .ref aS, .ref sA, ye_v dp]) 1 = some (.ref aS) := rfl
  have a2 : z_get (lv_args 0 [.ref aF, .ref aS, .ref sA, ye_v dp]) 2 = some (.ref sA) := rfl
  have a3 : z_get (lv_args 0 [.ref aF, .ref aS, .ref sA, ye_v dp]) 3 = some (ye_v dp) := rfl
  refine z_r_pu (ins := (.iconst 0)) (len := 1) (t := 1) (st' := [ye_v 0]) rfl rfl rfl rfl rfl ?_
  refine z_r_is (kk := z_isI) (ins := (.istore 4)) (len := 2) (t := 3) (i := 4) rfl rfl rfl rfl rfl rfl rfl rfl (fun l l_1 k_2 => ?_)
  have l_3 := k_2 _ _ a0 (by decide) (Or.inl (by decide))
  have l_4 := k_2 _ _ a1 (by decide) (Or.inl (by decide))
  have l_5 := k_2 _ _ a2 (by decide) (Or.inl (by decide))
  have l_6 := k_2 _ _ a3 (by decide) (Or.inr (by show (1 : Nat) ≠ 2; decide))
  refine z_r_pu (ins := (.iconst 0)) (len := 1) (t := 4) (st' := [ye_v 0]) rfl rfl rfl rfl rfl ?_
  refine z_r_is (kk := z_isI) (ins := (.istore 5)) (len := 2) (t := 6) (i := 5) rfl rfl rfl rfl rfl rfl rfl rfl (fun l l_7 k_8 => ?_)
  have l_9 := k_8 _ _ l_3 (by decide) (Or.inl (by decide))
  have l_10 := k_8 _ _ l_4 (by decide) (Or.inl (by decide))
  have l_11 := k_8 _ _ l_5 (by decide) (Or.inl (by decide))
  have l_12 := k_8 _ _ l_6 (by decide) (Or.inl (by decide))
  have l_13 := k_8 _ _ l_1 (by decide) (Or.inr (by show (1 : Nat) ≠ 2; decide))
  have := yg_thL (P0 := P) (n := n) fS fT fF fC hx hbl hA hB hL hLl hLp hL4 HH hdp K (Nat.le_refl _) hS hT hF hC hcl hp l_9 l_10 l_11 l_12 l_13 l_7 (Or.inl rfl) ⟨Int.le_refl _, hp.1⟩ ⟨hn.1, by omega⟩ (by omega) hd ye_oth_rf
  refine yg_rh_mono this ?_
  rintro q' ⟨r, P2, k1, b, n', cv', k2, k3, k4, k5, k6, k7, k8, k9, k10⟩
  exact ⟨r, P2, k1, b, n', cv', k2, k3, k4, k5, k6, k7, k8, by omega, k10⟩
end YGCT
