/-! Sums, products, what they are held against, the reference, exactly. -/
section YGMS
variable {xs : List Int32} {d aM aB k K : Nat} {P : z_H} {F : Nat → Value} {bs : List Value} {T : Int → Int} {L : List Int} {sz tp h w lim il dp q : Int} {v : Int32} {l : z_L} {Ψ : z_S → Prop}
theorem yg_MPE {Φ : z_S → Prop} (fM : aM < z_far) (fB : aB < z_far) (hx : ye_tx T sz (-128) 127 bs) (hl : (lim = sz ∧ sz ≤ tp) ∨ (lim = tp ∧ tp < sz)) (hbl : 0 ≤ sz ∧ sz ≤ 80 ∧ 0 ≤ tp ∧ tp ≤ 40) (hM : P[aM]? = some (10, ye_fl F)) (k15 : F 15 = .ref aB) (k16 : F 16 = ye_v sz) (k17 : F 17 = ye_v tp) (k18 : F 18 = ye_v h) (k19 : F 19 = ye_v w) (k29 : F 29 = ye_v il) (k31 : F 31 = ye_v (-1)) (k32 : F 32 = ye_v (-1)) (hB : P[aB]? = some (101, bs)) (hh : 0 ≤ h ∧ h ≤ lim)
    (h0 : z_get l 0 = some (.ref aM)) (h1 : z_get l 1 = some (ye_v dp)) (h2 : z_get l 2 = some (.int v)) (hw : -1 ≤ w ∧ w ≤ 80) (hd : 2 ≤ d) (hq : w ≠ -1 ∨ ¬ (h < lim ∧ (T h = 42 ∨ T h = 47)))
    (kk : z_Rh (z_G xs) d 205 Φ (91, l, [], P, 0, 0)) : z_Rh (z_G xs) d 205 Φ (6, l, [], P, 0, 0) := by
  refine z_r_ld (kk := z_isA) (ins := (.aload_n 0)) (len := 1) (t := 7) (i := 0) rfl rfl rfl rfl rfl (fun _ => rfl) h0 rfl ?_
  refine ye_ca (ins := (.invokevirtual 159)) (kd := 1) (t := 10) rfl rfl (by decide) (z_argsv rfl rfl rfl (by omega) (Nat.le_of_ble_eq_true rfl) rfl (Nat.le_of_ble_eq_true rfl) (Nat.le_refl _) (Nat.le_refl _) (Or.inr (Nat.le_of_ble_eq_true rfl)) (Or.inr (z_atv (z_lkn fM hM) rfl))) rfl rfl rfl (ye_fine hM fM k19 (by omega)) ?_
  rintro _ _ ⟨rfl, b_1, rfl, h_2⟩
  by_cases b_3 : b_1 = 0
  · skip
    refine z_r_jm (ins := (.ifCond .eq 81)) (len := 3) (t := 91) rfl rfl rfl rfl (ye_iy (t := 91) rfl (by omega) (by omega) b_3) ?_
    exact kk
  · skip
    refine z_r_jm (ins := (.ifCond .eq 81)) (len := 3) (t := 13) rfl rfl rfl rfl (ye_in (t := 91) rfl (by omega) (by omega) b_3) ?_
    refine z_r_ld (kk := z_isA) (ins := (.aload_n 0)) (len := 1) (t := 14) (i := 0) rfl rfl rfl rfl rfl (fun _ => rfl) h0 rfl ?_
    refine ye_ca (ins := (.invokevirtual 163)) (kd := 1) (t := 17) rfl rfl (by decide) (z_argsv rfl rfl rfl (by omega) (Nat.le_of_ble_eq_true rfl) rfl (Nat.le_of_ble_eq_true rfl) (Nat.le_refl _) (Nat.le_refl _) (Or.inr (Nat.le_of_ble_eq_true rfl)) (Or.inr (z_atv (z_lkn fM hM) rfl))) rfl rfl rfl (ye_here (lim := lim) hM fM k15 k16 k17 k18 k19 hB fB hx (by omega) (by omega)) ?_
    rintro _ _ ⟨rfl, e_4, rfl, h_5⟩
    unfold ye_sig at h_5
    refine z_r_pu (ins := (.bipush 42)) (len := 2) (t := 19) rfl rfl rfl rfl (ye_bi (by decide) (by decide)) ?_
    refine z_r_jm (ins := (.if_icmp .eq 12)) (len := 3) (t := 22) rfl rfl rfl rfl (ye_jn (t := 31) rfl (by omega) (by omega) (by omega) (by omega) (by show ¬ (e_4 = 42); omega)) ?_
    refine z_r_ld (kk := z_isA) (ins := (.aload_n 0)) (len := 1) (t := 23) (i := 0) rfl rfl rfl rfl rfl (fun _ => rfl) h0 rfl ?_
    refine ye_ca (ins := (.invokevirtual 163)) (kd := 1) (t := 26) rfl rfl (by decide) (z_argsv rfl rfl rfl (by omega) (Nat.le_of_ble_eq_true rfl) rfl (Nat.le_of_ble_eq_true rfl) (Nat.le_refl _) (Nat.le_refl _) (Or.inr (Nat.le_of_ble_eq_true rfl)) (Or.inr (z_atv (z_lkn fM hM) rfl))) rfl rfl rfl (ye_here (lim := lim) hM fM k15 k16 k17 k18 k19 hB fB hx (by omega) (by omega)) ?_
    rintro _ _ ⟨rfl, e_6, rfl, h_7⟩
    unfold ye_sig at h_7
    refine z_r_pu (ins := (.bipush 47)) (len := 2) (t := 28) rfl rfl rfl rfl (ye_bi (by decide) (by decide)) ?_
    refine z_r_jm (ins := (.if_icmp .ne 63)) (len := 3) (t := 91) rfl rfl rfl rfl (ye_jy (t := 91) rfl (by omega) (by omega) (by omega) (by omega) (by show e_6 ≠ 47; omega)) ?_
    exact kk
set_option maxHeartbeats 8000000 in
theorem yg_MPI (fM : aM < z_far) (fB : aB < z_far) (hx : ye_tx T sz (-128) 127 bs) (hl : (lim = sz ∧ sz ≤ tp) ∨ (lim = tp ∧ tp < sz)) (hbl : 0 ≤ sz ∧ sz ≤ 80 ∧ 0 ≤ tp ∧ tp ≤ 40) (hil : (il = 1 ∧ L = [119, 122, 100, 105, 107]) ∨ (il = 0 ∧ L = [109, 99, 104, 119, 115, 110, 107, 112])) (H1 : yg_M xs aM aB T lim sz tp il L bs 206 3 k)
    (hM : P[aM]? = some (10, ye_fl F)) (k15 : F 15 = .ref aB) (k16 : F 16 = ye_v sz) (k17 : F 17 = ye_v tp) (k18 : F 18 = ye_v h) (k19 : F 19 = ye_v w) (k29 : F 29 = ye_v il) (k31 : F 31 = ye_v (-1)) (k32 : F 32 = ye_v (-1)) (hB : P[aB]? = some (101, bs)) (hh : 0 ≤ h ∧ h ≤ lim)
    (h0 : z_get l 0 = some (.ref aM)) (h1 : z_get l 1 = some (ye_v dp)) (h2 : z_get l 2 = some (.int v)) (hw : w = -1) (hdp : 0 ≤ dp ∧ dp ≤ 4) (hq : h < lim ∧ (T h = 42 ∨ T h = 47)) (hk : 4 * (lim - h) - 2 ≤ (k : Int) + 1) (hd : 2 * k + 13 ≤ d)
    (kk : ∀ l P' F' v' h' w', z_get l 0 = some (.ref aM) → z_get l 1 = some (ye_v dp) → z_get l 2 = some (.int v') → P'[aM]? = some (10, ye_fl F') → ye_fk [18, 19] F F' → F' 18 = ye_v h' → F' 19 = ye_v w' → P'[aB]? = some (101, bs) → ye_oth [aM] P P' → h + 1 ≤ h' ∧ h' ≤ lim → -1 ≤ w' ∧ w' ≤ 80 → ((w' = -1 ∧ (yf T lim L k 3 dp (h + 1)).1 = true ∧ h' = (yf T lim L k 3 dp (h + 1)).2) ∨ ((yf T lim L k 3 dp (h + 1)).1 = false ∧ w' = (yf T lim L k 3 dp (h + 1)).2)) → z_Rh (z_G xs) d 205 Ψ (6, l, [], P', 0, 0)) : z_Rh (z_G xs) d 205 Ψ (6, l, [], P, 0, 0) := by
  have ho0 : ye_oth [aM] P P := ye_oth_rf
  have hf0 : ye_fk [18, 19] F F := ye_fk_rf
  refine z_r_ld (kk := z_isA) (ins := (.aload_n 0)) (len := 1) (t := 7) (i := 0) rfl rfl rfl rfl rfl (fun _ => rfl) h0 rfl ?_
  refine ye_ca (ins := (.invokevirtual 159)) (kd := 1) (t := 10) rfl rfl (by decide) (z_argsv rfl rfl rfl (by omega) (Nat.le_of_ble_eq_true rfl) rfl (Nat.le_of_ble_eq_true rfl) (Nat.le_refl _) (Nat.le_refl _) (Or.inr (Nat.le_of_ble_eq_true rfl)) (Or.inr (z_atv (z_lkn fM hM) rfl))) rfl rfl rfl (ye_fine hM fM k19 (by omega)) ?_
  rintro _ _ ⟨rfl, b_1, rfl, h_2⟩
  refine z_r_jm (ins := (.ifCond .eq 81)) (len := 3) (t := 13) rfl rfl rfl rfl (ye_in (t := 91) rfl (by omega) (by omega) (by show ¬ (b_1 = 0); omega)) ?_
  refine z_r_ld (kk := z_isA) (ins := (.aload_n 0)) (len := 1) (t := 14) (i := 0) rfl rfl rfl rfl rfl (fun _ => rfl) h0 rfl ?_
  refine ye_ca (ins := (.invokevirtual 163)) (kd := 1) (t := 17) rfl rfl (by decide) (z_argsv rfl rfl rfl (by omega) (Nat.le_of_ble_eq_true rfl) rfl (Nat.le_of_ble_eq_true rfl) (Nat.le_refl _) (Nat.le_refl _) (Or.inr (Nat.le_of_ble_eq_true rfl)) (Or.inr (z_atv (z_lkn fM hM) rfl))) rfl rfl rfl (ye_here (lim := lim) hM fM k15 k16 k17 k18 k19 hB fB hx (by omega) (by omega)) ?_
  rintro _ _ ⟨rfl, e_3, rfl, h_4⟩
  unfold ye_sig at h_4
  refine z_r_pu (ins := (.bipush 42)) (len := 2) (t := 19) rfl rfl rfl rfl (ye_bi (by decide) (by decide)) ?_
  by_cases b_5 : e_3 = 42
  · skip
    refine z_r_jm (ins := (.if_icmp .eq 12)) (len := 3) (t := 31) rfl rfl rfl rfl (ye_jy (t := 31) rfl (by omega) (by omega) (by omega) (by omega) b_5) ?_
    refine z_r_ld (kk := z_isA) (ins := (.aload_n 0)) (len := 1) (t := 32) (i := 0) rfl rfl rfl rfl rfl (fun _ => rfl) h0 rfl ?_
    refine ye_ca (ins := (.invokevirtual 163)) (kd := 1) (t := 35) rfl rfl (by decide) (z_argsv rfl rfl rfl (by omega) (Nat.le_of_ble_eq_true rfl) rfl (Nat.le_of_ble_eq_true rfl) (Nat.le_refl _) (Nat.le_refl _) (Or.inr (Nat.le_of_ble_eq_true rfl)) (Or.inr (z_atv (z_lkn fM hM) rfl))) rfl rfl rfl (ye_here (lim := lim) hM fM k15 k16 k17 k18 k19 hB fB hx (by omega) (by omega)) ?_
    rintro _ _ ⟨rfl, e_6, rfl, h_7⟩
    unfold ye_sig at h_7
    refine z_r_pu (ins := (.bipush 42)) (len := 2) (t := 37) rfl rfl rfl rfl (ye_bi (by decide) (by decide)) ?_
    by_cases b_8 : e_6 ≠ 42
    · skip
      refine z_r_jm (ins := (.if_icmp .ne 7)) (len := 3) (t := 44) rfl rfl rfl rfl (ye_jy (t := 44) rfl (by omega) (by omega) (by omega) (by omega) b_8) ?_
      refine z_r_pu (ins := (.iconst 0)) (len := 1) (t := 45) (st' := [ye_v 0]) rfl rfl rfl rfl rfl ?_
      refine z_r_is (kk := z_isI) (ins := (.istore_n 3)) (len := 1) (t := 46) (i := 3) rfl rfl rfl rfl rfl rfl rfl rfl (fun l l_9 k_10 => ?_)
      have l_11 := k_10 _ _ h0 (by decide) (Or.inl (by decide))
      have l_12 := k_10 _ _ h1 (by decide) (Or.inl (by decide))
      have l_13 := k_10 _ _ h2 (by decide) (Or.inr (by show (1 : Nat) ≠ 2; decide))
      refine z_r_ld (kk := z_isA) (ins := (.aload_n 0)) (len := 1) (t := 47) (i := 0) rfl rfl rfl rfl rfl (fun _ => rfl) l_11 rfl ?_
      refine z_r_pu (ins := .dup) (len := 1) (t := 48) rfl rfl rfl rfl rfl ?_
      refine z_r_rd (ins := (.getfield 153)) (len := 3) (t := 51) rfl rfl rfl rfl rfl (z_gfv (ci := 10) (k := 18) (v := ye_v h) rfl (z_lkn fM hM) (by decide) (ye_flg rfl k18)) ?_
      refine z_r_pu (ins := (.iconst 1)) (len := 1) (t := 52) (st' := [ye_v 1, ye_v h, .ref aM]) rfl rfl rfl rfl rfl ?_
      refine z_r_pu (ins := .iadd) (len := 1) (t := 53) rfl rfl rfl rfl ye_add ?_
      refine ye_r_wr (ins := (.putfield 153)) (len := 3) (t := 56) (a := aM) (q := (10, ye_fl (ye_up F 18 (ye_v (h + 1))))) rfl rfl rfl rfl rfl hM (ye_pfm (k := 18) rfl hM rfl rfl rfl rfl) (fun P_14 c_15 o_16 => ?_)
      have c_17 := ye_kp o_16 (ye_n1 (ye_ne hB hM (by decide))) hB
      have o_18 := ye_oth_tr ho0 o_16 (ye_s1 (List.mem_cons_self))
      have f_19 := ye_fk_up (j := 18) (v := ye_v (h + 1)) hf0 (List.mem_cons_self)
      refine z_r_ld (kk := z_isA) (ins := (.aload_n 0)) (len := 1) (t := 57) (i := 0) rfl rfl rfl rfl rfl (fun _ => rfl) l_11 rfl ?_
      refine z_r_ld (kk := z_isI) (ins := (.iload_n 1)) (len := 1) (t := 58) (i := 1) rfl rfl rfl rfl rfl (fun _ => rfl) l_12 rfl ?_
      refine ye_ca (ins := (.invokevirtual 211)) (kd := 1) (t := 61) rfl rfl (by decide) (z_argsv rfl rfl rfl (by omega) (Nat.le_of_ble_eq_true rfl) rfl (Nat.le_of_ble_eq_true rfl) (Nat.le_refl _) (Nat.le_refl _) (Or.inr (Nat.le_of_ble_eq_true rfl)) (Or.inr (z_atv (z_lkn fM c_15) rfl))) rfl rfl rfl (H1 _ _ _ _ _ c_15 k15 k16 k17 rfl (Eq.trans k19 (congrArg ye_v (show w = -1 by omega))) k29 k31 k32 c_17 (by omega) (by omega) (by omega) (by omega)) ?_
      rintro _ P_20 ⟨v_21, F_22, q_23, w_24, rfl, c_25, f_26, k_27, k_28, o_29, b_30, b_31, h_32⟩
      have d_34 := yf_bd (T := T) (L := L) (lim := lim) k 3 dp (h + 1) (by omega)
      generalize er_33 : yf T lim L k 3 dp (h + 1) = r_33 at h_32 d_34
      have c_35 := ye_kp o_29 (ye_n1 (ye_ne c_17 c_15 (by decide))) c_17
      have o_36 := ye_oth_tr o_18 o_29 (ye_s1 (List.mem_cons_self))
      have f_37 : F_22 15 = .ref aB := (f_26 15 (by decide)).trans k15
      have f_38 : F_22 16 = ye_v sz := (f_26 16 (by decide)).trans k16
      have f_39 : F_22 17 = ye_v tp := (f_26 17 (by decide)).trans k17
      have f_40 : F_22 29 = ye_v il := (f_26 29 (by decide)).trans k29
      have f_41 : F_22 31 = ye_v ((-1)) := (f_26 31 (by decide)).trans k31
      have f_42 : F_22 32 = ye_v ((-1)) := (f_26 32 (by decide)).trans k32
      have f_43 := ye_fk_tr f_19 f_26 (by decide)
      have b_44 : -1 ≤ w_24 ∧ w_24 ≤ 80 := by omega
      refine z_r_is (kk := z_isI) (ins := (.istore 4)) (len := 2) (t := 63) (i := 4) rfl rfl rfl rfl rfl rfl rfl rfl (fun l l_45 k_46 => ?_)
      have l_47 := k_46 _ _ l_11 (by decide) (Or.inl (by decide))
      have l_48 := k_46 _ _ l_12 (by decide) (Or.inl (by decide))
      have l_49 := k_46 _ _ l_13 (by decide) (Or.inl (by decide))
      have l_50 := k_46 _ _ l_9 (by decide) (Or.inr (by show (1 : Nat) ≠ 2; decide))
      refine z_r_ld (kk := z_isI) (ins := (.iload_n 3)) (len := 1) (t := 64) (i := 3) rfl rfl rfl rfl rfl (fun _ => rfl) l_50 rfl ?_
      refine z_r_jm (ins := (.ifCond .eq 10)) (len := 3) (t := 74) rfl rfl rfl rfl (ye_iy (t := 74) rfl (by omega) (by omega) (by show (0 : Int) = 0; decide)) ?_
      refine z_r_ld (kk := z_isI) (ins := (.iload 4)) (len := 2) (t := 76) (i := 4) rfl rfl rfl rfl rfl (fun _ => rfl) l_45 rfl ?_
      by_cases b_51 : z_cmp .ne v_21 0 = true
      · skip
        refine z_r_jm (ins := (.ifCond .ne 7)) (len := 3) (t := 83) rfl rfl rfl rfl (z_ify (t := 83) rfl b_51) ?_
        refine z_r_ld (kk := z_isI) (ins := (.iload_n 2)) (len := 1) (t := 84) (i := 2) rfl rfl rfl rfl rfl (fun _ => rfl) l_49 rfl ?_
        refine z_r_ld (kk := z_isI) (ins := (.iload 4)) (len := 2) (t := 86) (i := 4) rfl rfl rfl rfl rfl (fun _ => rfl) l_45 rfl ?_
        refine z_r_pu (ins := .idiv) (len := 1) (t := 87) (st' := [.int (v / v_21)]) rfl rfl rfl rfl (yg_idiv (of_decide_eq_true b_51)) ?_
        refine z_r_is (kk := z_isI) (ins := (.istore_n 2)) (len := 1) (t := 88) (i := 2) rfl rfl rfl rfl rfl rfl rfl rfl (fun l l_52 k_53 => ?_)
        have l_54 := k_53 _ _ l_47 (by decide) (Or.inl (by decide))
        have l_55 := k_53 _ _ l_48 (by decide) (Or.inr (by show (1 : Nat) ≠ 2; decide))
        have l_56 := k_53 _ _ l_50 (by decide) (Or.inl (by decide))
        have l_57 := k_53 _ _ l_45 (by decide) (Or.inl (by decide))
        refine z_r_jm (ins := (.goto (-82))) (len := 3) (t := 6) rfl rfl rfl rfl (z_gty rfl) ?_
        have eq0 : yf T lim L k 3 dp (h + 1) = r_33 := by rw [← er_33, show h + 1 = h + 1 by omega]
        exact kk _ _ _ _ _ _ l_54 l_55 l_52 c_25 f_43 k_27 k_28 c_35 o_36 (by omega) (by omega) (by rw [eq0]; exact h_32)
      · skip
        refine z_r_jm (ins := (.ifCond .ne 7)) (len := 3) (t := 79) rfl rfl rfl rfl (z_ifn (t := 83) rfl (Bool.eq_false_iff.mpr b_51)) ?_
        refine z_r_pu (ins := (.iconst 0)) (len := 1) (t := 80) (st' := [ye_v 0]) rfl rfl rfl rfl rfl ?_
        refine z_r_jm (ins := (.goto 7)) (len := 3) (t := 87) rfl rfl rfl rfl (z_gty rfl) ?_
        refine z_r_is (kk := z_isI) (ins := (.istore_n 2)) (len := 1) (t := 88) (i := 2) rfl rfl rfl rfl rfl rfl rfl rfl (fun l l_58 k_59 => ?_)
        have l_60 := k_59 _ _ l_47 (by decide) (Or.inl (by decide))
        have l_61 := k_59 _ _ l_48 (by decide) (Or.inr (by show (1 : Nat) ≠ 2; decide))
        have l_62 := k_59 _ _ l_50 (by decide) (Or.inl (by decide))
        have l_63 := k_59 _ _ l_45 (by decide) (Or.inl (by decide))
        refine z_r_jm (ins := (.goto (-82))) (len := 3) (t := 6) rfl rfl rfl rfl (z_gty rfl) ?_
        have eq0 : yf T lim L k 3 dp (h + 1) = r_33 := by rw [← er_33, show h + 1 = h + 1 by omega]
        exact kk _ _ _ _ _ _ l_60 l_61 l_58 c_25 f_43 k_27 k_28 c_35 o_36 (by omega) (by omega) (by rw [eq0]; exact h_32)
    · skip
      refine z_r_jm (ins := (.if_icmp .ne 7)) (len := 3) (t := 40) rfl rfl rfl rfl (ye_jn (t := 44) rfl (by omega) (by omega) (by omega) (by omega) b_8) ?_
      refine z_r_pu (ins := (.iconst 1)) (len := 1) (t := 41) (st' := [ye_v 1]) rfl rfl rfl rfl rfl ?_
      refine z_r_jm (ins := (.goto 4)) (len := 3) (t := 45) rfl rfl rfl rfl (z_gty rfl) ?_
      refine z_r_is (kk := z_isI) (ins := (.istore_n 3)) (len := 1) (t := 46) (i := 3) rfl rfl rfl rfl rfl rfl rfl rfl (fun l l_64 k_65 => ?_)
      have l_66 := k_65 _ _ h0 (by decide) (Or.inl (by decide))
      have l_67 := k_65 _ _ h1 (by decide) (Or.inl (by decide))
      have l_68 := k_65 _ _ h2 (by decide) (Or.inr (by show (1 : Nat) ≠ 2; decide))
      refine z_r_ld (kk := z_isA) (ins := (.aload_n 0)) (len := 1) (t := 47) (i := 0) rfl rfl rfl rfl rfl (fun _ => rfl) l_66 rfl ?_
      refine z_r_pu (ins := .dup) (len := 1) (t := 48) rfl rfl rfl rfl rfl ?_
      refine z_r_rd (ins := (.getfield 153)) (len := 3) (t := 51) rfl rfl rfl rfl rfl (z_gfv (ci := 10) (k := 18) (v := ye_v h) rfl (z_lkn fM hM) (by decide) (ye_flg rfl k18)) ?_
      refine z_r_pu (ins := (.iconst 1)) (len := 1) (t := 52) (st' := [ye_v 1, ye_v h, .ref aM]) rfl rfl rfl rfl rfl ?_
      refine z_r_pu (ins := .iadd) (len := 1) (t := 53) rfl rfl rfl rfl ye_add ?_
      refine ye_r_wr (ins := (.putfield 153)) (len := 3) (t := 56) (a := aM) (q := (10, ye_fl (ye_up F 18 (ye_v (h + 1))))) rfl rfl rfl rfl rfl hM (ye_pfm (k := 18) rfl hM rfl rfl rfl rfl) (fun P_69 c_70 o_71 => ?_)
      have c_72 := ye_kp o_71 (ye_n1 (ye_ne hB hM (by decide))) hB
      have o_73 := ye_oth_tr ho0 o_71 (ye_s1 (List.mem_cons_self))
      have f_74 := ye_fk_up (j := 18) (v := ye_v (h + 1)) hf0 (List.mem_cons_self)
      refine z_r_ld (kk := z_isA) (ins := (.aload_n 0)) (len := 1) (t := 57) (i := 0) rfl rfl rfl rfl rfl (fun _ => rfl) l_66 rfl ?_
      refine z_r_ld (kk := z_isI) (ins := (.iload_n 1)) (len := 1) (t := 58) (i := 1) rfl rfl rfl rfl rfl (fun _ => rfl) l_67 rfl ?_
      refine ye_ca (ins := (.invokevirtual 211)) (kd := 1) (t := 61) rfl rfl (by decide) (z_argsv rfl rfl rfl (by omega) (Nat.le_of_ble_eq_true rfl) rfl (Nat.le_of_ble_eq_true rfl) (Nat.le_refl _) (Nat.le_refl _) (Or.inr (Nat.le_of_ble_eq_true rfl)) (Or.inr (z_atv (z_lkn fM c_70) rfl))) rfl rfl rfl (H1 _ _ _ _ _ c_70 k15 k16 k17 rfl (Eq.trans k19 (congrArg ye_v (show w = -1 by omega))) k29 k31 k32 c_72 (by omega) (by omega) (by omega) (by omega)) ?_
      rintro _ P_75 ⟨v_76, F_77, q_78, w_79, rfl, c_80, f_81, k_82, k_83, o_84, b_85, b_86, h_87⟩
      have d_89 := yf_bd (T := T) (L := L) (lim := lim) k 3 dp (h + 1) (by omega)
      generalize er_88 : yf T lim L k 3 dp (h + 1) = r_88 at h_87 d_89
      have c_90 := ye_kp o_84 (ye_n1 (ye_ne c_72 c_70 (by decide))) c_72
      have o_91 := ye_oth_tr o_73 o_84 (ye_s1 (List.mem_cons_self))
      have f_92 : F_77 15 = .ref aB := (f_81 15 (by decide)).trans k15
      have f_93 : F_77 16 = ye_v sz := (f_81 16 (by decide)).trans k16
      have f_94 : F_77 17 = ye_v tp := (f_81 17 (by decide)).trans k17
      have f_95 : F_77 29 = ye_v il := (f_81 29 (by decide)).trans k29
      have f_96 : F_77 31 = ye_v ((-1)) := (f_81 31 (by decide)).trans k31
      have f_97 : F_77 32 = ye_v ((-1)) := (f_81 32 (by decide)).trans k32
      have f_98 := ye_fk_tr f_74 f_81 (by decide)
      have b_99 : -1 ≤ w_79 ∧ w_79 ≤ 80 := by omega
      refine z_r_is (kk := z_isI) (ins := (.istore 4)) (len := 2) (t := 63) (i := 4) rfl rfl rfl rfl rfl rfl rfl rfl (fun l l_100 k_101 => ?_)
      have l_102 := k_101 _ _ l_66 (by decide) (Or.inl (by decide))
      have l_103 := k_101 _ _ l_67 (by decide) (Or.inl (by decide))
      have l_104 := k_101 _ _ l_68 (by decide) (Or.inl (by decide))
      have l_105 := k_101 _ _ l_64 (by decide) (Or.inr (by show (1 : Nat) ≠ 2; decide))
      refine z_r_ld (kk := z_isI) (ins := (.iload_n 3)) (len := 1) (t := 64) (i := 3) rfl rfl rfl rfl rfl (fun _ => rfl) l_105 rfl ?_
      refine z_r_jm (ins := (.ifCond .eq 10)) (len := 3) (t := 67) rfl rfl rfl rfl (ye_in (t := 74) rfl (by omega) (by omega) (by show ¬ ((1 : Int) = 0); decide)) ?_
      refine z_r_ld (kk := z_isI) (ins := (.iload_n 2)) (len := 1) (t := 68) (i := 2) rfl rfl rfl rfl rfl (fun _ => rfl) l_104 rfl ?_
      refine z_r_ld (kk := z_isI) (ins := (.iload 4)) (len := 2) (t := 70) (i := 4) rfl rfl rfl rfl rfl (fun _ => rfl) l_100 rfl ?_
      refine z_r_pu (ins := .imul) (len := 1) (t := 71) (st' := [.int (v * v_76)]) rfl rfl rfl rfl rfl ?_
      refine z_r_jm (ins := (.goto 16)) (len := 3) (t := 87) rfl rfl rfl rfl (z_gty rfl) ?_
      refine z_r_is (kk := z_isI) (ins := (.istore_n 2)) (len := 1) (t := 88) (i := 2) rfl rfl rfl rfl rfl rfl rfl rfl (fun l l_106 k_107 => ?_)
      have l_108 := k_107 _ _ l_102 (by decide) (Or.inl (by decide))
      have l_109 := k_107 _ _ l_103 (by decide) (Or.inr (by show (1 : Nat) ≠ 2; decide))
      have l_110 := k_107 _ _ l_105 (by decide) (Or.inl (by decide))
      have l_111 := k_107 _ _ l_100 (by decide) (Or.inl (by decide))
      refine z_r_jm (ins := (.goto (-82))) (len := 3) (t := 6) rfl rfl rfl rfl (z_gty rfl) ?_
      have eq0 : yf T lim L k 3 dp (h + 1) = r_88 := by rw [← er_88, show h + 1 = h + 1 by omega]
      exact kk _ _ _ _ _ _ l_108 l_109 l_106 c_80 f_98 k_82 k_83 c_90 o_91 (by omega) (by omega) (by rw [eq0]; exact h_87)
  · skip
    refine z_r_jm (ins := (.if_icmp .eq 12)) (len := 3) (t := 22) rfl rfl rfl rfl (ye_jn (t := 31) rfl (by omega) (by omega) (by omega) (by omega) b_5) ?_
    refine z_r_ld (kk := z_isA) (ins := (.aload_n 0)) (len := 1) (t := 23) (i := 0) rfl rfl rfl rfl rfl (fun _ => rfl) h0 rfl ?_
    refine ye_ca (ins := (.invokevirtual 163)) (kd := 1) (t := 26) rfl rfl (by decide) (z_argsv rfl rfl rfl (by omega) (Nat.le_of_ble_eq_true rfl) rfl (Nat.le_of_ble_eq_true rfl) (Nat.le_refl _) (Nat.le_refl _) (Or.inr (Nat.le_of_ble_eq_true rfl)) (Or.inr (z_atv (z_lkn fM hM) rfl))) rfl rfl rfl (ye_here (lim := lim) hM fM k15 k16 k17 k18 k19 hB fB hx (by omega) (by omega)) ?_
    rintro _ _ ⟨rfl, e_112, rfl, h_113⟩
    unfold ye_sig at h_113
    refine z_r_pu (ins := (.bipush 47)) (len := 2) (t := 28) rfl rfl rfl rfl (ye_bi (by decide) (by decide)) ?_
    refine z_r_jm (ins := (.if_icmp .ne 63)) (len := 3) (t := 31) rfl rfl rfl rfl (ye_jn (t := 91) rfl (by omega) (by omega) (by omega) (by omega) (by show ¬ (e_112 ≠ 47); omega)) ?_
    refine z_r_ld (kk := z_isA) (ins := (.aload_n 0)) (len := 1) (t := 32) (i := 0) rfl rfl rfl rfl rfl (fun _ => rfl) h0 rfl ?_
    refine ye_ca (ins := (.invokevirtual 163)) (kd := 1) (t := 35) rfl rfl (by decide) (z_argsv rfl rfl rfl (by omega) (Nat.le_of_ble_eq_true rfl) rfl (Nat.le_of_ble_eq_true rfl) (Nat.le_refl _) (Nat.le_refl _) (Or.inr (Nat.le_of_ble_eq_true rfl)) (Or.inr (z_atv (z_lkn fM hM) rfl))) rfl rfl rfl (ye_here (lim := lim) hM fM k15 k16 k17 k18 k19 hB fB hx (by omega) (by omega)) ?_
    rintro _ _ ⟨rfl, e_114, rfl, h_115⟩
    unfold ye_sig at h_115
    refine z_r_pu (ins := (.bipush 42)) (len := 2) (t := 37) rfl rfl rfl rfl (ye_bi (by decide) (by decide)) ?_
    by_cases b_116 : e_114 ≠ 42
    · skip
      refine z_r_jm (ins := (.if_icmp .ne 7)) (len := 3) (t := 44) rfl rfl rfl rfl (ye_jy (t := 44) rfl (by omega) (by omega) (by omega) (by omega) b_116) ?_
      refine z_r_pu (ins := (.iconst 0)) (len := 1) (t := 45) (st' := [ye_v 0]) rfl rfl rfl rfl rfl ?_
      refine z_r_is (kk := z_isI) (ins := (.istore_n 3)) (len := 1) (t := 46) (i := 3) rfl rfl rfl rfl rfl rfl rfl rfl (fun l l_117 k_118 => ?_)
      have l_119 := k_118 _ _ h0 (by decide) (Or.inl (by decide))
      have l_120 := k_118 _ _ h1 (by decide) (Or.inl (by decide))
      have l_121 := k_118 _ _ h2 (by decide) (Or.inr (by show (1 : Nat) ≠ 2; decide))
      refine z_r_ld (kk := z_isA) (ins := (.aload_n 0)) (len := 1) (t := 47) (i := 0) rfl rfl rfl rfl rfl (fun _ => rfl) l_119 rfl ?_
      refine z_r_pu (ins := .dup) (len := 1) (t := 48) rfl rfl rfl rfl rfl ?_
      refine z_r_rd (ins := (.getfield 153)) (len := 3) (t := 51) rfl rfl rfl rfl rfl (z_gfv (ci := 10) (k := 18) (v := ye_v h) rfl (z_lkn fM hM) (by decide) (ye_flg rfl k18)) ?_
      refine z_r_pu (ins := (.iconst 1)) (len := 1) (t := 52) (st' := [ye_v 1, ye_v h, .ref aM]) rfl rfl rfl rfl rfl ?_
      refine z_r_pu (ins := .iadd) (len := 1) (t := 53) rfl rfl rfl rfl ye_add ?_
      refine ye_r_wr (ins := (.putfield 153)) (len := 3) (t := 56) (a := aM) (q := (10, ye_fl (ye_up F 18 (ye_v (h + 1))))) rfl rfl rfl rfl rfl hM (ye_pfm (k := 18) rfl hM rfl rfl rfl rfl) (fun P_122 c_123 o_124 => ?_)
      have c_125 := ye_kp o_124 (ye_n1 (ye_ne hB hM (by decide))) hB
      have o_126 := ye_oth_tr ho0 o_124 (ye_s1 (List.mem_cons_self))
      have f_127 := ye_fk_up (j := 18) (v := ye_v (h + 1)) hf0 (List.mem_cons_self)
      refine z_r_ld (kk := z_isA) (ins := (.aload_n 0)) (len := 1) (t := 57) (i := 0) rfl rfl rfl rfl rfl (fun _ => rfl) l_119 rfl ?_
      refine z_r_ld (kk := z_isI) (ins := (.iload_n 1)) (len := 1) (t := 58) (i := 1) rfl rfl rfl rfl rfl (fun _ => rfl) l_120 rfl ?_
      refine ye_ca (ins := (.invokevirtual 211)) (kd := 1) (t := 61) rfl rfl (by decide) (z_argsv rfl rfl rfl (by omega) (Nat.le_of_ble_eq_true rfl) rfl (Nat.le_of_ble_eq_true rfl) (Nat.le_refl _) (Nat.le_refl _) (Or.inr (Nat.le_of_ble_eq_true rfl)) (Or.inr (z_atv (z_lkn fM c_123) rfl))) rfl rfl rfl (H1 _ _ _ _ _ c_123 k15 k16 k17 rfl (Eq.trans k19 (congrArg ye_v (show w = -1 by omega))) k29 k31 k32 c_125 (by omega) (by omega) (by omega) (by omega)) ?_
      rintro _ P_128 ⟨v_129, F_130, q_131, w_132, rfl, c_133, f_134, k_135, k_136, o_137, b_138, b_139, h_140⟩
      have d_142 := yf_bd (T := T) (L := L) (lim := lim) k 3 dp (h + 1) (by omega)
      generalize er_141 : yf T lim L k 3 dp (h + 1) = r_141 at h_140 d_142
      have c_143 := ye_kp o_137 (ye_n1 (ye_ne c_125 c_123 (by decide))) c_125
      have o_144 := ye_oth_tr o_126 o_137 (ye_s1 (List.mem_cons_self))
      have f_145 : F_130 15 = .ref aB := (f_134 15 (by decide)).trans k15
      have f_146 : F_130 16 = ye_v sz := (f_134 16 (by decide)).trans k16
      have f_147 : F_130 17 = ye_v tp := (f_134 17 (by decide)).trans k17
      have f_148 : F_130 29 = ye_v il := (f_134 29 (by decide)).trans k29
      have f_149 : F_130 31 = ye_v ((-1)) := (f_134 31 (by decide)).trans k31
      have f_150 : F_130 32 = ye_v ((-1)) := (f_134 32 (by decide)).trans k32
      have f_151 := ye_fk_tr f_127 f_134 (by decide)
      have b_152 : -1 ≤ w_132 ∧ w_132 ≤ 80 := by omega
      refine z_r_is (kk := z_isI) (ins := (.istore 4)) (len := 2) (t := 63) (i := 4) rfl rfl rfl rfl rfl rfl rfl rfl (fun l l_153 k_154 => ?_)
      have l_155 := k_154 _ _ l_119 (by decide) (Or.inl (by decide))
      have l_156 := k_154 _ _ l_120 (by decide) (Or.inl (by decide))
      have l_157 := k_154 _ _ l_121 (by decide) (Or.inl (by decide))
      have l_158 := k_154 _ _ l_117 (by decide) (Or.inr (by show (1 : Nat) ≠ 2; decide))
      refine z_r_ld (kk := z_isI) (ins := (.iload_n 3)) (len := 1) (t := 64) (i := 3) rfl rfl rfl rfl rfl (fun _ => rfl) l_158 rfl ?_
      refine z_r_jm (ins := (.ifCond .eq 10)) (len := 3) (t := 74) rfl rfl rfl rfl (ye_iy (t := 74) rfl (by omega) (by omega) (by show (0 : Int) = 0; decide)) ?_
      refine z_r_ld (kk := z_isI) (ins := (.iload 4)) (len := 2) (t := 76) (i := 4) rfl rfl rfl rfl rfl (fun _ => rfl) l_153 rfl ?_
      by_cases b_159 : z_cmp .ne v_129 0 = true
      · skip
        refine z_r_jm (ins := (.ifCond .ne 7)) (len := 3) (t := 83) rfl rfl rfl rfl (z_ify (t := 83) rfl b_159) ?_
        refine z_r_ld (kk := z_isI) (ins := (.iload_n 2)) (len := 1) (t := 84) (i := 2) rfl rfl rfl rfl rfl (fun _ => rfl) l_157 rfl ?_
        refine z_r_ld (kk := z_isI) (ins := (.iload 4)) (len := 2) (t := 86) (i := 4) rfl rfl rfl rfl rfl (fun _ => rfl) l_153 rfl ?_
        refine z_r_pu (ins := .idiv) (len := 1) (t := 87) (st' := [.int (v / v_129)]) rfl rfl rfl rfl (yg_idiv (of_decide_eq_true b_159)) ?_
        refine z_r_is (kk := z_isI) (ins := (.istore_n 2)) (len := 1) (t := 88) (i := 2) rfl rfl rfl rfl rfl rfl rfl rfl (fun l l_160 k_161 => ?_)
        have l_162 := k_161 _ _ l_155 (by decide) (Or.inl (by decide))
        have l_163 := k_161 _ _ l_156 (by decide) (Or.inr (by show (1 : Nat) ≠ 2; decide))
        have l_164 := k_161 _ _ l_158 (by decide) (Or.inl (by decide))
        have l_165 := k_161 _ _ l_153 (by decide) (Or.inl (by decide))
        refine z_r_jm (ins := (.goto (-82))) (len := 3) (t := 6) rfl rfl rfl rfl (z_gty rfl) ?_
        have eq0 : yf T lim L k 3 dp (h + 1) = r_141 := by rw [← er_141, show h + 1 = h + 1 by omega]
        exact kk _ _ _ _ _ _ l_162 l_163 l_160 c_133 f_151 k_135 k_136 c_143 o_144 (by omega) (by omega) (by rw [eq0]; exact h_140)
      · skip
        refine z_r_jm (ins := (.ifCond .ne 7)) (len := 3) (t := 79) rfl rfl rfl rfl (z_ifn (t := 83) rfl (Bool.eq_false_iff.mpr b_159)) ?_
        refine z_r_pu (ins := (.iconst 0)) (len := 1) (t := 80) (st' := [ye_v 0]) rfl rfl rfl rfl rfl ?_
        refine z_r_jm (ins := (.goto 7)) (len := 3) (t := 87) rfl rfl rfl rfl (z_gty rfl) ?_
        refine z_r_is (kk := z_isI) (ins := (.istore_n 2)) (len := 1) (t := 88) (i := 2) rfl rfl rfl rfl rfl rfl rfl rfl (fun l l_166 k_167 => ?_)
        have l_168 := k_167 _ _ l_155 (by decide) (Or.inl (by decide))
        have l_169 := k_167 _ _ l_156 (by decide) (Or.inr (by show (1 : Nat) ≠ 2; decide))
        have l_170 := k_167 _ _ l_158 (by decide) (Or.inl (by decide))
        have l_171 := k_167 _ _ l_153 (by decide) (Or.inl (by decide))
        refine z_r_jm (ins := (.goto (-82))) (len := 3) (t := 6) rfl rfl rfl rfl (z_gty rfl) ?_
        have eq0 : yf T lim L k 3 dp (h + 1) = r_141 := by rw [← er_141, show h + 1 = h + 1 by omega]
        exact kk _ _ _ _ _ _ l_168 l_169 l_166 c_133 f_151 k_135 k_136 c_143 o_144 (by omega) (by omega) (by rw [eq0]; exact h_140)
    · skip
      refine z_r_jm (ins := (.if_icmp .ne 7)) (len := 3) (t := 40) rfl rfl rfl rfl (ye_jn (t := 44) rfl (by omega) (by omega) (by omega) (by omega) b_116) ?_
      refine z_r_pu (ins := (.iconst 1)) (len := 1) (t := 41) (st' := [ye_v 1]) rfl rfl rfl rfl rfl ?_
      refine z_r_jm (ins := (.goto 4)) (len := 3) (t := 45) rfl rfl rfl rfl (z_gty rfl) ?_
      refine z_r_is (kk := z_isI) (ins := (.istore_n 3)) (len := 1) (t := 46) (i := 3) rfl rfl rfl rfl rfl rfl rfl rfl (fun l l_172 k_173 => ?_)
      have l_174 := k_173 _ _ h0 (by decide) (Or.inl (by decide))
      have l_175 := k_173 _ _ h1 (by decide) (Or.inl (by decide))
      have l_176 := k_173 _ _ h2 (by decide) (Or.inr (by show (1 : Nat) ≠ 2; decide))
      refine z_r_ld (kk := z_isA) (ins := (.aload_n 0)) (len := 1) (t := 47) (i := 0) rfl rfl rfl rfl rfl (fun _ => rfl) l_174 rfl ?_
      refine z_r_pu (ins := .dup) (len := 1) (t := 48) rfl rfl rfl rfl rfl ?_
      refine z_r_rd (ins := (.getfield 153)) (len := 3) (t := 51) rfl rfl rfl rfl rfl (z_gfv (ci := 10) (k := 18) (v := ye_v h) rfl (z_lkn fM hM) (by decide) (ye_flg rfl k18)) ?_
      refine z_r_pu (ins := (.iconst 1)) (len := 1) (t := 52) (st' := [ye_v 1, ye_v h, .ref aM]) rfl rfl rfl rfl rfl ?_
      refine z_r_pu (ins := .iadd) (len := 1) (t := 53) rfl rfl rfl rfl ye_add ?_
      refine ye_r_wr (ins := (.putfield 153)) (len := 3) (t := 56) (a := aM) (q := (10, ye_fl (ye_up F 18 (ye_v (h + 1))))) rfl rfl rfl rfl rfl hM (ye_pfm (k := 18) rfl hM rfl rfl rfl rfl) (fun P_177 c_178 o_179 => ?_)
      have c_180 := ye_kp o_179 (ye_n1 (ye_ne hB hM (by decide))) hB
      have o_181 := ye_oth_tr ho0 o_179 (ye_s1 (List.mem_cons_self))
      have f_182 := ye_fk_up (j := 18) (v := ye_v (h + 1)) hf0 (List.mem_cons_self)
      refine z_r_ld (kk := z_isA) (ins := (.aload_n 0)) (len := 1) (t := 57) (i := 0) rfl rfl rfl rfl rfl (fun _ => rfl) l_174 rfl ?_
      refine z_r_ld (kk := z_isI) (ins := (.iload_n 1)) (len := 1) (t := 58) (i := 1) rfl rfl rfl rfl rfl (fun _ => rfl) l_175 rfl ?_
      refine ye_ca (ins := (.invokevirtual 211)) (kd := 1) (t := 61) rfl rfl (by decide) (z_argsv rfl rfl rfl (by omega) (Nat.le_of_ble_eq_true rfl) rfl (Nat.le_of_ble_eq_true rfl) (Nat.le_refl _) (Nat.le_refl _) (Or.inr (Nat.le_of_ble_eq_true rfl)) (Or.inr (z_atv (z_lkn fM c_178) rfl))) rfl rfl rfl (H1 _ _ _ _ _ c_178 k15 k16 k17 rfl (Eq.trans k19 (congrArg ye_v (show w = -1 by omega))) k29 k31 k32 c_180 (by omega) (by omega) (by omega) (by omega)) ?_
      rintro _ P_183 ⟨v_184, F_185, q_186, w_187, rfl, c_188, f_189, k_190, k_191, o_192, b_193, b_194, h_195⟩
      have d_197 := yf_bd (T := T) (L := L) (lim := lim) k 3 dp (h + 1) (by omega)
      generalize er_196 : yf T lim L k 3 dp (h + 1) = r_196 at h_195 d_197
      have c_198 := ye_kp o_192 (ye_n1 (ye_ne c_180 c_178 (by decide))) c_180
      have o_199 := ye_oth_tr o_181 o_192 (ye_s1 (List.mem_cons_self))
      have f_200 : F_185 15 = .ref aB := (f_189 15 (by decide)).trans k15
      have f_201 : F_185 16 = ye_v sz := (f_189 16 (by decide)).trans k16
      have f_202 : F_185 17 = ye_v tp := (f_189 17 (by decide)).trans k17
      have f_203 : F_185 29 = ye_v il := (f_189 29 (by decide)).trans k29
      have f_204 : F_185 31 = ye_v ((-1)) := (f_189 31 (by decide)).trans k31
      have f_205 : F_185 32 = ye_v ((-1)) := (f_189 32 (by decide)).trans k32
      have f_206 := ye_fk_tr f_182 f_189 (by decide)
      have b_207 : -1 ≤ w_187 ∧ w_187 ≤ 80 := by omega
      refine z_r_is (kk := z_isI) (ins := (.istore 4)) (len := 2) (t := 63) (i := 4) rfl rfl rfl rfl rfl rfl rfl rfl (fun l l_208 k_209 => ?_)
      have l_210 := k_209 _ _ l_174 (by decide) (Or.inl (by decide))
      have l_211 := k_209 _ _ l_175 (by decide) (Or.inl (by decide))
      have l_212 := k_209 _ _ l_176 (by decide) (Or.inl (by decide))
      have l_213 := k_209 _ _ l_172 (by decide) (Or.inr (by show (1 : Nat) ≠ 2; decide))
      refine z_r_ld (kk := z_isI) (ins := (.iload_n 3)) (len := 1) (t := 64) (i := 3) rfl rfl rfl rfl rfl (fun _ => rfl) l_213 rfl ?_
      refine z_r_jm (ins := (.ifCond .eq 10)) (len := 3) (t := 67) rfl rfl rfl rfl (ye_in (t := 74) rfl (by omega) (by omega) (by show ¬ ((1 : Int) = 0); decide)) ?_
      refine z_r_ld (kk := z_isI) (ins := (.iload_n 2)) (len := 1) (t := 68) (i := 2) rfl rfl rfl rfl rfl (fun _ => rfl) l_212 rfl ?_
      refine z_r_ld (kk := z_isI) (ins := (.iload 4)) (len := 2) (t := 70) (i := 4) rfl rfl rfl rfl rfl (fun _ => rfl) l_208 rfl ?_
      refine z_r_pu (ins := .imul) (len := 1) (t := 71) (st' := [.int (v * v_184)]) rfl rfl rfl rfl rfl ?_
      refine z_r_jm (ins := (.goto 16)) (len := 3) (t := 87) rfl rfl rfl rfl (z_gty rfl) ?_
      refine z_r_is (kk := z_isI) (ins := (.istore_n 2)) (len := 1) (t := 88) (i := 2) rfl rfl rfl rfl rfl rfl rfl rfl (fun l l_214 k_215 => ?_)
      have l_216 := k_215 _ _ l_210 (by decide) (Or.inl (by decide))
      have l_217 := k_215 _ _ l_211 (by decide) (Or.inr (by show (1 : Nat) ≠ 2; decide))
      have l_218 := k_215 _ _ l_213 (by decide) (Or.inl (by decide))
      have l_219 := k_215 _ _ l_208 (by decide) (Or.inl (by decide))
      refine z_r_jm (ins := (.goto (-82))) (len := 3) (t := 6) rfl rfl rfl rfl (z_gty rfl) ?_
      have eq0 : yf T lim L k 3 dp (h + 1) = r_196 := by rw [← er_196, show h + 1 = h + 1 by omega]
      exact kk _ _ _ _ _ _ l_216 l_217 l_214 c_188 f_206 k_190 k_191 c_198 o_199 (by omega) (by omega) (by rw [eq0]; exact h_195)
theorem yg_MPL {P0 : z_H} {F0 : Nat → Value} (fM : aM < z_far) (fB : aB < z_far) (hx : ye_tx T sz (-128) 127 bs) (hl : (lim = sz ∧ sz ≤ tp) ∨ (lim = tp ∧ tp < sz)) (hbl : 0 ≤ sz ∧ sz ≤ 80 ∧ 0 ≤ tp ∧ tp ≤ 40) (hil : (il = 1 ∧ L = [119, 122, 100, 105, 107]) ∨ (il = 0 ∧ L = [109, 99, 104, 119, 115, 110, 107, 112])) (HH : ∀ j, j < K → yg_M xs aM aB T lim sz tp il L bs 206 3 j) (hdp : 0 ≤ dp ∧ dp ≤ 4) (kend : ∀ {l : z_L} {P : z_H} {v : Int32}, z_get l 2 = some (.int v) → ∀ {R : Option Value → z_H → Prop}, R (some (.int v)) P → z_Rh (z_G xs) d 205 (ye_E xs d 205 R) (91, l, [], P, 0, 0)) : ∀ (k : Nat), k ≤ K → ∀ {h : Int} {l : z_L} {P : z_H} {F : Nat → Value} {v : Int32}, P[aM]? = some (10, ye_fl F) → F 15 = .ref aB → F 16 = ye_v sz → F 17 = ye_v tp → F 18 = ye_v h → F 19 = ye_v (-1) → F 29 = ye_v il → F 31 = ye_v (-1) → F 32 = ye_v (-1) → P[aB]? = some (101, bs) → 0 ≤ h ∧ h ≤ lim → z_get l 0 = some (.ref aM) → z_get l 1 = some (ye_v dp) → z_get l 2 = some (.int v) → 4 * (lim - h) - 2 ≤ (k : Int) → 2 * k + 12 ≤ d → ye_fk [18, 19] F0 F → ye_oth [aM] P0 P → z_Rh (z_G xs) d 205 (ye_E xs d 205 (fun r P' => ∃ (v : Int32) (F' : Nat → Value) (h' w' : Int), r = some (.int v) ∧ P'[aM]? = some (10, ye_fl F') ∧ ye_fk [18, 19] F0 F' ∧ F' 18 = ye_v h' ∧ F' 19 = ye_v w' ∧ ye_oth [aM] P0 P' ∧ h ≤ h' ∧ h' ≤ lim ∧ ((w' = -1 ∧ (yg_r T lim L [42, 47] 2 k dp h).1 = true ∧ h' = (yg_r T lim L [42, 47] 2 k dp h).2) ∨ ((yg_r T lim L [42, 47] 2 k dp h).1 = false ∧ w' = (yg_r T lim L [42, 47] 2 k dp h).2)))) (6, l, [], P, 0, 0) := by
  intro k
  induction k with
  | zero =>
    intro hK h l P F v hM k15 k16 k17 k18 k19 k29 k31 k32 hB hh h0 h1 h2 hk hd hF0 hP0
    have yl2 := yl_p2 (T := T) (lim := lim) (r := h)
    have eL : yg_r T lim L [42, 47] 2 0 dp h = (true, h) := if_neg (by omega)
    refine yg_MPE fM fB hx hl hbl hM k15 k16 k17 k18 k19 k29 k31 k32 hB hh h0 h1 h2 (by decide) (by omega) (Or.inr (by omega)) (kend h2 ?_)
    rw [eL]
    exact ⟨v, F, h, -1, rfl, hM, hF0, k18, k19, hP0, Int.le_refl _, hh.2, Or.inl ⟨rfl, rfl, rfl⟩⟩
  | succ k ih =>
    intro hK h l P F v hM k15 k16 k17 k18 k19 k29 k31 k32 hB hh h0 h1 h2 hk hd hF0 hP0
    have yl2 := yl_p2 (T := T) (lim := lim) (r := h)
    by_cases hq : yl T lim [42, 47] h = -1
    · have eL : yg_r T lim L [42, 47] 2 (k + 1) dp h = (true, h) := if_neg (by omega)
      refine yg_MPE fM fB hx hl hbl hM k15 k16 k17 k18 k19 k29 k31 k32 hB hh h0 h1 h2 (by decide) (by omega) (Or.inr (by omega)) (kend h2 ?_)
      rw [eL]
      exact ⟨v, F, h, -1, rfl, hM, hF0, k18, k19, hP0, Int.le_refl _, hh.2, Or.inl ⟨rfl, rfl, rfl⟩⟩
    · have eL : yg_r T lim L [42, 47] 2 (k + 1) dp h = (if (yf T lim L k 3 dp (h + 1)).1 = true then yg_r T lim L [42, 47] 2 k dp (yf T lim L k 3 dp (h + 1)).2 else (false, (yf T lim L k 3 dp (h + 1)).2)) := (if_pos hq).trans yf_2
      have bd := yf_bd (T := T) (L := L) (lim := lim) k 3 dp (h + 1) (by omega)
      refine yg_MPI fM fB hx hl hbl hil (HH k (by omega)) hM k15 k16 k17 k18 k19 k29 k31 k32 hB hh h0 h1 h2 rfl hdp (by omega) (by omega) (by omega) ?_
      intro l P' F' v' h' w' g0 g1 g2 hM' q1 m18 m19 hB' ho' hh' hw' hc
      have n15 := (q1 15 (by decide)).trans k15
      have n16 := (q1 16 (by decide)).trans k16
      have n17 := (q1 17 (by decide)).trans k17
      have n29 := (q1 29 (by decide)).trans k29
      have n31 := (q1 31 (by decide)).trans k31
      have n32 := (q1 32 (by decide)).trans k32
      rcases hc with ⟨c1, c2, c3⟩ | ⟨c1, c2⟩
      · rw [eL, if_pos c2, ← c3]
        rw [c1] at m19
        have b3 := bd.2.2 c2
        refine yg_rh_mono (ih (by omega) hM' n15 n16 n17 m18 m19 n29 n31 n32 hB' ⟨by omega, by omega⟩ g0 g1 g2 (by omega) (by omega) (ye_fk_tr hF0 q1 (fun _ q => q)) (ye_oth_tr hP0 ho' (fun _ q => q))) ?_
        rintro q' ⟨r, P2, k1, v2, F2, h2, w2, e1, e2, e3, e4, e5, e6, e7, e8, e9⟩
        exact ⟨r, P2, k1, v2, F2, h2, w2, e1, e2, e3, e4, e5, e6, by omega, e8, e9⟩
      · refine yg_MPE fM fB hx hl hbl hM' n15 n16 n17 m18 m19 n29 n31 n32 hB' ⟨by omega, hh'.2⟩ g0 g1 g2 hw' (by omega) (Or.inl (by omega)) (kend g2 ?_)
        rw [eL, if_neg (by rw [c1]; decide)]
        exact ⟨v', F', h', w', rfl, hM', ye_fk_tr hF0 q1 (fun _ q => q), m18, m19, ye_oth_tr hP0 ho' (fun _ q => q), by omega, hh'.2, Or.inr ⟨rfl, c2⟩⟩
theorem yg_MPR {R : Option Value → z_H → Prop} (h2 : z_get l 2 = some (.int v)) (k : R (some (.int v)) P) : z_Rh (z_G xs) d 205 (ye_E xs d 205 R) (91, l, [], P, 0, 0) := by
  refine z_r_ld (kk := z_isI) (ins := (.iload_n 2)) (len := 1) (t := 92) (i := 2) rfl rfl rfl rfl rfl (fun _ => rfl) h2 rfl ?_
  refine ye_ret (ins := .ireturn) rfl rfl rfl (ye_reti0 rfl) ?_
  exact k
theorem yg_mprod (fM : aM < z_far) (fB : aB < z_far) (hx : ye_tx T sz (-128) 127 bs) (hl : (lim = sz ∧ sz ≤ tp) ∨ (lim = tp ∧ tp < sz)) (hbl : 0 ≤ sz ∧ sz ≤ 80 ∧ 0 ≤ tp ∧ tp ≤ 40) (hil : (il = 1 ∧ L = [119, 122, 100, 105, 107]) ∨ (il = 0 ∧ L = [109, 99, 104, 119, 115, 110, 107, 112])) (HH : ∀ j, j < K → yg_M xs aM aB T lim sz tp il L bs 206 3 j) : yg_M xs aM aB T lim sz tp il L bs 205 2 K := by
  intro d P F h dp hM k15 k16 k17 k18 k19 k29 k31 k32 hB hh hdp hk hd
  obtain ⟨k, rfl⟩ : ∃ k, K = k + 1 := ⟨K - 1, by omega⟩
  have H1 := HH k (by omega)
  refine ye_go ?_
  have a0 : z_get (lv_args 0 [.ref aM, ye_v dp]) 0 = some (.ref aM) := rfl
  have a1 : z_get (lv_args 0 [.ref aM, ye_v dp]) 1 = some (ye_v dp) := rfl
  have ho0 : ye_oth [aM] P P := ye_oth_rf
  have hf0 : ye_fk [18, 19] F F := ye_fk_rf
  refine z_r_ld (kk := z_isA) (ins := (.aload_n 0)) (len := 1) (t := 1) (i := 0) rfl rfl rfl rfl rfl (fun _ => rfl) a0 rfl ?_
  refine z_r_ld (kk := z_isI) (ins := (.iload_n 1)) (len := 1) (t := 2) (i := 1) rfl rfl rfl rfl rfl (fun _ => rfl) a1 rfl ?_
  refine ye_ca (ins := (.invokevirtual 211)) (kd := 1) (t := 5) rfl rfl (by decide) (z_argsv rfl rfl rfl (by omega) (Nat.le_of_ble_eq_true rfl) rfl (Nat.le_of_ble_eq_true rfl) (Nat.le_refl _) (Nat.le_refl _) (Or.inr (Nat.le_of_ble_eq_true rfl)) (Or.inr (z_atv (z_lkn fM hM) rfl))) rfl rfl rfl (H1 _ _ _ _ _ hM k15 k16 k17 k18 k19 k29 k31 k32 hB (by omega) (by omega) (by omega) (by omega)) ?_
  rintro _ P_1 ⟨v_2, F_3, q_4, w_5, rfl, c_6, f_7, k_8, k_9, o_10, b_11, b_12, h_13⟩
  have d_15 := yf_bd (T := T) (L := L) (lim := lim) k 3 dp h (by omega)
  generalize er_14 : yf T lim L k 3 dp h = r_14 at h_13 d_15
  have c_16 := ye_kp o_10 (ye_n1 (ye_ne hB hM (by decide))) hB
  have o_17 := ye_oth_tr ho0 o_10 (ye_s1 (List.mem_cons_self))
  have f_18 : F_3 15 = .ref aB := (f_7 15 (by decide)).trans k15
  have f_19 : F_3 16 = ye_v sz := (f_7 16 (by decide)).trans k16
  have f_20 : F_3 17 = ye_v tp := (f_7 17 (by decide)).trans k17
  have f_21 : F_3 29 = ye_v il := (f_7 29 (by decide)).trans k29
  have f_22 : F_3 31 = ye_v ((-1)) := (f_7 31 (by decide)).trans k31
  have f_23 : F_3 32 = ye_v ((-1)) := (f_7 32 (by decide)).trans k32
  have f_24 := ye_fk_tr hf0 f_7 (by decide)
  have b_25 : -1 ≤ w_5 ∧ w_5 ≤ 80 := by omega
  refine z_r_is (kk := z_isI) (ins := (.istore_n 2)) (len := 1) (t := 6) (i := 2) rfl rfl rfl rfl rfl rfl rfl rfl (fun l l_26 k_27 => ?_)
  have l_28 := k_27 _ _ a0 (by decide) (Or.inl (by decide))
  have l_29 := k_27 _ _ a1 (by decide) (Or.inr (by show (1 : Nat) ≠ 2; decide))
  rw [yf_2, er_14]
  rcases h_13 with ⟨g1, g2, g3⟩ | ⟨g1, g2⟩
  · rw [if_pos g2, ← g3]
    have b3 := d_15.2.2 g2
    refine yg_rh_mono (yg_MPL (P0 := P) (F0 := F) fM fB hx hl hbl hil (K := k) (fun j hj => HH j (by omega)) hdp (fun e1 _ e2 => yg_MPR e1 e2) k (Nat.le_refl _) c_6 f_18 f_19 f_20 k_8 (by rw [k_9, g1]) f_21 f_22 f_23 c_16 ⟨by omega, by omega⟩ l_28 l_29 l_26 (by omega) (by omega) f_24 o_17) ?_
    rintro q' ⟨r2, P2, k1, v2, F2, h2, w2, e1, e2, e3, e4, e5, e6, e7, e8, e9⟩
    exact ⟨r2, P2, k1, v2, F2, h2, w2, e1, e2, e3, e4, e5, e6, by omega, e8, e9⟩
  · refine yg_MPE fM fB hx hl hbl c_6 f_18 f_19 f_20 k_8 k_9 f_21 f_22 f_23 c_16 ⟨by omega, by omega⟩ l_28 l_29 l_26 (by omega) (by omega) (Or.inl (by omega)) (yg_MPR l_26 ?_)
    rw [if_neg (by rw [g1]; decide)]
    exact ⟨v_2, _, q_4, w_5, rfl, c_6, f_24, k_8, k_9, o_17, by omega, by omega, Or.inr ⟨rfl, g2⟩⟩
theorem yg_MSE {Φ : z_S → Prop} (fM : aM < z_far) (fB : aB < z_far) (hx : ye_tx T sz (-128) 127 bs) (hl : (lim = sz ∧ sz ≤ tp) ∨ (lim = tp ∧ tp < sz)) (hbl : 0 ≤ sz ∧ sz ≤ 80 ∧ 0 ≤ tp ∧ tp ≤ 40) (hM : P[aM]? = some (10, ye_fl F)) (k15 : F 15 = .ref aB) (k16 : F 16 = ye_v sz) (k17 : F 17 = ye_v tp) (k18 : F 18 = ye_v h) (k19 : F 19 = ye_v w) (k29 : F 29 = ye_v il) (k31 : F 31 = ye_v (-1)) (k32 : F 32 = ye_v (-1)) (hB : P[aB]? = some (101, bs)) (hh : 0 ≤ h ∧ h ≤ lim)
    (h0 : z_get l 0 = some (.ref aM)) (h1 : z_get l 1 = some (ye_v dp)) (h2 : z_get l 2 = some (.int v)) (hw : -1 ≤ w ∧ w ≤ 80) (hd : 2 ≤ d) (hq : w ≠ -1 ∨ ¬ (h < lim ∧ (T h = 43 ∨ T h = 45)))
    (kk : z_Rh (z_G xs) d 204 Φ (82, l, [], P, 0, 0)) : z_Rh (z_G xs) d 204 Φ (6, l, [], P, 0, 0) := by
  refine z_r_ld (kk := z_isA) (ins := (.aload_n 0)) (len := 1) (t := 7) (i := 0) rfl rfl rfl rfl rfl (fun _ => rfl) h0 rfl ?_
  refine ye_ca (ins := (.invokevirtual 159)) (kd := 1) (t := 10) rfl rfl (by decide) (z_argsv rfl rfl rfl (by omega) (Nat.le_of_ble_eq_true rfl) rfl (Nat.le_of_ble_eq_true rfl) (Nat.le_refl _) (Nat.le_refl _) (Or.inr (Nat.le_of_ble_eq_true rfl)) (Or.inr (z_atv (z_lkn fM hM) rfl))) rfl rfl rfl (ye_fine hM fM k19 (by omega)) ?_
  rintro _ _ ⟨rfl, b_1, rfl, h_2⟩
  by_cases b_3 : b_1 = 0
  · skip
    refine z_r_jm (ins := (.ifCond .eq 72)) (len := 3) (t := 82) rfl rfl rfl rfl (ye_iy (t := 82) rfl (by omega) (by omega) b_3) ?_
    exact kk
  · skip
    refine z_r_jm (ins := (.ifCond .eq 72)) (len := 3) (t := 13) rfl rfl rfl rfl (ye_in (t := 82) rfl (by omega) (by omega) b_3) ?_
    refine z_r_ld (kk := z_isA) (ins := (.aload_n 0)) (len := 1) (t := 14) (i := 0) rfl rfl rfl rfl rfl (fun _ => rfl) h0 rfl ?_
    refine ye_ca (ins := (.invokevirtual 163)) (kd := 1) (t := 17) rfl rfl (by decide) (z_argsv rfl rfl rfl (by omega) (Nat.le_of_ble_eq_true rfl) rfl (Nat.le_of_ble_eq_true rfl) (Nat.le_refl _) (Nat.le_refl _) (Or.inr (Nat.le_of_ble_eq_true rfl)) (Or.inr (z_atv (z_lkn fM hM) rfl))) rfl rfl rfl (ye_here (lim := lim) hM fM k15 k16 k17 k18 k19 hB fB hx (by omega) (by omega)) ?_
    rintro _ _ ⟨rfl, e_4, rfl, h_5⟩
    unfold ye_sig at h_5
    refine z_r_pu (ins := (.bipush 43)) (len := 2) (t := 19) rfl rfl rfl rfl (ye_bi (by decide) (by decide)) ?_
    refine z_r_jm (ins := (.if_icmp .eq 12)) (len := 3) (t := 22) rfl rfl rfl rfl (ye_jn (t := 31) rfl (by omega) (by omega) (by omega) (by omega) (by show ¬ (e_4 = 43); omega)) ?_
    refine z_r_ld (kk := z_isA) (ins := (.aload_n 0)) (len := 1) (t := 23) (i := 0) rfl rfl rfl rfl rfl (fun _ => rfl) h0 rfl ?_
    refine ye_ca (ins := (.invokevirtual 163)) (kd := 1) (t := 26) rfl rfl (by decide) (z_argsv rfl rfl rfl (by omega) (Nat.le_of_ble_eq_true rfl) rfl (Nat.le_of_ble_eq_true rfl) (Nat.le_refl _) (Nat.le_refl _) (Or.inr (Nat.le_of_ble_eq_true rfl)) (Or.inr (z_atv (z_lkn fM hM) rfl))) rfl rfl rfl (ye_here (lim := lim) hM fM k15 k16 k17 k18 k19 hB fB hx (by omega) (by omega)) ?_
    rintro _ _ ⟨rfl, e_6, rfl, h_7⟩
    unfold ye_sig at h_7
    refine z_r_pu (ins := (.bipush 45)) (len := 2) (t := 28) rfl rfl rfl rfl (ye_bi (by decide) (by decide)) ?_
    refine z_r_jm (ins := (.if_icmp .ne 54)) (len := 3) (t := 82) rfl rfl rfl rfl (ye_jy (t := 82) rfl (by omega) (by omega) (by omega) (by omega) (by show e_6 ≠ 45; omega)) ?_
    exact kk
set_option maxHeartbeats 8000000 in
theorem yg_MSI (fM : aM < z_far) (fB : aB < z_far) (hx : ye_tx T sz (-128) 127 bs) (hl : (lim = sz ∧ sz ≤ tp) ∨ (lim = tp ∧ tp < sz)) (hbl : 0 ≤ sz ∧ sz ≤ 80 ∧ 0 ≤ tp ∧ tp ≤ 40) (hil : (il = 1 ∧ L = [119, 122, 100, 105, 107]) ∨ (il = 0 ∧ L = [109, 99, 104, 119, 115, 110, 107, 112])) (H1 : yg_M xs aM aB T lim sz tp il L bs 205 2 k)
    (hM : P[aM]? = some (10, ye_fl F)) (k15 : F 15 = .ref aB) (k16 : F 16 = ye_v sz) (k17 : F 17 = ye_v tp) (k18 : F 18 = ye_v h) (k19 : F 19 = ye_v w) (k29 : F 29 = ye_v il) (k31 : F 31 = ye_v (-1)) (k32 : F 32 = ye_v (-1)) (hB : P[aB]? = some (101, bs)) (hh : 0 ≤ h ∧ h ≤ lim)
    (h0 : z_get l 0 = some (.ref aM)) (h1 : z_get l 1 = some (ye_v dp)) (h2 : z_get l 2 = some (.int v)) (hw : w = -1) (hdp : 0 ≤ dp ∧ dp ≤ 4) (hq : h < lim ∧ (T h = 43 ∨ T h = 45)) (hk : 4 * (lim - h) - 1 ≤ (k : Int) + 1) (hd : 2 * k + 13 ≤ d)
    (kk : ∀ l P' F' v' h' w', z_get l 0 = some (.ref aM) → z_get l 1 = some (ye_v dp) → z_get l 2 = some (.int v') → P'[aM]? = some (10, ye_fl F') → ye_fk [18, 19] F F' → F' 18 = ye_v h' → F' 19 = ye_v w' → P'[aB]? = some (101, bs) → ye_oth [aM] P P' → h + 1 ≤ h' ∧ h' ≤ lim → -1 ≤ w' ∧ w' ≤ 80 → ((w' = -1 ∧ (yf T lim L k 2 dp (h + 1)).1 = true ∧ h' = (yf T lim L k 2 dp (h + 1)).2) ∨ ((yf T lim L k 2 dp (h + 1)).1 = false ∧ w' = (yf T lim L k 2 dp (h + 1)).2)) → z_Rh (z_G xs) d 204 Ψ (6, l, [], P', 0, 0)) : z_Rh (z_G xs) d 204 Ψ (6, l, [], P, 0, 0) := by
  have ho0 : ye_oth [aM] P P := ye_oth_rf
  have hf0 : ye_fk [18, 19] F F := ye_fk_rf
  refine z_r_ld (kk := z_isA) (ins := (.aload_n 0)) (len := 1) (t := 7) (i := 0) rfl rfl rfl rfl rfl (fun _ => rfl) h0 rfl ?_
  refine ye_ca (ins := (.invokevirtual 159)) (kd := 1) (t := 10) rfl rfl (by decide) (z_argsv rfl rfl rfl (by omega) (Nat.le_of_ble_eq_true rfl) rfl (Nat.le_of_ble_eq_true rfl) (Nat.le_refl _) (Nat.le_refl _) (Or.inr (Nat.le_of_ble_eq_true rfl)) (Or.inr (z_atv (z_lkn fM hM) rfl))) rfl rfl rfl (ye_fine hM fM k19 (by omega)) ?_
  rintro _ _ ⟨rfl, b_1, rfl, h_2⟩
  refine z_r_jm (ins := (.ifCond .eq 72)) (len := 3) (t := 13) rfl rfl rfl rfl (ye_in (t := 82) rfl (by omega) (by omega) (by show ¬ (b_1 = 0); omega)) ?_
  refine z_r_ld (kk := z_isA) (ins := (.aload_n 0)) (len := 1) (t := 14) (i := 0) rfl rfl rfl rfl rfl (fun _ => rfl) h0 rfl ?_
  refine ye_ca (ins := (.invokevirtual 163)) (kd := 1) (t := 17) rfl rfl (by decide) (z_argsv rfl rfl rfl (by omega) (Nat.le_of_ble_eq_true rfl) rfl (Nat.le_of_ble_eq_true rfl) (Nat.le_refl _) (Nat.le_refl _) (Or.inr (Nat.le_of_ble_eq_true rfl)) (Or.inr (z_atv (z_lkn fM hM) rfl))) rfl rfl rfl (ye_here (lim := lim) hM fM k15 k16 k17 k18 k19 hB fB hx (by omega) (by omega)) ?_
  rintro _ _ ⟨rfl, e_3, rfl, h_4⟩
  unfold ye_sig at h_4
  refine z_r_pu (ins := (.bipush 43)) (len := 2) (t := 19) rfl rfl rfl rfl (ye_bi (by decide) (by decide)) ?_
  by_cases b_5 : e_3 = 43
  · skip
    refine z_r_jm (ins := (.if_icmp .eq 12)) (len := 3) (t := 31) rfl rfl rfl rfl (ye_jy (t := 31) rfl (by omega) (by omega) (by omega) (by omega) b_5) ?_
    refine z_r_ld (kk := z_isA) (ins := (.aload_n 0)) (len := 1) (t := 32) (i := 0) rfl rfl rfl rfl rfl (fun _ => rfl) h0 rfl ?_
    refine ye_ca (ins := (.invokevirtual 163)) (kd := 1) (t := 35) rfl rfl (by decide) (z_argsv rfl rfl rfl (by omega) (Nat.le_of_ble_eq_true rfl) rfl (Nat.le_of_ble_eq_true rfl) (Nat.le_refl _) (Nat.le_refl _) (Or.inr (Nat.le_of_ble_eq_true rfl)) (Or.inr (z_atv (z_lkn fM hM) rfl))) rfl rfl rfl (ye_here (lim := lim) hM fM k15 k16 k17 k18 k19 hB fB hx (by omega) (by omega)) ?_
    rintro _ _ ⟨rfl, e_6, rfl, h_7⟩
    unfold ye_sig at h_7
    refine z_r_pu (ins := (.bipush 43)) (len := 2) (t := 37) rfl rfl rfl rfl (ye_bi (by decide) (by decide)) ?_
    by_cases b_8 : e_6 ≠ 43
    · skip
      refine z_r_jm (ins := (.if_icmp .ne 7)) (len := 3) (t := 44) rfl rfl rfl rfl (ye_jy (t := 44) rfl (by omega) (by omega) (by omega) (by omega) b_8) ?_
      refine z_r_pu (ins := (.iconst 0)) (len := 1) (t := 45) (st' := [ye_v 0]) rfl rfl rfl rfl rfl ?_
      refine z_r_is (kk := z_isI) (ins := (.istore_n 3)) (len := 1) (t := 46) (i := 3) rfl rfl rfl rfl rfl rfl rfl rfl (fun l l_9 k_10 => ?_)
      have l_11 := k_10 _ _ h0 (by decide) (Or.inl (by decide))
      have l_12 := k_10 _ _ h1 (by decide) (Or.inl (by decide))
      have l_13 := k_10 _ _ h2 (by decide) (Or.inr (by show (1 : Nat) ≠ 2; decide))
      refine z_r_ld (kk := z_isA) (ins := (.aload_n 0)) (len := 1) (t := 47) (i := 0) rfl rfl rfl rfl rfl (fun _ => rfl) l_11 rfl ?_
      refine z_r_pu (ins := .dup) (len := 1) (t := 48) rfl rfl rfl rfl rfl ?_
      refine z_r_rd (ins := (.getfield 153)) (len := 3) (t := 51) rfl rfl rfl rfl rfl (z_gfv (ci := 10) (k := 18) (v := ye_v h) rfl (z_lkn fM hM) (by decide) (ye_flg rfl k18)) ?_
      refine z_r_pu (ins := (.iconst 1)) (len := 1) (t := 52) (st' := [ye_v 1, ye_v h, .ref aM]) rfl rfl rfl rfl rfl ?_
      refine z_r_pu (ins := .iadd) (len := 1) (t := 53) rfl rfl rfl rfl ye_add ?_
      refine ye_r_wr (ins := (.putfield 153)) (len := 3) (t := 56) (a := aM) (q := (10, ye_fl (ye_up F 18 (ye_v (h + 1))))) rfl rfl rfl rfl rfl hM (ye_pfm (k := 18) rfl hM rfl rfl rfl rfl) (fun P_14 c_15 o_16 => ?_)
      have c_17 := ye_kp o_16 (ye_n1 (ye_ne hB hM (by decide))) hB
      have o_18 := ye_oth_tr ho0 o_16 (ye_s1 (List.mem_cons_self))
      have f_19 := ye_fk_up (j := 18) (v := ye_v (h + 1)) hf0 (List.mem_cons_self)
      refine z_r_ld (kk := z_isA) (ins := (.aload_n 0)) (len := 1) (t := 57) (i := 0) rfl rfl rfl rfl rfl (fun _ => rfl) l_11 rfl ?_
      refine z_r_ld (kk := z_isI) (ins := (.iload_n 1)) (len := 1) (t := 58) (i := 1) rfl rfl rfl rfl rfl (fun _ => rfl) l_12 rfl ?_
      refine ye_ca (ins := (.invokevirtual 208)) (kd := 1) (t := 61) rfl rfl (by decide) (z_argsv rfl rfl rfl (by omega) (Nat.le_of_ble_eq_true rfl) rfl (Nat.le_of_ble_eq_true rfl) (Nat.le_refl _) (Nat.le_refl _) (Or.inr (Nat.le_of_ble_eq_true rfl)) (Or.inr (z_atv (z_lkn fM c_15) rfl))) rfl rfl rfl (H1 _ _ _ _ _ c_15 k15 k16 k17 rfl (Eq.trans k19 (congrArg ye_v (show w = -1 by omega))) k29 k31 k32 c_17 (by omega) (by omega) (by omega) (by omega)) ?_
      rintro _ P_20 ⟨v_21, F_22, q_23, w_24, rfl, c_25, f_26, k_27, k_28, o_29, b_30, b_31, h_32⟩
      have d_34 := yf_bd (T := T) (L := L) (lim := lim) k 2 dp (h + 1) (by omega)
      generalize er_33 : yf T lim L k 2 dp (h + 1) = r_33 at h_32 d_34
      have c_35 := ye_kp o_29 (ye_n1 (ye_ne c_17 c_15 (by decide))) c_17
      have o_36 := ye_oth_tr o_18 o_29 (ye_s1 (List.mem_cons_self))
      have f_37 : F_22 15 = .ref aB := (f_26 15 (by decide)).trans k15
      have f_38 : F_22 16 = ye_v sz := (f_26 16 (by decide)).trans k16
      have f_39 : F_22 17 = ye_v tp := (f_26 17 (by decide)).trans k17
      have f_40 : F_22 29 = ye_v il := (f_26 29 (by decide)).trans k29
      have f_41 : F_22 31 = ye_v ((-1)) := (f_26 31 (by decide)).trans k31
      have f_42 : F_22 32 = ye_v ((-1)) := (f_26 32 (by decide)).trans k32
      have f_43 := ye_fk_tr f_19 f_26 (by decide)
      have b_44 : -1 ≤ w_24 ∧ w_24 ≤ 80 := by omega
      refine z_r_is (kk := z_isI) (ins := (.istore 4)) (len := 2) (t := 63) (i := 4) rfl rfl rfl rfl rfl rfl rfl rfl (fun l l_45 k_46 => ?_)
      have l_47 := k_46 _ _ l_11 (by decide) (Or.inl (by decide))
      have l_48 := k_46 _ _ l_12 (by decide) (Or.inl (by decide))
      have l_49 := k_46 _ _ l_13 (by decide) (Or.inl (by decide))
      have l_50 := k_46 _ _ l_9 (by decide) (Or.inr (by show (1 : Nat) ≠ 2; decide))
      refine z_r_ld (kk := z_isI) (ins := (.iload_n 3)) (len := 1) (t := 64) (i := 3) rfl rfl rfl rfl rfl (fun _ => rfl) l_50 rfl ?_
      refine z_r_jm (ins := (.ifCond .eq 10)) (len := 3) (t := 74) rfl rfl rfl rfl (ye_iy (t := 74) rfl (by omega) (by omega) (by show (0 : Int) = 0; decide)) ?_
      refine z_r_ld (kk := z_isI) (ins := (.iload_n 2)) (len := 1) (t := 75) (i := 2) rfl rfl rfl rfl rfl (fun _ => rfl) l_49 rfl ?_
      refine z_r_ld (kk := z_isI) (ins := (.iload 4)) (len := 2) (t := 77) (i := 4) rfl rfl rfl rfl rfl (fun _ => rfl) l_45 rfl ?_
      refine z_r_pu (ins := .isub) (len := 1) (t := 78) (st' := [.int (v - v_21)]) rfl rfl rfl rfl rfl ?_
      refine z_r_is (kk := z_isI) (ins := (.istore_n 2)) (len := 1) (t := 79) (i := 2) rfl rfl rfl rfl rfl rfl rfl rfl (fun l l_51 k_52 => ?_)
      have l_53 := k_52 _ _ l_47 (by decide) (Or.inl (by decide))
      have l_54 := k_52 _ _ l_48 (by decide) (Or.inr (by show (1 : Nat) ≠ 2; decide))
      have l_55 := k_52 _ _ l_50 (by decide) (Or.inl (by decide))
      have l_56 := k_52 _ _ l_45 (by decide) (Or.inl (by decide))
      refine z_r_jm (ins := (.goto (-73))) (len := 3) (t := 6) rfl rfl rfl rfl (z_gty rfl) ?_
      have eq0 : yf T lim L k 2 dp (h + 1) = r_33 := by rw [← er_33, show h + 1 = h + 1 by omega]
      exact kk _ _ _ _ _ _ l_53 l_54 l_51 c_25 f_43 k_27 k_28 c_35 o_36 (by omega) (by omega) (by rw [eq0]; exact h_32)
    · skip
      refine z_r_jm (ins := (.if_icmp .ne 7)) (len := 3) (t := 40) rfl rfl rfl rfl (ye_jn (t := 44) rfl (by omega) (by omega) (by omega) (by omega) b_8) ?_
      refine z_r_pu (ins := (.iconst 1)) (len := 1) (t := 41) (st' := [ye_v 1]) rfl rfl rfl rfl rfl ?_
      refine z_r_jm (ins := (.goto 4)) (len := 3) (t := 45) rfl rfl rfl rfl (z_gty rfl) ?_
      refine z_r_is (kk := z_isI) (ins := (.istore_n 3)) (len := 1) (t := 46) (i := 3) rfl rfl rfl rfl rfl rfl rfl rfl (fun l l_57 k_58 => ?_)
      have l_59 := k_58 _ _ h0 (by decide) (Or.inl (by decide))
      have l_60 := k_58 _ _ h1 (by decide) (Or.inl (by decide))
      have l_61 := k_58 _ _ h2 (by decide) (Or.inr (by show (1 : Nat) ≠ 2; decide))
      refine z_r_ld (kk := z_isA) (ins := (.aload_n 0)) (len := 1) (t := 47) (i := 0) rfl rfl rfl rfl rfl (fun _ => rfl) l_59 rfl ?_
      refine z_r_pu (ins := .dup) (len := 1) (t := 48) rfl rfl rfl rfl rfl ?_
      refine z_r_rd (ins := (.getfield 153)) (len := 3) (t := 51) rfl rfl rfl rfl rfl (z_gfv (ci := 10) (k := 18) (v := ye_v h) rfl (z_lkn fM hM) (by decide) (ye_flg rfl k18)) ?_
      refine z_r_pu (ins := (.iconst 1)) (len := 1) (t := 52) (st' := [ye_v 1, ye_v h, .ref aM]) rfl rfl rfl rfl rfl ?_
      refine z_r_pu (ins := .iadd) (len := 1) (t := 53) rfl rfl rfl rfl ye_add ?_
      refine ye_r_wr (ins := (.putfield 153)) (len := 3) (t := 56) (a := aM) (q := (10, ye_fl (ye_up F 18 (ye_v (h + 1))))) rfl rfl rfl rfl rfl hM (ye_pfm (k := 18) rfl hM rfl rfl rfl rfl) (fun P_62 c_63 o_64 => ?_)
      have c_65 := ye_kp o_64 (ye_n1 (ye_ne hB hM (by decide))) hB
      have o_66 := ye_oth_tr ho0 o_64 (ye_s1 (List.mem_cons_self))
      have f_67 := ye_fk_up (j := 18) (v := ye_v (h + 1)) hf0 (List.mem_cons_self)
      refine z_r_ld (kk := z_isA) (ins := (.aload_n 0)) (len := 1) (t := 57) (i := 0) rfl rfl rfl rfl rfl (fun _ => rfl) l_59 rfl ?_
      refine z_r_ld (kk := z_isI) (ins := (.iload_n 1)) (len := 1) (t := 58) (i := 1) rfl rfl rfl rfl rfl (fun _ => rfl) l_60 rfl ?_
      refine ye_ca (ins := (.invokevirtual 208)) (kd := 1) (t := 61) rfl rfl (by decide) (z_argsv rfl rfl rfl (by omega) (Nat.le_of_ble_eq_true rfl) rfl (Nat.le_of_ble_eq_true rfl) (Nat.le_refl _) (Nat.le_refl _) (Or.inr (Nat.le_of_ble_eq_true rfl)) (Or.inr (z_atv (z_lkn fM c_63) rfl))) rfl rfl rfl (H1 _ _ _ _ _ c_63 k15 k16 k17 rfl (Eq.trans k19 (congrArg ye_v (show w = -1 by omega))) k29 k31 k32 c_65 (by omega) (by omega) (by omega) (by omega)) ?_
      rintro _ P_68 ⟨v_69, F_70, q_71, w_72, rfl, c_73, f_74, k_75, k_76, o_77, b_78, b_79, h_80⟩
      have d_82 := yf_bd (T := T) (L := L) (lim := lim) k 2 dp (h + 1) (by omega)
      generalize er_81 : yf T lim L k 2 dp (h + 1) = r_81 at h_80 d_82
      have c_83 := ye_kp o_77 (ye_n1 (ye_ne c_65 c_63 (by decide))) c_65
      have o_84 := ye_oth_tr o_66 o_77 (ye_s1 (List.mem_cons_self))
      have f_85 : F_70 15 = .ref aB := (f_74 15 (by decide)).trans k15
      have f_86 : F_70 16 = ye_v sz := (f_74 16 (by decide)).trans k16
      have f_87 : F_70 17 = ye_v tp := (f_74 17 (by decide)).trans k17
      have f_88 : F_70 29 = ye_v il := (f_74 29 (by decide)).trans k29
      have f_89 : F_70 31 = ye_v ((-1)) := (f_74 31 (by decide)).trans k31
      have f_90 : F_70 32 = ye_v ((-1)) := (f_74 32 (by decide)).trans k32
      have f_91 := ye_fk_tr f_67 f_74 (by decide)
      have b_92 : -1 ≤ w_72 ∧ w_72 ≤ 80 := by omega
      refine z_r_is (kk := z_isI) (ins := (.istore 4)) (len := 2) (t := 63) (i := 4) rfl rfl rfl rfl rfl rfl rfl rfl (fun l l_93 k_94 => ?_)
      have l_95 := k_94 _ _ l_59 (by decide) (Or.inl (by decide))
      have l_96 := k_94 _ _ l_60 (by decide) (Or.inl (by decide))
      have l_97 := k_94 _ _ l_61 (by decide) (Or.inl (by decide))
      have l_98 := k_94 _ _ l_57 (by decide) (Or.inr (by show (1 : Nat) ≠ 2; decide))
      refine z_r_ld (kk := z_isI) (ins := (.iload_n 3)) (len := 1) (t := 64) (i := 3) rfl rfl rfl rfl rfl (fun _ => rfl) l_98 rfl ?_
      refine z_r_jm (ins := (.ifCond .eq 10)) (len := 3) (t := 67) rfl rfl rfl rfl (ye_in (t := 74) rfl (by omega) (by omega) (by show ¬ ((1 : Int) = 0); decide)) ?_
      refine z_r_ld (kk := z_isI) (ins := (.iload_n 2)) (len := 1) (t := 68) (i := 2) rfl rfl rfl rfl rfl (fun _ => rfl) l_97 rfl ?_
      refine z_r_ld (kk := z_isI) (ins := (.iload 4)) (len := 2) (t := 70) (i := 4) rfl rfl rfl rfl rfl (fun _ => rfl) l_93 rfl ?_
      refine z_r_pu (ins := .iadd) (len := 1) (t := 71) (st' := [.int (v + v_69)]) rfl rfl rfl rfl rfl ?_
      refine z_r_jm (ins := (.goto 7)) (len := 3) (t := 78) rfl rfl rfl rfl (z_gty rfl) ?_
      refine z_r_is (kk := z_isI) (ins := (.istore_n 2)) (len := 1) (t := 79) (i := 2) rfl rfl rfl rfl rfl rfl rfl rfl (fun l l_99 k_100 => ?_)
      have l_101 := k_100 _ _ l_95 (by decide) (Or.inl (by decide))
      have l_102 := k_100 _ _ l_96 (by decide) (Or.inr (by show (1 : Nat) ≠ 2; decide))
      have l_103 := k_100 _ _ l_98 (by decide) (Or.inl (by decide))
      have l_104 := k_100 _ _ l_93 (by decide) (Or.inl (by decide))
      refine z_r_jm (ins := (.goto (-73))) (len := 3) (t := 6) rfl rfl rfl rfl (z_gty rfl) ?_
      have eq0 : yf T lim L k 2 dp (h + 1) = r_81 := by rw [← er_81, show h + 1 = h + 1 by omega]
      exact kk _ _ _ _ _ _ l_101 l_102 l_99 c_73 f_91 k_75 k_76 c_83 o_84 (by omega) (by omega) (by rw [eq0]; exact h_80)
  · skip
    refine z_r_jm (ins := (.if_icmp .eq 12)) (len := 3) (t := 22) rfl rfl rfl rfl (ye_jn (t := 31) rfl (by omega) (by omega) (by omega) (by omega) b_5) ?_
    refine z_r_ld (kk := z_isA) (ins := (.aload_n 0)) (len := 1) (t := 23) (i := 0) rfl rfl rfl rfl rfl (fun _ => rfl) h0 rfl ?_
    refine ye_ca (ins := (.invokevirtual 163)) (kd := 1) (t := 26) rfl rfl (by decide) (z_argsv rfl rfl rfl (by omega) (Nat.le_of_ble_eq_true rfl) rfl (Nat.le_of_ble_eq_true rfl) (Nat.le_refl _) (Nat.le_refl _) (Or.inr (Nat.le_of_ble_eq_true rfl)) (Or.inr (z_atv (z_lkn fM hM) rfl))) rfl rfl rfl (ye_here (lim := lim) hM fM k15 k16 k17 k18 k19 hB fB hx (by omega) (by omega)) ?_
    rintro _ _ ⟨rfl, e_105, rfl, h_106⟩
    unfold ye_sig at h_106
    refine z_r_pu (ins := (.bipush 45)) (len := 2) (t := 28) rfl rfl rfl rfl (ye_bi (by decide) (by decide)) ?_
    refine z_r_jm (ins := (.if_icmp .ne 54)) (len := 3) (t := 31) rfl rfl rfl rfl (ye_jn (t := 82) rfl (by omega) (by omega) (by omega) (by omega) (by show ¬ (e_105 ≠ 45); omega)) ?_
    refine z_r_ld (kk := z_isA) (ins := (.aload_n 0)) (len := 1) (t := 32) (i := 0) rfl rfl rfl rfl rfl (fun _ => rfl) h0 rfl ?_
    refine ye_ca (ins := (.invokevirtual 163)) (kd := 1) (t := 35) rfl rfl (by decide) (z_argsv rfl rfl rfl (by omega) (Nat.le_of_ble_eq_true rfl) rfl (Nat.le_of_ble_eq_true rfl) (Nat.le_refl _) (Nat.le_refl _) (Or.inr (Nat.le_of_ble_eq_true rfl)) (Or.inr (z_atv (z_lkn fM hM) rfl))) rfl rfl rfl (ye_here (lim := lim) hM fM k15 k16 k17 k18 k19 hB fB hx (by omega) (by omega)) ?_
    rintro _ _ ⟨rfl, e_107, rfl, h_108⟩
    unfold ye_sig at h_108
    refine z_r_pu (ins := (.bipush 43)) (len := 2) (t := 37) rfl rfl rfl rfl (ye_bi (by decide) (by decide)) ?_
    by_cases b_109 : e_107 ≠ 43
    · skip
      refine z_r_jm (ins := (.if_icmp .ne 7)) (len := 3) (t := 44) rfl rfl rfl rfl (ye_jy (t := 44) rfl (by omega) (by omega) (by omega) (by omega) b_109) ?_
      refine z_r_pu (ins := (.iconst 0)) (len := 1) (t := 45) (st' := [ye_v 0]) rfl rfl rfl rfl rfl ?_
      refine z_r_is (kk := z_isI) (ins := (.istore_n 3)) (len := 1) (t := 46) (i := 3) rfl rfl rfl rfl rfl rfl rfl rfl (fun l l_110 k_111 => ?_)
      have l_112 := k_111 _ _ h0 (by decide) (Or.inl (by decide))
      have l_113 := k_111 _ _ h1 (by decide) (Or.inl (by decide))
      have l_114 := k_111 _ _ h2 (by decide) (Or.inr (by show (1 : Nat) ≠ 2; decide))
      refine z_r_ld (kk := z_isA) (ins := (.aload_n 0)) (len := 1) (t := 47) (i := 0) rfl rfl rfl rfl rfl (fun _ => rfl) l_112 rfl ?_
      refine z_r_pu (ins := .dup) (len := 1) (t := 48) rfl rfl rfl rfl rfl ?_
      refine z_r_rd (ins := (.getfield 153)) (len := 3) (t := 51) rfl rfl rfl rfl rfl (z_gfv (ci := 10) (k := 18) (v := ye_v h) rfl (z_lkn fM hM) (by decide) (ye_flg rfl k18)) ?_
      refine z_r_pu (ins := (.iconst 1)) (len := 1) (t := 52) (st' := [ye_v 1, ye_v h, .ref aM]) rfl rfl rfl rfl rfl ?_
      refine z_r_pu (ins := .iadd) (len := 1) (t := 53) rfl rfl rfl rfl ye_add ?_
      refine ye_r_wr (ins := (.putfield 153)) (len := 3) (t := 56) (a := aM) (q := (10, ye_fl (ye_up F 18 (ye_v (h + 1))))) rfl rfl rfl rfl rfl hM (ye_pfm (k := 18) rfl hM rfl rfl rfl rfl) (fun P_115 c_116 o_117 => ?_)
      have c_118 := ye_kp o_117 (ye_n1 (ye_ne hB hM (by decide))) hB
      have o_119 := ye_oth_tr ho0 o_117 (ye_s1 (List.mem_cons_self))
      have f_120 := ye_fk_up (j := 18) (v := ye_v (h + 1)) hf0 (List.mem_cons_self)
      refine z_r_ld (kk := z_isA) (ins := (.aload_n 0)) (len := 1) (t := 57) (i := 0) rfl rfl rfl rfl rfl (fun _ => rfl) l_112 rfl ?_
      refine z_r_ld (kk := z_isI) (ins := (.iload_n 1)) (len := 1) (t := 58) (i := 1) rfl rfl rfl rfl rfl (fun _ => rfl) l_113 rfl ?_
      refine ye_ca (ins := (.invokevirtual 208)) (kd := 1) (t := 61) rfl rfl (by decide) (z_argsv rfl rfl rfl (by omega) (Nat.le_of_ble_eq_true rfl) rfl (Nat.le_of_ble_eq_true rfl) (Nat.le_refl _) (Nat.le_refl _) (Or.inr (Nat.le_of_ble_eq_true rfl)) (Or.inr (z_atv (z_lkn fM c_116) rfl))) rfl rfl rfl (H1 _ _ _ _ _ c_116 k15 k16 k17 rfl (Eq.trans k19 (congrArg ye_v (show w = -1 by omega))) k29 k31 k32 c_118 (by omega) (by omega) (by omega) (by omega)) ?_
      rintro _ P_121 ⟨v_122, F_123, q_124, w_125, rfl, c_126, f_127, k_128, k_129, o_130, b_131, b_132, h_133⟩
      have d_135 := yf_bd (T := T) (L := L) (lim := lim) k 2 dp (h + 1) (by omega)
      generalize er_134 : yf T lim L k 2 dp (h + 1) = r_134 at h_133 d_135
      have c_136 := ye_kp o_130 (ye_n1 (ye_ne c_118 c_116 (by decide))) c_118
      have o_137 := ye_oth_tr o_119 o_130 (ye_s1 (List.mem_cons_self))
      have f_138 : F_123 15 = .ref aB := (f_127 15 (by decide)).trans k15
      have f_139 : F_123 16 = ye_v sz := (f_127 16 (by decide)).trans k16
      have f_140 : F_123 17 = ye_v tp := (f_127 17 (by decide)).trans k17
      have f_141 : F_123 29 = ye_v il := (f_127 29 (by decide)).trans k29
      have f_142 : F_123 31 = ye_v ((-1)) := (f_127 31 (by decide)).trans k31
      have f_143 : F_123 32 = ye_v ((-1)) := (f_127 32 (by decide)).trans k32
      have f_144 := ye_fk_tr f_120 f_127 (by decide)
      have b_145 : -1 ≤ w_125 ∧ w_125 ≤ 80 := by omega
      refine z_r_is (kk := z_isI) (ins := (.istore 4)) (len := 2) (t := 63) (i := 4) rfl rfl rfl rfl rfl rfl rfl rfl (fun l l_146 k_147 => ?_)
      have l_148 := k_147 _ _ l_112 (by decide) (Or.inl (by decide))
      have l_149 := k_147 _ _ l_113 (by decide) (Or.inl (by decide))
      have l_150 := k_147 _ _ l_114 (by decide) (Or.inl (by decide))
      have l_151 := k_147 _ _ l_110 (by decide) (Or.inr (by show (1 : Nat) ≠ 2; decide))
      refine z_r_ld (kk := z_isI) (ins := (.iload_n 3)) (len := 1) (t := 64) (i := 3) rfl rfl rfl rfl rfl (fun _ => rfl) l_151 rfl ?_
      refine z_r_jm (ins := (.ifCond .eq 10)) (len := 3) (t := 74) rfl rfl rfl rfl (ye_iy (t := 74) rfl (by omega) (by omega) (by show (0 : Int) = 0; decide)) ?_
      refine z_r_ld (kk := z_isI) (ins := (.iload_n 2)) (len := 1) (t := 75) (i := 2) rfl rfl rfl rfl rfl (fun _ => rfl) l_150 rfl ?_
      refine z_r_ld (kk := z_isI) (ins := (.iload 4)) (len := 2) (t := 77) (i := 4) rfl rfl rfl rfl rfl (fun _ => rfl) l_146 rfl ?_
      refine z_r_pu (ins := .isub) (len := 1) (t := 78) (st' := [.int (v - v_122)]) rfl rfl rfl rfl rfl ?_
      refine z_r_is (kk := z_isI) (ins := (.istore_n 2)) (len := 1) (t := 79) (i := 2) rfl rfl rfl rfl rfl rfl rfl rfl (fun l l_152 k_153 => ?_)
      have l_154 := k_153 _ _ l_148 (by decide) (Or.inl (by decide))
      have l_155 := k_153 _ _ l_149 (by decide) (Or.inr (by show (1 : Nat) ≠ 2; decide))
      have l_156 := k_153 _ _ l_151 (by decide) (Or.inl (by decide))
      have l_157 := k_153 _ _ l_146 (by decide) (Or.inl (by decide))
      refine z_r_jm (ins := (.goto (-73))) (len := 3) (t := 6) rfl rfl rfl rfl (z_gty rfl) ?_
      have eq0 : yf T lim L k 2 dp (h + 1) = r_134 := by rw [← er_134, show h + 1 = h + 1 by omega]
      exact kk _ _ _ _ _ _ l_154 l_155 l_152 c_126 f_144 k_128 k_129 c_136 o_137 (by omega) (by omega) (by rw [eq0]; exact h_133)
    · skip
      refine z_r_jm (ins := (.if_icmp .ne 7)) (len := 3) (t := 40) rfl rfl rfl rfl (ye_jn (t := 44) rfl (by omega) (by omega) (by omega) (by omega) b_109) ?_
      refine z_r_pu (ins := (.iconst 1)) (len := 1) (t := 41) (st' := [ye_v 1]) rfl rfl rfl rfl rfl ?_
      refine z_r_jm (ins := (.goto 4)) (len := 3) (t := 45) rfl rfl rfl rfl (z_gty rfl) ?_
      refine z_r_is (kk := z_isI) (ins := (.istore_n 3)) (len := 1) (t := 46) (i := 3) rfl rfl rfl rfl rfl rfl rfl rfl (fun l l_158 k_159 => ?_)
      have l_160 := k_159 _ _ h0 (by decide) (Or.inl (by decide))
      have l_161 := k_159 _ _ h1 (by decide) (Or.inl (by decide))
      have l_162 := k_159 _ _ h2 (by decide) (Or.inr (by show (1 : Nat) ≠ 2; decide))
      refine z_r_ld (kk := z_isA) (ins := (.aload_n 0)) (len := 1) (t := 47) (i := 0) rfl rfl rfl rfl rfl (fun _ => rfl) l_160 rfl ?_
      refine z_r_pu (ins := .dup) (len := 1) (t := 48) rfl rfl rfl rfl rfl ?_
      refine z_r_rd (ins := (.getfield 153)) (len := 3) (t := 51) rfl rfl rfl rfl rfl (z_gfv (ci := 10) (k := 18) (v := ye_v h) rfl (z_lkn fM hM) (by decide) (ye_flg rfl k18)) ?_
      refine z_r_pu (ins := (.iconst 1)) (len := 1) (t := 52) (st' := [ye_v 1, ye_v h, .ref aM]) rfl rfl rfl rfl rfl ?_
      refine z_r_pu (ins := .iadd) (len := 1) (t := 53) rfl rfl rfl rfl ye_add ?_
      refine ye_r_wr (ins := (.putfield 153)) (len := 3) (t := 56) (a := aM) (q := (10, ye_fl (ye_up F 18 (ye_v (h + 1))))) rfl rfl rfl rfl rfl hM (ye_pfm (k := 18) rfl hM rfl rfl rfl rfl) (fun P_163 c_164 o_165 => ?_)
      have c_166 := ye_kp o_165 (ye_n1 (ye_ne hB hM (by decide))) hB
      have o_167 := ye_oth_tr ho0 o_165 (ye_s1 (List.mem_cons_self))
      have f_168 := ye_fk_up (j := 18) (v := ye_v (h + 1)) hf0 (List.mem_cons_self)
      refine z_r_ld (kk := z_isA) (ins := (.aload_n 0)) (len := 1) (t := 57) (i := 0) rfl rfl rfl rfl rfl (fun _ => rfl) l_160 rfl ?_
      refine z_r_ld (kk := z_isI) (ins := (.iload_n 1)) (len := 1) (t := 58) (i := 1) rfl rfl rfl rfl rfl (fun _ => rfl) l_161 rfl ?_
      refine ye_ca (ins := (.invokevirtual 208)) (kd := 1) (t := 61) rfl rfl (by decide) (z_argsv rfl rfl rfl (by omega) (Nat.le_of_ble_eq_true rfl) rfl (Nat.le_of_ble_eq_true rfl) (Nat.le_refl _) (Nat.le_refl _) (Or.inr (Nat.le_of_ble_eq_true rfl)) (Or.inr (z_atv (z_lkn fM c_164) rfl))) rfl rfl rfl (H1 _ _ _ _ _ c_164 k15 k16 k17 rfl (Eq.trans k19 (congrArg ye_v (show w = -1 by omega))) k29 k31 k32 c_166 (by omega) (by omega) (by omega) (by omega)) ?_
      rintro _ P_169 ⟨v_170, F_171, q_172, w_173, rfl, c_174, f_175, k_176, k_177, o_178, b_179, b_180, h_181⟩
      have d_183 := yf_bd (T := T) (L := L) (lim := lim) k 2 dp (h + 1) (by omega)
      generalize er_182 : yf T lim L k 2 dp (h + 1) = r_182 at h_181 d_183
      have c_184 := ye_kp o_178 (ye_n1 (ye_ne c_166 c_164 (by decide))) c_166
      have o_185 := ye_oth_tr o_167 o_178 (ye_s1 (List.mem_cons_self))
      have f_186 : F_171 15 = .ref aB := (f_175 15 (by decide)).trans k15
      have f_187 : F_171 16 = ye_v sz := (f_175 16 (by decide)).trans k16
      have f_188 : F_171 17 = ye_v tp := (f_175 17 (by decide)).trans k17
      have f_189 : F_171 29 = ye_v il := (f_175 29 (by decide)).trans k29
      have f_190 : F_171 31 = ye_v ((-1)) := (f_175 31 (by decide)).trans k31
      have f_191 : F_171 32 = ye_v ((-1)) := (f_175 32 (by decide)).trans k32
      have f_192 := ye_fk_tr f_168 f_175 (by decide)
      have b_193 : -1 ≤ w_173 ∧ w_173 ≤ 80 := by omega
      refine z_r_is (kk := z_isI) (ins := (.istore 4)) (len := 2) (t := 63) (i := 4) rfl rfl rfl rfl rfl rfl rfl rfl (fun l l_194 k_195 => ?_)
      have l_196 := k_195 _ _ l_160 (by decide) (Or.inl (by decide))
      have l_197 := k_195 _ _ l_161 (by decide) (Or.inl (by decide))
      have l_198 := k_195 _ _ l_162 (by decide) (Or.inl (by decide))
      have l_199 := k_195 _ _ l_158 (by decide) (Or.inr (by show (1 : Nat) ≠ 2; decide))
      refine z_r_ld (kk := z_isI) (ins := (.iload_n 3)) (len := 1) (t := 64) (i := 3) rfl rfl rfl rfl rfl (fun _ => rfl) l_199 rfl ?_
      refine z_r_jm (ins := (.ifCond .eq 10)) (len := 3) (t := 67) rfl rfl rfl rfl (ye_in (t := 74) rfl (by omega) (by omega) (by show ¬ ((1 : Int) = 0); decide)) ?_
      refine z_r_ld (kk := z_isI) (ins := (.iload_n 2)) (len := 1) (t := 68) (i := 2) rfl rfl rfl rfl rfl (fun _ => rfl) l_198 rfl ?_
      refine z_r_ld (kk := z_isI) (ins := (.iload 4)) (len := 2) (t := 70) (i := 4) rfl rfl rfl rfl rfl (fun _ => rfl) l_194 rfl ?_
      refine z_r_pu (ins := .iadd) (len := 1) (t := 71) (st' := [.int (v + v_170)]) rfl rfl rfl rfl rfl ?_
      refine z_r_jm (ins := (.goto 7)) (len := 3) (t := 78) rfl rfl rfl rfl (z_gty rfl) ?_
      refine z_r_is (kk := z_isI) (ins := (.istore_n 2)) (len := 1) (t := 79) (i := 2) rfl rfl rfl rfl rfl rfl rfl rfl (fun l l_200 k_201 => ?_)
      have l_202 := k_201 _ _ l_196 (by decide) (Or.inl (by decide))
      have l_203 := k_201 _ _ l_197 (by decide) (Or.inr (by show (1 : Nat) ≠ 2; decide))
      have l_204 := k_201 _ _ l_199 (by decide) (Or.inl (by decide))
      have l_205 := k_201 _ _ l_194 (by decide) (Or.inl (by decide))
      refine z_r_jm (ins := (.goto (-73))) (len := 3) (t := 6) rfl rfl rfl rfl (z_gty rfl) ?_
      have eq0 : yf T lim L k 2 dp (h + 1) = r_182 := by rw [← er_182, show h + 1 = h + 1 by omega]
      exact kk _ _ _ _ _ _ l_202 l_203 l_200 c_174 f_192 k_176 k_177 c_184 o_185 (by omega) (by omega) (by rw [eq0]; exact h_181)
theorem yg_MSL {P0 : z_H} {F0 : Nat → Value} (fM : aM < z_far) (fB : aB < z_far) (hx : ye_tx T sz (-128) 127 bs) (hl : (lim = sz ∧ sz ≤ tp) ∨ (lim = tp ∧ tp < sz)) (hbl : 0 ≤ sz ∧ sz ≤ 80 ∧ 0 ≤ tp ∧ tp ≤ 40) (hil : (il = 1 ∧ L = [119, 122, 100, 105, 107]) ∨ (il = 0 ∧ L = [109, 99, 104, 119, 115, 110, 107, 112])) (HH : ∀ j, j < K → yg_M xs aM aB T lim sz tp il L bs 205 2 j) (hdp : 0 ≤ dp ∧ dp ≤ 4) (kend : ∀ {l : z_L} {P : z_H} {v : Int32}, z_get l 2 = some (.int v) → ∀ {R : Option Value → z_H → Prop}, R (some (.int v)) P → z_Rh (z_G xs) d 204 (ye_E xs d 204 R) (82, l, [], P, 0, 0)) : ∀ (k : Nat), k ≤ K → ∀ {h : Int} {l : z_L} {P : z_H} {F : Nat → Value} {v : Int32}, P[aM]? = some (10, ye_fl F) → F 15 = .ref aB → F 16 = ye_v sz → F 17 = ye_v tp → F 18 = ye_v h → F 19 = ye_v (-1) → F 29 = ye_v il → F 31 = ye_v (-1) → F 32 = ye_v (-1) → P[aB]? = some (101, bs) → 0 ≤ h ∧ h ≤ lim → z_get l 0 = some (.ref aM) → z_get l 1 = some (ye_v dp) → z_get l 2 = some (.int v) → 4 * (lim - h) - 1 ≤ (k : Int) → 2 * k + 12 ≤ d → ye_fk [18, 19] F0 F → ye_oth [aM] P0 P → z_Rh (z_G xs) d 204 (ye_E xs d 204 (fun r P' => ∃ (v : Int32) (F' : Nat → Value) (h' w' : Int), r = some (.int v) ∧ P'[aM]? = some (10, ye_fl F') ∧ ye_fk [18, 19] F0 F' ∧ F' 18 = ye_v h' ∧ F' 19 = ye_v w' ∧ ye_oth [aM] P0 P' ∧ h ≤ h' ∧ h' ≤ lim ∧ ((w' = -1 ∧ (yg_r T lim L [43, 45] 1 k dp h).1 = true ∧ h' = (yg_r T lim L [43, 45] 1 k dp h).2) ∨ ((yg_r T lim L [43, 45] 1 k dp h).1 = false ∧ w' = (yg_r T lim L [43, 45] 1 k dp h).2)))) (6, l, [], P, 0, 0) := by
  intro k
  induction k with
  | zero =>
    intro hK h l P F v hM k15 k16 k17 k18 k19 k29 k31 k32 hB hh h0 h1 h2 hk hd hF0 hP0
    have yl2 := yl_c2 (T := T) (lim := lim) (r := h)
    have eL : yg_r T lim L [43, 45] 1 0 dp h = (true, h) := if_neg (by omega)
    refine yg_MSE fM fB hx hl hbl hM k15 k16 k17 k18 k19 k29 k31 k32 hB hh h0 h1 h2 (by decide) (by omega) (Or.inr (by omega)) (kend h2 ?_)
    rw [eL]
    exact ⟨v, F, h, -1, rfl, hM, hF0, k18, k19, hP0, Int.le_refl _, hh.2, Or.inl ⟨rfl, rfl, rfl⟩⟩
  | succ k ih =>
    intro hK h l P F v hM k15 k16 k17 k18 k19 k29 k31 k32 hB hh h0 h1 h2 hk hd hF0 hP0
    have yl2 := yl_c2 (T := T) (lim := lim) (r := h)
    by_cases hq : yl T lim [43, 45] h = -1
    · have eL : yg_r T lim L [43, 45] 1 (k + 1) dp h = (true, h) := if_neg (by omega)
      refine yg_MSE fM fB hx hl hbl hM k15 k16 k17 k18 k19 k29 k31 k32 hB hh h0 h1 h2 (by decide) (by omega) (Or.inr (by omega)) (kend h2 ?_)
      rw [eL]
      exact ⟨v, F, h, -1, rfl, hM, hF0, k18, k19, hP0, Int.le_refl _, hh.2, Or.inl ⟨rfl, rfl, rfl⟩⟩
    · have eL : yg_r T lim L [43, 45] 1 (k + 1) dp h = (if (yf T lim L k 2 dp (h + 1)).1 = true then yg_r T lim L [43, 45] 1 k dp (yf T lim L k 2 dp (h + 1)).2 else (false, (yf T lim L k 2 dp (h + 1)).2)) := (if_pos hq).trans yf_1
      have bd := yf_bd (T := T) (L := L) (lim := lim) k 2 dp (h + 1) (by omega)
      refine yg_MSI fM fB hx hl hbl hil (HH k (by omega)) hM k15 k16 k17 k18 k19 k29 k31 k32 hB hh h0 h1 h2 rfl hdp (by omega) (by omega) (by omega) ?_
      intro l P' F' v' h' w' g0 g1 g2 hM' q1 m18 m19 hB' ho' hh' hw' hc
      have n15 := (q1 15 (by decide)).trans k15
      have n16 := (q1 16 (by decide)).trans k16
      have n17 := (q1 17 (by decide)).trans k17
      have n29 := (q1 29 (by decide)).trans k29
      have n31 := (q1 31 (by decide)).trans k31
      have n32 := (q1 32 (by decide)).trans k32
      rcases hc with ⟨c1, c2, c3⟩ | ⟨c1, c2⟩
      · rw [eL, if_pos c2, ← c3]
        rw [c1] at m19
        have b3 := bd.2.2 c2
        refine yg_rh_mono (ih (by omega) hM' n15 n16 n17 m18 m19 n29 n31 n32 hB' ⟨by omega, by omega⟩ g0 g1 g2 (by omega) (by omega) (ye_fk_tr hF0 q1 (fun _ q => q)) (ye_oth_tr hP0 ho' (fun _ q => q))) ?_
        rintro q' ⟨r, P2, k1, v2, F2, h2, w2, e1, e2, e3, e4, e5, e6, e7, e8, e9⟩
        exact ⟨r, P2, k1, v2, F2, h2, w2, e1, e2, e3, e4, e5, e6, by omega, e8, e9⟩
      · refine yg_MSE fM fB hx hl hbl hM' n15 n16 n17 m18 m19 n29 n31 n32 hB' ⟨by omega, hh'.2⟩ g0 g1 g2 hw' (by omega) (Or.inl (by omega)) (kend g2 ?_)
        rw [eL, if_neg (by rw [c1]; decide)]
        exact ⟨v', F', h', w', rfl, hM', ye_fk_tr hF0 q1 (fun _ q => q), m18, m19, ye_oth_tr hP0 ho' (fun _ q => q), by omega, hh'.2, Or.inr ⟨rfl, c2⟩⟩
theorem yg_MSR {R : Option Value → z_H → Prop} (h2 : z_get l 2 = some (.int v)) (k : R (some (.int v)) P) : z_Rh (z_G xs) d 204 (ye_E xs d 204 R) (82, l, [], P, 0, 0) := by
  refine z_r_ld (kk := z_isI) (ins := (.iload_n 2)) (len := 1) (t := 83) (i := 2) rfl rfl rfl rfl rfl (fun _ => rfl) h2 rfl ?_
  refine ye_ret (ins := .ireturn) rfl rfl rfl (ye_reti0 rfl) ?_
  exact k
theorem yg_msum (fM : aM < z_far) (fB : aB < z_far) (hx : ye_tx T sz (-128) 127 bs) (hl : (lim = sz ∧ sz ≤ tp) ∨ (lim = tp ∧ tp < sz)) (hbl : 0 ≤ sz ∧ sz ≤ 80 ∧ 0 ≤ tp ∧ tp ≤ 40) (hil : (il = 1 ∧ L = [119, 122, 100, 105, 107]) ∨ (il = 0 ∧ L = [109, 99, 104, 119, 115, 110, 107, 112])) (HH : ∀ j, j < K → yg_M xs aM aB T lim sz tp il L bs 205 2 j) : yg_M xs aM aB T lim sz tp il L bs 204 1 K := by
  intro d P F h dp hM k15 k16 k17 k18 k19 k29 k31 k32 hB hh hdp hk hd
  obtain ⟨k, rfl⟩ : ∃ k, K = k + 1 := ⟨K - 1, by omega⟩
  have H1 := HH k (by omega)
  refine ye_go ?_
  have a0 : z_get (lv_args 0 [.ref aM, ye_v dp]) 0 = some (.ref aM) := rfl
  have a1 : z_get (lv_args 0 [.ref aM, ye_v dp]) 1 = some (ye_v dp) := rfl
  have ho0 : ye_oth [aM] P P := ye_oth_rf
  have hf0 : ye_fk [18, 19] F F := ye_fk_rf
  refine z_r_ld (kk := z_isA) (ins := (.aload_n 0)) (len := 1) (t := 1) (i := 0) rfl rfl rfl rfl rfl (fun _ => rfl) a0 rfl ?_
  refine z_r_ld (kk := z_isI) (ins := (.iload_n 1)) (len := 1) (t := 2) (i := 1) rfl rfl rfl rfl rfl (fun _ => rfl) a1 rfl ?_
  refine ye_ca (ins := (.invokevirtual 208)) (kd := 1) (t := 5) rfl rfl (by decide) (z_argsv rfl rfl rfl (by omega) (Nat.le_of_ble_eq_true rfl) rfl (Nat.le_of_ble_eq_true rfl) (Nat.le_refl _) (Nat.le_refl _) (Or.inr (Nat.le_of_ble_eq_true rfl)) (Or.inr (z_atv (z_lkn fM hM) rfl))) rfl rfl rfl (H1 _ _ _ _ _ hM k15 k16 k17 k18 k19 k29 k31 k32 hB (by omega) (by omega) (by omega) (by omega)) ?_
  rintro _ P_1 ⟨v_2, F_3, q_4, w_5, rfl, c_6, f_7, k_8, k_9, o_10, b_11, b_12, h_13⟩
  have d_15 := yf_bd (T := T) (L := L) (lim := lim) k 2 dp h (by omega)
  generalize er_14 : yf T lim L k 2 dp h = r_14 at h_13 d_15
  have c_16 := ye_kp o_10 (ye_n1 (ye_ne hB hM (by decide))) hB
  have o_17 := ye_oth_tr ho0 o_10 (ye_s1 (List.mem_cons_self))
  have f_18 : F_3 15 = .ref aB := (f_7 15 (by decide)).trans k15
  have f_19 : F_3 16 = ye_v sz := (f_7 16 (by decide)).trans k16
  have f_20 : F_3 17 = ye_v tp := (f_7 17 (by decide)).trans k17
  have f_21 : F_3 29 = ye_v il := (f_7 29 (by decide)).trans k29
  have f_22 : F_3 31 = ye_v ((-1)) := (f_7 31 (by decide)).trans k31
  have f_23 : F_3 32 = ye_v ((-1)) := (f_7 32 (by decide)).trans k32
  have f_24 := ye_fk_tr hf0 f_7 (by decide)
  have b_25 : -1 ≤ w_5 ∧ w_5 ≤ 80 := by omega
  refine z_r_is (kk := z_isI) (ins := (.istore_n 2)) (len := 1) (t := 6) (i := 2) rfl rfl rfl rfl rfl rfl rfl rfl (fun l l_26 k_27 => ?_)
  have l_28 := k_27 _ _ a0 (by decide) (Or.inl (by decide))
  have l_29 := k_27 _ _ a1 (by decide) (Or.inr (by show (1 : Nat) ≠ 2; decide))
  rw [yf_1, er_14]
  rcases h_13 with ⟨g1, g2, g3⟩ | ⟨g1, g2⟩
  · rw [if_pos g2, ← g3]
    have b3 := d_15.2.2 g2
    refine yg_rh_mono (yg_MSL (P0 := P) (F0 := F) fM fB hx hl hbl hil (K := k) (fun j hj => HH j (by omega)) hdp (fun e1 _ e2 => yg_MSR e1 e2) k (Nat.le_refl _) c_6 f_18 f_19 f_20 k_8 (by rw [k_9, g1]) f_21 f_22 f_23 c_16 ⟨by omega, by omega⟩ l_28 l_29 l_26 (by omega) (by omega) f_24 o_17) ?_
    rintro q' ⟨r2, P2, k1, v2, F2, h2, w2, e1, e2, e3, e4, e5, e6, e7, e8, e9⟩
    exact ⟨r2, P2, k1, v2, F2, h2, w2, e1, e2, e3, e4, e5, e6, by omega, e8, e9⟩
  · refine yg_MSE fM fB hx hl hbl c_6 f_18 f_19 f_20 k_8 k_9 f_21 f_22 f_23 c_16 ⟨by omega, by omega⟩ l_28 l_29 l_26 (by omega) (by omega) (Or.inl (by omega)) (yg_MSR l_26 ?_)
    rw [if_neg (by rw [g1]; decide)]
    exact ⟨v_2, _, q_4, w_5, rfl, c_6, f_24, k_8, k_9, o_17, by omega, by omega, Or.inr ⟨rfl, g2⟩⟩
set_option maxHeartbeats 8000000 in
theorem yg_mheld (fM : aM < z_far) (fB : aB < z_far) (hx : ye_tx T sz (-128) 127 bs) (hl : (lim = sz ∧ sz ≤ tp) ∨ (lim = tp ∧ tp < sz)) (hbl : 0 ≤ sz ∧ sz ≤ 80 ∧ 0 ≤ tp ∧ tp ≤ 40) (hil : (il = 1 ∧ L = [119, 122, 100, 105, 107]) ∨ (il = 0 ∧ L = [109, 99, 104, 119, 115, 110, 107, 112])) (HH : ∀ j, j < K → yg_M xs aM aB T lim sz tp il L bs 204 1 j) : yg_M xs aM aB T lim sz tp il L bs 203 0 K := by
  intro d P F h dp hM k15 k16 k17 k18 k19 k29 k31 k32 hB hh hdp hk hd
  obtain ⟨k, rfl⟩ : ∃ k, K = k + 1 := ⟨K - 1, by omega⟩
  have H1 := HH k (by omega)
  refine ye_go ?_
  have a0 : z_get (lv_args 0 [.ref aM, ye_v dp]) 0 = some (.ref aM) := rfl
  have a1 : z_get (lv_args 0 [.ref aM, ye_v dp]) 1 = some (ye_v dp) := rfl
  have ho0 : ye_oth [aM] P P := ye_oth_rf
  have hf0 : ye_fk [18, 19] F F := ye_fk_rf
  refine z_r_ld (kk := z_isA) (ins := (.aload_n 0)) (len := 1) (t := 1) (i := 0) rfl rfl rfl rfl rfl (fun _ => rfl) a0 rfl ?_
  refine z_r_ld (kk := z_isI) (ins := (.iload_n 1)) (len := 1) (t := 2) (i := 1) rfl rfl rfl rfl rfl (fun _ => rfl) a1 rfl ?_
  refine ye_ca (ins := (.invokevirtual 204)) (kd := 1) (t := 5) rfl rfl (by decide) (z_argsv rfl rfl rfl (by omega) (Nat.le_of_ble_eq_true rfl) rfl (Nat.le_of_ble_eq_true rfl) (Nat.le_refl _) (Nat.le_refl _) (Or.inr (Nat.le_of_ble_eq_true rfl)) (Or.inr (z_atv (z_lkn fM hM) rfl))) rfl rfl rfl (H1 _ _ _ _ _ hM k15 k16 k17 k18 k19 k29 k31 k32 hB (by omega) (by omega) (by omega) (by omega)) ?_
  rintro _ P_1 ⟨v_2, F_3, q_4, w_5, rfl, c_6, f_7, k_8, k_9, o_10, b_11, b_12, h_13⟩
  have d_15 := yf_bd (T := T) (L := L) (lim := lim) k 1 dp h (by omega)
  generalize er_14 : yf T lim L k 1 dp h = r_14 at h_13 d_15
  have c_16 := ye_kp o_10 (ye_n1 (ye_ne hB hM (by decide))) hB
  have o_17 := ye_oth_tr ho0 o_10 (ye_s1 (List.mem_cons_self))
  have f_18 : F_3 15 = .ref aB := (f_7 15 (by decide)).trans k15
  have f_19 : F_3 16 = ye_v sz := (f_7 16 (by decide)).trans k16
  have f_20 : F_3 17 = ye_v tp := (f_7 17 (by decide)).trans k17
  have f_21 : F_3 29 = ye_v il := (f_7 29 (by decide)).trans k29
  have f_22 : F_3 31 = ye_v ((-1)) := (f_7 31 (by decide)).trans k31
  have f_23 : F_3 32 = ye_v ((-1)) := (f_7 32 (by decide)).trans k32
  have f_24 := ye_fk_tr hf0 f_7 (by decide)
  have b_25 : -1 ≤ w_5 ∧ w_5 ≤ 80 := by omega
  refine z_r_is (kk := z_isI) (ins := (.istore_n 2)) (len := 1) (t := 6) (i := 2) rfl rfl rfl rfl rfl rfl rfl rfl (fun l l_26 k_27 => ?_)
  have l_28 := k_27 _ _ a0 (by decide) (Or.inl (by decide))
  have l_29 := k_27 _ _ a1 (by decide) (Or.inr (by show (1 : Nat) ≠ 2; decide))
  refine z_r_ld (kk := z_isA) (ins := (.aload_n 0)) (len := 1) (t := 7) (i := 0) rfl rfl rfl rfl rfl (fun _ => rfl) l_28 rfl ?_
  refine z_r_pu (ins := (.bipush 60)) (len := 2) (t := 9) rfl rfl rfl rfl (ye_bi (by decide) (by decide)) ?_
  refine ye_ca (ins := (.invokevirtual 167)) (kd := 1) (t := 12) rfl rfl (by decide) (z_argsv rfl rfl rfl (by omega) (Nat.le_of_ble_eq_true rfl) rfl (Nat.le_of_ble_eq_true rfl) (Nat.le_refl _) (Nat.le_refl _) (Or.inr (Nat.le_of_ble_eq_true rfl)) (Or.inr (z_atv (z_lkn fM c_6) rfl))) rfl rfl rfl (ye_passes (lim := lim) c_6 fM f_18 f_19 f_20 k_8 k_9 c_16 fB hx (by omega) (by omega) (by omega) (by omega)) ?_
  rintro _ P_33 ⟨bt_30, F_31, q_32, rfl, c_34, f_35, k_36, o_37, ht_30⟩
  have c_38 := ye_kp o_37 (ye_n1 (ye_ne c_16 c_6 (by decide))) c_16
  have o_39 := ye_oth_tr o_17 o_37 (ye_s1 (List.mem_cons_self))
  have f_40 : F_31 15 = .ref aB := (f_35 15 (by decide)).trans f_18
  have f_41 : F_31 16 = ye_v sz := (f_35 16 (by decide)).trans f_19
  have f_42 : F_31 17 = ye_v tp := (f_35 17 (by decide)).trans f_20
  have f_43 : F_31 19 = ye_v w_5 := (f_35 19 (by decide)).trans k_9
  have f_44 : F_31 29 = ye_v il := (f_35 29 (by decide)).trans f_21
  have f_45 : F_31 31 = ye_v ((-1)) := (f_35 31 (by decide)).trans f_22
  have f_46 : F_31 32 = ye_v ((-1)) := (f_35 32 (by decide)).trans f_23
  have f_47 := ye_fk_tr f_24 f_35 (by decide)
  by_cases b_48 : bt_30 = 0
  · skip
    refine z_r_jm (ins := (.ifCond .eq 18)) (len := 3) (t := 30) rfl rfl rfl rfl (ye_iy (t := 30) rfl (by omega) (by omega) b_48) ?_
    refine z_r_ld (kk := z_isA) (ins := (.aload_n 0)) (len := 1) (t := 31) (i := 0) rfl rfl rfl rfl rfl (fun _ => rfl) l_28 rfl ?_
    refine z_r_pu (ins := (.bipush 62)) (len := 2) (t := 33) rfl rfl rfl rfl (ye_bi (by decide) (by decide)) ?_
    refine ye_ca (ins := (.invokevirtual 167)) (kd := 1) (t := 36) rfl rfl (by decide) (z_argsv rfl rfl rfl (by omega) (Nat.le_of_ble_eq_true rfl) rfl (Nat.le_of_ble_eq_true rfl) (Nat.le_refl _) (Nat.le_refl _) (Or.inr (Nat.le_of_ble_eq_true rfl)) (Or.inr (z_atv (z_lkn fM c_34) rfl))) rfl rfl rfl (ye_passes (lim := lim) c_34 fM f_40 f_41 f_42 k_36 f_43 c_38 fB hx (by omega) (by omega) (by omega) (by omega)) ?_
    rintro _ P_52 ⟨bt_49, F_50, q_51, rfl, c_53, f_54, k_55, o_56, ht_49⟩
    have c_57 := ye_kp o_56 (ye_n1 (ye_ne c_38 c_34 (by decide))) c_38
    have o_58 := ye_oth_tr o_39 o_56 (ye_s1 (List.mem_cons_self))
    have f_59 : F_50 15 = .ref aB := (f_54 15 (by decide)).trans f_40
    have f_60 : F_50 16 = ye_v sz := (f_54 16 (by decide)).trans f_41
    have f_61 : F_50 17 = ye_v tp := (f_54 17 (by decide)).trans f_42
    have f_62 : F_50 19 = ye_v w_5 := (f_54 19 (by decide)).trans f_43
    have f_63 : F_50 29 = ye_v il := (f_54 29 (by decide)).trans f_44
    have f_64 : F_50 31 = ye_v ((-1)) := (f_54 31 (by decide)).trans f_45
    have f_65 : F_50 32 = ye_v ((-1)) := (f_54 32 (by decide)).trans f_46
    have f_66 := ye_fk_tr f_47 f_54 (by decide)
    have tq_67 : q_32 ≠ q_4 ∨ T q_32 = T q_4 := (Decidable.em (q_32 = q_4)).elim (fun e => Or.inr (by rw [e])) Or.inl
    by_cases b_68 : bt_49 = 0
    · skip
      refine z_r_jm (ins := (.ifCond .eq 18)) (len := 3) (t := 54) rfl rfl rfl rfl (ye_iy (t := 54) rfl (by omega) (by omega) b_68) ?_
      refine z_r_ld (kk := z_isA) (ins := (.aload_n 0)) (len := 1) (t := 55) (i := 0) rfl rfl rfl rfl rfl (fun _ => rfl) l_28 rfl ?_
      refine z_r_pu (ins := (.bipush 61)) (len := 2) (t := 57) rfl rfl rfl rfl (ye_bi (by decide) (by decide)) ?_
      refine ye_ca (ins := (.invokevirtual 167)) (kd := 1) (t := 60) rfl rfl (by decide) (z_argsv rfl rfl rfl (by omega) (Nat.le_of_ble_eq_true rfl) rfl (Nat.le_of_ble_eq_true rfl) (Nat.le_refl _) (Nat.le_refl _) (Or.inr (Nat.le_of_ble_eq_true rfl)) (Or.inr (z_atv (z_lkn fM c_53) rfl))) rfl rfl rfl (ye_passes (lim := lim) c_53 fM f_59 f_60 f_61 k_55 f_62 c_57 fB hx (by omega) (by omega) (by omega) (by omega)) ?_
      rintro _ P_72 ⟨bt_69, F_70, q_71, rfl, c_73, f_74, k_75, o_76, ht_69⟩
      have c_77 := ye_kp o_76 (ye_n1 (ye_ne c_57 c_53 (by decide))) c_57
      have o_78 := ye_oth_tr o_58 o_76 (ye_s1 (List.mem_cons_self))
      have f_79 : F_70 15 = .ref aB := (f_74 15 (by decide)).trans f_59
      have f_80 : F_70 16 = ye_v sz := (f_74 16 (by decide)).trans f_60
      have f_81 : F_70 17 = ye_v tp := (f_74 17 (by decide)).trans f_61
      have f_82 : F_70 19 = ye_v w_5 := (f_74 19 (by decide)).trans f_62
      have f_83 : F_70 29 = ye_v il := (f_74 29 (by decide)).trans f_63
      have f_84 : F_70 31 = ye_v ((-1)) := (f_74 31 (by decide)).trans f_64
      have f_85 : F_70 32 = ye_v ((-1)) := (f_74 32 (by decide)).trans f_65
      have f_86 := ye_fk_tr f_66 f_74 (by decide)
      have tq_87 : q_51 ≠ q_4 ∨ T q_51 = T q_4 := (Decidable.em (q_51 = q_4)).elim (fun e => Or.inr (by rw [e])) Or.inl
      by_cases b_88 : bt_69 = 0
      · skip
        refine z_r_jm (ins := (.ifCond .eq 18)) (len := 3) (t := 78) rfl rfl rfl rfl (ye_iy (t := 78) rfl (by omega) (by omega) b_88) ?_
        refine z_r_ld (kk := z_isI) (ins := (.iload_n 2)) (len := 1) (t := 79) (i := 2) rfl rfl rfl rfl rfl (fun _ => rfl) l_26 rfl ?_
        refine ye_ret (ins := .ireturn) rfl rfl rfl (ye_reti0 rfl) ?_
        have yl3 := yl_c3 (T := T) (lim := lim) (r := q_4)
        rcases h_13 with ⟨g1, g2, g3⟩ | ⟨g1, g2⟩
        · skip
          have eL : yf T lim L (k + 1) 0 dp h = (true, q_4) := by
            rw [yf_0, er_14, if_pos g2, ← g3]
            exact if_neg (by omega)
          rw [eL]
          exact ⟨v_2, _, q_71, w_5, rfl, c_73, f_86, k_75, f_82, o_78, by omega, by omega, Or.inl ⟨by omega, rfl, by show q_71 = q_4; omega⟩⟩
        · skip
          have eL : yf T lim L (k + 1) 0 dp h = (false, r_14.2) := by
            rw [yf_0, er_14, if_neg (by rw [g1]; decide)]
          rw [eL]
          exact ⟨v_2, _, q_71, w_5, rfl, c_73, f_86, k_75, f_82, o_78, by omega, by omega, Or.inr ⟨rfl, by show w_5 = r_14.2; omega⟩⟩
      · skip
        refine z_r_jm (ins := (.ifCond .eq 18)) (len := 3) (t := 63) rfl rfl rfl rfl (ye_in (t := 78) rfl (by omega) (by omega) b_88) ?_
        refine z_r_ld (kk := z_isI) (ins := (.iload_n 2)) (len := 1) (t := 64) (i := 2) rfl rfl rfl rfl rfl (fun _ => rfl) l_26 rfl ?_
        refine z_r_ld (kk := z_isA) (ins := (.aload_n 0)) (len := 1) (t := 65) (i := 0) rfl rfl rfl rfl rfl (fun _ => rfl) l_28 rfl ?_
        refine z_r_ld (kk := z_isI) (ins := (.iload_n 1)) (len := 1) (t := 66) (i := 1) rfl rfl rfl rfl rfl (fun _ => rfl) l_29 rfl ?_
        refine ye_ca (ins := (.invokevirtual 204)) (kd := 1) (t := 69) rfl rfl (by decide) (z_argsv rfl rfl rfl (by omega) (Nat.le_of_ble_eq_true rfl) rfl (Nat.le_of_ble_eq_true rfl) (Nat.le_refl _) (Nat.le_refl _) (Or.inr (Nat.le_of_ble_eq_true rfl)) (Or.inr (z_atv (z_lkn fM c_73) rfl))) rfl rfl rfl (H1 _ _ _ _ _ c_73 f_79 f_80 f_81 k_75 (Eq.trans f_82 (congrArg ye_v (show w_5 = -1 by omega))) f_83 f_84 f_85 c_77 (by omega) (by omega) (by omega) (by omega)) ?_
        rintro _ P_89 ⟨v_90, F_91, q_92, w_93, rfl, c_94, f_95, k_96, k_97, o_98, b_99, b_100, h_101⟩
        have d_103 := yf_bd (T := T) (L := L) (lim := lim) k 1 dp q_71 (by omega)
        generalize er_102 : yf T lim L k 1 dp q_71 = r_102 at h_101 d_103
        have c_104 := ye_kp o_98 (ye_n1 (ye_ne c_77 c_73 (by decide))) c_77
        have o_105 := ye_oth_tr o_78 o_98 (ye_s1 (List.mem_cons_self))
        have f_106 : F_91 15 = .ref aB := (f_95 15 (by decide)).trans f_79
        have f_107 : F_91 16 = ye_v sz := (f_95 16 (by decide)).trans f_80
        have f_108 : F_91 17 = ye_v tp := (f_95 17 (by decide)).trans f_81
        have f_109 : F_91 29 = ye_v il := (f_95 29 (by decide)).trans f_83
        have f_110 : F_91 31 = ye_v ((-1)) := (f_95 31 (by decide)).trans f_84
        have f_111 : F_91 32 = ye_v ((-1)) := (f_95 32 (by decide)).trans f_85
        have f_112 := ye_fk_tr f_86 f_95 (by decide)
        have b_113 : -1 ≤ w_93 ∧ w_93 ≤ 80 := by omega
        by_cases b_114 : z_cmp .ne v_2 v_90 = true
        · skip
          refine z_r_jm (ins := (.if_icmp .ne 7)) (len := 3) (t := 76) rfl rfl rfl rfl (z_icy (t := 76) rfl b_114) ?_
          refine z_r_pu (ins := (.iconst 0)) (len := 1) (t := 77) (st' := [ye_v 0]) rfl rfl rfl rfl rfl ?_
          refine ye_ret (ins := .ireturn) rfl rfl rfl (ye_reti rfl) ?_
          have yl3 := yl_c3 (T := T) (lim := lim) (r := q_4)
          have p1 : r_14.1 = true ∧ w_5 = -1 ∧ q_4 = r_14.2 := by
            rcases h_13 with ⟨g1, g2, g3⟩ | ⟨g1, g2⟩
            · exact ⟨g2, g1, g3⟩
            · omega
          have e2 : yf T lim L k 1 dp (q_4 + 1) = r_102 := by rw [← er_102, show q_4 + 1 = q_71 by omega]
          have eL : yf T lim L (k + 1) 0 dp h = r_102 := by
            rw [yf_0, er_14, if_pos p1.1, ← p1.2.2]
            exact (if_pos (by omega)).trans e2
          rw [eL]
          exact ⟨Int32.ofInt 0, _, q_92, w_93, rfl, c_94, f_112, k_96, k_97, o_105, by omega, by omega, h_101⟩
        · skip
          refine z_r_jm (ins := (.if_icmp .ne 7)) (len := 3) (t := 72) rfl rfl rfl rfl (z_icn (t := 76) rfl (Bool.eq_false_iff.mpr b_114)) ?_
          refine z_r_pu (ins := (.iconst 1)) (len := 1) (t := 73) (st' := [ye_v 1]) rfl rfl rfl rfl rfl ?_
          refine z_r_jm (ins := (.goto 4)) (len := 3) (t := 77) rfl rfl rfl rfl (z_gty rfl) ?_
          refine ye_ret (ins := .ireturn) rfl rfl rfl (ye_reti rfl) ?_
          have yl3 := yl_c3 (T := T) (lim := lim) (r := q_4)
          have p1 : r_14.1 = true ∧ w_5 = -1 ∧ q_4 = r_14.2 := by
            rcases h_13 with ⟨g1, g2, g3⟩ | ⟨g1, g2⟩
            · exact ⟨g2, g1, g3⟩
            · omega
          have e2 : yf T lim L k 1 dp (q_4 + 1) = r_102 := by rw [← er_102, show q_4 + 1 = q_71 by omega]
          have eL : yf T lim L (k + 1) 0 dp h = r_102 := by
            rw [yf_0, er_14, if_pos p1.1, ← p1.2.2]
            exact (if_pos (by omega)).trans e2
          rw [eL]
          exact ⟨Int32.ofInt 1, _, q_92, w_93, rfl, c_94, f_112, k_96, k_97, o_105, by omega, by omega, h_101⟩
    · skip
      refine z_r_jm (ins := (.ifCond .eq 18)) (len := 3) (t := 39) rfl rfl rfl rfl (ye_in (t := 54) rfl (by omega) (by omega) b_68) ?_
      refine z_r_ld (kk := z_isI) (ins := (.iload_n 2)) (len := 1) (t := 40) (i := 2) rfl rfl rfl rfl rfl (fun _ => rfl) l_26 rfl ?_
      refine z_r_ld (kk := z_isA) (ins := (.aload_n 0)) (len := 1) (t := 41) (i := 0) rfl rfl rfl rfl rfl (fun _ => rfl) l_28 rfl ?_
      refine z_r_ld (kk := z_isI) (ins := (.iload_n 1)) (len := 1) (t := 42) (i := 1) rfl rfl rfl rfl rfl (fun _ => rfl) l_29 rfl ?_
      refine ye_ca (ins := (.invokevirtual 204)) (kd := 1) (t := 45) rfl rfl (by decide) (z_argsv rfl rfl rfl (by omega) (Nat.le_of_ble_eq_true rfl) rfl (Nat.le_of_ble_eq_true rfl) (Nat.le_refl _) (Nat.le_refl _) (Or.inr (Nat.le_of_ble_eq_true rfl)) (Or.inr (z_atv (z_lkn fM c_53) rfl))) rfl rfl rfl (H1 _ _ _ _ _ c_53 f_59 f_60 f_61 k_55 (Eq.trans f_62 (congrArg ye_v (show w_5 = -1 by omega))) f_63 f_64 f_65 c_57 (by omega) (by omega) (by omega) (by omega)) ?_
      rintro _ P_115 ⟨v_116, F_117, q_118, w_119, rfl, c_120, f_121, k_122, k_123, o_124, b_125, b_126, h_127⟩
      have d_129 := yf_bd (T := T) (L := L) (lim := lim) k 1 dp q_51 (by omega)
      generalize er_128 : yf T lim L k 1 dp q_51 = r_128 at h_127 d_129
      have c_130 := ye_kp o_124 (ye_n1 (ye_ne c_57 c_53 (by decide))) c_57
      have o_131 := ye_oth_tr o_58 o_124 (ye_s1 (List.mem_cons_self))
      have f_132 : F_117 15 = .ref aB := (f_121 15 (by decide)).trans f_59
      have f_133 : F_117 16 = ye_v sz := (f_121 16 (by decide)).trans f_60
      have f_134 : F_117 17 = ye_v tp := (f_121 17 (by decide)).trans f_61
      have f_135 : F_117 29 = ye_v il := (f_121 29 (by decide)).trans f_63
      have f_136 : F_117 31 = ye_v ((-1)) := (f_121 31 (by decide)).trans f_64
      have f_137 : F_117 32 = ye_v ((-1)) := (f_121 32 (by decide)).trans f_65
      have f_138 := ye_fk_tr f_66 f_121 (by decide)
      have b_139 : -1 ≤ w_119 ∧ w_119 ≤ 80 := by omega
      by_cases b_140 : z_cmp .le v_2 v_116 = true
      · skip
        refine z_r_jm (ins := (.if_icmp .le 7)) (len := 3) (t := 52) rfl rfl rfl rfl (z_icy (t := 52) rfl b_140) ?_
        refine z_r_pu (ins := (.iconst 0)) (len := 1) (t := 53) (st' := [ye_v 0]) rfl rfl rfl rfl rfl ?_
        refine ye_ret (ins := .ireturn) rfl rfl rfl (ye_reti rfl) ?_
        have yl3 := yl_c3 (T := T) (lim := lim) (r := q_4)
        have p1 : r_14.1 = true ∧ w_5 = -1 ∧ q_4 = r_14.2 := by
          rcases h_13 with ⟨g1, g2, g3⟩ | ⟨g1, g2⟩
          · exact ⟨g2, g1, g3⟩
          · omega
        have e2 : yf T lim L k 1 dp (q_4 + 1) = r_128 := by rw [← er_128, show q_4 + 1 = q_51 by omega]
        have eL : yf T lim L (k + 1) 0 dp h = r_128 := by
          rw [yf_0, er_14, if_pos p1.1, ← p1.2.2]
          exact (if_pos (by omega)).trans e2
        rw [eL]
        exact ⟨Int32.ofInt 0, _, q_118, w_119, rfl, c_120, f_138, k_122, k_123, o_131, by omega, by omega, h_127⟩
      · skip
        refine z_r_jm (ins := (.if_icmp .le 7)) (len := 3) (t := 48) rfl rfl rfl rfl (z_icn (t := 52) rfl (Bool.eq_false_iff.mpr b_140)) ?_
        refine z_r_pu (ins := (.iconst 1)) (len := 1) (t := 49) (st' := [ye_v 1]) rfl rfl rfl rfl rfl ?_
        refine z_r_jm (ins := (.goto 4)) (len := 3) (t := 53) rfl rfl rfl rfl (z_gty rfl) ?_
        refine ye_ret (ins := .ireturn) rfl rfl rfl (ye_reti rfl) ?_
        have yl3 := yl_c3 (T := T) (lim := lim) (r := q_4)
        have p1 : r_14.1 = true ∧ w_5 = -1 ∧ q_4 = r_14.2 := by
          rcases h_13 with ⟨g1, g2, g3⟩ | ⟨g1, g2⟩
          · exact ⟨g2, g1, g3⟩
          · omega
        have e2 : yf T lim L k 1 dp (q_4 + 1) = r_128 := by rw [← er_128, show q_4 + 1 = q_51 by omega]
        have eL : yf T lim L (k + 1) 0 dp h = r_128 := by
          rw [yf_0, er_14, if_pos p1.1, ← p1.2.2]
          exact (if_pos (by omega)).trans e2
        rw [eL]
        exact ⟨Int32.ofInt 1, _, q_118, w_119, rfl, c_120, f_138, k_122, k_123, o_131, by omega, by omega, h_127⟩
  · skip
    refine z_r_jm (ins := (.ifCond .eq 18)) (len := 3) (t := 15) rfl rfl rfl rfl (ye_in (t := 30) rfl (by omega) (by omega) b_48) ?_
    refine z_r_ld (kk := z_isI) (ins := (.iload_n 2)) (len := 1) (t := 16) (i := 2) rfl rfl rfl rfl rfl (fun _ => rfl) l_26 rfl ?_
    refine z_r_ld (kk := z_isA) (ins := (.aload_n 0)) (len := 1) (t := 17) (i := 0) rfl rfl rfl rfl rfl (fun _ => rfl) l_28 rfl ?_
    refine z_r_ld (kk := z_isI) (ins := (.iload_n 1)) (len := 1) (t := 18) (i := 1) rfl rfl rfl rfl rfl (fun _ => rfl) l_29 rfl ?_
    refine ye_ca (ins := (.invokevirtual 204)) (kd := 1) (t := 21) rfl rfl (by decide) (z_argsv rfl rfl rfl (by omega) (Nat.le_of_ble_eq_true rfl) rfl (Nat.le_of_ble_eq_true rfl) (Nat.le_refl _) (Nat.le_refl _) (Or.inr (Nat.le_of_ble_eq_true rfl)) (Or.inr (z_atv (z_lkn fM c_34) rfl))) rfl rfl rfl (H1 _ _ _ _ _ c_34 f_40 f_41 f_42 k_36 (Eq.trans f_43 (congrArg ye_v (show w_5 = -1 by omega))) f_44 f_45 f_46 c_38 (by omega) (by omega) (by omega) (by omega)) ?_
    rintro _ P_141 ⟨v_142, F_143, q_144, w_145, rfl, c_146, f_147, k_148, k_149, o_150, b_151, b_152, h_153⟩
    have d_155 := yf_bd (T := T) (L := L) (lim := lim) k 1 dp q_32 (by omega)
    generalize er_154 : yf T lim L k 1 dp q_32 = r_154 at h_153 d_155
    have c_156 := ye_kp o_150 (ye_n1 (ye_ne c_38 c_34 (by decide))) c_38
    have o_157 := ye_oth_tr o_39 o_150 (ye_s1 (List.mem_cons_self))
    have f_158 : F_143 15 = .ref aB := (f_147 15 (by decide)).trans f_40
    have f_159 : F_143 16 = ye_v sz := (f_147 16 (by decide)).trans f_41
    have f_160 : F_143 17 = ye_v tp := (f_147 17 (by decide)).trans f_42
    have f_161 : F_143 29 = ye_v il := (f_147 29 (by decide)).trans f_44
    have f_162 : F_143 31 = ye_v ((-1)) := (f_147 31 (by decide)).trans f_45
    have f_163 : F_143 32 = ye_v ((-1)) := (f_147 32 (by decide)).trans f_46
    have f_164 := ye_fk_tr f_47 f_147 (by decide)
    have b_165 : -1 ≤ w_145 ∧ w_145 ≤ 80 := by omega
    by_cases b_166 : z_cmp .ge v_2 v_142 = true
    · skip
      refine z_r_jm (ins := (.if_icmp .ge 7)) (len := 3) (t := 28) rfl rfl rfl rfl (z_icy (t := 28) rfl b_166) ?_
      refine z_r_pu (ins := (.iconst 0)) (len := 1) (t := 29) (st' := [ye_v 0]) rfl rfl rfl rfl rfl ?_
      refine ye_ret (ins := .ireturn) rfl rfl rfl (ye_reti rfl) ?_
      have yl3 := yl_c3 (T := T) (lim := lim) (r := q_4)
      have p1 : r_14.1 = true ∧ w_5 = -1 ∧ q_4 = r_14.2 := by
        rcases h_13 with ⟨g1, g2, g3⟩ | ⟨g1, g2⟩
        · exact ⟨g2, g1, g3⟩
        · omega
      have e2 : yf T lim L k 1 dp (q_4 + 1) = r_154 := by rw [← er_154, show q_4 + 1 = q_32 by omega]
      have eL : yf T lim L (k + 1) 0 dp h = r_154 := by
        rw [yf_0, er_14, if_pos p1.1, ← p1.2.2]
        exact (if_pos (by omega)).trans e2
      rw [eL]
      exact ⟨Int32.ofInt 0, _, q_144, w_145, rfl, c_146, f_164, k_148, k_149, o_157, by omega, by omega, h_153⟩
    · skip
      refine z_r_jm (ins := (.if_icmp .ge 7)) (len := 3) (t := 24) rfl rfl rfl rfl (z_icn (t := 28) rfl (Bool.eq_false_iff.mpr b_166)) ?_
      refine z_r_pu (ins := (.iconst 1)) (len := 1) (t := 25) (st' := [ye_v 1]) rfl rfl rfl rfl rfl ?_
      refine z_r_jm (ins := (.goto 4)) (len := 3) (t := 29) rfl rfl rfl rfl (z_gty rfl) ?_
      refine ye_ret (ins := .ireturn) rfl rfl rfl (ye_reti rfl) ?_
      have yl3 := yl_c3 (T := T) (lim := lim) (r := q_4)
      have p1 : r_14.1 = true ∧ w_5 = -1 ∧ q_4 = r_14.2 := by
        rcases h_13 with ⟨g1, g2, g3⟩ | ⟨g1, g2⟩
        · exact ⟨g2, g1, g3⟩
        · omega
      have e2 : yf T lim L k 1 dp (q_4 + 1) = r_154 := by rw [← er_154, show q_4 + 1 = q_32 by omega]
      have eL : yf T lim L (k + 1) 0 dp h = r_154 := by
        rw [yf_0, er_14, if_pos p1.1, ← p1.2.2]
        exact (if_pos (by omega)).trans e2
      rw [eL]
      exact ⟨Int32.ofInt 1, _, q_144, w_145, rfl, c_146, f_164, k_148, k_149, o_157, by omega, by omega, h_153⟩
theorem yg_mall (fM : aM < z_far) (fB : aB < z_far) (hx : ye_tx T sz (-128) 127 bs) (hl : (lim = sz ∧ sz ≤ tp) ∨ (lim = tp ∧ tp < sz)) (hbl : 0 ≤ sz ∧ sz ≤ 80 ∧ 0 ≤ tp ∧ tp ≤ 40) (hil : (il = 1 ∧ L = [119, 122, 100, 105, 107]) ∨ (il = 0 ∧ L = [109, 99, 104, 119, 115, 110, 107, 112])) : ∀ K : Nat, yg_M xs aM aB T lim sz tp il L bs 203 0 K ∧ yg_M xs aM aB T lim sz tp il L bs 204 1 K ∧ yg_M xs aM aB T lim sz tp il L bs 205 2 K ∧ yg_M xs aM aB T lim sz tp il L bs 206 3 K := by
  intro K
  induction K using Nat.strongRecOn with
  | ind K ih => exact ⟨yg_mheld fM fB hx hl hbl hil (fun j hj => (ih j hj).2.1), yg_msum fM fB hx hl hbl hil (fun j hj => (ih j hj).2.2.1), yg_mprod fM fB hx hl hbl hil (fun j hj => (ih j hj).2.2.2), yg_mthing fM fB hx hl hbl hil (fun j hj => ⟨(ih j hj).1, (ih j hj).2.2.2⟩)⟩
end YGMS
