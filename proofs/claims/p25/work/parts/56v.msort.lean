/-! A LINE of a SORT, the reference, exactly. -/
section YMSO
/-- LONG told, as the reference holds it -/
def yb_nl (lg : Int) : Int := if lg = 0 then -1 else lg
theorem yb_k_cs {T : Int → Int} {lim p : Int} : (p < lim ∧ T p = 99 ∧ yb_k T lim p = 0) ∨ (p < lim ∧ T p = 104 ∧ yb_k T lim p = 1) ∨ (p < lim ∧ T p = 119 ∧ yb_k T lim p = 2) ∨ (p < lim ∧ T p = 115 ∧ yb_k T lim p = 3) ∨ ((lim ≤ p ∨ (T p ≠ 99 ∧ T p ≠ 104 ∧ T p ≠ 119 ∧ T p ≠ 115)) ∧ yb_k T lim p = -1) := by
  by_cases hp : p < lim
  · have e : yb_k T lim p = (if 99 = T p then 0 else if 104 = T p then 0 + 1 else if 119 = T p then 0 + 1 + 1 else if 115 = T p then 0 + 1 + 1 + 1 else -1) := if_pos hp
    by_cases c1 : 99 = T p
    · rw [if_pos c1] at e
      exact Or.inl ⟨hp, c1.symm, e⟩
    rw [if_neg c1] at e
    by_cases c2 : 104 = T p
    · rw [if_pos c2] at e
      exact Or.inr (Or.inl ⟨hp, c2.symm, by omega⟩)
    rw [if_neg c2] at e
    by_cases c3 : 119 = T p
    · rw [if_pos c3] at e
      exact Or.inr (Or.inr (Or.inl ⟨hp, c3.symm, by omega⟩))
    rw [if_neg c3] at e
    by_cases c4 : 115 = T p
    · rw [if_pos c4] at e
      exact Or.inr (Or.inr (Or.inr (Or.inl ⟨hp, c4.symm, by omega⟩)))
    rw [if_neg c4] at e
    exact Or.inr (Or.inr (Or.inr (Or.inr ⟨Or.inr ⟨by omega, by omega, by omega, by omega⟩, e⟩)))
  · exact Or.inr (Or.inr (Or.inr (Or.inr ⟨Or.inl (by omega), if_neg hp⟩)))
theorem yb_nl_t {lg : Int} (h : lg ≠ 0) : lg = yb_nl lg := (if_neg h).symm
/-- the reference's SORTS while they are read -/
def ye_MA (aK aW aZ aD aY : Nat) (S : yb_S) (P : z_H) : Prop := ∃ (kv wv zv dv mv : List Value), P[aK]? = some (103, kv) ∧ P[aW]? = some (103, wv) ∧ P[aZ]? = some (103, zv) ∧ P[aD]? = some (103, dv) ∧ P[aY]? = some (103, mv) ∧ ye_arr S.2.2.1 S.1 kv ∧ ye_arr S.2.2.2.1 S.1 wv ∧ ye_arr S.2.2.2.2.1 S.1 zv ∧ ye_arr S.2.2.2.2.2.1 S.1 dv ∧ ye_arr S.2.2.2.2.2.2 S.1 mv
theorem ye_MA_kp {aK aW aZ aD aY aM : Nat} {S : yb_S} {P P' : z_H} {x : List Value} (h : ye_MA aK aW aZ aD aY S P) (hM : P[aM]? = some (10, x)) (ho : ye_oth [aM] P P') : ye_MA aK aW aZ aD aY S P' := by
  obtain ⟨kv, wv, zv, dv, mv, h1, h2, h3, h4, h5, hr⟩ := h
  exact ⟨kv, wv, zv, dv, mv, ye_kp ho (ye_n1 (ye_ne h1 hM (by decide))) h1, ye_kp ho (ye_n1 (ye_ne h2 hM (by decide))) h2, ye_kp ho (ye_n1 (ye_ne h3 hM (by decide))) h3, ye_kp ho (ye_n1 (ye_ne h4 hM (by decide))) h4, ye_kp ho (ye_n1 (ye_ne h5 hM (by decide))) h5, hr⟩
variable {xs : List Int32} {d aM aB aK aW aZ aD aY : Nat} {P : z_H} {F : Nat → Value} {bs kv wv zv dv mv : List Value} {T kd wt zs dr mn : Int → Int} {S : yb_S} {sz tp h w lim n nl we s lg k : Int} {l : z_L} {Ψ : z_S → Prop}
set_option maxHeartbeats 8000000 in
theorem ye_mbS (hM : P[aM]? = some (10, ye_fl F)) (fM : aM < z_far) (k0 : F 0 = ye_v s) (k1 : F 1 = .ref aK) (k2 : F 2 = .ref aW) (k3 : F 3 = .ref aZ) (k4 : F 4 = .ref aD) (k20 : F 20 = .ref aY) (k15 : F 15 = .ref aB) (k16 : F 16 = ye_v sz) (k17 : F 17 = ye_v tp) (k18 : F 18 = ye_v h) (k19 : F 19 = ye_v w) (hB : P[aB]? = some (101, bs)) (fB : aB < z_far) (hx : ye_tx T sz (-128) 127 bs) (hl : (lim = sz ∧ sz ≤ tp) ∨ (lim = tp ∧ tp < sz)) (hb : 0 ≤ h ∧ h ≤ lim ∧ 0 ≤ sz ∧ sz ≤ 80 ∧ 0 ≤ tp ∧ tp ≤ 80 ∧ -1 ≤ w ∧ w ≤ 80)
    (hK : P[aK]? = some (103, kv)) (fK : aK < z_far) (hW : P[aW]? = some (103, wv)) (fW : aW < z_far) (hZ : P[aZ]? = some (103, zv)) (fZ : aZ < z_far) (hD : P[aD]? = some (103, dv)) (fD : aD < z_far) (hY : P[aY]? = some (103, mv)) (fY : aY < z_far)
    (n01 : aK ≠ aW) (n02 : aK ≠ aZ) (n03 : aK ≠ aD) (n04 : aK ≠ aY) (n12 : aW ≠ aZ) (n13 : aW ≠ aD) (n14 : aW ≠ aY) (n23 : aZ ≠ aD) (n24 : aZ ≠ aY) (n34 : aD ≠ aY) (yK : ye_arr kd s kv) (yW : ye_arr wt s wv) (yZ : ye_arr zs s zv) (yD : ye_arr dr s dv) (yY : ye_arr mn s mv)
    (h0 : z_get l 0 = some (.ref aM)) (h1 : z_get l 1 = some (ye_v we)) (h2 : z_get l 2 = some (ye_v nl)) (h3 : z_get l 3 = some (ye_v n)) (h6 : z_get l 6 = some (ye_v k)) (hk1 : k = yb_k T lim h) (hk2 : yb_k T lim h ≠ -1) (hk3 : h < lim ∧ T h ≠ 121) (hw : w = -1) (hs : 0 ≤ s ∧ s < 10) (hnl : nl = yb_nl lg) (hd : 4 ≤ d)
    (kk : ∀ l P' F' (h' w' nl' s' : Int) (S' : yb_S), z_get l 0 = some (.ref aM) → z_get l 1 = some (ye_v we) → z_get l 2 = some (ye_v nl') → z_get l 3 = some (ye_v n) → P'[aM]? = some (10, ye_fl F') → ye_fk [0, 18, 19] F F' → F' 0 = ye_v s' → F' 18 = ye_v h' → F' 19 = ye_v w' → ye_MA aK aW aZ aD aY S' P' → ye_oth [aM, aK, aW, aZ, aD, aY] P P' → 0 ≤ h' ∧ h' ≤ lim ∧ -1 ≤ w' ∧ w' ≤ 80 ∧ 0 ≤ s' ∧ s' ≤ 10 → (((yb_l T lim h s).1 = true ∧ w' = -1 ∧ h' = (yb_l T lim h s).2 ∧ S' = yb_nx T lim h (s, lg, kd, wt, zs, dr, mn) ∧ s' = S'.1 ∧ nl' = yb_nl S'.2.1) ∨ ((yb_l T lim h s).1 = false ∧ w' = (yb_l T lim h s).2 ∧ S' = (s, lg, kd, wt, zs, dr, mn))) → z_Rh (z_G xs) d 191 Ψ (285, l, [], P', 0, 0)) : z_Rh (z_G xs) d 191 Ψ (167, l, [], P, 0, 0) := by
  have ho0 : ye_oth [aM, aK, aW, aZ, aD, aY] P P := ye_oth_rf
  have hf0 : ye_fk [0, 18, 19] F F := ye_fk_rf
  have bk : -1 ≤ k ∧ k ≤ 3 := by have := yb_k_cs (T := T) (lim := lim) (p := h); omega
  refine z_r_ld (kk := z_isA) (ins := (.aload_n 0)) (len := 1) (t := 168) (i := 0) rfl rfl rfl rfl rfl (fun _ => rfl) h0 rfl ?_
  refine z_r_pu (ins := .dup) (len := 1) (t := 169) rfl rfl rfl rfl rfl ?_
  refine z_r_rd (ins := (.getfield 153)) (len := 3) (t := 172) rfl rfl rfl rfl rfl (z_gfv (ci := 10) (k := 18) (v := ye_v h) rfl (z_lkn fM hM) (by decide) (ye_flg rfl k18)) ?_
  refine z_r_pu (ins := (.iconst 1)) (len := 1) (t := 173) (st' := [ye_v 1, ye_v h, .ref aM]) rfl rfl rfl rfl rfl ?_
  refine z_r_pu (ins := .iadd) (len := 1) (t := 174) rfl rfl rfl rfl ye_add ?_
  refine ye_r_wr (ins := (.putfield 153)) (len := 3) (t := 177) (a := aM) (q := (10, ye_fl (ye_up F 18 (ye_v (h + 1))))) rfl rfl rfl rfl rfl hM (ye_pfm (k := 18) rfl hM rfl rfl rfl rfl) (fun P_1 c_2 o_3 => ?_)
  have c_4 := ye_kp o_3 (ye_n1 (ye_ne hB hM (by decide))) hB
  have c_5 := ye_kp o_3 (ye_n1 (ye_ne hD hM (by decide))) hD
  have c_6 := ye_kp o_3 (ye_n1 (ye_ne hK hM (by decide))) hK
  have c_7 := ye_kp o_3 (ye_n1 (ye_ne hW hM (by decide))) hW
  have c_8 := ye_kp o_3 (ye_n1 (ye_ne hY hM (by decide))) hY
  have c_9 := ye_kp o_3 (ye_n1 (ye_ne hZ hM (by decide))) hZ
  have o_10 := ye_oth_tr ho0 o_3 (ye_s1 (List.mem_cons_self))
  have f_11 := ye_fk_up (j := 18) (v := ye_v (h + 1)) hf0 (List.mem_cons_of_mem _ (List.mem_cons_self))
  refine z_r_ld (kk := z_isA) (ins := (.aload_n 0)) (len := 1) (t := 178) (i := 0) rfl rfl rfl rfl rfl (fun _ => rfl) h0 rfl ?_
  refine z_r_rd (ins := (.getfield 9)) (len := 3) (t := 181) rfl rfl rfl rfl rfl (z_gfv (ci := 10) (k := 1) (v := .ref aK) rfl (z_lkn fM c_2) (by decide) (ye_flg rfl k1)) ?_
  refine z_r_ld (kk := z_isA) (ins := (.aload_n 0)) (len := 1) (t := 182) (i := 0) rfl rfl rfl rfl rfl (fun _ => rfl) h0 rfl ?_
  refine z_r_rd (ins := (.getfield 130)) (len := 3) (t := 185) rfl rfl rfl rfl rfl (z_gfv (ci := 10) (k := 0) (v := ye_v s) rfl (z_lkn fM c_2) (by decide) (ye_flg rfl k0)) ?_
  refine z_r_ld (kk := z_isI) (ins := (.iload 6)) (len := 2) (t := 187) (i := 6) rfl rfl rfl rfl rfl (fun _ => rfl) h6 rfl ?_
  refine ye_r_wr (ins := .iastore) (len := 1) (t := 188) (a := aK) (q := (103, kv.set (s).toNat (ye_v k))) rfl rfl rfl rfl rfl c_6 (ye_as (t := 103) (nf := fun x => x) (p := s) (e := k) (e' := k) c_6 (by omega) (by rw [yK.1]; omega) (by omega) rfl) (fun P_12 c_13 o_14 => ?_)
  have c_15 := ye_kp o_14 (ye_n1 (ye_ne c_4 c_6 (by decide))) c_4
  have c_16 := ye_kp o_14 (ye_n1 (Ne.symm n03)) c_5
  have c_17 := ye_kp o_14 (ye_n1 (ye_ne c_2 c_6 (by decide))) c_2
  have c_18 := ye_kp o_14 (ye_n1 (Ne.symm n01)) c_7
  have c_19 := ye_kp o_14 (ye_n1 (Ne.symm n04)) c_8
  have c_20 := ye_kp o_14 (ye_n1 (Ne.symm n02)) c_9
  have o_21 := ye_oth_tr o_10 o_14 (ye_s1 (List.mem_cons_of_mem _ (List.mem_cons_self)))
  refine z_r_ld (kk := z_isA) (ins := (.aload_n 0)) (len := 1) (t := 189) (i := 0) rfl rfl rfl rfl rfl (fun _ => rfl) h0 rfl ?_
  refine z_r_rd (ins := (.getfield 13)) (len := 3) (t := 192) rfl rfl rfl rfl rfl (z_gfv (ci := 10) (k := 2) (v := .ref aW) rfl (z_lkn fM c_17) (by decide) (ye_flg rfl k2)) ?_
  refine z_r_ld (kk := z_isA) (ins := (.aload_n 0)) (len := 1) (t := 193) (i := 0) rfl rfl rfl rfl rfl (fun _ => rfl) h0 rfl ?_
  refine z_r_rd (ins := (.getfield 130)) (len := 3) (t := 196) rfl rfl rfl rfl rfl (z_gfv (ci := 10) (k := 0) (v := ye_v s) rfl (z_lkn fM c_17) (by decide) (ye_flg rfl k0)) ?_
  refine z_r_ld (kk := z_isA) (ins := (.aload_n 0)) (len := 1) (t := 197) (i := 0) rfl rfl rfl rfl rfl (fun _ => rfl) h0 rfl ?_
  refine z_r_pu (ins := (.iconst 2)) (len := 1) (t := 198) (st' := [ye_v 2, .ref aM, ye_v s, .ref aW]) rfl rfl rfl rfl rfl ?_
  refine z_r_pu (ins := (.iconst 1)) (len := 1) (t := 199) (st' := [ye_v 1, ye_v 2, .ref aM, ye_v s, .ref aW]) rfl rfl rfl rfl rfl ?_
  refine z_r_pu (ins := (.bipush 99)) (len := 2) (t := 201) rfl rfl rfl rfl (ye_bi (by decide) (by decide)) ?_
  refine ye_ca (ins := (.invokevirtual 179)) (kd := 1) (t := 204) rfl rfl (by decide) (z_argsv rfl rfl rfl (by omega) (Nat.le_of_ble_eq_true rfl) rfl (Nat.le_of_ble_eq_true rfl) (Nat.le_refl _) (Nat.le_refl _) (Or.inr (Nat.le_of_ble_eq_true rfl)) (Or.inr (z_atv (z_lkn fM c_17) rfl))) rfl rfl rfl (ye_mnum (lim := lim) (k := 2) c_17 fM k15 k16 k17 rfl k19 c_15 fB hx (by omega) (by omega) (by omega) (by omega) (by decide) (by decide) (by omega)) ?_
  rintro _ P_26 ⟨v_22, F_23, q_24, w_25, rfl, c_27, f_28, k_29, k_30, o_31, b_32, b_33, hn1⟩
  have bdn1 := yq_num_bd (T := T) (lim := lim) (p := h + 1) (lo := 1) (hi := 99) (k := 2) (by decide) (by omega)
  generalize en1 : yq_num T lim 2 1 99 (h + 1) = n1 at bdn1 hn1
  have c_34 := ye_kp o_31 (ye_n1 (ye_ne c_15 c_17 (by decide))) c_15
  have c_35 := ye_kp o_31 (ye_n1 (ye_ne c_16 c_17 (by decide))) c_16
  have c_36 := ye_kp o_31 (ye_n1 (ye_ne c_13 c_17 (by decide))) c_13
  have c_37 := ye_kp o_31 (ye_n1 (ye_ne c_18 c_17 (by decide))) c_18
  have c_38 := ye_kp o_31 (ye_n1 (ye_ne c_19 c_17 (by decide))) c_19
  have c_39 := ye_kp o_31 (ye_n1 (ye_ne c_20 c_17 (by decide))) c_20
  have o_40 := ye_oth_tr o_21 o_31 (ye_s1 (List.mem_cons_self))
  have f_41 : F_23 0 = ye_v s := (f_28 0 (by decide)).trans k0
  have f_42 : F_23 1 = .ref aK := (f_28 1 (by decide)).trans k1
  have f_43 : F_23 2 = .ref aW := (f_28 2 (by decide)).trans k2
  have f_44 : F_23 3 = .ref aZ := (f_28 3 (by decide)).trans k3
  have f_45 : F_23 4 = .ref aD := (f_28 4 (by decide)).trans k4
  have f_46 : F_23 15 = .ref aB := (f_28 15 (by decide)).trans k15
  have f_47 : F_23 16 = ye_v sz := (f_28 16 (by decide)).trans k16
  have f_48 : F_23 17 = ye_v tp := (f_28 17 (by decide)).trans k17
  have f_49 : F_23 20 = .ref aY := (f_28 20 (by decide)).trans k20
  have f_50 := ye_fk_tr f_11 f_28 (by decide)
  have bwn1 : -1 ≤ w_25 ∧ w_25 ≤ 80 := by omega
  replace hn1 : ye_hd _ := hn1
  refine ye_r_wr (ins := .iastore) (len := 1) (t := 205) (a := aW) (q := (103, wv.set (s).toNat (ye_v v_22))) rfl rfl rfl rfl rfl c_37 (ye_as (t := 103) (nf := fun x => x) (p := s) (e := v_22) (e' := v_22) c_37 (by omega) (by rw [yW.1]; omega) (by omega) rfl) (fun P_51 c_52 o_53 => ?_)
  have c_54 := ye_kp o_53 (ye_n1 (ye_ne c_34 c_37 (by decide))) c_34
  have c_55 := ye_kp o_53 (ye_n1 (Ne.symm n13)) c_35
  have c_56 := ye_kp o_53 (ye_n1 n01) c_36
  have c_57 := ye_kp o_53 (ye_n1 (ye_ne c_27 c_37 (by decide))) c_27
  have c_58 := ye_kp o_53 (ye_n1 (Ne.symm n14)) c_38
  have c_59 := ye_kp o_53 (ye_n1 (Ne.symm n12)) c_39
  have o_60 := ye_oth_tr o_40 o_53 (ye_s1 (List.mem_cons_of_mem _ (List.mem_cons_of_mem _ (List.mem_cons_self))))
  refine z_r_ld (kk := z_isA) (ins := (.aload_n 0)) (len := 1) (t := 206) (i := 0) rfl rfl rfl rfl rfl (fun _ => rfl) h0 rfl ?_
  refine z_r_pu (ins := (.bipush 44)) (len := 2) (t := 208) rfl rfl rfl rfl (ye_bi (by decide) (by decide)) ?_
  refine ye_cav (ins := (.invokevirtual 183)) (kd := 1) (t := 211) rfl rfl (by decide) (z_argsv rfl rfl rfl (by omega) (Nat.le_of_ble_eq_true rfl) rfl (Nat.le_of_ble_eq_true rfl) (Nat.le_refl _) (Nat.le_refl _) (Or.inr (Nat.le_of_ble_eq_true rfl)) (Or.inr (z_atv (z_lkn fM c_57) rfl))) rfl rfl rfl rfl (ye_need (lim := lim) c_57 fM f_46 f_47 f_48 k_29 k_30 c_54 fB hx (by omega) (by omega) (by omega) (by omega)) ?_
  rintro _ P_65 ⟨F_62, q_63, w_64, c_66, f_67, k_68, k_69, o_70, ht_61⟩
  have c_71 := ye_kp o_70 (ye_n1 (ye_ne c_54 c_57 (by decide))) c_54
  have c_72 := ye_kp o_70 (ye_n1 (ye_ne c_55 c_57 (by decide))) c_55
  have c_73 := ye_kp o_70 (ye_n1 (ye_ne c_56 c_57 (by decide))) c_56
  have c_74 := ye_kp o_70 (ye_n1 (ye_ne c_52 c_57 (by decide))) c_52
  have c_75 := ye_kp o_70 (ye_n1 (ye_ne c_58 c_57 (by decide))) c_58
  have c_76 := ye_kp o_70 (ye_n1 (ye_ne c_59 c_57 (by decide))) c_59
  have o_77 := ye_oth_tr o_60 o_70 (ye_s1 (List.mem_cons_self))
  have f_78 : F_62 0 = ye_v s := (f_67 0 (by decide)).trans f_41
  have f_79 : F_62 1 = .ref aK := (f_67 1 (by decide)).trans f_42
  have f_80 : F_62 2 = .ref aW := (f_67 2 (by decide)).trans f_43
  have f_81 : F_62 3 = .ref aZ := (f_67 3 (by decide)).trans f_44
  have f_82 : F_62 4 = .ref aD := (f_67 4 (by decide)).trans f_45
  have f_83 : F_62 15 = .ref aB := (f_67 15 (by decide)).trans f_46
  have f_84 : F_62 16 = ye_v sz := (f_67 16 (by decide)).trans f_47
  have f_85 : F_62 17 = ye_v tp := (f_67 17 (by decide)).trans f_48
  have f_86 : F_62 20 = .ref aY := (f_67 20 (by decide)).trans f_49
  have f_87 := ye_fk_tr f_50 f_67 (by decide)
  have bqt_61 : (q_24 ≤ q_63 ∧ q_63 ≤ lim ∧ 0 ≤ q_63) ∧ (-1 ≤ w_64 ∧ w_64 ≤ 80) := by omega
  replace ht_61 : ye_hd _ := ht_61
  refine z_r_ld (kk := z_isA) (ins := (.aload_n 0)) (len := 1) (t := 212) (i := 0) rfl rfl rfl rfl rfl (fun _ => rfl) h0 rfl ?_
  refine z_r_rd (ins := (.getfield 16)) (len := 3) (t := 215) rfl rfl rfl rfl rfl (z_gfv (ci := 10) (k := 3) (v := .ref aZ) rfl (z_lkn fM c_66) (by decide) (ye_flg rfl f_81)) ?_
  refine z_r_ld (kk := z_isA) (ins := (.aload_n 0)) (len := 1) (t := 216) (i := 0) rfl rfl rfl rfl rfl (fun _ => rfl) h0 rfl ?_
  refine z_r_rd (ins := (.getfield 130)) (len := 3) (t := 219) rfl rfl rfl rfl rfl (z_gfv (ci := 10) (k := 0) (v := ye_v s) rfl (z_lkn fM c_66) (by decide) (ye_flg rfl f_78)) ?_
  refine z_r_ld (kk := z_isA) (ins := (.aload_n 0)) (len := 1) (t := 220) (i := 0) rfl rfl rfl rfl rfl (fun _ => rfl) h0 rfl ?_
  refine z_r_pu (ins := (.iconst 2)) (len := 1) (t := 221) (st' := [ye_v 2, .ref aM, ye_v s, .ref aZ]) rfl rfl rfl rfl rfl ?_
  refine z_r_pu (ins := (.iconst 1)) (len := 1) (t := 222) (st' := [ye_v 1, ye_v 2, .ref aM, ye_v s, .ref aZ]) rfl rfl rfl rfl rfl ?_
  refine z_r_pu (ins := (.bipush 60)) (len := 2) (t := 224) rfl rfl rfl rfl (ye_bi (by decide) (by decide)) ?_
  refine ye_ca (ins := (.invokevirtual 179)) (kd := 1) (t := 227) rfl rfl (by decide) (z_argsv rfl rfl rfl (by omega) (Nat.le_of_ble_eq_true rfl) rfl (Nat.le_of_ble_eq_true rfl) (Nat.le_refl _) (Nat.le_refl _) (Or.inr (Nat.le_of_ble_eq_true rfl)) (Or.inr (z_atv (z_lkn fM c_66) rfl))) rfl rfl rfl (ye_mnum (lim := lim) (k := 2) c_66 fM f_83 f_84 f_85 k_68 k_69 c_71 fB hx (by omega) (by omega) (by omega) (by omega) (by decide) (by decide) (by omega)) ?_
  rintro _ P_92 ⟨v_88, F_89, q_90, w_91, rfl, c_93, f_94, k_95, k_96, o_97, b_98, b_99, hn2⟩
  have bdn2 := yq_num_bd (T := T) (lim := lim) (p := q_63) (lo := 1) (hi := 60) (k := 2) (by decide) (by omega)
  generalize en2 : yq_num T lim 2 1 60 (q_63) = n2 at bdn2 hn2
  have c_100 := ye_kp o_97 (ye_n1 (ye_ne c_71 c_66 (by decide))) c_71
  have c_101 := ye_kp o_97 (ye_n1 (ye_ne c_72 c_66 (by decide))) c_72
  have c_102 := ye_kp o_97 (ye_n1 (ye_ne c_73 c_66 (by decide))) c_73
  have c_103 := ye_kp o_97 (ye_n1 (ye_ne c_74 c_66 (by decide))) c_74
  have c_104 := ye_kp o_97 (ye_n1 (ye_ne c_75 c_66 (by decide))) c_75
  have c_105 := ye_kp o_97 (ye_n1 (ye_ne c_76 c_66 (by decide))) c_76
  have o_106 := ye_oth_tr o_77 o_97 (ye_s1 (List.mem_cons_self))
  have f_107 : F_89 0 = ye_v s := (f_94 0 (by decide)).trans f_78
  have f_108 : F_89 1 = .ref aK := (f_94 1 (by decide)).trans f_79
  have f_109 : F_89 2 = .ref aW := (f_94 2 (by decide)).trans f_80
  have f_110 : F_89 3 = .ref aZ := (f_94 3 (by decide)).trans f_81
  have f_111 : F_89 4 = .ref aD := (f_94 4 (by decide)).trans f_82
  have f_112 : F_89 15 = .ref aB := (f_94 15 (by decide)).trans f_83
  have f_113 : F_89 16 = ye_v sz := (f_94 16 (by decide)).trans f_84
  have f_114 : F_89 17 = ye_v tp := (f_94 17 (by decide)).trans f_85
  have f_115 : F_89 20 = .ref aY := (f_94 20 (by decide)).trans f_86
  have f_116 := ye_fk_tr f_87 f_94 (by decide)
  have bwn2 : -1 ≤ w_91 ∧ w_91 ≤ 80 := by omega
  replace hn2 : ye_hd _ := hn2
  refine ye_r_wr (ins := .iastore) (len := 1) (t := 228) (a := aZ) (q := (103, zv.set (s).toNat (ye_v v_88))) rfl rfl rfl rfl rfl c_105 (ye_as (t := 103) (nf := fun x => x) (p := s) (e := v_88) (e' := v_88) c_105 (by omega) (by rw [yZ.1]; omega) (by omega) rfl) (fun P_117 c_118 o_119 => ?_)
  have c_120 := ye_kp o_119 (ye_n1 (ye_ne c_100 c_105 (by decide))) c_100
  have c_121 := ye_kp o_119 (ye_n1 (Ne.symm n23)) c_101
  have c_122 := ye_kp o_119 (ye_n1 n02) c_102
  have c_123 := ye_kp o_119 (ye_n1 (ye_ne c_93 c_105 (by decide))) c_93
  have c_124 := ye_kp o_119 (ye_n1 n12) c_103
  have c_125 := ye_kp o_119 (ye_n1 (Ne.symm n24)) c_104
  have o_126 := ye_oth_tr o_106 o_119 (ye_s1 (List.mem_cons_of_mem _ (List.mem_cons_of_mem _ (List.mem_cons_of_mem _ (List.mem_cons_self)))))
  refine z_r_ld (kk := z_isA) (ins := (.aload_n 0)) (len := 1) (t := 229) (i := 0) rfl rfl rfl rfl rfl (fun _ => rfl) h0 rfl ?_
  refine z_r_pu (ins := (.bipush 44)) (len := 2) (t := 231) rfl rfl rfl rfl (ye_bi (by decide) (by decide)) ?_
  refine ye_cav (ins := (.invokevirtual 183)) (kd := 1) (t := 234) rfl rfl (by decide) (z_argsv rfl rfl rfl (by omega) (Nat.le_of_ble_eq_true rfl) rfl (Nat.le_of_ble_eq_true rfl) (Nat.le_refl _) (Nat.le_refl _) (Or.inr (Nat.le_of_ble_eq_true rfl)) (Or.inr (z_atv (z_lkn fM c_123) rfl))) rfl rfl rfl rfl (ye_need (lim := lim) c_123 fM f_112 f_113 f_114 k_95 k_96 c_120 fB hx (by omega) (by omega) (by omega) (by omega)) ?_
  rintro _ P_131 ⟨F_128, q_129, w_130, c_132, f_133, k_134, k_135, o_136, ht_127⟩
  have c_137 := ye_kp o_136 (ye_n1 (ye_ne c_120 c_123 (by decide))) c_120
  have c_138 := ye_kp o_136 (ye_n1 (ye_ne c_121 c_123 (by decide))) c_121
  have c_139 := ye_kp o_136 (ye_n1 (ye_ne c_122 c_123 (by decide))) c_122
  have c_140 := ye_kp o_136 (ye_n1 (ye_ne c_124 c_123 (by decide))) c_124
  have c_141 := ye_kp o_136 (ye_n1 (ye_ne c_125 c_123 (by decide))) c_125
  have c_142 := ye_kp o_136 (ye_n1 (ye_ne c_118 c_123 (by decide))) c_118
  have o_143 := ye_oth_tr o_126 o_136 (ye_s1 (List.mem_cons_self))
  have f_144 : F_128 0 = ye_v s := (f_133 0 (by decide)).trans f_107
  have f_145 : F_128 1 = .ref aK := (f_133 1 (by decide)).trans f_108
  have f_146 : F_128 2 = .ref aW := (f_133 2 (by decide)).trans f_109
  have f_147 : F_128 3 = .ref aZ := (f_133 3 (by decide)).trans f_110
  have f_148 : F_128 4 = .ref aD := (f_133 4 (by decide)).trans f_111
  have f_149 : F_128 15 = .ref aB := (f_133 15 (by decide)).trans f_112
  have f_150 : F_128 16 = ye_v sz := (f_133 16 (by decide)).trans f_113
  have f_151 : F_128 17 = ye_v tp := (f_133 17 (by decide)).trans f_114
  have f_152 : F_128 20 = .ref aY := (f_133 20 (by decide)).trans f_115
  have f_153 := ye_fk_tr f_116 f_133 (by decide)
  have bqt_127 : (q_90 ≤ q_129 ∧ q_129 ≤ lim ∧ 0 ≤ q_129) ∧ (-1 ≤ w_130 ∧ w_130 ≤ 80) := by omega
  replace ht_127 : ye_hd _ := ht_127
  refine z_r_ld (kk := z_isA) (ins := (.aload_n 0)) (len := 1) (t := 235) (i := 0) rfl rfl rfl rfl rfl (fun _ => rfl) h0 rfl ?_
  refine z_r_rd (ins := (.getfield 19)) (len := 3) (t := 238) rfl rfl rfl rfl rfl (z_gfv (ci := 10) (k := 4) (v := .ref aD) rfl (z_lkn fM c_132) (by decide) (ye_flg rfl f_148)) ?_
  refine z_r_ld (kk := z_isA) (ins := (.aload_n 0)) (len := 1) (t := 239) (i := 0) rfl rfl rfl rfl rfl (fun _ => rfl) h0 rfl ?_
  refine z_r_rd (ins := (.getfield 130)) (len := 3) (t := 242) rfl rfl rfl rfl rfl (z_gfv (ci := 10) (k := 0) (v := ye_v s) rfl (z_lkn fM c_132) (by decide) (ye_flg rfl f_144)) ?_
  refine z_r_ld (kk := z_isA) (ins := (.aload_n 0)) (len := 1) (t := 243) (i := 0) rfl rfl rfl rfl rfl (fun _ => rfl) h0 rfl ?_
  refine z_r_pu (ins := (.iconst 2)) (len := 1) (t := 244) (st' := [ye_v 2, .ref aM, ye_v s, .ref aD]) rfl rfl rfl rfl rfl ?_
  refine z_r_pu (ins := (.iconst 0)) (len := 1) (t := 245) (st' := [ye_v 0, ye_v 2, .ref aM, ye_v s, .ref aD]) rfl rfl rfl rfl rfl ?_
  refine z_r_pu (ins := (.bipush 60)) (len := 2) (t := 247) rfl rfl rfl rfl (ye_bi (by decide) (by decide)) ?_
  refine ye_ca (ins := (.invokevirtual 179)) (kd := 1) (t := 250) rfl rfl (by decide) (z_argsv rfl rfl rfl (by omega) (Nat.le_of_ble_eq_true rfl) rfl (Nat.le_of_ble_eq_true rfl) (Nat.le_refl _) (Nat.le_refl _) (Or.inr (Nat.le_of_ble_eq_true rfl)) (Or.inr (z_atv (z_lkn fM c_132) rfl))) rfl rfl rfl (ye_mnum (lim := lim) (k := 2) c_132 fM f_149 f_150 f_151 k_134 k_135 c_137 fB hx (by omega) (by omega) (by omega) (by omega) (by decide) (by decide) (by omega)) ?_
  rintro _ P_158 ⟨v_154, F_155, q_156, w_157, rfl, c_159, f_160, k_161, k_162, o_163, b_164, b_165, hn3⟩
  have bdn3 := yq_num_bd (T := T) (lim := lim) (p := q_129) (lo := 0) (hi := 60) (k := 2) (by decide) (by omega)
  generalize en3 : yq_num T lim 2 0 60 (q_129) = n3 at bdn3 hn3
  have c_166 := ye_kp o_163 (ye_n1 (ye_ne c_137 c_132 (by decide))) c_137
  have c_167 := ye_kp o_163 (ye_n1 (ye_ne c_138 c_132 (by decide))) c_138
  have c_168 := ye_kp o_163 (ye_n1 (ye_ne c_139 c_132 (by decide))) c_139
  have c_169 := ye_kp o_163 (ye_n1 (ye_ne c_140 c_132 (by decide))) c_140
  have c_170 := ye_kp o_163 (ye_n1 (ye_ne c_141 c_132 (by decide))) c_141
  have c_171 := ye_kp o_163 (ye_n1 (ye_ne c_142 c_132 (by decide))) c_142
  have o_172 := ye_oth_tr o_143 o_163 (ye_s1 (List.mem_cons_self))
  have f_173 : F_155 0 = ye_v s := (f_160 0 (by decide)).trans f_144
  have f_174 : F_155 1 = .ref aK := (f_160 1 (by decide)).trans f_145
  have f_175 : F_155 2 = .ref aW := (f_160 2 (by decide)).trans f_146
  have f_176 : F_155 3 = .ref aZ := (f_160 3 (by decide)).trans f_147
  have f_177 : F_155 4 = .ref aD := (f_160 4 (by decide)).trans f_148
  have f_178 : F_155 15 = .ref aB := (f_160 15 (by decide)).trans f_149
  have f_179 : F_155 16 = ye_v sz := (f_160 16 (by decide)).trans f_150
  have f_180 : F_155 17 = ye_v tp := (f_160 17 (by decide)).trans f_151
  have f_181 : F_155 20 = .ref aY := (f_160 20 (by decide)).trans f_152
  have f_182 := ye_fk_tr f_153 f_160 (by decide)
  have bwn3 : -1 ≤ w_157 ∧ w_157 ≤ 80 := by omega
  replace hn3 : ye_hd _ := hn3
  refine ye_r_wr (ins := .iastore) (len := 1) (t := 251) (a := aD) (q := (103, dv.set (s).toNat (ye_v v_154))) rfl rfl rfl rfl rfl c_167 (ye_as (t := 103) (nf := fun x => x) (p := s) (e := v_154) (e' := v_154) c_167 (by omega) (by rw [yD.1]; omega) (by omega) rfl) (fun P_183 c_184 o_185 => ?_)
  have c_186 := ye_kp o_185 (ye_n1 (ye_ne c_166 c_167 (by decide))) c_166
  have c_187 := ye_kp o_185 (ye_n1 n03) c_168
  have c_188 := ye_kp o_185 (ye_n1 (ye_ne c_159 c_167 (by decide))) c_159
  have c_189 := ye_kp o_185 (ye_n1 n13) c_169
  have c_190 := ye_kp o_185 (ye_n1 (Ne.symm n34)) c_170
  have c_191 := ye_kp o_185 (ye_n1 n23) c_171
  have o_192 := ye_oth_tr o_172 o_185 (ye_s1 (List.mem_cons_of_mem _ (List.mem_cons_of_mem _ (List.mem_cons_of_mem _ (List.mem_cons_of_mem _ (List.mem_cons_self))))))
  refine z_r_ld (kk := z_isA) (ins := (.aload_n 0)) (len := 1) (t := 252) (i := 0) rfl rfl rfl rfl rfl (fun _ => rfl) h0 rfl ?_
  refine z_r_pu (ins := (.bipush 42)) (len := 2) (t := 254) rfl rfl rfl rfl (ye_bi (by decide) (by decide)) ?_
  refine ye_cav (ins := (.invokevirtual 183)) (kd := 1) (t := 257) rfl rfl (by decide) (z_argsv rfl rfl rfl (by omega) (Nat.le_of_ble_eq_true rfl) rfl (Nat.le_of_ble_eq_true rfl) (Nat.le_refl _) (Nat.le_refl _) (Or.inr (Nat.le_of_ble_eq_true rfl)) (Or.inr (z_atv (z_lkn fM c_188) rfl))) rfl rfl rfl rfl (ye_need (lim := lim) c_188 fM f_178 f_179 f_180 k_161 k_162 c_186 fB hx (by omega) (by omega) (by omega) (by omega)) ?_
  rintro _ P_197 ⟨F_194, q_195, w_196, c_198, f_199, k_200, k_201, o_202, ht_193⟩
  have c_203 := ye_kp o_202 (ye_n1 (ye_ne c_186 c_188 (by decide))) c_186
  have c_204 := ye_kp o_202 (ye_n1 (ye_ne c_184 c_188 (by decide))) c_184
  have c_205 := ye_kp o_202 (ye_n1 (ye_ne c_187 c_188 (by decide))) c_187
  have c_206 := ye_kp o_202 (ye_n1 (ye_ne c_189 c_188 (by decide))) c_189
  have c_207 := ye_kp o_202 (ye_n1 (ye_ne c_190 c_188 (by decide))) c_190
  have c_208 := ye_kp o_202 (ye_n1 (ye_ne c_191 c_188 (by decide))) c_191
  have o_209 := ye_oth_tr o_192 o_202 (ye_s1 (List.mem_cons_self))
  have f_210 : F_194 0 = ye_v s := (f_199 0 (by decide)).trans f_173
  have f_211 : F_194 1 = .ref aK := (f_199 1 (by decide)).trans f_174
  have f_212 : F_194 2 = .ref aW := (f_199 2 (by decide)).trans f_175
  have f_213 : F_194 3 = .ref aZ := (f_199 3 (by decide)).trans f_176
  have f_214 : F_194 4 = .ref aD := (f_199 4 (by decide)).trans f_177
  have f_215 : F_194 15 = .ref aB := (f_199 15 (by decide)).trans f_178
  have f_216 : F_194 16 = ye_v sz := (f_199 16 (by decide)).trans f_179
  have f_217 : F_194 17 = ye_v tp := (f_199 17 (by decide)).trans f_180
  have f_218 : F_194 20 = .ref aY := (f_199 20 (by decide)).trans f_181
  have f_219 := ye_fk_tr f_182 f_199 (by decide)
  have bqt_193 : (q_156 ≤ q_195 ∧ q_195 ≤ lim ∧ 0 ≤ q_195) ∧ (-1 ≤ w_196 ∧ w_196 ≤ 80) := by omega
  replace ht_193 : ye_hd _ := ht_193
  refine z_r_ld (kk := z_isA) (ins := (.aload_n 0)) (len := 1) (t := 258) (i := 0) rfl rfl rfl rfl rfl (fun _ => rfl) h0 rfl ?_
  refine z_r_rd (ins := (.getfield 43)) (len := 3) (t := 261) rfl rfl rfl rfl rfl (z_gfv (ci := 10) (k := 20) (v := .ref aY) rfl (z_lkn fM c_198) (by decide) (ye_flg rfl f_218)) ?_
  refine z_r_ld (kk := z_isA) (ins := (.aload_n 0)) (len := 1) (t := 262) (i := 0) rfl rfl rfl rfl rfl (fun _ => rfl) h0 rfl ?_
  refine z_r_rd (ins := (.getfield 130)) (len := 3) (t := 265) rfl rfl rfl rfl rfl (z_gfv (ci := 10) (k := 0) (v := ye_v s) rfl (z_lkn fM c_198) (by decide) (ye_flg rfl f_210)) ?_
  refine z_r_ld (kk := z_isA) (ins := (.aload_n 0)) (len := 1) (t := 266) (i := 0) rfl rfl rfl rfl rfl (fun _ => rfl) h0 rfl ?_
  refine z_r_pu (ins := (.iconst 3)) (len := 1) (t := 267) (st' := [ye_v 3, .ref aM, ye_v s, .ref aY]) rfl rfl rfl rfl rfl ?_
  refine z_r_pu (ins := (.iconst 0)) (len := 1) (t := 268) (st' := [ye_v 0, ye_v 3, .ref aM, ye_v s, .ref aY]) rfl rfl rfl rfl rfl ?_
  refine z_r_pu (ins := (.sipush 999)) (len := 3) (t := 271) rfl rfl rfl rfl (ye_si (by decide) (by decide)) ?_
  refine ye_ca (ins := (.invokevirtual 179)) (kd := 1) (t := 274) rfl rfl (by decide) (z_argsv rfl rfl rfl (by omega) (Nat.le_of_ble_eq_true rfl) rfl (Nat.le_of_ble_eq_true rfl) (Nat.le_refl _) (Nat.le_refl _) (Or.inr (Nat.le_of_ble_eq_true rfl)) (Or.inr (z_atv (z_lkn fM c_198) rfl))) rfl rfl rfl (ye_mnum (lim := lim) (k := 3) c_198 fM f_215 f_216 f_217 k_200 k_201 c_203 fB hx (by omega) (by omega) (by omega) (by omega) (by decide) (by decide) (by omega)) ?_
  rintro _ P_224 ⟨v_220, F_221, q_222, w_223, rfl, c_225, f_226, k_227, k_228, o_229, b_230, b_231, hn4⟩
  have bdn4 := yq_num_bd (T := T) (lim := lim) (p := q_195) (lo := 0) (hi := 999) (k := 3) (by decide) (by omega)
  generalize en4 : yq_num T lim 3 0 999 (q_195) = n4 at bdn4 hn4
  have c_232 := ye_kp o_229 (ye_n1 (ye_ne c_203 c_198 (by decide))) c_203
  have c_233 := ye_kp o_229 (ye_n1 (ye_ne c_204 c_198 (by decide))) c_204
  have c_234 := ye_kp o_229 (ye_n1 (ye_ne c_205 c_198 (by decide))) c_205
  have c_235 := ye_kp o_229 (ye_n1 (ye_ne c_206 c_198 (by decide))) c_206
  have c_236 := ye_kp o_229 (ye_n1 (ye_ne c_207 c_198 (by decide))) c_207
  have c_237 := ye_kp o_229 (ye_n1 (ye_ne c_208 c_198 (by decide))) c_208
  have o_238 := ye_oth_tr o_209 o_229 (ye_s1 (List.mem_cons_self))
  have f_239 : F_221 0 = ye_v s := (f_226 0 (by decide)).trans f_210
  have f_240 : F_221 1 = .ref aK := (f_226 1 (by decide)).trans f_211
  have f_241 : F_221 2 = .ref aW := (f_226 2 (by decide)).trans f_212
  have f_242 : F_221 3 = .ref aZ := (f_226 3 (by decide)).trans f_213
  have f_243 : F_221 4 = .ref aD := (f_226 4 (by decide)).trans f_214
  have f_244 : F_221 15 = .ref aB := (f_226 15 (by decide)).trans f_215
  have f_245 : F_221 16 = ye_v sz := (f_226 16 (by decide)).trans f_216
  have f_246 : F_221 17 = ye_v tp := (f_226 17 (by decide)).trans f_217
  have f_247 : F_221 20 = .ref aY := (f_226 20 (by decide)).trans f_218
  have f_248 := ye_fk_tr f_219 f_226 (by decide)
  have bwn4 : -1 ≤ w_223 ∧ w_223 ≤ 80 := by omega
  replace hn4 : ye_hd _ := hn4
  refine ye_r_wr (ins := .iastore) (len := 1) (t := 275) (a := aY) (q := (103, mv.set (s).toNat (ye_v v_220))) rfl rfl rfl rfl rfl c_236 (ye_as (t := 103) (nf := fun x => x) (p := s) (e := v_220) (e' := v_220) c_236 (by omega) (by rw [yY.1]; omega) (by omega) rfl) (fun P_249 c_250 o_251 => ?_)
  have c_252 := ye_kp o_251 (ye_n1 (ye_ne c_232 c_236 (by decide))) c_232
  have c_253 := ye_kp o_251 (ye_n1 n34) c_233
  have c_254 := ye_kp o_251 (ye_n1 n04) c_234
  have c_255 := ye_kp o_251 (ye_n1 (ye_ne c_225 c_236 (by decide))) c_225
  have c_256 := ye_kp o_251 (ye_n1 n14) c_235
  have c_257 := ye_kp o_251 (ye_n1 n24) c_237
  have o_258 := ye_oth_tr o_238 o_251 (ye_s1 (List.mem_cons_of_mem _ (List.mem_cons_of_mem _ (List.mem_cons_of_mem _ (List.mem_cons_of_mem _ (List.mem_cons_of_mem _ (List.mem_cons_self)))))))
  refine z_r_ld (kk := z_isA) (ins := (.aload_n 0)) (len := 1) (t := 276) (i := 0) rfl rfl rfl rfl rfl (fun _ => rfl) h0 rfl ?_
  refine z_r_pu (ins := .dup) (len := 1) (t := 277) rfl rfl rfl rfl rfl ?_
  refine z_r_rd (ins := (.getfield 130)) (len := 3) (t := 280) rfl rfl rfl rfl rfl (z_gfv (ci := 10) (k := 0) (v := ye_v s) rfl (z_lkn fM c_255) (by decide) (ye_flg rfl f_239)) ?_
  refine z_r_pu (ins := (.iconst 1)) (len := 1) (t := 281) (st' := [ye_v 1, ye_v s, .ref aM]) rfl rfl rfl rfl rfl ?_
  refine z_r_pu (ins := .iadd) (len := 1) (t := 282) rfl rfl rfl rfl ye_add ?_
  refine ye_r_wr (ins := (.putfield 130)) (len := 3) (t := 285) (a := aM) (q := (10, ye_fl (ye_up F_221 0 (ye_v (s + 1))))) rfl rfl rfl rfl rfl c_255 (ye_pfm (k := 0) rfl c_255 rfl rfl rfl rfl) (fun P_259 c_260 o_261 => ?_)
  have c_262 := ye_kp o_261 (ye_n1 (ye_ne c_252 c_255 (by decide))) c_252
  have c_263 := ye_kp o_261 (ye_n1 (ye_ne c_253 c_255 (by decide))) c_253
  have c_264 := ye_kp o_261 (ye_n1 (ye_ne c_254 c_255 (by decide))) c_254
  have c_265 := ye_kp o_261 (ye_n1 (ye_ne c_256 c_255 (by decide))) c_256
  have c_266 := ye_kp o_261 (ye_n1 (ye_ne c_250 c_255 (by decide))) c_250
  have c_267 := ye_kp o_261 (ye_n1 (ye_ne c_257 c_255 (by decide))) c_257
  have o_268 := ye_oth_tr o_258 o_261 (ye_s1 (List.mem_cons_self))
  have f_269 := ye_fk_up (j := 0) (v := ye_v (s + 1)) f_248 (List.mem_cons_self)
  have hny : ¬ (h < lim ∧ T h = 121) := by omega
  have eY : yb_l T lim h s = yb_so T lim h := by
    unfold yb_l
    rw [if_neg hny, if_neg (by omega)]
  have eX : yb_nx T lim h (s, lg, kd, wt, zs, dr, mn) = (s + 1, lg, ye_put kd s (yb_k T lim h), ye_put wt s (yb_n1 T lim h).2.2, ye_put zs s (yb_n2 T lim h).2.2, ye_put dr s (yb_n3 T lim h).2.2, ye_put mn s (yb_n4 T lim h).2.2) := if_neg hny
  have fin : ((yb_so T lim h).1 = true ∧ w_223 = -1 ∧ q_222 = (yb_so T lim h).2 ∧ v_22 = (yb_n1 T lim h).2.2 ∧ v_88 = (yb_n2 T lim h).2.2 ∧ v_154 = (yb_n3 T lim h).2.2 ∧ v_220 = (yb_n4 T lim h).2.2) ∨ ((yb_so T lim h).1 = false ∧ w_223 = (yb_so T lim h).2) := by
    have d1 : yb_n1 T lim h = n1 := en1
    rcases hn1 with ⟨g, -⟩ | ⟨-, k21, e21, hh21, hw21⟩ | ⟨-, k21, -, hw21⟩
    · omega
    · rcases ht_61 with ⟨-, c1, s1, t1, u1⟩ | ⟨-, c1, t1, u1⟩ | ⟨g, -⟩
      · have z1 : T n1.2.1 = 44 := by rw [← hh21]; exact s1
        have d2 : yb_n2 T lim h = n2 := by
          unfold yb_n2
          rw [d1, show n1.2.1 + 1 = q_63 by omega, en2]
        rcases hn2 with ⟨g, -⟩ | ⟨-, k22, e22, hh22, hw22⟩ | ⟨-, k22, -, hw22⟩
        · omega
        · rcases ht_127 with ⟨-, c2, s2, t2, u2⟩ | ⟨-, c2, t2, u2⟩ | ⟨g, -⟩
          · have z2 : T n2.2.1 = 44 := by rw [← hh22]; exact s2
            have d3 : yb_n3 T lim h = n3 := by
              unfold yb_n3
              rw [d2, show n2.2.1 + 1 = q_129 by omega, en3]
            rcases hn3 with ⟨g, -⟩ | ⟨-, k23, e23, hh23, hw23⟩ | ⟨-, k23, -, hw23⟩
            · omega
            · rcases ht_193 with ⟨-, c3, s3, t3, u3⟩ | ⟨-, c3, t3, u3⟩ | ⟨g, -⟩
              · have z3 : T n3.2.1 = 42 := by rw [← hh23]; exact s3
                have d4 : yb_n4 T lim h = n4 := by
                  unfold yb_n4
                  rw [d3, show n3.2.1 + 1 = q_195 by omega, en4]
                rcases hn4 with ⟨g, -⟩ | ⟨-, k24, e24, hh24, hw24⟩ | ⟨-, k24, -, hw24⟩
                · omega
                · skip
                  have eL : yb_so T lim h = (true, n4.2.1) := by
                    unfold yb_so
                    rw [if_neg hk2]
                    unfold yb_s1
                    rw [d1, if_pos k21, if_pos ⟨by omega, z1⟩]
                    unfold yb_s2
                    rw [d2, if_pos k22, if_pos ⟨by omega, z2⟩]
                    unfold yb_s3
                    rw [d3, if_pos k23, if_pos ⟨by omega, z3⟩]
                    unfold yb_s4
                    rw [d4, k24]
                  rw [eL]
                  refine Or.inl ⟨rfl, by omega, hh24, ?_, ?_, ?_, ?_⟩
                  · rw [d1]; exact e21
                  · rw [d2]; exact e22
                  · rw [d3]; exact e23
                  · rw [d4]; exact e24
                · skip
                  have eL : yb_so T lim h = (false, n4.2.1) := by
                    unfold yb_so
                    rw [if_neg hk2]
                    unfold yb_s1
                    rw [d1, if_pos k21, if_pos ⟨by omega, z1⟩]
                    unfold yb_s2
                    rw [d2, if_pos k22, if_pos ⟨by omega, z2⟩]
                    unfold yb_s3
                    rw [d3, if_pos k23, if_pos ⟨by omega, z3⟩]
                    unfold yb_s4
                    rw [d4, k24]
                  rw [eL]
                  exact Or.inr ⟨rfl, by show w_223 = n4.2.1; omega⟩
              · have z3 : ¬ (n3.2.1 < lim ∧ T n3.2.1 = 42) := by rw [← hh23]; exact c3
                have eL : yb_so T lim h = (false, n3.2.1) := by
                  unfold yb_so
                  rw [if_neg hk2]
                  unfold yb_s1
                  rw [d1, if_pos k21, if_pos ⟨by omega, z1⟩]
                  unfold yb_s2
                  rw [d2, if_pos k22, if_pos ⟨by omega, z2⟩]
                  unfold yb_s3
                  rw [d3, if_pos k23, if_neg z3]
                rw [eL]
                have wcm3 : w_223 = w_196 := by
                  rcases hn4 with ⟨-, -, -, g⟩ | ⟨g, -⟩ | ⟨g, -⟩
                  · exact g
                  · omega
                  · omega
                exact Or.inr ⟨rfl, by show w_223 = n3.2.1; omega⟩
              · omega
            · skip
              have eL : yb_so T lim h = (false, n3.2.1) := by
                unfold yb_so
                rw [if_neg hk2]
                unfold yb_s1
                rw [d1, if_pos k21, if_pos ⟨by omega, z1⟩]
                unfold yb_s2
                rw [d2, if_pos k22, if_pos ⟨by omega, z2⟩]
                unfold yb_s3
                rw [d3, if_neg (by rw [k23]; decide)]
              rw [eL]
              have wcd2 : w_196 = w_157 := by
                rcases ht_193 with ⟨g, -⟩ | ⟨g, -⟩ | ⟨-, -, g⟩
                · omega
                · omega
                · exact g
              have wcm3 : w_223 = w_196 := by
                rcases hn4 with ⟨-, -, -, g⟩ | ⟨g, -⟩ | ⟨g, -⟩
                · exact g
                · omega
                · omega
              exact Or.inr ⟨rfl, by show w_223 = n3.2.1; omega⟩
          · have z2 : ¬ (n2.2.1 < lim ∧ T n2.2.1 = 44) := by rw [← hh22]; exact c2
            have eL : yb_so T lim h = (false, n2.2.1) := by
              unfold yb_so
              rw [if_neg hk2]
              unfold yb_s1
              rw [d1, if_pos k21, if_pos ⟨by omega, z1⟩]
              unfold yb_s2
              rw [d2, if_pos k22, if_neg z2]
            rw [eL]
            have wcm2 : w_157 = w_130 := by
              rcases hn3 with ⟨-, -, -, g⟩ | ⟨g, -⟩ | ⟨g, -⟩
              · exact g
              · omega
              · omega
            have wcd2 : w_196 = w_157 := by
              rcases ht_193 with ⟨g, -⟩ | ⟨g, -⟩ | ⟨-, -, g⟩
              · omega
              · omega
              · exact g
            have wcm3 : w_223 = w_196 := by
              rcases hn4 with ⟨-, -, -, g⟩ | ⟨g, -⟩ | ⟨g, -⟩
              · exact g
              · omega
              · omega
            exact Or.inr ⟨rfl, by show w_223 = n2.2.1; omega⟩
          · omega
        · skip
          have eL : yb_so T lim h = (false, n2.2.1) := by
            unfold yb_so
            rw [if_neg hk2]
            unfold yb_s1
            rw [d1, if_pos k21, if_pos ⟨by omega, z1⟩]
            unfold yb_s2
            rw [d2, if_neg (by rw [k22]; decide)]
          rw [eL]
          have wcd1 : w_130 = w_91 := by
            rcases ht_127 with ⟨g, -⟩ | ⟨g, -⟩ | ⟨-, -, g⟩
            · omega
            · omega
            · exact g
          have wcm2 : w_157 = w_130 := by
            rcases hn3 with ⟨-, -, -, g⟩ | ⟨g, -⟩ | ⟨g, -⟩
            · exact g
            · omega
            · omega
          have wcd2 : w_196 = w_157 := by
            rcases ht_193 with ⟨g, -⟩ | ⟨g, -⟩ | ⟨-, -, g⟩
            · omega
            · omega
            · exact g
          have wcm3 : w_223 = w_196 := by
            rcases hn4 with ⟨-, -, -, g⟩ | ⟨g, -⟩ | ⟨g, -⟩
            · exact g
            · omega
            · omega
          exact Or.inr ⟨rfl, by show w_223 = n2.2.1; omega⟩
      · have z1 : ¬ (n1.2.1 < lim ∧ T n1.2.1 = 44) := by rw [← hh21]; exact c1
        have eL : yb_so T lim h = (false, n1.2.1) := by
          unfold yb_so
          rw [if_neg hk2]
          unfold yb_s1
          rw [d1, if_pos k21, if_neg z1]
        rw [eL]
        have wcm1 : w_91 = w_64 := by
          rcases hn2 with ⟨-, -, -, g⟩ | ⟨g, -⟩ | ⟨g, -⟩
          · exact g
          · omega
          · omega
        have wcd1 : w_130 = w_91 := by
          rcases ht_127 with ⟨g, -⟩ | ⟨g, -⟩ | ⟨-, -, g⟩
          · omega
          · omega
          · exact g
        have wcm2 : w_157 = w_130 := by
          rcases hn3 with ⟨-, -, -, g⟩ | ⟨g, -⟩ | ⟨g, -⟩
          · exact g
          · omega
          · omega
        have wcd2 : w_196 = w_157 := by
          rcases ht_193 with ⟨g, -⟩ | ⟨g, -⟩ | ⟨-, -, g⟩
          · omega
          · omega
          · exact g
        have wcm3 : w_223 = w_196 := by
          rcases hn4 with ⟨-, -, -, g⟩ | ⟨g, -⟩ | ⟨g, -⟩
          · exact g
          · omega
          · omega
        exact Or.inr ⟨rfl, by show w_223 = n1.2.1; omega⟩
      · omega
    · skip
      have eL : yb_so T lim h = (false, n1.2.1) := by
        unfold yb_so
        rw [if_neg hk2]
        unfold yb_s1
        rw [d1, if_neg (by rw [k21]; decide)]
      rw [eL]
      have wcd0 : w_64 = w_25 := by
        rcases ht_61 with ⟨g, -⟩ | ⟨g, -⟩ | ⟨-, -, g⟩
        · omega
        · omega
        · exact g
      have wcm1 : w_91 = w_64 := by
        rcases hn2 with ⟨-, -, -, g⟩ | ⟨g, -⟩ | ⟨g, -⟩
        · exact g
        · omega
        · omega
      have wcd1 : w_130 = w_91 := by
        rcases ht_127 with ⟨g, -⟩ | ⟨g, -⟩ | ⟨-, -, g⟩
        · omega
        · omega
        · exact g
      have wcm2 : w_157 = w_130 := by
        rcases hn3 with ⟨-, -, -, g⟩ | ⟨g, -⟩ | ⟨g, -⟩
        · exact g
        · omega
        · omega
      have wcd2 : w_196 = w_157 := by
        rcases ht_193 with ⟨g, -⟩ | ⟨g, -⟩ | ⟨-, -, g⟩
        · omega
        · omega
        · exact g
      have wcm3 : w_223 = w_196 := by
        rcases hn4 with ⟨-, -, -, g⟩ | ⟨g, -⟩ | ⟨g, -⟩
        · exact g
        · omega
        · omega
      exact Or.inr ⟨rfl, by show w_223 = n1.2.1; omega⟩
  rcases fin with ⟨f1, f2, f3, e1, e2, e3, e4⟩ | ⟨f1, f2⟩
  · exact kk _ _ _ _ _ _ _ (yb_nx T lim h (s, lg, kd, wt, zs, dr, mn)) h0 h1 h2 h3 c_260 f_269 rfl k_227 k_228 (by rw [eX, ← e1, ← e2, ← e3, ← e4, ← hk1]; exact ⟨_, _, _, _, _, c_264, c_265, c_267, c_263, c_266, ye_arr_put yK hs.1 hs.2, ye_arr_put yW hs.1 hs.2, ye_arr_put yZ hs.1 hs.2, ye_arr_put yD hs.1 hs.2, ye_arr_put yY hs.1 hs.2⟩) o_268 (by omega) (Or.inl (by rw [eY]; exact ⟨f1, f2, f3, rfl, by rw [eX], by rw [eX]; exact hnl⟩))
  · exact kk _ _ _ _ _ _ _ (s, lg, kd, wt, zs, dr, mn) h0 h1 h2 h3 c_260 f_269 rfl k_227 k_228 ⟨_, _, _, _, _, c_264, c_265, c_267, c_263, c_266, ye_arr_keep yK hs.1, ye_arr_keep yW hs.1, ye_arr_keep yZ hs.1, ye_arr_keep yD hs.1, ye_arr_keep yY hs.1⟩ o_268 (by omega) (Or.inr (by rw [eY]; exact ⟨f1, f2, rfl⟩))
end YMSO
