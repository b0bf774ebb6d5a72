/-! A LINE of a barn, the reference, exactly. -/
section YMBL
variable {xs : List Int32} {d aM aB aK aW aZ aD aY : Nat} {P : z_H} {F : Nat → Value} {bs kv wv zv dv mv : List Value} {T kd wt zs dr mn : Int → Int} {S : yb_S} {sz tp h w lim n nl we s lg k i : Int} {l : z_L} {Ψ : z_S → Prop}
theorem yq_num_lo {T : Int → Int} {lim lo hi p : Int} {k : Nat} (h : (yq_num T lim k lo hi p).1 = true) : lo ≤ (yq_num T lim k lo hi p).2.2 := by
  unfold yq_num at h ⊢
  by_cases c1 : (yq_dg T lim k p 0).1 = p
  · rw [if_pos c1] at h
    cases h
  · rw [if_neg c1] at h ⊢
    by_cases c2 : (yq_dg T lim k p 0).2 < lo ∨ hi < (yq_dg T lim k p 0).2
    · rw [if_pos c2] at h
      cases h
    · rw [if_neg c2]
      show lo ≤ (yq_dg T lim k p 0).2
      omega
theorem ye_mbY (hM : P[aM]? = some (10, ye_fl F)) (fM : aM < z_far) (k0 : F 0 = ye_v s) (k1 : F 1 = .ref aK) (k2 : F 2 = .ref aW) (k3 : F 3 = .ref aZ) (k4 : F 4 = .ref aD) (k20 : F 20 = .ref aY) (k15 : F 15 = .ref aB) (k16 : F 16 = ye_v sz) (k17 : F 17 = ye_v tp) (k18 : F 18 = ye_v h) (k19 : F 19 = ye_v w) (hB : P[aB]? = some (101, bs)) (fB : aB < z_far) (hx : ye_tx T sz (-128) 127 bs) (hl : (lim = sz ∧ sz ≤ tp) ∨ (lim = tp ∧ tp < sz)) (hb : 0 ≤ h ∧ h ≤ lim ∧ 0 ≤ sz ∧ sz ≤ 80 ∧ 0 ≤ tp ∧ tp ≤ 80 ∧ -1 ≤ w ∧ w ≤ 80)
    (hMA : ye_MA aK aW aZ aD aY (s, lg, kd, wt, zs, dr, mn) P)
    (h0 : z_get l 0 = some (.ref aM)) (h1 : z_get l 1 = some (ye_v we)) (h2 : z_get l 2 = some (ye_v nl)) (h3 : z_get l 3 = some (ye_v n)) (hy : h < lim ∧ T h = 121) (hw : w = -1) (hs : 0 ≤ s ∧ s ≤ 10) (hd : 4 ≤ d)
    (kk : ∀ l P' F' (h' w' nl' s' : Int) (S' : yb_S), z_get l 0 = some (.ref aM) → z_get l 1 = some (ye_v we) → z_get l 2 = some (ye_v nl') → z_get l 3 = some (ye_v n) → P'[aM]? = some (10, ye_fl F') → ye_fk [0, 18, 19] F F' → F' 0 = ye_v s' → F' 18 = ye_v h' → F' 19 = ye_v w' → ye_MA aK aW aZ aD aY S' P' → ye_oth [aM, aK, aW, aZ, aD, aY] P P' → 0 ≤ h' ∧ h' ≤ lim ∧ -1 ≤ w' ∧ w' ≤ 80 ∧ 0 ≤ s' ∧ s' ≤ 10 → (((yb_l T lim h s).1 = true ∧ w' = -1 ∧ h' = (yb_l T lim h s).2 ∧ S' = yb_nx T lim h (s, lg, kd, wt, zs, dr, mn) ∧ s' = S'.1 ∧ nl' = yb_nl S'.2.1) ∨ ((yb_l T lim h s).1 = false ∧ w' = (yb_l T lim h s).2 ∧ S' = (s, lg, kd, wt, zs, dr, mn))) → z_Rh (z_G xs) d 191 Ψ (285, l, [], P', 0, 0)) : z_Rh (z_G xs) d 191 Ψ (119, l, [], P, 0, 0) := by
  have ho0 : ye_oth [aM] P P := ye_oth_rf
  have hf0 : ye_fk [0, 18, 19] F F := ye_fk_rf
  refine z_r_ld (kk := z_isA) (ins := (.aload_n 0)) (len := 1) (t := 120) (i := 0) rfl rfl rfl rfl rfl (fun _ => rfl) h0 rfl ?_
  refine z_r_pu (ins := .dup) (len := 1) (t := 121) rfl rfl rfl rfl rfl ?_
  refine z_r_rd (ins := (.getfield 153)) (len := 3) (t := 124) rfl rfl rfl rfl rfl (z_gfv (ci := 10) (k := 18) (v := ye_v h) rfl (z_lkn fM hM) (by decide) (ye_flg rfl k18)) ?_
  refine z_r_pu (ins := (.iconst 1)) (len := 1) (t := 125) (st' := [ye_v 1, ye_v h, .ref aM]) rfl rfl rfl rfl rfl ?_
  refine z_r_pu (ins := .iadd) (len := 1) (t := 126) rfl rfl rfl rfl ye_add ?_
  refine ye_r_wr (ins := (.putfield 153)) (len := 3) (t := 129) (a := aM) (q := (10, ye_fl (ye_up F 18 (ye_v (h + 1))))) rfl rfl rfl rfl rfl hM (ye_pfm (k := 18) rfl hM rfl rfl rfl rfl) (fun P_1 c_2 o_3 => ?_)
  have c_4 := ye_kp o_3 (ye_n1 (ye_ne hB hM (by decide))) hB
  have o_5 := ye_oth_tr ho0 o_3 (ye_s1 (List.mem_cons_self))
  have f_6 := ye_fk_up (j := 18) (v := ye_v (h + 1)) hf0 (List.mem_cons_of_mem _ (List.mem_cons_self))
  refine z_r_ld (kk := z_isA) (ins := (.aload_n 0)) (len := 1) (t := 130) (i := 0) rfl rfl rfl rfl rfl (fun _ => rfl) h0 rfl ?_
  refine z_r_pu (ins := (.iconst 2)) (len := 1) (t := 131) (st' := [ye_v 2, .ref aM]) rfl rfl rfl rfl rfl ?_
  refine z_r_pu (ins := (.iconst 2)) (len := 1) (t := 132) (st' := [ye_v 2, ye_v 2, .ref aM]) rfl rfl rfl rfl rfl ?_
  refine z_r_pu (ins := (.bipush 24)) (len := 2) (t := 134) rfl rfl rfl rfl (ye_bi (by decide) (by decide)) ?_
  refine ye_ca (ins := (.invokevirtual 179)) (kd := 1) (t := 137) rfl rfl (by decide) (z_argsv rfl rfl rfl (by omega) (Nat.le_of_ble_eq_true rfl) rfl (Nat.le_of_ble_eq_true rfl) (Nat.le_refl _) (Nat.le_refl _) (Or.inr (Nat.le_of_ble_eq_true rfl)) (Or.inr (z_atv (z_lkn fM c_2) rfl))) rfl rfl rfl (ye_mnum (lim := lim) (k := 2) c_2 fM k15 k16 k17 rfl k19 c_4 fB hx (by omega) (by omega) (by omega) (by omega) (by decide) (by decide) (by omega)) ?_
  rintro _ P_11 ⟨v_7, F_8, q_9, w_10, rfl, c_12, f_13, k_14, k_15, o_16, b_17, b_18, hn1⟩
  have bdn1 := yq_num_bd (T := T) (lim := lim) (p := h + 1) (lo := 2) (hi := 24) (k := 2) (by decide) (by omega)
  generalize en1 : yq_num T lim 2 2 24 (h + 1) = n1 at bdn1 hn1
  have c_19 := ye_kp o_16 (ye_n1 (ye_ne c_4 c_2 (by decide))) c_4
  have o_20 := ye_oth_tr o_5 o_16 (ye_s1 (List.mem_cons_self))
  have f_21 : F_8 0 = ye_v s := (f_13 0 (by decide)).trans k0
  have f_22 : F_8 1 = .ref aK := (f_13 1 (by decide)).trans k1
  have f_23 : F_8 2 = .ref aW := (f_13 2 (by decide)).trans k2
  have f_24 : F_8 3 = .ref aZ := (f_13 3 (by decide)).trans k3
  have f_25 : F_8 4 = .ref aD := (f_13 4 (by decide)).trans k4
  have f_26 : F_8 15 = .ref aB := (f_13 15 (by decide)).trans k15
  have f_27 : F_8 16 = ye_v sz := (f_13 16 (by decide)).trans k16
  have f_28 : F_8 17 = ye_v tp := (f_13 17 (by decide)).trans k17
  have f_29 : F_8 20 = .ref aY := (f_13 20 (by decide)).trans k20
  have f_30 := ye_fk_tr f_6 f_13 (by decide)
  have bwn1 : -1 ≤ w_10 ∧ w_10 ≤ 80 := by omega
  replace hn1 : ye_hd _ := hn1
  refine z_r_is (kk := z_isI) (ins := (.istore_n 2)) (len := 1) (t := 138) (i := 2) rfl rfl rfl rfl rfl rfl rfl rfl (fun l l_31 k_32 => ?_)
  have l_33 := k_32 _ _ h0 (by decide) (Or.inl (by decide))
  have l_34 := k_32 _ _ h1 (by decide) (Or.inr (by show (1 : Nat) ≠ 2; decide))
  have l_35 := k_32 _ _ h3 (by decide) (Or.inl (by decide))
  refine z_r_jm (ins := (.goto 147)) (len := 3) (t := 285) rfl rfl rfl rfl (z_gty rfl) ?_
  have eY : yb_l T lim h s = ((yb_ny T lim h).1, (yb_ny T lim h).2.1) := by
    unfold yb_l
    rw [if_pos hy]
  have eX : yb_nx T lim h (s, lg, kd, wt, zs, dr, mn) = (s, (yb_ny T lim h).2.2, kd, wt, zs, dr, mn) := if_pos hy
  have dy : yb_ny T lim h = n1 := en1
  have hMA2 := ye_MA_kp hMA hM o_20
  rcases hn1 with ⟨g, -⟩ | ⟨-, k1, e1, hh1, hw1⟩ | ⟨-, k1, -, hw1⟩
  · omega
  · have b2 : 2 ≤ n1.2.2 := by
      have q := yq_num_lo (T := T) (lim := lim) (k := 2) (lo := 2) (hi := 24) (p := h + 1)
      rw [en1] at q
      exact q k1
    exact kk _ _ _ _ _ _ _ (yb_nx T lim h (s, lg, kd, wt, zs, dr, mn)) l_33 l_34 l_31 l_35 c_12 f_30 f_21 k_14 k_15 (by rw [eX]; exact hMA2) (ye_oth_tr ye_oth_rf o_20 (ye_s1 (List.mem_cons_self))) (by omega) (Or.inl (by rw [eY, dy]; exact ⟨k1, hw1, hh1, rfl, by rw [eX], by rw [eX, dy]; show v_7 = yb_nl n1.2.2; rw [e1]; exact yb_nl_t (by omega)⟩))
  · exact kk _ _ _ _ _ _ _ (s, lg, kd, wt, zs, dr, mn) l_33 l_34 l_31 l_35 c_12 f_30 f_21 k_14 k_15 hMA2 (ye_oth_tr ye_oth_rf o_20 (ye_s1 (List.mem_cons_self))) (by omega) (Or.inr (by rw [eY, dy]; exact ⟨k1, hw1, rfl⟩))
theorem ye_mbF (hM : P[aM]? = some (10, ye_fl F)) (fM : aM < z_far) (k0 : F 0 = ye_v s) (k1 : F 1 = .ref aK) (k2 : F 2 = .ref aW) (k3 : F 3 = .ref aZ) (k4 : F 4 = .ref aD) (k20 : F 20 = .ref aY) (k15 : F 15 = .ref aB) (k16 : F 16 = ye_v sz) (k17 : F 17 = ye_v tp) (k18 : F 18 = ye_v h) (k19 : F 19 = ye_v w) (hB : P[aB]? = some (101, bs)) (fB : aB < z_far) (hx : ye_tx T sz (-128) 127 bs) (hl : (lim = sz ∧ sz ≤ tp) ∨ (lim = tp ∧ tp < sz)) (hb : 0 ≤ h ∧ h ≤ lim ∧ 0 ≤ sz ∧ sz ≤ 80 ∧ 0 ≤ tp ∧ tp ≤ 80 ∧ -1 ≤ w ∧ w ≤ 80)
    (hMA : ye_MA aK aW aZ aD aY (s, lg, kd, wt, zs, dr, mn) P)
    (h0 : z_get l 0 = some (.ref aM)) (h1 : z_get l 1 = some (ye_v we)) (h2 : z_get l 2 = some (ye_v nl)) (h3 : z_get l 3 = some (ye_v n)) (hy : ¬ (h < lim ∧ T h = 121)) (hc : s = 10 ∨ yb_k T lim h = -1) (hw : w = -1) (hs : 0 ≤ s ∧ s ≤ 10) (hd : 4 ≤ d)
    (kk : ∀ l P' F' (h' w' nl' s' : Int) (S' : yb_S), z_get l 0 = some (.ref aM) → z_get l 1 = some (ye_v we) → z_get l 2 = some (ye_v nl') → z_get l 3 = some (ye_v n) → P'[aM]? = some (10, ye_fl F') → ye_fk [0, 18, 19] F F' → F' 0 = ye_v s' → F' 18 = ye_v h' → F' 19 = ye_v w' → ye_MA aK aW aZ aD aY S' P' → ye_oth [aM, aK, aW, aZ, aD, aY] P P' → 0 ≤ h' ∧ h' ≤ lim ∧ -1 ≤ w' ∧ w' ≤ 80 ∧ 0 ≤ s' ∧ s' ≤ 10 → (((yb_l T lim h s).1 = true ∧ w' = -1 ∧ h' = (yb_l T lim h s).2 ∧ S' = yb_nx T lim h (s, lg, kd, wt, zs, dr, mn) ∧ s' = S'.1 ∧ nl' = yb_nl S'.2.1) ∨ ((yb_l T lim h s).1 = false ∧ w' = (yb_l T lim h s).2 ∧ S' = (s, lg, kd, wt, zs, dr, mn))) → z_Rh (z_G xs) d 191 Ψ (285, l, [], P', 0, 0)) : z_Rh (z_G xs) d 191 Ψ (156, l, [], P, 0, 0) := by
  have ho0 : ye_oth [aM] P P := ye_oth_rf
  have hf0 : ye_fk [0, 18, 19] F F := ye_fk_rf
  refine z_r_ld (kk := z_isA) (ins := (.aload_n 0)) (len := 1) (t := 157) (i := 0) rfl rfl rfl rfl rfl (fun _ => rfl) h0 rfl ?_
  refine z_r_ld (kk := z_isA) (ins := (.aload_n 0)) (len := 1) (t := 158) (i := 0) rfl rfl rfl rfl rfl (fun _ => rfl) h0 rfl ?_
  refine z_r_rd (ins := (.getfield 153)) (len := 3) (t := 161) rfl rfl rfl rfl rfl (z_gfv (ci := 10) (k := 18) (v := ye_v h) rfl (z_lkn fM hM) (by decide) (ye_flg rfl k18)) ?_
  refine ye_cav (ins := (.invokevirtual 171)) (kd := 1) (t := 164) rfl rfl (by decide) (z_argsv rfl rfl rfl (by omega) (Nat.le_of_ble_eq_true rfl) rfl (Nat.le_of_ble_eq_true rfl) (Nat.le_refl _) (Nat.le_refl _) (Or.inr (Nat.le_of_ble_eq_true rfl)) (Or.inr (z_atv (z_lkn fM hM) rfl))) rfl rfl rfl rfl (ye_flt hM fM k19 (by omega) (by omega)) ?_
  rintro _ P_3 ⟨F_1, w_2, c_4, f_5, k_6, o_7, h_8⟩
  have c_9 := ye_kp o_7 (ye_n1 (ye_ne hB hM (by decide))) hB
  have o_10 := ye_oth_tr ho0 o_7 (ye_s1 (List.mem_cons_self))
  have f_11 : F_1 0 = ye_v s := (f_5 0 (by decide)).trans k0
  have f_12 : F_1 1 = .ref aK := (f_5 1 (by decide)).trans k1
  have f_13 : F_1 2 = .ref aW := (f_5 2 (by decide)).trans k2
  have f_14 : F_1 3 = .ref aZ := (f_5 3 (by decide)).trans k3
  have f_15 : F_1 4 = .ref aD := (f_5 4 (by decide)).trans k4
  have f_16 : F_1 15 = .ref aB := (f_5 15 (by decide)).trans k15
  have f_17 : F_1 16 = ye_v sz := (f_5 16 (by decide)).trans k16
  have f_18 : F_1 17 = ye_v tp := (f_5 17 (by decide)).trans k17
  have f_19 : F_1 18 = ye_v h := (f_5 18 (by decide)).trans k18
  have f_20 : F_1 20 = .ref aY := (f_5 20 (by decide)).trans k20
  have f_21 := ye_fk_tr hf0 f_5 (by decide)
  refine z_r_jm (ins := (.goto 121)) (len := 3) (t := 285) rfl rfl rfl rfl (z_gty rfl) ?_
  have eY : yb_l T lim h s = (false, h) := by
    unfold yb_l
    rw [if_neg hy]
    by_cases q : 10 ≤ s
    · rw [if_pos q]
    · rw [if_neg q]
      exact if_pos (by omega)
  exact kk _ _ _ _ _ _ _ (s, lg, kd, wt, zs, dr, mn) h0 h1 h2 h3 c_4 f_21 f_11 f_19 k_6 (ye_MA_kp hMA hM o_10) (ye_oth_tr ye_oth_rf o_10 (ye_s1 (List.mem_cons_self))) (by omega) (Or.inr (by rw [eY]; exact ⟨rfl, by show w_2 = h; omega, rfl⟩))
theorem ye_mbZ (hM : P[aM]? = some (10, ye_fl F)) (fM : aM < z_far) (k0 : F 0 = ye_v s) (k15 : F 15 = .ref aB) (k16 : F 16 = ye_v sz) (k17 : F 17 = ye_v tp) (k18 : F 18 = ye_v h) (k19 : F 19 = ye_v w) (hB : P[aB]? = some (101, bs)) (fB : aB < z_far) (hx : ye_tx T sz (-128) 127 bs) (hl : (lim = sz ∧ sz ≤ tp) ∨ (lim = tp ∧ tp < sz)) (hb : 0 ≤ h ∧ h ≤ lim ∧ 0 ≤ sz ∧ sz ≤ 80 ∧ 0 ≤ tp ∧ tp ≤ 80 ∧ -1 ≤ w ∧ w ≤ 80)
    (hMA : ye_MA aK aW aZ aD aY S P)
    (h0 : z_get l 0 = some (.ref aM)) (h1 : z_get l 1 = some (ye_v we)) (h2 : z_get l 2 = some (ye_v nl)) (h3 : z_get l 3 = some (ye_v n)) (hd : 4 ≤ d)
    (kk : ∀ l P' F' (b h' : Int), z_get l 0 = some (.ref aM) → z_get l 1 = some (ye_v we) → z_get l 2 = some (ye_v nl) → z_get l 3 = some (ye_v (n + 1)) → z_get l 4 = some (ye_v b) → P'[aM]? = some (10, ye_fl F') → ye_fk [18] F F' → F' 18 = ye_v h' → ye_MA aK aW aZ aD aY S P' → ye_oth [aM] P P' → 0 ≤ h' ∧ h' ≤ lim → ((b = 1 ∧ w = -1 ∧ h < lim ∧ T h = 59 ∧ h' = h + 1) ∨ (b = 0 ∧ ¬ (w = -1 ∧ h < lim ∧ T h = 59) ∧ h' = h)) → z_Rh (z_G xs) d 191 Ψ (47, l, [], P', 0, 0)) : z_Rh (z_G xs) d 191 Ψ (285, l, [], P, 0, 0) := by
  have ho0 : ye_oth [aM] P P := ye_oth_rf
  have hf0 : ye_fk [18] F F := ye_fk_rf
  refine ye_ic (ins := (.iinc 3 1)) (len := 3) (t := 288) (i := 3) (a := n) (kk := 1) rfl rfl rfl rfl rfl rfl h3 (fun l l_1 k_2 => ?_)
  have l_3 := k_2 _ _ h0 (by decide) (Or.inl (by decide))
  have l_4 := k_2 _ _ h1 (by decide) (Or.inl (by decide))
  have l_5 := k_2 _ _ h2 (by decide) (Or.inr (by show (1 : Nat) ≠ 2; decide))
  refine z_r_ld (kk := z_isA) (ins := (.aload_n 0)) (len := 1) (t := 289) (i := 0) rfl rfl rfl rfl rfl (fun _ => rfl) l_3 rfl ?_
  refine z_r_pu (ins := (.bipush 59)) (len := 2) (t := 291) rfl rfl rfl rfl (ye_bi (by decide) (by decide)) ?_
  refine ye_ca (ins := (.invokevirtual 167)) (kd := 1) (t := 294) rfl rfl (by decide) (z_argsv rfl rfl rfl (by omega) (Nat.le_of_ble_eq_true rfl) rfl (Nat.le_of_ble_eq_true rfl) (Nat.le_refl _) (Nat.le_refl _) (Or.inr (Nat.le_of_ble_eq_true rfl)) (Or.inr (z_atv (z_lkn fM hM) rfl))) rfl rfl rfl (ye_passes (lim := lim) hM fM k15 k16 k17 k18 k19 hB fB hx (by omega) (by omega) (by omega) (by omega)) ?_
  rintro _ P_9 ⟨bt_6, F_7, q_8, rfl, c_10, f_11, k_12, o_13, ht_6⟩
  have c_14 := ye_kp o_13 (ye_n1 (ye_ne hB hM (by decide))) hB
  have o_15 := ye_oth_tr ho0 o_13 (ye_s1 (List.mem_cons_self))
  have f_16 : F_7 0 = ye_v s := (f_11 0 (by decide)).trans k0
  have f_17 : F_7 15 = .ref aB := (f_11 15 (by decide)).trans k15
  have f_18 : F_7 16 = ye_v sz := (f_11 16 (by decide)).trans k16
  have f_19 : F_7 17 = ye_v tp := (f_11 17 (by decide)).trans k17
  have f_20 : F_7 19 = ye_v w := (f_11 19 (by decide)).trans k19
  have f_21 := ye_fk_tr hf0 f_11 (by decide)
  have bqt_6 : (h ≤ q_8 ∧ q_8 ≤ lim) ∧ 0 ≤ q_8 ∧ 0 ≤ bt_6 ∧ bt_6 ≤ 1 := by omega
  refine z_r_is (kk := z_isI) (ins := (.istore 4)) (len := 2) (t := 296) (i := 4) rfl rfl rfl rfl rfl rfl rfl rfl (fun l l_22 k_23 => ?_)
  have l_24 := k_23 _ _ l_3 (by decide) (Or.inl (by decide))
  have l_25 := k_23 _ _ l_4 (by decide) (Or.inl (by decide))
  have l_26 := k_23 _ _ l_5 (by decide) (Or.inl (by decide))
  have l_27 := k_23 _ _ l_1 (by decide) (Or.inr (by show (1 : Nat) ≠ 2; decide))
  refine z_r_jm (ins := (.goto (-249))) (len := 3) (t := 47) rfl rfl rfl rfl (z_gty rfl) ?_
  exact kk _ _ _ _ _ l_24 l_25 l_26 l_27 l_22 c_10 f_21 k_12 (ye_MA_kp hMA hM o_15) o_15 ⟨by omega, by omega⟩ (by omega)
set_option maxHeartbeats 8000000 in
theorem ye_mbI (hM : P[aM]? = some (10, ye_fl F)) (fM : aM < z_far) (k0 : F 0 = ye_v s) (k1 : F 1 = .ref aK) (k2 : F 2 = .ref aW) (k3 : F 3 = .ref aZ) (k4 : F 4 = .ref aD) (k20 : F 20 = .ref aY) (k15 : F 15 = .ref aB) (k16 : F 16 = ye_v sz) (k17 : F 17 = ye_v tp) (k18 : F 18 = ye_v h) (k19 : F 19 = ye_v w) (hB : P[aB]? = some (101, bs)) (fB : aB < z_far) (hx : ye_tx T sz (-128) 127 bs) (hl : (lim = sz ∧ sz ≤ tp) ∨ (lim = tp ∧ tp < sz)) (hb : 0 ≤ h ∧ h ≤ lim ∧ 0 ≤ sz ∧ sz ≤ 80 ∧ 0 ≤ tp ∧ tp ≤ 80 ∧ -1 ≤ w ∧ w ≤ 80)
    (hMA : ye_MA aK aW aZ aD aY (s, lg, kd, wt, zs, dr, mn) P) (fK : aK < z_far) (fW : aW < z_far) (fZ : aZ < z_far) (fD : aD < z_far) (fY : aY < z_far) (n01 : aK ≠ aW) (n02 : aK ≠ aZ) (n03 : aK ≠ aD) (n04 : aK ≠ aY) (n12 : aW ≠ aZ) (n13 : aW ≠ aD) (n14 : aW ≠ aY) (n23 : aZ ≠ aD) (n24 : aZ ≠ aY) (n34 : aD ≠ aY)
    (h0 : z_get l 0 = some (.ref aM)) (h1 : z_get l 1 = some (ye_v we)) (h2 : z_get l 2 = some (ye_v nl)) (h3 : z_get l 3 = some (ye_v n)) (h4 : z_get l 4 = some (ye_v 1)) (hw : w = -1) (hs : 0 ≤ s ∧ s ≤ 10) (hnl : nl = yb_nl lg) (hd : 4 ≤ d)
    (kk : ∀ l P' F' (b h' w' nl' s' : Int) (S' : yb_S), z_get l 0 = some (.ref aM) → z_get l 1 = some (ye_v we) → z_get l 2 = some (ye_v nl') → z_get l 3 = some (ye_v (n + 1)) → z_get l 4 = some (ye_v b) → P'[aM]? = some (10, ye_fl F') → ye_fk [0, 18, 19] F F' → F' 0 = ye_v s' → F' 18 = ye_v h' → F' 19 = ye_v w' → ye_MA aK aW aZ aD aY S' P' → ye_oth [aM, aK, aW, aZ, aD, aY] P P' → 0 ≤ h' ∧ h' ≤ lim ∧ -1 ≤ w' ∧ w' ≤ 80 ∧ 0 ≤ s' ∧ s' ≤ 10 → (((yb_l T lim h s).1 = true ∧ w' = -1 ∧ S' = yb_nx T lim h (s, lg, kd, wt, zs, dr, mn) ∧ s' = S'.1 ∧ nl' = yb_nl S'.2.1 ∧ ((b = 1 ∧ (yb_l T lim h s).2 < lim ∧ T (yb_l T lim h s).2 = 59 ∧ h' = (yb_l T lim h s).2 + 1) ∨ (b = 0 ∧ ¬ ((yb_l T lim h s).2 < lim ∧ T (yb_l T lim h s).2 = 59) ∧ h' = (yb_l T lim h s).2))) ∨ ((yb_l T lim h s).1 = false ∧ w' = (yb_l T lim h s).2 ∧ b = 0 ∧ S' = (s, lg, kd, wt, zs, dr, mn))) → z_Rh (z_G xs) d 191 Ψ (47, l, [], P', 0, 0)) : z_Rh (z_G xs) d 191 Ψ (47, l, [], P, 0, 0) := by
  have hMA0 := hMA
  obtain ⟨kv, wv, zv, dv, mv, hK, hW, hZ, hD, hY, yK, yW, yZ, yD, yY⟩ := hMA0
  have hBM : aB ∉ [aM, aK, aW, aZ, aD, aY] := by
    simp only [List.mem_cons, List.not_mem_nil, or_false, not_or]
    exact ⟨ye_ne hB hM (by decide), ye_ne hB hK (by decide), ye_ne hB hW (by decide), ye_ne hB hZ (by decide), ye_ne hB hD (by decide), ye_ne hB hY (by decide)⟩
  have kc := yb_k_cs (T := T) (lim := lim) (p := h)
  have KT : ∀ l P' F' (h' w' nl' s' : Int) (S' : yb_S), z_get l 0 = some (.ref aM) → z_get l 1 = some (ye_v we) → z_get l 2 = some (ye_v nl') → z_get l 3 = some (ye_v n) → P'[aM]? = some (10, ye_fl F') → ye_fk [0, 18, 19] F F' → F' 0 = ye_v s' → F' 18 = ye_v h' → F' 19 = ye_v w' → ye_MA aK aW aZ aD aY S' P' → ye_oth [aM, aK, aW, aZ, aD, aY] P P' → 0 ≤ h' ∧ h' ≤ lim ∧ -1 ≤ w' ∧ w' ≤ 80 ∧ 0 ≤ s' ∧ s' ≤ 10 → (((yb_l T lim h s).1 = true ∧ w' = -1 ∧ h' = (yb_l T lim h s).2 ∧ S' = yb_nx T lim h (s, lg, kd, wt, zs, dr, mn) ∧ s' = S'.1 ∧ nl' = yb_nl S'.2.1) ∨ ((yb_l T lim h s).1 = false ∧ w' = (yb_l T lim h s).2 ∧ S' = (s, lg, kd, wt, zs, dr, mn))) → z_Rh (z_G xs) d 191 Ψ (285, l, [], P', 0, 0) := by
    intro l P1 F1 h1 w1 nl1 s1 S1 g0 g1 g2 g3 q1 q2 q3 q4 q5 q6 q7 q8 q9
    refine ye_mbZ (w := w1) q1 fM q3 ((q2 15 (by decide)).trans k15) ((q2 16 (by decide)).trans k16) ((q2 17 (by decide)).trans k17) q4 q5 (ye_kp q7 hBM hB) fB hx hl (by omega) q6 g0 g1 g2 g3 hd ?_
    intro l P2 F2 b2 h2' z0 z1 z2 z3 z4 r1 r2 r3 r4 r5 r6 r7
    refine kk l P2 F2 b2 h2' w1 nl1 s1 S1 z0 z1 z2 z3 z4 r1 (ye_fk_tr q2 r2 (by decide)) ((r2 0 (by decide)).trans q3) r3 ((r2 19 (by decide)).trans q5) r4 (ye_oth_tr q7 r5 (ye_s1 (List.mem_cons_self))) (by omega) ?_
    rcases q9 with ⟨f1, f2, f3, f4, f5, f6⟩ | ⟨f1, f2, f3⟩
    · refine Or.inl ⟨f1, f2, f4, f5, f6, ?_⟩
      rw [← f3]
      omega
    · have b0 := yb_l_bd (T := T) (lim := lim) (p := h) (s := s) (by omega)
      exact Or.inr ⟨f1, f2, by omega, f3⟩
  refine z_r_ld (kk := z_isI) (ins := (.iload 4)) (len := 2) (t := 49) (i := 4) rfl rfl rfl rfl rfl (fun _ => rfl) h4 rfl ?_
  refine z_r_jm (ins := (.ifCond .eq 250)) (len := 3) (t := 52) rfl rfl rfl rfl (ye_in (t := 299) rfl (by omega) (by omega) (by show ¬ ((1 : Int) = 0); decide)) ?_
  refine z_r_ld (kk := z_isA) (ins := (.aload_n 0)) (len := 1) (t := 53) (i := 0) rfl rfl rfl rfl rfl (fun _ => rfl) h0 rfl ?_
  refine ye_ca (ins := (.invokevirtual 159)) (kd := 1) (t := 56) rfl rfl (by decide) (z_argsv rfl rfl rfl (by omega) (Nat.le_of_ble_eq_true rfl) rfl (Nat.le_of_ble_eq_true rfl) (Nat.le_refl _) (Nat.le_refl _) (Or.inr (Nat.le_of_ble_eq_true rfl)) (Or.inr (z_atv (z_lkn fM hM) rfl))) rfl rfl rfl (ye_fine hM fM k19 (by omega)) ?_
  rintro _ _ ⟨rfl, b_1, rfl, h_2⟩
  refine z_r_jm (ins := (.ifCond .eq 243)) (len := 3) (t := 59) rfl rfl rfl rfl (ye_in (t := 299) rfl (by omega) (by omega) (by show ¬ (b_1 = 0); omega)) ?_
  refine z_r_ld (kk := z_isA) (ins := (.aload_n 0)) (len := 1) (t := 60) (i := 0) rfl rfl rfl rfl rfl (fun _ => rfl) h0 rfl ?_
  refine ye_ca (ins := (.invokevirtual 163)) (kd := 1) (t := 63) rfl rfl (by decide) (z_argsv rfl rfl rfl (by omega) (Nat.le_of_ble_eq_true rfl) rfl (Nat.le_of_ble_eq_true rfl) (Nat.le_refl _) (Nat.le_refl _) (Or.inr (Nat.le_of_ble_eq_true rfl)) (Or.inr (z_atv (z_lkn fM hM) rfl))) rfl rfl rfl (ye_here (lim := lim) hM fM k15 k16 k17 k18 k19 hB fB hx (by omega) (by omega)) ?_
  rintro _ _ ⟨rfl, e_3, rfl, h_4⟩
  unfold ye_sig at h_4
  refine z_r_is (kk := z_isI) (ins := (.istore 5)) (len := 2) (t := 65) (i := 5) rfl rfl rfl rfl rfl rfl rfl rfl (fun l l_5 k_6 => ?_)
  have l_7 := k_6 _ _ h0 (by decide) (Or.inl (by decide))
  have l_8 := k_6 _ _ h1 (by decide) (Or.inl (by decide))
  have l_9 := k_6 _ _ h2 (by decide) (Or.inl (by decide))
  have l_10 := k_6 _ _ h3 (by decide) (Or.inl (by decide))
  have l_11 := k_6 _ _ h4 (by decide) (Or.inr (by show (1 : Nat) ≠ 2; decide))
  refine z_r_ld (kk := z_isI) (ins := (.iload 5)) (len := 2) (t := 67) (i := 5) rfl rfl rfl rfl rfl (fun _ => rfl) l_5 rfl ?_
  refine z_r_pu (ins := (.bipush 99)) (len := 2) (t := 69) rfl rfl rfl rfl (ye_bi (by decide) (by decide)) ?_
  by_cases b_12 : e_3 ≠ 99
  · skip
    refine z_r_jm (ins := (.if_icmp .ne 7)) (len := 3) (t := 76) rfl rfl rfl rfl (ye_jy (t := 76) rfl (by omega) (by omega) (by omega) (by omega) b_12) ?_
    refine z_r_ld (kk := z_isI) (ins := (.iload 5)) (len := 2) (t := 78) (i := 5) rfl rfl rfl rfl rfl (fun _ => rfl) l_5 rfl ?_
    refine z_r_pu (ins := (.bipush 104)) (len := 2) (t := 80) rfl rfl rfl rfl (ye_bi (by decide) (by decide)) ?_
    by_cases b_13 : e_3 ≠ 104
    · skip
      refine z_r_jm (ins := (.if_icmp .ne 7)) (len := 3) (t := 87) rfl rfl rfl rfl (ye_jy (t := 87) rfl (by omega) (by omega) (by omega) (by omega) b_13) ?_
      refine z_r_ld (kk := z_isI) (ins := (.iload 5)) (len := 2) (t := 89) (i := 5) rfl rfl rfl rfl rfl (fun _ => rfl) l_5 rfl ?_
      refine z_r_pu (ins := (.bipush 119)) (len := 2) (t := 91) rfl rfl rfl rfl (ye_bi (by decide) (by decide)) ?_
      by_cases b_14 : e_3 ≠ 119
      · skip
        refine z_r_jm (ins := (.if_icmp .ne 7)) (len := 3) (t := 98) rfl rfl rfl rfl (ye_jy (t := 98) rfl (by omega) (by omega) (by omega) (by omega) b_14) ?_
        refine z_r_ld (kk := z_isI) (ins := (.iload 5)) (len := 2) (t := 100) (i := 5) rfl rfl rfl rfl rfl (fun _ => rfl) l_5 rfl ?_
        refine z_r_pu (ins := (.bipush 115)) (len := 2) (t := 102) rfl rfl rfl rfl (ye_bi (by decide) (by decide)) ?_
        by_cases b_15 : e_3 ≠ 115
        · skip
          refine z_r_jm (ins := (.if_icmp .ne 7)) (len := 3) (t := 109) rfl rfl rfl rfl (ye_jy (t := 109) rfl (by omega) (by omega) (by omega) (by omega) b_15) ?_
          refine z_r_pu (ins := (.iconst (-1))) (len := 1) (t := 110) (st' := [ye_v ((-1))]) rfl rfl rfl rfl rfl ?_
          refine z_r_is (kk := z_isI) (ins := (.istore 6)) (len := 2) (t := 112) (i := 6) rfl rfl rfl rfl rfl rfl rfl rfl (fun l l_16 k_17 => ?_)
          have l_18 := k_17 _ _ l_7 (by decide) (Or.inl (by decide))
          have l_19 := k_17 _ _ l_8 (by decide) (Or.inl (by decide))
          have l_20 := k_17 _ _ l_9 (by decide) (Or.inl (by decide))
          have l_21 := k_17 _ _ l_10 (by decide) (Or.inl (by decide))
          have l_22 := k_17 _ _ l_11 (by decide) (Or.inl (by decide))
          have l_23 := k_17 _ _ l_5 (by decide) (Or.inr (by show (1 : Nat) ≠ 2; decide))
          refine z_r_ld (kk := z_isI) (ins := (.iload 5)) (len := 2) (t := 114) (i := 5) rfl rfl rfl rfl rfl (fun _ => rfl) l_23 rfl ?_
          refine z_r_pu (ins := (.bipush 121)) (len := 2) (t := 116) rfl rfl rfl rfl (ye_bi (by decide) (by decide)) ?_
          by_cases b_24 : e_3 ≠ 121
          · skip
            refine z_r_jm (ins := (.if_icmp .ne 25)) (len := 3) (t := 141) rfl rfl rfl rfl (ye_jy (t := 141) rfl (by omega) (by omega) (by omega) (by omega) b_24) ?_
            refine z_r_ld (kk := z_isI) (ins := (.iload 6)) (len := 2) (t := 143) (i := 6) rfl rfl rfl rfl rfl (fun _ => rfl) l_16 rfl ?_
            refine z_r_pu (ins := (.iconst (-1))) (len := 1) (t := 144) (st' := [ye_v ((-1)), ye_v ((-1))]) rfl rfl rfl rfl rfl ?_
            refine z_r_jm (ins := (.if_icmp .eq 12)) (len := 3) (t := 156) rfl rfl rfl rfl (ye_jy (t := 156) rfl (by omega) (by omega) (by omega) (by omega) (by show ((-1) : Int) = (-1); decide)) ?_
            refine ye_mbF hM fM k0 k1 k2 k3 k4 k20 k15 k16 k17 k18 k19 hB fB hx (by omega) (by omega) hMA l_18 l_19 l_20 l_21 (by omega) (by omega) (by omega) (by omega) hd ?_
            exact KT
          · skip
            refine z_r_jm (ins := (.if_icmp .ne 25)) (len := 3) (t := 119) rfl rfl rfl rfl (ye_jn (t := 141) rfl (by omega) (by omega) (by omega) (by omega) b_24) ?_
            refine ye_mbY hM fM k0 k1 k2 k3 k4 k20 k15 k16 k17 k18 k19 hB fB hx (by omega) (by omega) hMA l_18 l_19 l_20 l_21 (by omega) (by omega) (by omega) hd ?_
            exact KT
        · skip
          refine z_r_jm (ins := (.if_icmp .ne 7)) (len := 3) (t := 105) rfl rfl rfl rfl (ye_jn (t := 109) rfl (by omega) (by omega) (by omega) (by omega) b_15) ?_
          refine z_r_pu (ins := (.iconst 3)) (len := 1) (t := 106) (st' := [ye_v 3]) rfl rfl rfl rfl rfl ?_
          refine z_r_jm (ins := (.goto 4)) (len := 3) (t := 110) rfl rfl rfl rfl (z_gty rfl) ?_
          refine z_r_is (kk := z_isI) (ins := (.istore 6)) (len := 2) (t := 112) (i := 6) rfl rfl rfl rfl rfl rfl rfl rfl (fun l l_25 k_26 => ?_)
          have l_27 := k_26 _ _ l_7 (by decide) (Or.inl (by decide))
          have l_28 := k_26 _ _ l_8 (by decide) (Or.inl (by decide))
          have l_29 := k_26 _ _ l_9 (by decide) (Or.inl (by decide))
          have l_30 := k_26 _ _ l_10 (by decide) (Or.inl (by decide))
          have l_31 := k_26 _ _ l_11 (by decide) (Or.inl (by decide))
          have l_32 := k_26 _ _ l_5 (by decide) (Or.inr (by show (1 : Nat) ≠ 2; decide))
          refine z_r_ld (kk := z_isI) (ins := (.iload 5)) (len := 2) (t := 114) (i := 5) rfl rfl rfl rfl rfl (fun _ => rfl) l_32 rfl ?_
          refine z_r_pu (ins := (.bipush 121)) (len := 2) (t := 116) rfl rfl rfl rfl (ye_bi (by decide) (by decide)) ?_
          by_cases b_33 : e_3 ≠ 121
          · skip
            refine z_r_jm (ins := (.if_icmp .ne 25)) (len := 3) (t := 141) rfl rfl rfl rfl (ye_jy (t := 141) rfl (by omega) (by omega) (by omega) (by omega) b_33) ?_
            refine z_r_ld (kk := z_isI) (ins := (.iload 6)) (len := 2) (t := 143) (i := 6) rfl rfl rfl rfl rfl (fun _ => rfl) l_25 rfl ?_
            refine z_r_pu (ins := (.iconst (-1))) (len := 1) (t := 144) (st' := [ye_v ((-1)), ye_v 3]) rfl rfl rfl rfl rfl ?_
            refine z_r_jm (ins := (.if_icmp .eq 12)) (len := 3) (t := 147) rfl rfl rfl rfl (ye_jn (t := 156) rfl (by omega) (by omega) (by omega) (by omega) (by show ¬ ((3 : Int) = (-1)); decide)) ?_
            refine z_r_ld (kk := z_isA) (ins := (.aload_n 0)) (len := 1) (t := 148) (i := 0) rfl rfl rfl rfl rfl (fun _ => rfl) l_27 rfl ?_
            refine z_r_rd (ins := (.getfield 130)) (len := 3) (t := 151) rfl rfl rfl rfl rfl (z_gfv (ci := 10) (k := 0) (v := ye_v s) rfl (z_lkn fM hM) (by decide) (ye_flg rfl k0)) ?_
            refine z_r_pu (ins := (.bipush 10)) (len := 2) (t := 153) rfl rfl rfl rfl (ye_bi (by decide) (by decide)) ?_
            by_cases b_34 : s ≠ 10
            · skip
              refine z_r_jm (ins := (.if_icmp .ne 14)) (len := 3) (t := 167) rfl rfl rfl rfl (ye_jy (t := 167) rfl (by omega) (by omega) (by omega) (by omega) b_34) ?_
              refine ye_mbS hM fM k0 k1 k2 k3 k4 k20 k15 k16 k17 k18 k19 hB fB hx (by omega) (by omega) hK fK hW fW hZ fZ hD fD hY fY n01 n02 n03 n04 n12 n13 n14 n23 n24 n34 yK yW yZ yD yY l_27 l_28 l_29 l_30 l_25 (by omega) (by omega) (by omega) (by omega) (by omega) hnl hd ?_
              exact KT
            · skip
              refine z_r_jm (ins := (.if_icmp .ne 14)) (len := 3) (t := 156) rfl rfl rfl rfl (ye_jn (t := 167) rfl (by omega) (by omega) (by omega) (by omega) b_34) ?_
              refine ye_mbF hM fM k0 k1 k2 k3 k4 k20 k15 k16 k17 k18 k19 hB fB hx (by omega) (by omega) hMA l_27 l_28 l_29 l_30 (by omega) (by omega) (by omega) (by omega) hd ?_
              exact KT
          · skip
            refine z_r_jm (ins := (.if_icmp .ne 25)) (len := 3) (t := 119) rfl rfl rfl rfl (ye_jn (t := 141) rfl (by omega) (by omega) (by omega) (by omega) b_33) ?_
            refine ye_mbY hM fM k0 k1 k2 k3 k4 k20 k15 k16 k17 k18 k19 hB fB hx (by omega) (by omega) hMA l_27 l_28 l_29 l_30 (by omega) (by omega) (by omega) hd ?_
            exact KT
      · skip
        refine z_r_jm (ins := (.if_icmp .ne 7)) (len := 3) (t := 94) rfl rfl rfl rfl (ye_jn (t := 98) rfl (by omega) (by omega) (by omega) (by omega) b_14) ?_
        refine z_r_pu (ins := (.iconst 2)) (len := 1) (t := 95) (st' := [ye_v 2]) rfl rfl rfl rfl rfl ?_
        refine z_r_jm (ins := (.goto 15)) (len := 3) (t := 110) rfl rfl rfl rfl (z_gty rfl) ?_
        refine z_r_is (kk := z_isI) (ins := (.istore 6)) (len := 2) (t := 112) (i := 6) rfl rfl rfl rfl rfl rfl rfl rfl (fun l l_35 k_36 => ?_)
        have l_37 := k_36 _ _ l_7 (by decide) (Or.inl (by decide))
        have l_38 := k_36 _ _ l_8 (by decide) (Or.inl (by decide))
        have l_39 := k_36 _ _ l_9 (by decide) (Or.inl (by decide))
        have l_40 := k_36 _ _ l_10 (by decide) (Or.inl (by decide))
        have l_41 := k_36 _ _ l_11 (by decide) (Or.inl (by decide))
        have l_42 := k_36 _ _ l_5 (by decide) (Or.inr (by show (1 : Nat) ≠ 2; decide))
        refine z_r_ld (kk := z_isI) (ins := (.iload 5)) (len := 2) (t := 114) (i := 5) rfl rfl rfl rfl rfl (fun _ => rfl) l_42 rfl ?_
        refine z_r_pu (ins := (.bipush 121)) (len := 2) (t := 116) rfl rfl rfl rfl (ye_bi (by decide) (by decide)) ?_
        by_cases b_43 : e_3 ≠ 121
        · skip
          refine z_r_jm (ins := (.if_icmp .ne 25)) (len := 3) (t := 141) rfl rfl rfl rfl (ye_jy (t := 141) rfl (by omega) (by omega) (by omega) (by omega) b_43) ?_
          refine z_r_ld (kk := z_isI) (ins := (.iload 6)) (len := 2) (t := 143) (i := 6) rfl rfl rfl rfl rfl (fun _ => rfl) l_35 rfl ?_
          refine z_r_pu (ins := (.iconst (-1))) (len := 1) (t := 144) (st' := [ye_v ((-1)), ye_v 2]) rfl rfl rfl rfl rfl ?_
          refine z_r_jm (ins := (.if_icmp .eq 12)) (len := 3) (t := 147) rfl rfl rfl rfl (ye_jn (t := 156) rfl (by omega) (by omega) (by omega) (by omega) (by show ¬ ((2 : Int) = (-1)); decide)) ?_
          refine z_r_ld (kk := z_isA) (ins := (.aload_n 0)) (len := 1) (t := 148) (i := 0) rfl rfl rfl rfl rfl (fun _ => rfl) l_37 rfl ?_
          refine z_r_rd (ins := (.getfield 130)) (len := 3) (t := 151) rfl rfl rfl rfl rfl (z_gfv (ci := 10) (k := 0) (v := ye_v s) rfl (z_lkn fM hM) (by decide) (ye_flg rfl k0)) ?_
          refine z_r_pu (ins := (.bipush 10)) (len := 2) (t := 153) rfl rfl rfl rfl (ye_bi (by decide) (by decide)) ?_
          by_cases b_44 : s ≠ 10
          · skip
            refine z_r_jm (ins := (.if_icmp .ne 14)) (len := 3) (t := 167) rfl rfl rfl rfl (ye_jy (t := 167) rfl (by omega) (by omega) (by omega) (by omega) b_44) ?_
            refine ye_mbS hM fM k0 k1 k2 k3 k4 k20 k15 k16 k17 k18 k19 hB fB hx (by omega) (by omega) hK fK hW fW hZ fZ hD fD hY fY n01 n02 n03 n04 n12 n13 n14 n23 n24 n34 yK yW yZ yD yY l_37 l_38 l_39 l_40 l_35 (by omega) (by omega) (by omega) (by omega) (by omega) hnl hd ?_
            exact KT
          · skip
            refine z_r_jm (ins := (.if_icmp .ne 14)) (len := 3) (t := 156) rfl rfl rfl rfl (ye_jn (t := 167) rfl (by omega) (by omega) (by omega) (by omega) b_44) ?_
            refine ye_mbF hM fM k0 k1 k2 k3 k4 k20 k15 k16 k17 k18 k19 hB fB hx (by omega) (by omega) hMA l_37 l_38 l_39 l_40 (by omega) (by omega) (by omega) (by omega) hd ?_
            exact KT
        · skip
          refine z_r_jm (ins := (.if_icmp .ne 25)) (len := 3) (t := 119) rfl rfl rfl rfl (ye_jn (t := 141) rfl (by omega) (by omega) (by omega) (by omega) b_43) ?_
          refine ye_mbY hM fM k0 k1 k2 k3 k4 k20 k15 k16 k17 k18 k19 hB fB hx (by omega) (by omega) hMA l_37 l_38 l_39 l_40 (by omega) (by omega) (by omega) hd ?_
          exact KT
    · skip
      refine z_r_jm (ins := (.if_icmp .ne 7)) (len := 3) (t := 83) rfl rfl rfl rfl (ye_jn (t := 87) rfl (by omega) (by omega) (by omega) (by omega) b_13) ?_
      refine z_r_pu (ins := (.iconst 1)) (len := 1) (t := 84) (st' := [ye_v 1]) rfl rfl rfl rfl rfl ?_
      refine z_r_jm (ins := (.goto 26)) (len := 3) (t := 110) rfl rfl rfl rfl (z_gty rfl) ?_
      refine z_r_is (kk := z_isI) (ins := (.istore 6)) (len := 2) (t := 112) (i := 6) rfl rfl rfl rfl rfl rfl rfl rfl (fun l l_45 k_46 => ?_)
      have l_47 := k_46 _ _ l_7 (by decide) (Or.inl (by decide))
      have l_48 := k_46 _ _ l_8 (by decide) (Or.inl (by decide))
      have l_49 := k_46 _ _ l_9 (by decide) (Or.inl (by decide))
      have l_50 := k_46 _ _ l_10 (by decide) (Or.inl (by decide))
      have l_51 := k_46 _ _ l_11 (by decide) (Or.inl (by decide))
      have l_52 := k_46 _ _ l_5 (by decide) (Or.inr (by show (1 : Nat) ≠ 2; decide))
      refine z_r_ld (kk := z_isI) (ins := (.iload 5)) (len := 2) (t := 114) (i := 5) rfl rfl rfl rfl rfl (fun _ => rfl) l_52 rfl ?_
      refine z_r_pu (ins := (.bipush 121)) (len := 2) (t := 116) rfl rfl rfl rfl (ye_bi (by decide) (by decide)) ?_
      by_cases b_53 : e_3 ≠ 121
      · skip
        refine z_r_jm (ins := (.if_icmp .ne 25)) (len := 3) (t := 141) rfl rfl rfl rfl (ye_jy (t := 141) rfl (by omega) (by omega) (by omega) (by omega) b_53) ?_
        refine z_r_ld (kk := z_isI) (ins := (.iload 6)) (len := 2) (t := 143) (i := 6) rfl rfl rfl rfl rfl (fun _ => rfl) l_45 rfl ?_
        refine z_r_pu (ins := (.iconst (-1))) (len := 1) (t := 144) (st' := [ye_v ((-1)), ye_v 1]) rfl rfl rfl rfl rfl ?_
        refine z_r_jm (ins := (.if_icmp .eq 12)) (len := 3) (t := 147) rfl rfl rfl rfl (ye_jn (t := 156) rfl (by omega) (by omega) (by omega) (by omega) (by show ¬ ((1 : Int) = (-1)); decide)) ?_
        refine z_r_ld (kk := z_isA) (ins := (.aload_n 0)) (len := 1) (t := 148) (i := 0) rfl rfl rfl rfl rfl (fun _ => rfl) l_47 rfl ?_
        refine z_r_rd (ins := (.getfield 130)) (len := 3) (t := 151) rfl rfl rfl rfl rfl (z_gfv (ci := 10) (k := 0) (v := ye_v s) rfl (z_lkn fM hM) (by decide) (ye_flg rfl k0)) ?_
        refine z_r_pu (ins := (.bipush 10)) (len := 2) (t := 153) rfl rfl rfl rfl (ye_bi (by decide) (by decide)) ?_
        by_cases b_54 : s ≠ 10
        · skip
          refine z_r_jm (ins := (.if_icmp .ne 14)) (len := 3) (t := 167) rfl rfl rfl rfl (ye_jy (t := 167) rfl (by omega) (by omega) (by omega) (by omega) b_54) ?_
          refine ye_mbS hM fM k0 k1 k2 k3 k4 k20 k15 k16 k17 k18 k19 hB fB hx (by omega) (by omega) hK fK hW fW hZ fZ hD fD hY fY n01 n02 n03 n04 n12 n13 n14 n23 n24 n34 yK yW yZ yD yY l_47 l_48 l_49 l_50 l_45 (by omega) (by omega) (by omega) (by omega) (by omega) hnl hd ?_
          exact KT
        · skip
          refine z_r_jm (ins := (.if_icmp .ne 14)) (len := 3) (t := 156) rfl rfl rfl rfl (ye_jn (t := 167) rfl (by omega) (by omega) (by omega) (by omega) b_54) ?_
          refine ye_mbF hM fM k0 k1 k2 k3 k4 k20 k15 k16 k17 k18 k19 hB fB hx (by omega) (by omega) hMA l_47 l_48 l_49 l_50 (by omega) (by omega) (by omega) (by omega) hd ?_
          exact KT
      · skip
        refine z_r_jm (ins := (.if_icmp .ne 25)) (len := 3) (t := 119) rfl rfl rfl rfl (ye_jn (t := 141) rfl (by omega) (by omega) (by omega) (by omega) b_53) ?_
        refine ye_mbY hM fM k0 k1 k2 k3 k4 k20 k15 k16 k17 k18 k19 hB fB hx (by omega) (by omega) hMA l_47 l_48 l_49 l_50 (by omega) (by omega) (by omega) hd ?_
        exact KT
  · skip
    refine z_r_jm (ins := (.if_icmp .ne 7)) (len := 3) (t := 72) rfl rfl rfl rfl (ye_jn (t := 76) rfl (by omega) (by omega) (by omega) (by omega) b_12) ?_
    refine z_r_pu (ins := (.iconst 0)) (len := 1) (t := 73) (st' := [ye_v 0]) rfl rfl rfl rfl rfl ?_
    refine z_r_jm (ins := (.goto 37)) (len := 3) (t := 110) rfl rfl rfl rfl (z_gty rfl) ?_
    refine z_r_is (kk := z_isI) (ins := (.istore 6)) (len := 2) (t := 112) (i := 6) rfl rfl rfl rfl rfl rfl rfl rfl (fun l l_55 k_56 => ?_)
    have l_57 := k_56 _ _ l_7 (by decide) (Or.inl (by decide))
    have l_58 := k_56 _ _ l_8 (by decide) (Or.inl (by decide))
    have l_59 := k_56 _ _ l_9 (by decide) (Or.inl (by decide))
    have l_60 := k_56 _ _ l_10 (by decide) (Or.inl (by decide))
    have l_61 := k_56 _ _ l_11 (by decide) (Or.inl (by decide))
    have l_62 := k_56 _ _ l_5 (by decide) (Or.inr (by show (1 : Nat) ≠ 2; decide))
    refine z_r_ld (kk := z_isI) (ins := (.iload 5)) (len := 2) (t := 114) (i := 5) rfl rfl rfl rfl rfl (fun _ => rfl) l_62 rfl ?_
    refine z_r_pu (ins := (.bipush 121)) (len := 2) (t := 116) rfl rfl rfl rfl (ye_bi (by decide) (by decide)) ?_
    by_cases b_63 : e_3 ≠ 121
    · skip
      refine z_r_jm (ins := (.if_icmp .ne 25)) (len := 3) (t := 141) rfl rfl rfl rfl (ye_jy (t := 141) rfl (by omega) (by omega) (by omega) (by omega) b_63) ?_
      refine z_r_ld (kk := z_isI) (ins := (.iload 6)) (len := 2) (t := 143) (i := 6) rfl rfl rfl rfl rfl (fun _ => rfl) l_55 rfl ?_
      refine z_r_pu (ins := (.iconst (-1))) (len := 1) (t := 144) (st' := [ye_v ((-1)), ye_v 0]) rfl rfl rfl rfl rfl ?_
      refine z_r_jm (ins := (.if_icmp .eq 12)) (len := 3) (t := 147) rfl rfl rfl rfl (ye_jn (t := 156) rfl (by omega) (by omega) (by omega) (by omega) (by show ¬ ((0 : Int) = (-1)); decide)) ?_
      refine z_r_ld (kk := z_isA) (ins := (.aload_n 0)) (len := 1) (t := 148) (i := 0) rfl rfl rfl rfl rfl (fun _ => rfl) l_57 rfl ?_
      refine z_r_rd (ins := (.getfield 130)) (len := 3) (t := 151) rfl rfl rfl rfl rfl (z_gfv (ci := 10) (k := 0) (v := ye_v s) rfl (z_lkn fM hM) (by decide) (ye_flg rfl k0)) ?_
      refine z_r_pu (ins := (.bipush 10)) (len := 2) (t := 153) rfl rfl rfl rfl (ye_bi (by decide) (by decide)) ?_
      by_cases b_64 : s ≠ 10
      · skip
        refine z_r_jm (ins := (.if_icmp .ne 14)) (len := 3) (t := 167) rfl rfl rfl rfl (ye_jy (t := 167) rfl (by omega) (by omega) (by omega) (by omega) b_64) ?_
        refine ye_mbS hM fM k0 k1 k2 k3 k4 k20 k15 k16 k17 k18 k19 hB fB hx (by omega) (by omega) hK fK hW fW hZ fZ hD fD hY fY n01 n02 n03 n04 n12 n13 n14 n23 n24 n34 yK yW yZ yD yY l_57 l_58 l_59 l_60 l_55 (by omega) (by omega) (by omega) (by omega) (by omega) hnl hd ?_
        exact KT
      · skip
        refine z_r_jm (ins := (.if_icmp .ne 14)) (len := 3) (t := 156) rfl rfl rfl rfl (ye_jn (t := 167) rfl (by omega) (by omega) (by omega) (by omega) b_64) ?_
        refine ye_mbF hM fM k0 k1 k2 k3 k4 k20 k15 k16 k17 k18 k19 hB fB hx (by omega) (by omega) hMA l_57 l_58 l_59 l_60 (by omega) (by omega) (by omega) (by omega) hd ?_
        exact KT
    · skip
      refine z_r_jm (ins := (.if_icmp .ne 25)) (len := 3) (t := 119) rfl rfl rfl rfl (ye_jn (t := 141) rfl (by omega) (by omega) (by omega) (by omega) b_63) ?_
      refine ye_mbY hM fM k0 k1 k2 k3 k4 k20 k15 k16 k17 k18 k19 hB fB hx (by omega) (by omega) hMA l_57 l_58 l_59 l_60 (by omega) (by omega) (by omega) hd ?_
      exact KT
end YMBL
