/-! A LINE of a barn, the class, exactly. -/
section YCLN
/-- SORTS as told so far: how many, LONG told (0: not), KIND, WEIGHT, SIZE, DRAG, MANY -/
abbrev yb_S : Type := Int × Int × (Int → Int) × (Int → Int) × (Int → Int) × (Int → Int) × (Int → Int)
def yb_ny (T : Int → Int) (lim p : Int) : Bool × Int × Int := yq_num T lim 2 2 24 (p + 1)
def yb_l (T : Int → Int) (lim p s : Int) : Bool × Int := if p < lim ∧ T p = 121 then ((yb_ny T lim p).1, (yb_ny T lim p).2.1) else if 10 ≤ s then (false, p) else yb_so T lim p
def yb_nx (T : Int → Int) (lim p : Int) (S : yb_S) : yb_S := if p < lim ∧ T p = 121 then (S.1, (yb_ny T lim p).2.2, S.2.2) else (S.1 + 1, S.2.1, ye_put S.2.2.1 S.1 (yb_k T lim p), ye_put S.2.2.2.1 S.1 (yb_n1 T lim p).2.2, ye_put S.2.2.2.2.1 S.1 (yb_n2 T lim p).2.2, ye_put S.2.2.2.2.2.1 S.1 (yb_n3 T lim p).2.2, ye_put S.2.2.2.2.2.2 S.1 (yb_n4 T lim p).2.2)
theorem yb_l_bd {T : Int → Int} {lim p s : Int} (hp : p ≤ lim) : p ≤ (yb_l T lim p s).2 ∧ (yb_l T lim p s).2 ≤ lim ∧ ((yb_l T lim p s).1 = true → p + 2 ≤ (yb_l T lim p s).2) := by
  unfold yb_l
  split
  · rename_i hc
    have b := yq_num_bd (T := T) (lim := lim) (p := p + 1) (lo := 2) (hi := 24) (k := 2) (by decide) (by omega)
    change p + 1 ≤ (yb_ny T lim p).2.1 ∧ (yb_ny T lim p).2.1 ≤ lim ∧ _ ∧ ((yb_ny T lim p).1 = true → p + 1 < (yb_ny T lim p).2.1) ∧ _ at b
    obtain ⟨b1, b2, -, b3, -⟩ := b
    exact ⟨by show p ≤ (yb_ny T lim p).2.1; omega, b2, fun h => by have := b3 h; show p + 2 ≤ (yb_ny T lim p).2.1; omega⟩
  · split
    · exact ⟨Int.le_refl _, hp, fun h => (by cases h)⟩
    · exact yb_so_bd hp
/-- the class's barn while it is read -/
def ye_CB (aN aK aW aZ aD aM aE aF aC : Nat) (so ya : Int) (S : yb_S) (P : z_H) : Prop := ∃ (kv wv zv dv mv : List Value) (sdb : Int), P[aN]? = some (3, [.ref aK, .ref aW, .ref aZ, .ref aD, .ref aM, ye_v so, ye_v ya, ye_v S.1, ye_v S.2.1, ye_v sdb, .ref aE, .ref aF, .ref aC]) ∧ P[aK]? = some (103, kv) ∧ P[aW]? = some (103, wv) ∧ P[aZ]? = some (103, zv) ∧ P[aD]? = some (103, dv) ∧ P[aM]? = some (103, mv) ∧ ye_arr S.2.2.1 S.1 kv ∧ ye_arr S.2.2.2.1 S.1 wv ∧ ye_arr S.2.2.2.2.1 S.1 zv ∧ ye_arr S.2.2.2.2.2.1 S.1 dv ∧ ye_arr S.2.2.2.2.2.2 S.1 mv ∧ -100 ≤ sdb ∧ sdb ≤ 100
variable {xs : List Int32} {d aS aT aN aK aW aZ aD aM aE aF aC : Nat} {P : z_H} {vs kv wv zv dv mv : List Value} {T kd wt sz dr mn : Int → Int} {len p lim mo s so ya ytb sdb i : Int} {S : yb_S} {l : z_L} {Ψ : z_S → Prop}
theorem ye_ryards (hS : P[aS]? = some (1, [.ref aT, ye_v len, ye_v p, ye_v lim, ye_v mo])) (fS : aS < z_far) (hT : P[aT]? = some (102, vs)) (fT : aT < z_far) (hx : ye_tx T len 0 255 vs) (hb : 0 ≤ p ∧ p ≤ lim ∧ lim ≤ len ∧ len ≤ 80) (hN : P[aN]? = some (3, [.ref aK, .ref aW, .ref aZ, .ref aD, .ref aM, ye_v so, ye_v ya, ye_v s, ye_v ytb, ye_v sdb, .ref aE, .ref aF, .ref aC])) (fN : aN < z_far) (hsd : -100 ≤ sdb ∧ sdb ≤ 100)
    (hd : 2 ≤ d) : ye_X xs d 21 [.ref aN, .ref aS] P (fun r P' => ∃ b ytb' sdb', r = some (ye_v b) ∧ P'[aS]? = some (1, [.ref aT, ye_v len, ye_v (yq_num T lim 2 2 24 p).2.1, ye_v lim, ye_v mo]) ∧ P'[aN]? = some (3, [.ref aK, .ref aW, .ref aZ, .ref aD, .ref aM, ye_v so, ye_v ya, ye_v s, ye_v ytb', ye_v sdb', .ref aE, .ref aF, .ref aC]) ∧ ye_oth [aS, aN] P P' ∧ -100 ≤ sdb' ∧ sdb' ≤ 100 ∧ ((b = 1 ∧ (yq_num T lim 2 2 24 p).1 = true ∧ ytb' = (yq_num T lim 2 2 24 p).2.2) ∨ (b = 0 ∧ (yq_num T lim 2 2 24 p).1 = false ∧ ytb' = ytb))) := by
  refine ye_go ?_
  have a0 : z_get (lv_args 0 [.ref aN, .ref aS]) 0 = some (.ref aN) := rfl
  have a1 : z_get (lv_args 0 [.ref aN, .ref aS]) 1 = some (.ref aS) := rfl
  have ho0 : ye_oth [aS, aN] P P := ye_oth_rf
  refine z_r_ld (kk := z_isA) (ins := (.aload_n 1)) (len := 1) (t := 1) (i := 1) rfl rfl rfl rfl rfl (fun _ => rfl) a1 rfl ?_
  refine z_r_pu (ins := (.iconst 2)) (len := 1) (t := 2) (st' := [ye_v 2, .ref aS]) rfl rfl rfl rfl rfl ?_
  refine z_r_pu (ins := (.iconst 2)) (len := 1) (t := 3) (st' := [ye_v 2, ye_v 2, .ref aS]) rfl rfl rfl rfl rfl ?_
  refine z_r_pu (ins := (.bipush 24)) (len := 2) (t := 5) rfl rfl rfl rfl (ye_bi (by decide) (by decide)) ?_
  refine ye_ca (ins := (.invokevirtual 79)) (kd := 1) (t := 8) rfl rfl (by decide) (z_argsv rfl rfl rfl (by omega) (Nat.le_of_ble_eq_true rfl) rfl (Nat.le_of_ble_eq_true rfl) (Nat.le_refl _) (Nat.le_refl _) (Or.inr (Nat.le_of_ble_eq_true rfl)) (Or.inr (z_atv (z_lkn fS hS) rfl))) rfl rfl rfl (ye_number (k := 2) hS fS hT fT hx (by omega) (by omega) (by decide) (by decide) (by decide) (by omega)) ?_
  rintro _ P_4 ⟨v_1, rfl, c_2, o_3, n_5⟩
  have bdn1 := yq_num_bd (T := T) (lim := lim) (p := p) (lo := 2) (hi := 24) (k := 2) (by decide) (by omega)
  generalize en1 : yq_num T lim 2 2 24 (p) = n1 at bdn1 n_5 c_2
  have c_6 := ye_kp o_3 (ye_n1 (ye_ne hN hS (by decide))) hN
  have c_7 := ye_kp o_3 (ye_n1 (ye_ne hT hS (by decide))) hT
  have o_8 := ye_oth_tr ho0 o_3 (ye_s1 (List.mem_cons_self))
  refine z_r_is (kk := z_isI) (ins := (.istore_n 2)) (len := 1) (t := 9) (i := 2) rfl rfl rfl rfl rfl rfl rfl rfl (fun l l_9 k_10 => ?_)
  have l_11 := k_10 _ _ a0 (by decide) (Or.inl (by decide))
  have l_12 := k_10 _ _ a1 (by decide) (Or.inr (by show (1 : Nat) ≠ 2; decide))
  refine z_r_ld (kk := z_isI) (ins := (.iload_n 2)) (len := 1) (t := 10) (i := 2) rfl rfl rfl rfl rfl (fun _ => rfl) l_9 rfl ?_
  refine z_r_pu (ins := (.iconst (-1))) (len := 1) (t := 11) (st' := [ye_v ((-1)), ye_v v_1]) rfl rfl rfl rfl rfl ?_
  by_cases b_13 : v_1 ≠ (-1)
  · skip
    refine z_r_jm (ins := (.if_icmp .ne 5)) (len := 3) (t := 16) rfl rfl rfl rfl (ye_jy (t := 16) rfl (by omega) (by omega) (by omega) (by omega) b_13) ?_
    refine z_r_ld (kk := z_isA) (ins := (.aload_n 0)) (len := 1) (t := 17) (i := 0) rfl rfl rfl rfl rfl (fun _ => rfl) l_11 rfl ?_
    refine z_r_ld (kk := z_isI) (ins := (.iload_n 2)) (len := 1) (t := 18) (i := 2) rfl rfl rfl rfl rfl (fun _ => rfl) l_9 rfl ?_
    refine ye_r_wr (ins := (.putfield 37)) (len := 3) (t := 21) (a := aN) (q := (3, [.ref aK, .ref aW, .ref aZ, .ref aD, .ref aM, ye_v so, ye_v ya, ye_v s, ye_v v_1, ye_v sdb, .ref aE, .ref aF, .ref aC])) rfl rfl rfl rfl rfl c_6 (z_pfv (ci := 3) (k := 8) rfl c_6 (by decide) (Nat.le_of_ble_eq_true rfl) rfl rfl rfl) (fun P_14 c_15 o_16 => ?_)
    have c_17 := ye_kp o_16 (ye_n1 (ye_ne c_2 c_6 (by decide))) c_2
    have c_18 := ye_kp o_16 (ye_n1 (ye_ne c_7 c_6 (by decide))) c_7
    have o_19 := ye_oth_tr o_8 o_16 (ye_s1 (List.mem_cons_of_mem _ (List.mem_cons_self)))
    refine z_r_ld (kk := z_isA) (ins := (.aload_n 0)) (len := 1) (t := 22) (i := 0) rfl rfl rfl rfl rfl (fun _ => rfl) l_11 rfl ?_
    refine z_r_ld (kk := z_isA) (ins := (.aload_n 0)) (len := 1) (t := 23) (i := 0) rfl rfl rfl rfl rfl (fun _ => rfl) l_11 rfl ?_
    refine z_r_rd (ins := (.getfield 40)) (len := 3) (t := 26) rfl rfl rfl rfl rfl (z_gfv (ci := 3) (k := 9) (v := ye_v sdb) rfl (z_lkn fN c_15) (by decide) rfl) ?_
    refine z_r_ld (kk := z_isI) (ins := (.iload_n 2)) (len := 1) (t := 27) (i := 2) rfl rfl rfl rfl rfl (fun _ => rfl) l_9 rfl ?_
    refine z_r_pu (ins := (.iconst 1)) (len := 1) (t := 28) (st' := [ye_v 1, ye_v v_1, ye_v sdb, .ref aN]) rfl rfl rfl rfl rfl ?_
    refine z_r_pu (ins := .isub) (len := 1) (t := 29) rfl rfl rfl rfl ye_sub ?_
    refine ye_ca (ins := (.invokestatic 83)) (kd := 0) (t := 32) rfl rfl (by decide) (z_argsv rfl rfl rfl (by omega) (Nat.le_of_ble_eq_true rfl) rfl (Nat.le_of_ble_eq_true rfl) (Nat.le_refl _) (Nat.le_refl _) (Or.inl rfl) (Or.inl rfl)) rfl rfl rfl (ye_min (by omega) (by omega)) ?_
    rintro _ _ ⟨rfl, m_20, rfl, h_21⟩
    refine ye_r_wr (ins := (.putfield 40)) (len := 3) (t := 35) (a := aN) (q := (3, [.ref aK, .ref aW, .ref aZ, .ref aD, .ref aM, ye_v so, ye_v ya, ye_v s, ye_v v_1, ye_v m_20, .ref aE, .ref aF, .ref aC])) rfl rfl rfl rfl rfl c_15 (z_pfv (ci := 3) (k := 9) rfl c_15 (by decide) (Nat.le_of_ble_eq_true rfl) rfl rfl rfl) (fun P_22 c_23 o_24 => ?_)
    have c_25 := ye_kp o_24 (ye_n1 (ye_ne c_17 c_15 (by decide))) c_17
    have c_26 := ye_kp o_24 (ye_n1 (ye_ne c_18 c_15 (by decide))) c_18
    have o_27 := ye_oth_tr o_19 o_24 (ye_s1 (List.mem_cons_of_mem _ (List.mem_cons_self)))
    refine z_r_pu (ins := (.iconst 1)) (len := 1) (t := 36) (st' := [ye_v 1]) rfl rfl rfl rfl rfl ?_
    refine ye_ret (ins := .ireturn) rfl rfl rfl (ye_retz rfl (by omega)) ?_
    have kn : n1.1 = true ∧ v_1 = n1.2.2 := by
      rcases n_5 with ⟨g1, g2, g3⟩ | ⟨g1, g2⟩
      · exact ⟨g1, g2⟩
      · exact absurd g2 (by omega)
    skip
    exact ⟨1, _, _, rfl, c_25, c_23, o_27, by omega, by omega, Or.inl ⟨rfl, kn.1, kn.2⟩⟩
  · skip
    refine z_r_jm (ins := (.if_icmp .ne 5)) (len := 3) (t := 14) rfl rfl rfl rfl (ye_jn (t := 16) rfl (by omega) (by omega) (by omega) (by omega) b_13) ?_
    refine z_r_pu (ins := (.iconst 0)) (len := 1) (t := 15) (st' := [ye_v 0]) rfl rfl rfl rfl rfl ?_
    refine ye_ret (ins := .ireturn) rfl rfl rfl (ye_retz rfl (by omega)) ?_
    have kn : n1.1 = false := by
      rcases n_5 with ⟨g1, g2, g3⟩ | ⟨g1, g2⟩
      · exact absurd g2 (by omega)
      · exact g1
    skip
    exact ⟨0, _, _, rfl, c_2, c_6, o_8, by omega, by omega, Or.inr ⟨rfl, kn, rfl⟩⟩
theorem ye_rline (hS : P[aS]? = some (1, [.ref aT, ye_v len, ye_v p, ye_v lim, ye_v mo])) (fS : aS < z_far) (hT : P[aT]? = some (102, vs)) (fT : aT < z_far) (hx : ye_tx T len 0 255 vs) (hb : 0 ≤ p ∧ p ≤ lim ∧ lim ≤ len ∧ len ≤ 80)
    (hN : P[aN]? = some (3, [.ref aK, .ref aW, .ref aZ, .ref aD, .ref aM, ye_v so, ye_v ya, ye_v s, ye_v ytb, ye_v sdb, .ref aE, .ref aF, .ref aC])) (fN : aN < z_far) (hK : P[aK]? = some (103, kv)) (fK : aK < z_far) (hW : P[aW]? = some (103, wv)) (fW : aW < z_far) (hZ : P[aZ]? = some (103, zv)) (fZ : aZ < z_far) (hD : P[aD]? = some (103, dv)) (fD : aD < z_far) (hM : P[aM]? = some (103, mv)) (fM : aM < z_far)
    (n01 : aK ≠ aW) (n02 : aK ≠ aZ) (n03 : aK ≠ aD) (n04 : aK ≠ aM) (n12 : aW ≠ aZ) (n13 : aW ≠ aD) (n14 : aW ≠ aM) (n23 : aZ ≠ aD) (n24 : aZ ≠ aM) (n34 : aD ≠ aM)
    (yK : ye_arr kd s kv) (yW : ye_arr wt s wv) (yZ : ye_arr sz s zv) (yD : ye_arr dr s dv) (yM : ye_arr mn s mv) (hsd : -100 ≤ sdb ∧ sdb ≤ 100)
    (hs : 0 ≤ s ∧ s ≤ 10) (hS0 : S = (s, ytb, kd, wt, sz, dr, mn)) (hd : 6 ≤ d) : ye_X xs d 18 [.ref aN, .ref aS] P (fun r P' => ∃ b S', r = some (ye_v b) ∧ P'[aS]? = some (1, [.ref aT, ye_v len, ye_v (yb_l T lim p S.1).2, ye_v lim, ye_v mo]) ∧ ye_CB aN aK aW aZ aD aM aE aF aC so ya S' P' ∧ ye_oth [aS, aN, aK, aW, aZ, aD, aM] P P' ∧ ((b = 1 ∧ (yb_l T lim p S.1).1 = true ∧ S' = yb_nx T lim p S) ∨ (b = 0 ∧ (yb_l T lim p S.1).1 = false ∧ S' = S))) := by
  subst hS0
  refine ye_go ?_
  have a0 : z_get (lv_args 0 [.ref aN, .ref aS]) 0 = some (.ref aN) := rfl
  have a1 : z_get (lv_args 0 [.ref aN, .ref aS]) 1 = some (.ref aS) := rfl
  have ho0 : ye_oth [aS, aN, aK, aW, aZ, aD, aM] P P := ye_oth_rf
  refine z_r_ld (kk := z_isA) (ins := (.aload_n 1)) (len := 1) (t := 1) (i := 1) rfl rfl rfl rfl rfl (fun _ => rfl) a1 rfl ?_
  refine z_r_pu (ins := (.bipush 121)) (len := 2) (t := 3) rfl rfl rfl rfl (ye_bi (by decide) (by decide)) ?_
  refine ye_ca (ins := (.invokevirtual 68)) (kd := 1) (t := 6) rfl rfl (by decide) (z_argsv rfl rfl rfl (by omega) (Nat.le_of_ble_eq_true rfl) rfl (Nat.le_of_ble_eq_true rfl) (Nat.le_refl _) (Nat.le_refl _) (Or.inr (Nat.le_of_ble_eq_true rfl)) (Or.inr (z_atv (z_lkn fS hS) rfl))) rfl rfl rfl (ye_take hS fS hT fT hx (by omega) (by omega) (by omega)) ?_
  rintro _ P_5 ⟨bt_1, p_2, rfl, c_3, o_4, ht_1⟩
  unfold ye_tk at ht_1
  have c_6 := ye_kp o_4 (ye_n1 (ye_ne hD hS (by decide))) hD
  have c_7 := ye_kp o_4 (ye_n1 (ye_ne hK hS (by decide))) hK
  have c_8 := ye_kp o_4 (ye_n1 (ye_ne hM hS (by decide))) hM
  have c_9 := ye_kp o_4 (ye_n1 (ye_ne hN hS (by decide))) hN
  have c_10 := ye_kp o_4 (ye_n1 (ye_ne hT hS (by decide))) hT
  have c_11 := ye_kp o_4 (ye_n1 (ye_ne hW hS (by decide))) hW
  have c_12 := ye_kp o_4 (ye_n1 (ye_ne hZ hS (by decide))) hZ
  have o_13 := ye_oth_tr ho0 o_4 (ye_s1 (List.mem_cons_self))
  by_cases b_14 : bt_1 = 0
  · skip
    refine z_r_jm (ins := (.ifCond .eq 9)) (len := 3) (t := 15) rfl rfl rfl rfl (ye_iy (t := 15) rfl (by omega) (by omega) b_14) ?_
    refine z_r_ld (kk := z_isA) (ins := (.aload_n 0)) (len := 1) (t := 16) (i := 0) rfl rfl rfl rfl rfl (fun _ => rfl) a0 rfl ?_
    refine z_r_rd (ins := (.getfield 34)) (len := 3) (t := 19) rfl rfl rfl rfl rfl (z_gfv (ci := 3) (k := 7) (v := ye_v s) rfl (z_lkn fN c_9) (by decide) rfl) ?_
    refine z_r_pu (ins := (.bipush 10)) (len := 2) (t := 21) rfl rfl rfl rfl (ye_bi (by decide) (by decide)) ?_
    by_cases b_15 : s < 10
    · skip
      refine z_r_jm (ins := (.if_icmp .lt 5)) (len := 3) (t := 26) rfl rfl rfl rfl (ye_jy (t := 26) rfl (by omega) (by omega) (by omega) (by omega) b_15) ?_
      refine z_r_ld (kk := z_isA) (ins := (.aload_n 0)) (len := 1) (t := 27) (i := 0) rfl rfl rfl rfl rfl (fun _ => rfl) a0 rfl ?_
      refine z_r_ld (kk := z_isA) (ins := (.aload_n 1)) (len := 1) (t := 28) (i := 1) rfl rfl rfl rfl rfl (fun _ => rfl) a1 rfl ?_
      refine z_r_ld (kk := z_isA) (ins := (.aload_n 0)) (len := 1) (t := 29) (i := 0) rfl rfl rfl rfl rfl (fun _ => rfl) a0 rfl ?_
      refine z_r_rd (ins := (.getfield 34)) (len := 3) (t := 32) rfl rfl rfl rfl rfl (z_gfv (ci := 3) (k := 7) (v := ye_v s) rfl (z_lkn fN c_9) (by decide) rfl) ?_
      refine ye_ca (ins := (.invokevirtual 75)) (kd := 1) (t := 35) rfl rfl (by decide) (z_argsv rfl rfl rfl (by omega) (Nat.le_of_ble_eq_true rfl) rfl (Nat.le_of_ble_eq_true rfl) (Nat.le_refl _) (Nat.le_refl _) (Or.inr (Nat.le_of_ble_eq_true rfl)) (Or.inr (z_atv (z_lkn fN c_9) rfl))) rfl rfl rfl (ye_rsort c_3 fS c_10 fT hx (by omega) c_9 fN c_7 fK c_11 fW c_12 fZ c_6 fD c_8 fM n01 n02 n03 n04 n12 n13 n14 n23 n24 n34 yK yW yZ yD yM (by omega) (by omega)) ?_
      rintro _ P_16 ⟨b_17, w_18, w_19, w_20, w_21, w_22, y_23, rfl, c_24, c_25, c_26, c_27, c_28, c_29, c_30, o_31, h_32⟩
      have c_33 := ye_kp o_31 (ye_nc (ye_ne c_10 c_3 (by decide)) (ye_nc (ye_ne c_10 c_9 (by decide)) (ye_nc (ye_ne c_10 c_7 (by decide)) (ye_nc (ye_ne c_10 c_11 (by decide)) (ye_nc (ye_ne c_10 c_12 (by decide)) (ye_nc (ye_ne c_10 c_6 (by decide)) (ye_n1 (ye_ne c_10 c_8 (by decide))))))))) c_10
      have o_34 := ye_oth_tr o_13 o_31 ((fun b hb => by simp at hb ⊢; omega))
      refine ye_ret (ins := .ireturn) rfl rfl rfl (ye_retz rfl (by omega)) ?_
      have hp2 : p_2 = p := by omega
      rw [hp2] at h_32 c_24
      have eL : yb_l T lim p s = yb_so T lim p := by
        unfold yb_l
        rw [if_neg (by omega), if_neg (by omega)]
      have eX : yb_nx T lim p (s, ytb, kd, wt, sz, dr, mn) = (s + 1, ytb, ye_put kd s (yb_k T lim p), ye_put wt s (yb_n1 T lim p).2.2, ye_put sz s (yb_n2 T lim p).2.2, ye_put dr s (yb_n3 T lim p).2.2, ye_put mn s (yb_n4 T lim p).2.2) := if_neg (by omega)
      rw [show (yb_l T lim p ((s, ytb, kd, wt, sz, dr, mn) : yb_S).1) = _ from eL]
      rw [eX]
      rcases h_32 with ⟨g1, g2, g3, z1, z2, z3, z4, z5⟩ | ⟨g1, g2, g3, z1, z2, z3, z4, z5⟩
      · subst g3
        exact ⟨b_17, _, rfl, c_24, ⟨_, _, _, _, _, _, c_25, c_26, c_27, c_28, c_29, c_30, z1, z2, z3, z4, z5, by omega, by omega⟩, o_34, Or.inl ⟨g1, g2, rfl⟩⟩
      · have g3 := g3.symm
        subst g3
        exact ⟨b_17, (s, ytb, kd, wt, sz, dr, mn), rfl, c_24, ⟨_, _, _, _, _, _, c_25, c_26, c_27, c_28, c_29, c_30, z1, z2, z3, z4, z5, by omega, by omega⟩, o_34, Or.inr ⟨g1, g2, rfl⟩⟩
    · skip
      refine z_r_jm (ins := (.if_icmp .lt 5)) (len := 3) (t := 24) rfl rfl rfl rfl (ye_jn (t := 26) rfl (by omega) (by omega) (by omega) (by omega) b_15) ?_
      refine z_r_pu (ins := (.iconst 0)) (len := 1) (t := 25) (st' := [ye_v 0]) rfl rfl rfl rfl rfl ?_
      refine ye_ret (ins := .ireturn) rfl rfl rfl (ye_retz rfl (by omega)) ?_
      have hp2 : p_2 = p := by omega
      rw [hp2] at c_3
      have eL : yb_l T lim p s = (false, p) := by
        unfold yb_l
        rw [if_neg (by omega), if_pos (by omega)]
      rw [show (yb_l T lim p ((s, ytb, kd, wt, sz, dr, mn) : yb_S).1) = _ from eL]
      exact ⟨0, (s, ytb, kd, wt, sz, dr, mn), rfl, c_3, ⟨kv, wv, zv, dv, mv, _, c_9, c_7, c_11, c_12, c_6, c_8, yK, yW, yZ, yD, yM, by omega, by omega⟩, o_13, Or.inr ⟨rfl, rfl, rfl⟩⟩
  · skip
    refine z_r_jm (ins := (.ifCond .eq 9)) (len := 3) (t := 9) rfl rfl rfl rfl (ye_in (t := 15) rfl (by omega) (by omega) b_14) ?_
    refine z_r_ld (kk := z_isA) (ins := (.aload_n 0)) (len := 1) (t := 10) (i := 0) rfl rfl rfl rfl rfl (fun _ => rfl) a0 rfl ?_
    refine z_r_ld (kk := z_isA) (ins := (.aload_n 1)) (len := 1) (t := 11) (i := 1) rfl rfl rfl rfl rfl (fun _ => rfl) a1 rfl ?_
    refine ye_ca (ins := (.invokevirtual 72)) (kd := 1) (t := 14) rfl rfl (by decide) (z_argsv rfl rfl rfl (by omega) (Nat.le_of_ble_eq_true rfl) rfl (Nat.le_of_ble_eq_true rfl) (Nat.le_refl _) (Nat.le_refl _) (Or.inr (Nat.le_of_ble_eq_true rfl)) (Or.inr (z_atv (z_lkn fN c_9) rfl))) rfl rfl rfl (ye_ryards c_3 fS c_10 fT hx (by omega) c_9 fN (by omega) (by omega)) ?_
    rintro _ P_35 ⟨b_36, y_37, y_38, rfl, c_39, c_40, o_41, h_42, h_43, h_44⟩
    have c_45 := ye_kp o_41 (ye_nc (ye_ne c_6 c_3 (by decide)) (ye_n1 (ye_ne c_6 c_9 (by decide)))) c_6
    have c_46 := ye_kp o_41 (ye_nc (ye_ne c_7 c_3 (by decide)) (ye_n1 (ye_ne c_7 c_9 (by decide)))) c_7
    have c_47 := ye_kp o_41 (ye_nc (ye_ne c_8 c_3 (by decide)) (ye_n1 (ye_ne c_8 c_9 (by decide)))) c_8
    have c_48 := ye_kp o_41 (ye_nc (ye_ne c_10 c_3 (by decide)) (ye_n1 (ye_ne c_10 c_9 (by decide)))) c_10
    have c_49 := ye_kp o_41 (ye_nc (ye_ne c_11 c_3 (by decide)) (ye_n1 (ye_ne c_11 c_9 (by decide)))) c_11
    have c_50 := ye_kp o_41 (ye_nc (ye_ne c_12 c_3 (by decide)) (ye_n1 (ye_ne c_12 c_9 (by decide)))) c_12
    have o_51 := ye_oth_tr o_13 o_41 (ye_s2 (List.mem_cons_self) (List.mem_cons_of_mem _ (List.mem_cons_self)))
    refine ye_ret (ins := .ireturn) rfl rfl rfl (ye_retz rfl (by omega)) ?_
    have hp2 : p_2 = p + 1 := by omega
    rw [hp2] at h_44 c_39
    have eL : yb_l T lim p s = ((yb_ny T lim p).1, (yb_ny T lim p).2.1) := if_pos (by omega)
    have eX : yb_nx T lim p (s, ytb, kd, wt, sz, dr, mn) = (s, (yb_ny T lim p).2.2, kd, wt, sz, dr, mn) := if_pos (by omega)
    rw [show (yb_l T lim p ((s, ytb, kd, wt, sz, dr, mn) : yb_S).1) = _ from eL]
    rw [eX]
    rcases h_44 with ⟨g1, g2, g3⟩ | ⟨g1, g2, g3⟩
    · subst g3
      exact ⟨b_36, (s, _, kd, wt, sz, dr, mn), rfl, c_39, ⟨kv, wv, zv, dv, mv, _, c_40, c_46, c_49, c_50, c_45, c_47, yK, yW, yZ, yD, yM, h_42, h_43⟩, o_51, Or.inl ⟨g1, g2, rfl⟩⟩
    · have g3 := g3.symm
      subst g3
      exact ⟨b_36, (s, _, kd, wt, sz, dr, mn), rfl, c_39, ⟨kv, wv, zv, dv, mv, _, c_40, c_46, c_49, c_50, c_45, c_47, yK, yW, yZ, yD, yM, h_42, h_43⟩, o_51, Or.inr ⟨g1, g2, rfl⟩⟩
end YCLN
