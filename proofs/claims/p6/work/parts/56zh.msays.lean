/-! says, the reference, exactly. -/
section YGMA
variable {xs : List Int32} {d aM aB aA aR aZ : Nat} {P : z_H} {F : Nat → Value} {bs av rv zv : List Value} {T : Int → Int} {L : List Int} {sz tp h w lim il v n i : Int} {l : z_L} {Ψ : z_S → Prop}
theorem yg_8 {e : Int} (h1 : -128 ≤ e) (h2 : e ≤ 127) : (Int32.ofInt e).toInt8.toInt32 = Int32.ofInt e := by
  apply Int32.toInt_inj.mp
  rw [Int8.toInt_toInt32, Int32.toInt_toInt8, ye_to (by omega) (by omega)]
  unfold Int.bmod
  simp only [Nat.reducePow]
  omega
theorem yg_cpI (hM : P[aM]? = some (10, ye_fl F)) (fM : aM < z_far) (k10 : F 10 = .ref aB) (k27 : F 27 = .ref aA) (hB : P[aB]? = some (101, bs)) (fB : aB < z_far) (hx : ye_tx T n (-128) 127 bs) (hA : P[aA]? = some (109, av)) (fA : aA < z_far) (hg : av[v.toNat]? = some (.ref aR)) (hR : P[aR]? = some (101, rv)) (fR : aR < z_far) (hrl : rv.length = 40) (nRB : aR ≠ aB) (hv : 0 ≤ v ∧ v ≤ 3)
    (h0 : z_get l 0 = some (.ref aM)) (h1 : z_get l 1 = some (ye_v v)) (h2 : z_get l 2 = some (ye_v n)) (h3 : z_get l 3 = some (ye_v i)) (hi : 0 ≤ i ∧ i < n ∧ n ≤ 40)
    (kk : ∀ l P' rv', z_get l 0 = some (.ref aM) → z_get l 1 = some (ye_v v) → z_get l 2 = some (ye_v n) → z_get l 3 = some (ye_v (i + 1)) → P'[aM]? = some (10, ye_fl F) → P'[aB]? = some (101, bs) → P'[aA]? = some (109, av) → P'[aR]? = some (101, rv') → rv'.length = 40 → ye_oth [aR] P P' → z_Rh (z_G xs) d 202 Ψ (104, l, [], P', 0, 0)) : z_Rh (z_G xs) d 202 Ψ (104, l, [], P, 0, 0) := by
  have ho0 : ye_oth [aR] P P := ye_oth_rf
  refine z_r_ld (kk := z_isI) (ins := (.iload_n 3)) (len := 1) (t := 105) (i := 3) rfl rfl rfl rfl rfl (fun _ => rfl) h3 rfl ?_
  refine z_r_ld (kk := z_isI) (ins := (.iload_n 2)) (len := 1) (t := 106) (i := 2) rfl rfl rfl rfl rfl (fun _ => rfl) h2 rfl ?_
  refine z_r_jm (ins := (.if_icmp .ge 23)) (len := 3) (t := 109) rfl rfl rfl rfl (ye_jn (t := 129) rfl (by omega) (by omega) (by omega) (by omega) (by show ¬ (n ≤ i); omega)) ?_
  refine z_r_ld (kk := z_isA) (ins := (.aload_n 0)) (len := 1) (t := 110) (i := 0) rfl rfl rfl rfl rfl (fun _ => rfl) h0 rfl ?_
  refine z_r_rd (ins := (.getfield 60)) (len := 3) (t := 113) rfl rfl rfl rfl rfl (z_gfv (ci := 10) (k := 27) (v := .ref aA) rfl (z_lkn fM hM) (by decide) (ye_flg rfl k27)) ?_
  refine z_r_ld (kk := z_isI) (ins := (.iload_n 1)) (len := 1) (t := 114) (i := 1) rfl rfl rfl rfl rfl (fun _ => rfl) h1 rfl ?_
  refine z_r_rd (ins := .aaload) (len := 1) (t := 115) rfl rfl rfl rfl rfl (ye_aal (p := v) (z_lkn fA hA) (Nat.le_of_ble_eq_true rfl) (Nat.le_of_ble_eq_true rfl) (by omega) (by omega) hg) ?_
  refine z_r_ld (kk := z_isI) (ins := (.iload_n 3)) (len := 1) (t := 116) (i := 3) rfl rfl rfl rfl rfl (fun _ => rfl) h3 rfl ?_
  refine z_r_ld (kk := z_isA) (ins := (.aload_n 0)) (len := 1) (t := 117) (i := 0) rfl rfl rfl rfl rfl (fun _ => rfl) h0 rfl ?_
  refine z_r_rd (ins := (.getfield 35)) (len := 3) (t := 120) rfl rfl rfl rfl rfl (z_gfv (ci := 10) (k := 10) (v := .ref aB) rfl (z_lkn fM hM) (by decide) (ye_flg rfl k10)) ?_
  refine z_r_ld (kk := z_isI) (ins := (.iload_n 3)) (len := 1) (t := 121) (i := 3) rfl rfl rfl rfl rfl (fun _ => rfl) h3 rfl ?_
  obtain ⟨e_1, v_2, v_21, v_22, s_3⟩ := hx.2 (i) (by omega) (by omega)
  refine z_r_rd (ins := .baload) (len := 1) (t := 122) rfl rfl rfl rfl rfl (ye_bal (p := i) (e := e_1) (z_lkn fB hB) (by omega) (by omega) v_2) ?_
  refine ye_r_wr (ins := .bastore) (len := 1) (t := 123) (a := aR) (q := (101, rv.set (i).toNat (ye_v e_1))) rfl rfl rfl rfl rfl hR (ye_bas hR (by omega) (by omega) (by omega) (yg_8 (by omega) (by omega))) (fun P_4 c_5 o_6 => ?_)
  have c_7 := ye_kp o_6 (ye_n1 (ye_ne hA hR (by decide))) hA
  have c_8 := ye_kp o_6 (ye_n1 (Ne.symm nRB)) hB
  have c_9 := ye_kp o_6 (ye_n1 (ye_ne hM hR (by decide))) hM
  have o_10 := ye_oth_tr ho0 o_6 (ye_s1 (List.mem_cons_self))
  refine ye_ic (ins := (.iinc 3 1)) (len := 3) (t := 126) (i := 3) (a := i) (kk := 1) rfl rfl rfl rfl rfl rfl h3 (fun l l_11 k_12 => ?_)
  have l_13 := k_12 _ _ h0 (by decide) (Or.inl (by decide))
  have l_14 := k_12 _ _ h1 (by decide) (Or.inl (by decide))
  have l_15 := k_12 _ _ h2 (by decide) (Or.inr (by show (1 : Nat) ≠ 2; decide))
  refine z_r_jm (ins := (.goto (-22))) (len := 3) (t := 104) rfl rfl rfl rfl (z_gty rfl) ?_
  exact kk _ _ _ l_13 l_14 l_15 l_11 c_9 c_8 c_7 c_5 (by rw [List.length_set]; exact hrl) o_10
theorem yg_cpE (h0 : z_get l 0 = some (.ref aM)) (h1 : z_get l 1 = some (ye_v v)) (h2 : z_get l 2 = some (ye_v n)) (h3 : z_get l 3 = some (ye_v i)) (hi : 0 ≤ i ∧ n ≤ i ∧ i ≤ 80 ∧ 0 ≤ n)
    (kk : z_Rh (z_G xs) d 202 Ψ (129, l, [], P, 0, 0)) : z_Rh (z_G xs) d 202 Ψ (104, l, [], P, 0, 0) := by
  refine z_r_ld (kk := z_isI) (ins := (.iload_n 3)) (len := 1) (t := 105) (i := 3) rfl rfl rfl rfl rfl (fun _ => rfl) h3 rfl ?_
  refine z_r_ld (kk := z_isI) (ins := (.iload_n 2)) (len := 1) (t := 106) (i := 2) rfl rfl rfl rfl rfl (fun _ => rfl) h2 rfl ?_
  refine z_r_jm (ins := (.if_icmp .ge 23)) (len := 3) (t := 129) rfl rfl rfl rfl (ye_jy (t := 129) rfl (by omega) (by omega) (by omega) (by omega) (by show n ≤ i; omega)) ?_
  exact kk
theorem yg_cpL {P0 : z_H} (fM : aM < z_far) (k10 : F 10 = .ref aB) (k27 : F 27 = .ref aA) (fB : aB < z_far) (hx : ye_tx T n (-128) 127 bs) (fA : aA < z_far) (hg : av[v.toNat]? = some (.ref aR)) (fR : aR < z_far) (nRB : aR ≠ aB) (hv : 0 ≤ v ∧ v ≤ 3) (hn : 0 ≤ n ∧ n ≤ 40) : ∀ (k : Nat) {i : Int} {l : z_L} {P : z_H} {rv : List Value}, i + k = n → 0 ≤ i → P[aM]? = some (10, ye_fl F) → P[aB]? = some (101, bs) → P[aA]? = some (109, av) → P[aR]? = some (101, rv) → rv.length = 40 → z_get l 0 = some (.ref aM) → z_get l 1 = some (ye_v v) → z_get l 2 = some (ye_v n) → z_get l 3 = some (ye_v i) → ye_oth [aR] P0 P →
    (∀ l P', z_get l 0 = some (.ref aM) → z_get l 1 = some (ye_v v) → z_get l 2 = some (ye_v n) → P'[aM]? = some (10, ye_fl F) → ye_oth [aR] P0 P' → z_Rh (z_G xs) d 202 Ψ (129, l, [], P', 0, 0)) → z_Rh (z_G xs) d 202 Ψ (104, l, [], P, 0, 0) := by
  intro k
  induction k with
  | zero => intro i l P rv hi i0 hM hB hA hR hrl h0 h1 h2 h3 ho kk; exact yg_cpE h0 h1 h2 h3 (by omega) (kk l P h0 h1 h2 hM ho)
  | succ k ih =>
    intro i l P rv hi i0 hM hB hA hR hrl h0 h1 h2 h3 ho kk
    exact yg_cpI hM fM k10 k27 hB fB hx hA fA hg hR fR hrl nRB hv h0 h1 h2 h3 (by omega) fun l P' rv' g0 g1 g2 g3 hM' hB' hA' hR' hrl' ho' => ih (by omega) (by omega) hM' hB' hA' hR' hrl' g0 g1 g2 g3 (ye_oth_tr ho ho' (fun _ q => q)) kk
set_option maxHeartbeats 8000000 in
theorem yg_Msays (hM : P[aM]? = some (10, ye_fl F)) (fM : aM < z_far) (k10 : F 10 = .ref aB) (k11 : F 11 = ye_v n) (k27 : F 27 = .ref aA) (k28 : F 28 = .ref aZ) (hB : P[aB]? = some (101, bs)) (fB : aB < z_far) (hx : ye_tx T n (-128) 127 bs) (hn : 0 ≤ n ∧ n ≤ 80) (hA : P[aA]? = some (109, av)) (fA : aA < z_far) (hZ : P[aZ]? = some (103, zv)) (fZ : aZ < z_far) (hzl : zv.length = 4) (hag : 0 ≤ v ∧ v ≤ 3 → av[v.toNat]? = some (.ref aR) ∧ ∃ rv, P[aR]? = some (101, rv) ∧ aR < z_far ∧ rv.length = 40 ∧ aR ≠ aB)
    (hv : -2147483648 ≤ v ∧ v < 2147483648) (hlm : lim = if n ≤ 40 then n else 40) (hd : 345 ≤ d) : ye_X xs d 202 [.ref aM, ye_v v] P (fun r P' => r = some (ye_v (yx_a T n v)) ∧ ∃ F', P'[aM]? = some (10, ye_fl F') ∧ ye_fk [11, 14, 15, 16, 17, 18, 19, 29, 31, 32] F F' ∧ F' 11 = ye_v 0 ∧ ye_oth [aM, aR, aZ] P P') := by
  have hlm2 : (lim = n ∧ n ≤ 40) ∨ (lim = 40 ∧ 40 < n) := by
    rw [hlm]
    split <;> omega
  refine ye_go ?_
  have a0 : z_get (lv_args 0 [.ref aM, ye_v v]) 0 = some (.ref aM) := rfl
  have a1 : z_get (lv_args 0 [.ref aM, ye_v v]) 1 = some (ye_v v) := rfl
  have ho0 : ye_oth [aM, aR, aZ] P P := ye_oth_rf
  have hf0 : ye_fk [11, 14, 15, 16, 17, 18, 19, 29, 31, 32] F F := ye_fk_rf
  have hoM0 : ye_oth [aM] P P := ye_oth_rf
  have el : yq_lim n 40 = lim := by
    unfold yq_lim
    rw [hlm]
  refine z_r_ld (kk := z_isA) (ins := (.aload_n 0)) (len := 1) (t := 1) (i := 0) rfl rfl rfl rfl rfl (fun _ => rfl) a0 rfl ?_
  refine z_r_pu (ins := (.iconst 0)) (len := 1) (t := 2) (st' := [ye_v 0, .ref aM]) rfl rfl rfl rfl rfl ?_
  refine ye_r_wr (ins := (.putfield 124)) (len := 3) (t := 5) (a := aM) (q := (10, ye_fl (ye_up F 14 (ye_v 0)))) rfl rfl rfl rfl rfl hM (ye_pfm (k := 14) rfl hM rfl rfl rfl rfl) (fun P_1 c_2 o_3 => ?_)
  have c_4 := ye_kp o_3 (ye_n1 (ye_ne hA hM (by decide))) hA
  have c_5 := ye_kp o_3 (ye_n1 (ye_ne hB hM (by decide))) hB
  have c_6 := ye_kp o_3 (ye_n1 (ye_ne hZ hM (by decide))) hZ
  have o_7 := ye_oth_tr ho0 o_3 (ye_s1 (List.mem_cons_self))
  have o_8 := ye_oth_tr hoM0 o_3 (fun _ q => q)
  have f_9 := ye_fk_up (j := 14) (v := ye_v 0) hf0 (List.mem_cons_of_mem _ (List.mem_cons_self))
  refine z_r_ld (kk := z_isA) (ins := (.aload_n 0)) (len := 1) (t := 6) (i := 0) rfl rfl rfl rfl rfl (fun _ => rfl) a0 rfl ?_
  refine z_r_rd (ins := (.getfield 141)) (len := 3) (t := 9) rfl rfl rfl rfl rfl (z_gfv (ci := 10) (k := 11) (v := ye_v n) rfl (z_lkn fM c_2) (by decide) (ye_flg rfl k11)) ?_
  refine z_r_is (kk := z_isI) (ins := (.istore_n 2)) (len := 1) (t := 10) (i := 2) rfl rfl rfl rfl rfl rfl rfl rfl (fun l l_10 k_11 => ?_)
  have l_12 := k_11 _ _ a0 (by decide) (Or.inl (by decide))
  have l_13 := k_11 _ _ a1 (by decide) (Or.inr (by show (1 : Nat) ≠ 2; decide))
  refine z_r_ld (kk := z_isA) (ins := (.aload_n 0)) (len := 1) (t := 11) (i := 0) rfl rfl rfl rfl rfl (fun _ => rfl) l_12 rfl ?_
  refine z_r_ld (kk := z_isA) (ins := (.aload_n 0)) (len := 1) (t := 12) (i := 0) rfl rfl rfl rfl rfl (fun _ => rfl) l_12 rfl ?_
  refine z_r_rd (ins := (.getfield 35)) (len := 3) (t := 15) rfl rfl rfl rfl rfl (z_gfv (ci := 10) (k := 10) (v := .ref aB) rfl (z_lkn fM c_2) (by decide) (ye_flg rfl k10)) ?_
  refine z_r_ld (kk := z_isI) (ins := (.iload_n 2)) (len := 1) (t := 16) (i := 2) rfl rfl rfl rfl rfl (fun _ => rfl) l_10 rfl ?_
  refine z_r_pu (ins := (.bipush 40)) (len := 2) (t := 18) rfl rfl rfl rfl (ye_bi (by decide) (by decide)) ?_
  refine ye_cav (ins := (.invokevirtual 175)) (kd := 1) (t := 21) rfl rfl (by decide) (z_argsv rfl rfl rfl (by omega) (Nat.le_of_ble_eq_true rfl) rfl (Nat.le_of_ble_eq_true rfl) (Nat.le_refl _) (Nat.le_refl _) (Or.inr (Nat.le_of_ble_eq_true rfl)) (Or.inr (z_atv (z_lkn fM c_2) rfl))) rfl rfl rfl rfl (ye_begin c_2 fM) ?_
  rintro _ P_15 ⟨F_14, c_16, f_17, k_19, k_20, k_21, k_22, k_23, o_18⟩
  have c_24 := ye_kp o_18 (ye_n1 (ye_ne c_4 c_2 (by decide))) c_4
  have c_25 := ye_kp o_18 (ye_n1 (ye_ne c_5 c_2 (by decide))) c_5
  have c_26 := ye_kp o_18 (ye_n1 (ye_ne c_6 c_2 (by decide))) c_6
  have o_27 := ye_oth_tr o_7 o_18 (ye_s1 (List.mem_cons_self))
  have o_28 := ye_oth_tr o_8 o_18 (fun _ q => q)
  have f_29 : F_14 10 = .ref aB := (f_17 10 (by decide)).trans k10
  have f_30 : F_14 11 = ye_v n := (f_17 11 (by decide)).trans k11
  have f_31 : F_14 14 = ye_v 0 := (f_17 14 (by decide)).trans rfl
  have f_32 : F_14 27 = .ref aA := (f_17 27 (by decide)).trans k27
  have f_33 : F_14 28 = .ref aZ := (f_17 28 (by decide)).trans k28
  have f_34 := ye_fk_tr f_9 f_17 (by decide)
  refine z_r_ld (kk := z_isA) (ins := (.aload_n 0)) (len := 1) (t := 22) (i := 0) rfl rfl rfl rfl rfl (fun _ => rfl) l_12 rfl ?_
  refine z_r_pu (ins := (.iconst 0)) (len := 1) (t := 23) (st' := [ye_v 0, .ref aM]) rfl rfl rfl rfl rfl ?_
  refine ye_r_wr (ins := (.putfield 141)) (len := 3) (t := 26) (a := aM) (q := (10, ye_fl (ye_up F_14 11 (ye_v 0)))) rfl rfl rfl rfl rfl c_16 (ye_pfm (k := 11) rfl c_16 rfl rfl rfl rfl) (fun P_35 c_36 o_37 => ?_)
  have c_38 := ye_kp o_37 (ye_n1 (ye_ne c_24 c_16 (by decide))) c_24
  have c_39 := ye_kp o_37 (ye_n1 (ye_ne c_25 c_16 (by decide))) c_25
  have c_40 := ye_kp o_37 (ye_n1 (ye_ne c_26 c_16 (by decide))) c_26
  have o_41 := ye_oth_tr o_27 o_37 (ye_s1 (List.mem_cons_self))
  have o_42 := ye_oth_tr o_28 o_37 (fun _ q => q)
  have f_43 := ye_fk_up (j := 11) (v := ye_v 0) f_34 (List.mem_cons_self)
  refine z_r_ld (kk := z_isI) (ins := (.iload_n 1)) (len := 1) (t := 27) (i := 1) rfl rfl rfl rfl rfl (fun _ => rfl) l_13 rfl ?_
  refine z_r_pu (ins := (.iconst 0)) (len := 1) (t := 28) (st' := [ye_v 0, ye_v v]) rfl rfl rfl rfl rfl ?_
  refine z_r_pu (ins := (.iconst 3)) (len := 1) (t := 29) (st' := [ye_v 3, ye_v 0, ye_v v]) rfl rfl rfl rfl rfl ?_
  refine ye_ca (ins := (.invokestatic 133)) (kd := 0) (t := 32) rfl rfl (by decide) (z_argsv rfl rfl rfl (by omega) (Nat.le_of_ble_eq_true rfl) rfl (Nat.le_of_ble_eq_true rfl) (Nat.le_refl _) (Nat.le_refl _) (Or.inl rfl) (Or.inl rfl)) rfl rfl rfl (ye_inr (by omega) (by omega) (by omega)) ?_
  rintro _ _ ⟨rfl, b_44, rfl, h_45⟩
  by_cases b_46 : b_44 ≠ 0
  · skip
    refine z_r_jm (ins := (.ifCond .ne 6)) (len := 3) (t := 38) rfl rfl rfl rfl (ye_iy (t := 38) rfl (by omega) (by omega) b_46) ?_
    refine z_r_ld (kk := z_isA) (ins := (.aload_n 0)) (len := 1) (t := 39) (i := 0) rfl rfl rfl rfl rfl (fun _ => rfl) l_12 rfl ?_
    refine z_r_ld (kk := z_isI) (ins := (.iload_n 1)) (len := 1) (t := 40) (i := 1) rfl rfl rfl rfl rfl (fun _ => rfl) l_13 rfl ?_
    refine z_r_pu (ins := (.iconst 3)) (len := 1) (t := 41) (st' := [ye_v 3, ye_v v, .ref aM]) rfl rfl rfl rfl rfl ?_
    by_cases b_47 : v ≠ 3
    · skip
      refine z_r_jm (ins := (.if_icmp .ne 7)) (len := 3) (t := 48) rfl rfl rfl rfl (ye_jy (t := 48) rfl (by omega) (by omega) (by omega) (by omega) b_47) ?_
      refine z_r_pu (ins := (.iconst 0)) (len := 1) (t := 49) (st' := [ye_v 0, .ref aM]) rfl rfl rfl rfl rfl ?_
      refine ye_r_wr (ins := (.putfield 217)) (len := 3) (t := 52) (a := aM) (q := (10, ye_fl (ye_up (ye_up F_14 11 (ye_v 0)) 29 (ye_v 0)))) rfl rfl rfl rfl rfl c_36 (ye_pfm (k := 29) rfl c_36 rfl rfl (ye_b01 (by omega)) rfl) (fun P_48 c_49 o_50 => ?_)
      have c_51 := ye_kp o_50 (ye_n1 (ye_ne c_38 c_36 (by decide))) c_38
      have c_52 := ye_kp o_50 (ye_n1 (ye_ne c_39 c_36 (by decide))) c_39
      have c_53 := ye_kp o_50 (ye_n1 (ye_ne c_40 c_36 (by decide))) c_40
      have o_54 := ye_oth_tr o_41 o_50 (ye_s1 (List.mem_cons_self))
      have o_55 := ye_oth_tr o_42 o_50 (fun _ q => q)
      have f_56 := ye_fk_up (j := 29) (v := ye_v 0) f_43 (List.mem_cons_of_mem _ (List.mem_cons_of_mem _ (List.mem_cons_of_mem _ (List.mem_cons_of_mem _ (List.mem_cons_of_mem _ (List.mem_cons_of_mem _ (List.mem_cons_of_mem _ (List.mem_cons_self))))))))
      refine z_r_ld (kk := z_isA) (ins := (.aload_n 0)) (len := 1) (t := 53) (i := 0) rfl rfl rfl rfl rfl (fun _ => rfl) l_12 rfl ?_
      refine z_r_pu (ins := (.iconst (-1))) (len := 1) (t := 54) (st' := [ye_v ((-1)), .ref aM]) rfl rfl rfl rfl rfl ?_
      refine ye_r_wr (ins := (.putfield 66)) (len := 3) (t := 57) (a := aM) (q := (10, ye_fl (ye_up (ye_up (ye_up F_14 11 (ye_v 0)) 29 (ye_v 0)) 31 (ye_v ((-1)))))) rfl rfl rfl rfl rfl c_49 (ye_pfm (k := 31) rfl c_49 rfl rfl rfl rfl) (fun P_57 c_58 o_59 => ?_)
      have c_60 := ye_kp o_59 (ye_n1 (ye_ne c_51 c_49 (by decide))) c_51
      have c_61 := ye_kp o_59 (ye_n1 (ye_ne c_52 c_49 (by decide))) c_52
      have c_62 := ye_kp o_59 (ye_n1 (ye_ne c_53 c_49 (by decide))) c_53
      have o_63 := ye_oth_tr o_54 o_59 (ye_s1 (List.mem_cons_self))
      have o_64 := ye_oth_tr o_55 o_59 (fun _ q => q)
      have f_65 := ye_fk_up (j := 31) (v := ye_v ((-1))) f_56 (List.mem_cons_of_mem _ (List.mem_cons_of_mem _ (List.mem_cons_of_mem _ (List.mem_cons_of_mem _ (List.mem_cons_of_mem _ (List.mem_cons_of_mem _ (List.mem_cons_of_mem _ (List.mem_cons_of_mem _ (List.mem_cons_self)))))))))
      refine z_r_ld (kk := z_isA) (ins := (.aload_n 0)) (len := 1) (t := 58) (i := 0) rfl rfl rfl rfl rfl (fun _ => rfl) l_12 rfl ?_
      refine z_r_pu (ins := (.iconst (-1))) (len := 1) (t := 59) (st' := [ye_v ((-1)), .ref aM]) rfl rfl rfl rfl rfl ?_
      refine ye_r_wr (ins := (.putfield 69)) (len := 3) (t := 62) (a := aM) (q := (10, ye_fl (ye_up (ye_up (ye_up (ye_up F_14 11 (ye_v 0)) 29 (ye_v 0)) 31 (ye_v ((-1)))) 32 (ye_v ((-1)))))) rfl rfl rfl rfl rfl c_58 (ye_pfm (k := 32) rfl c_58 rfl rfl rfl rfl) (fun P_66 c_67 o_68 => ?_)
      have c_69 := ye_kp o_68 (ye_n1 (ye_ne c_60 c_58 (by decide))) c_60
      have c_70 := ye_kp o_68 (ye_n1 (ye_ne c_61 c_58 (by decide))) c_61
      have c_71 := ye_kp o_68 (ye_n1 (ye_ne c_62 c_58 (by decide))) c_62
      have o_72 := ye_oth_tr o_63 o_68 (ye_s1 (List.mem_cons_self))
      have o_73 := ye_oth_tr o_64 o_68 (fun _ q => q)
      have f_74 := ye_fk_up (j := 32) (v := ye_v ((-1))) f_65 (List.mem_cons_of_mem _ (List.mem_cons_of_mem _ (List.mem_cons_of_mem _ (List.mem_cons_of_mem _ (List.mem_cons_of_mem _ (List.mem_cons_of_mem _ (List.mem_cons_of_mem _ (List.mem_cons_of_mem _ (List.mem_cons_of_mem _ (List.mem_cons_self))))))))))
      refine z_r_ld (kk := z_isI) (ins := (.iload_n 2)) (len := 1) (t := 63) (i := 2) rfl rfl rfl rfl rfl (fun _ => rfl) l_10 rfl ?_
      by_cases b_75 : n ≤ 0
      · skip
        refine z_r_jm (ins := (.ifCond .le 39)) (len := 3) (t := 102) rfl rfl rfl rfl (ye_iy (t := 102) rfl (by omega) (by omega) b_75) ?_
        refine z_r_pu (ins := (.iconst 0)) (len := 1) (t := 103) (st' := [ye_v 0]) rfl rfl rfl rfl rfl ?_
        refine z_r_is (kk := z_isI) (ins := (.istore_n 3)) (len := 1) (t := 104) (i := 3) rfl rfl rfl rfl rfl rfl rfl rfl (fun l l_76 k_77 => ?_)
        have l_78 := k_77 _ _ l_12 (by decide) (Or.inl (by decide))
        have l_79 := k_77 _ _ l_13 (by decide) (Or.inl (by decide))
        have l_80 := k_77 _ _ l_10 (by decide) (Or.inr (by show (1 : Nat) ≠ 2; decide))
        obtain ⟨hg, rv, hR, fR, hrl, nRB⟩ := hag (by omega)
        have hR9 := ye_kp o_73 (ye_n1 (ye_ne hR hM (by decide))) hR
        refine yg_cpL (P0 := _) (n := n) (rv := rv) fM (by exact f_29) (by exact f_32) fB hx fA hg fR nRB (by omega) (by omega) n.toNat (i := 0) (by omega) (by decide) c_67 c_70 c_69 hR9 hrl l_78 l_79 l_80 l_76 ye_oth_rf ?_
        intro l P7 g0 g1 g2 hM7 ho7
        have hZ7 := ye_kp ho7 (ye_n1 (ye_ne c_71 hR9 (by decide))) c_71
        have o7 := ye_oth_tr o_72 ho7 (fun b hb => by simp at hb ⊢; omega)
        refine z_r_ld (kk := z_isA) (ins := (.aload_n 0)) (len := 1) (t := 130) (i := 0) rfl rfl rfl rfl rfl (fun _ => rfl) g0 rfl ?_
        refine z_r_rd (ins := (.getfield 63)) (len := 3) (t := 133) rfl rfl rfl rfl rfl (z_gfv (ci := 10) (k := 28) (v := .ref aZ) rfl (z_lkn fM hM7) (by decide) (ye_flg rfl f_33)) ?_
        refine z_r_ld (kk := z_isI) (ins := (.iload_n 1)) (len := 1) (t := 134) (i := 1) rfl rfl rfl rfl rfl (fun _ => rfl) g1 rfl ?_
        refine z_r_ld (kk := z_isI) (ins := (.iload_n 2)) (len := 1) (t := 135) (i := 2) rfl rfl rfl rfl rfl (fun _ => rfl) g2 rfl ?_
        refine ye_r_wr (ins := .iastore) (len := 1) (t := 136) (a := aZ) (q := (103, zv.set (v).toNat (ye_v n))) rfl rfl rfl rfl rfl hZ7 (ye_as (t := 103) (nf := fun x => x) (p := v) (e := n) (e' := n) hZ7 (by omega) (by omega) (by omega) rfl) (fun P_81 c_82 o_83 => ?_)
        have c_84 := ye_kp o_83 (ye_n1 (ye_ne hM7 hZ7 (by decide))) hM7
        have o_85 := ye_oth_tr o7 o_83 (ye_s1 (List.mem_cons_of_mem _ (List.mem_cons_of_mem _ (List.mem_cons_self))))
        refine z_r_pu (ins := (.iconst 0)) (len := 1) (t := 137) (st' := [ye_v 0]) rfl rfl rfl rfl rfl ?_
        refine ye_ret (ins := .ireturn) rfl rfl rfl (ye_reti rfl) ?_
        have eR : yx T lim (yx_L v) = (true, 0) := if_pos (by omega)
        have ea : yx_a T n v = 0 := by
          unfold yx_a
          rw [if_neg (by omega), el]
          rw [eR]
          exact if_pos ⟨rfl, by omega⟩
        rw [ea]
        exact ⟨rfl, _, c_84, f_74, rfl, o_85⟩
      · skip
        refine z_r_jm (ins := (.ifCond .le 39)) (len := 3) (t := 66) rfl rfl rfl rfl (ye_in (t := 102) rfl (by omega) (by omega) b_75) ?_
        refine z_r_ld (kk := z_isA) (ins := (.aload_n 0)) (len := 1) (t := 67) (i := 0) rfl rfl rfl rfl rfl (fun _ => rfl) l_12 rfl ?_
        refine z_r_pu (ins := (.iconst 0)) (len := 1) (t := 68) (st' := [ye_v 0, .ref aM]) rfl rfl rfl rfl rfl ?_
        have eW : yx_L v = [109, 99, 104, 119, 115, 110, 107, 112] := if_neg (by omega)
        refine ye_ca (ins := (.invokevirtual 214)) (kd := 1) (t := 71) rfl rfl (by decide) (z_argsv rfl rfl rfl (by omega) (Nat.le_of_ble_eq_true rfl) rfl (Nat.le_of_ble_eq_true rfl) (Nat.le_refl _) (Nat.le_refl _) (Or.inr (Nat.le_of_ble_eq_true rfl)) (Or.inr (z_atv (z_lkn fM c_67) rfl))) rfl rfl rfl ((yg_mall (lim := lim) (il := 0) (L := yx_L v) fM fB hx (by omega) (by omega) (by rw [eW]; exact Or.inr ⟨rfl, rfl⟩) 164).1 _ _ _ _ _ c_67 k_19 k_20 k_21 k_22 k_23 rfl rfl rfl c_70 (by omega) (by omega) (by omega) (by omega)) ?_
        rintro _ P_86 ⟨v_87, F_88, q_89, w_90, rfl, c_91, f_92, k_93, k_94, o_95, b_96, b_97, h_98⟩
        have d_100 := yf_bd (T := T) (L := yx_L v) (lim := lim) 164 0 0 0 (by omega)
        generalize er_99 : yf T lim (yx_L v) 164 0 0 0 = r_99 at h_98 d_100
        have c_101 := ye_kp o_95 (ye_n1 (ye_ne c_69 c_67 (by decide))) c_69
        have c_102 := ye_kp o_95 (ye_n1 (ye_ne c_70 c_67 (by decide))) c_70
        have c_103 := ye_kp o_95 (ye_n1 (ye_ne c_71 c_67 (by decide))) c_71
        have o_104 := ye_oth_tr o_72 o_95 (ye_s1 (List.mem_cons_self))
        have o_105 := ye_oth_tr o_73 o_95 (fun _ q => q)
        have f_106 : F_88 10 = .ref aB := (f_92 10 (by decide)).trans f_29
        have f_107 : F_88 11 = ye_v 0 := (f_92 11 (by decide)).trans rfl
        have f_108 : F_88 14 = ye_v 0 := (f_92 14 (by decide)).trans f_31
        have f_109 : F_88 15 = .ref aB := (f_92 15 (by decide)).trans k_19
        have f_110 : F_88 16 = ye_v n := (f_92 16 (by decide)).trans k_20
        have f_111 : F_88 17 = ye_v 40 := (f_92 17 (by decide)).trans k_21
        have f_112 : F_88 27 = .ref aA := (f_92 27 (by decide)).trans f_32
        have f_113 : F_88 28 = .ref aZ := (f_92 28 (by decide)).trans f_33
        have f_114 : F_88 29 = ye_v 0 := (f_92 29 (by decide)).trans rfl
        have f_115 : F_88 31 = ye_v ((-1)) := (f_92 31 (by decide)).trans rfl
        have f_116 : F_88 32 = ye_v ((-1)) := (f_92 32 (by decide)).trans rfl
        have f_117 := ye_fk_tr f_74 f_92 (by decide)
        have b_118 : -1 ≤ w_90 ∧ w_90 ≤ 80 := by omega
        refine z_r_pu (ins := .pop) (len := 1) (t := 72) rfl rfl rfl rfl rfl ?_
        refine z_r_ld (kk := z_isA) (ins := (.aload_n 0)) (len := 1) (t := 73) (i := 0) rfl rfl rfl rfl rfl (fun _ => rfl) l_12 rfl ?_
        refine z_r_rd (ins := (.getfield 153)) (len := 3) (t := 76) rfl rfl rfl rfl rfl (z_gfv (ci := 10) (k := 18) (v := ye_v q_89) rfl (z_lkn fM c_91) (by decide) (ye_flg rfl k_93)) ?_
        refine z_r_ld (kk := z_isI) (ins := (.iload_n 2)) (len := 1) (t := 77) (i := 2) rfl rfl rfl rfl rfl (fun _ => rfl) l_10 rfl ?_
        by_cases b_119 : n ≤ q_89
        · skip
          refine z_r_jm (ins := (.if_icmp .ge 11)) (len := 3) (t := 88) rfl rfl rfl rfl (ye_jy (t := 88) rfl (by omega) (by omega) (by omega) (by omega) b_119) ?_
          refine z_r_ld (kk := z_isA) (ins := (.aload_n 0)) (len := 1) (t := 89) (i := 0) rfl rfl rfl rfl rfl (fun _ => rfl) l_12 rfl ?_
          refine ye_ca (ins := (.invokevirtual 159)) (kd := 1) (t := 92) rfl rfl (by decide) (z_argsv rfl rfl rfl (by omega) (Nat.le_of_ble_eq_true rfl) rfl (Nat.le_of_ble_eq_true rfl) (Nat.le_refl _) (Nat.le_refl _) (Or.inr (Nat.le_of_ble_eq_true rfl)) (Or.inr (z_atv (z_lkn fM c_91) rfl))) rfl rfl rfl (ye_fine c_91 fM k_94 (by omega)) ?_
          rintro _ _ ⟨rfl, b_120, rfl, h_121⟩
          by_cases b_122 : b_120 ≠ 0
          · skip
            refine z_r_jm (ins := (.ifCond .ne 10)) (len := 3) (t := 102) rfl rfl rfl rfl (ye_iy (t := 102) rfl (by omega) (by omega) b_122) ?_
            refine z_r_pu (ins := (.iconst 0)) (len := 1) (t := 103) (st' := [ye_v 0]) rfl rfl rfl rfl rfl ?_
            refine z_r_is (kk := z_isI) (ins := (.istore_n 3)) (len := 1) (t := 104) (i := 3) rfl rfl rfl rfl rfl rfl rfl rfl (fun l l_123 k_124 => ?_)
            have l_125 := k_124 _ _ l_12 (by decide) (Or.inl (by decide))
            have l_126 := k_124 _ _ l_13 (by decide) (Or.inl (by decide))
            have l_127 := k_124 _ _ l_10 (by decide) (Or.inr (by show (1 : Nat) ≠ 2; decide))
            obtain ⟨hg, rv, hR, fR, hrl, nRB⟩ := hag (by omega)
            have hR9 := ye_kp o_105 (ye_n1 (ye_ne hR hM (by decide))) hR
            refine yg_cpL (P0 := _) (n := n) (rv := rv) fM (by exact f_106) (by exact f_112) fB hx fA hg fR nRB (by omega) (by omega) n.toNat (i := 0) (by omega) (by decide) c_91 c_102 c_101 hR9 hrl l_125 l_126 l_127 l_123 ye_oth_rf ?_
            intro l P7 g0 g1 g2 hM7 ho7
            have hZ7 := ye_kp ho7 (ye_n1 (ye_ne c_103 hR9 (by decide))) c_103
            have o7 := ye_oth_tr o_104 ho7 (fun b hb => by simp at hb ⊢; omega)
            refine z_r_ld (kk := z_isA) (ins := (.aload_n 0)) (len := 1) (t := 130) (i := 0) rfl rfl rfl rfl rfl (fun _ => rfl) g0 rfl ?_
            refine z_r_rd (ins := (.getfield 63)) (len := 3) (t := 133) rfl rfl rfl rfl rfl (z_gfv (ci := 10) (k := 28) (v := .ref aZ) rfl (z_lkn fM hM7) (by decide) (ye_flg rfl f_113)) ?_
            refine z_r_ld (kk := z_isI) (ins := (.iload_n 1)) (len := 1) (t := 134) (i := 1) rfl rfl rfl rfl rfl (fun _ => rfl) g1 rfl ?_
            refine z_r_ld (kk := z_isI) (ins := (.iload_n 2)) (len := 1) (t := 135) (i := 2) rfl rfl rfl rfl rfl (fun _ => rfl) g2 rfl ?_
            refine ye_r_wr (ins := .iastore) (len := 1) (t := 136) (a := aZ) (q := (103, zv.set (v).toNat (ye_v n))) rfl rfl rfl rfl rfl hZ7 (ye_as (t := 103) (nf := fun x => x) (p := v) (e := n) (e' := n) hZ7 (by omega) (by omega) (by omega) rfl) (fun P_128 c_129 o_130 => ?_)
            have c_131 := ye_kp o_130 (ye_n1 (ye_ne hM7 hZ7 (by decide))) hM7
            have o_132 := ye_oth_tr o7 o_130 (ye_s1 (List.mem_cons_of_mem _ (List.mem_cons_of_mem _ (List.mem_cons_self))))
            refine z_r_pu (ins := (.iconst 0)) (len := 1) (t := 137) (st' := [ye_v 0]) rfl rfl rfl rfl rfl ?_
            refine ye_ret (ins := .ireturn) rfl rfl rfl (ye_reti rfl) ?_
            have eR : yx T lim (yx_L v) = (r_99.1 && decide (lim ≤ r_99.2), r_99.2) := by
              unfold yx
              rw [if_neg (by omega), er_99]
            have q1 : r_99.1 = true ∧ q_89 = r_99.2 := by
              rcases h_98 with ⟨g1, g2, g3⟩ | ⟨g1, g2⟩
              · exact ⟨g2, g3⟩
              · omega
            have ea : yx_a T n v = 0 := by
              unfold yx_a
              rw [if_neg (by omega), el]
              rw [eR, q1.1, decide_eq_true (by omega)]
              exact if_pos ⟨rfl, by omega⟩
            rw [ea]
            exact ⟨rfl, _, c_131, f_117, f_107, o_132⟩
          · skip
            refine z_r_jm (ins := (.ifCond .ne 10)) (len := 3) (t := 95) rfl rfl rfl rfl (ye_in (t := 102) rfl (by omega) (by omega) b_122) ?_
            refine z_r_pu (ins := (.iconst (-1))) (len := 1) (t := 96) (st' := [ye_v ((-1))]) rfl rfl rfl rfl rfl ?_
            refine z_r_ld (kk := z_isA) (ins := (.aload_n 0)) (len := 1) (t := 97) (i := 0) rfl rfl rfl rfl rfl (fun _ => rfl) l_12 rfl ?_
            refine z_r_rd (ins := (.getfield 156)) (len := 3) (t := 100) rfl rfl rfl rfl rfl (z_gfv (ci := 10) (k := 19) (v := ye_v w_90) rfl (z_lkn fM c_91) (by decide) (ye_flg rfl k_94)) ?_
            refine z_r_pu (ins := .isub) (len := 1) (t := 101) rfl rfl rfl rfl ye_sub ?_
            refine ye_ret (ins := .ireturn) rfl rfl rfl (ye_reti rfl) ?_
            have eR : yx T lim (yx_L v) = (r_99.1 && decide (lim ≤ r_99.2), r_99.2) := by
              unfold yx
              rw [if_neg (by omega), er_99]
            have kw : ¬ ((r_99.1 && decide (lim ≤ r_99.2)) = true ∧ n ≤ 40) := by
              rintro ⟨u1, u2⟩
              rw [Bool.and_eq_true] at u1
              have u3 := of_decide_eq_true u1.2
              rcases h_98 with ⟨g1, g2, g3⟩ | ⟨g1, g2⟩
              · omega
              · rw [g1] at u1; exact absurd u1.1 (by decide)
            have er2 : (-1) - w_90 = -1 - r_99.2 := by
              rcases h_98 with ⟨g1, g2, g3⟩ | ⟨g1, g2⟩
              · omega
              · omega
            rw [er2]
            have ea : yx_a T n v = -1 - r_99.2 := by
              unfold yx_a
              rw [if_neg (by omega), el]
              rw [eR]
              exact if_neg kw
            rw [ea]
            exact ⟨rfl, _, c_91, f_117, f_107, o_104⟩
        · skip
          refine z_r_jm (ins := (.if_icmp .ge 11)) (len := 3) (t := 80) rfl rfl rfl rfl (ye_jn (t := 88) rfl (by omega) (by omega) (by omega) (by omega) b_119) ?_
          refine z_r_ld (kk := z_isA) (ins := (.aload_n 0)) (len := 1) (t := 81) (i := 0) rfl rfl rfl rfl rfl (fun _ => rfl) l_12 rfl ?_
          refine z_r_ld (kk := z_isA) (ins := (.aload_n 0)) (len := 1) (t := 82) (i := 0) rfl rfl rfl rfl rfl (fun _ => rfl) l_12 rfl ?_
          refine z_r_rd (ins := (.getfield 153)) (len := 3) (t := 85) rfl rfl rfl rfl rfl (z_gfv (ci := 10) (k := 18) (v := ye_v q_89) rfl (z_lkn fM c_91) (by decide) (ye_flg rfl k_93)) ?_
          refine ye_cav (ins := (.invokevirtual 171)) (kd := 1) (t := 88) rfl rfl (by decide) (z_argsv rfl rfl rfl (by omega) (Nat.le_of_ble_eq_true rfl) rfl (Nat.le_of_ble_eq_true rfl) (Nat.le_refl _) (Nat.le_refl _) (Or.inr (Nat.le_of_ble_eq_true rfl)) (Or.inr (z_atv (z_lkn fM c_91) rfl))) rfl rfl rfl rfl (ye_flt c_91 fM k_94 (by omega) (by omega)) ?_
          rintro _ P_135 ⟨F_133, w_134, c_136, f_137, k_138, o_139, h_140⟩
          have c_141 := ye_kp o_139 (ye_n1 (ye_ne c_101 c_91 (by decide))) c_101
          have c_142 := ye_kp o_139 (ye_n1 (ye_ne c_102 c_91 (by decide))) c_102
          have c_143 := ye_kp o_139 (ye_n1 (ye_ne c_103 c_91 (by decide))) c_103
          have o_144 := ye_oth_tr o_104 o_139 (ye_s1 (List.mem_cons_self))
          have o_145 := ye_oth_tr o_105 o_139 (fun _ q => q)
          have f_146 : F_133 10 = .ref aB := (f_137 10 (by decide)).trans f_106
          have f_147 : F_133 11 = ye_v 0 := (f_137 11 (by decide)).trans f_107
          have f_148 : F_133 14 = ye_v 0 := (f_137 14 (by decide)).trans f_108
          have f_149 : F_133 15 = .ref aB := (f_137 15 (by decide)).trans f_109
          have f_150 : F_133 16 = ye_v n := (f_137 16 (by decide)).trans f_110
          have f_151 : F_133 17 = ye_v 40 := (f_137 17 (by decide)).trans f_111
          have f_152 : F_133 18 = ye_v q_89 := (f_137 18 (by decide)).trans k_93
          have f_153 : F_133 27 = .ref aA := (f_137 27 (by decide)).trans f_112
          have f_154 : F_133 28 = .ref aZ := (f_137 28 (by decide)).trans f_113
          have f_155 : F_133 29 = ye_v 0 := (f_137 29 (by decide)).trans f_114
          have f_156 : F_133 31 = ye_v ((-1)) := (f_137 31 (by decide)).trans f_115
          have f_157 : F_133 32 = ye_v ((-1)) := (f_137 32 (by decide)).trans f_116
          have f_158 := ye_fk_tr f_117 f_137 (by decide)
          refine z_r_ld (kk := z_isA) (ins := (.aload_n 0)) (len := 1) (t := 89) (i := 0) rfl rfl rfl rfl rfl (fun _ => rfl) l_12 rfl ?_
          refine ye_ca (ins := (.invokevirtual 159)) (kd := 1) (t := 92) rfl rfl (by decide) (z_argsv rfl rfl rfl (by omega) (Nat.le_of_ble_eq_true rfl) rfl (Nat.le_of_ble_eq_true rfl) (Nat.le_refl _) (Nat.le_refl _) (Or.inr (Nat.le_of_ble_eq_true rfl)) (Or.inr (z_atv (z_lkn fM c_136) rfl))) rfl rfl rfl (ye_fine c_136 fM k_138 (by omega)) ?_
          rintro _ _ ⟨rfl, b_159, rfl, h_160⟩
          by_cases b_161 : b_159 ≠ 0
          · skip
            refine z_r_jm (ins := (.ifCond .ne 10)) (len := 3) (t := 102) rfl rfl rfl rfl (ye_iy (t := 102) rfl (by omega) (by omega) b_161) ?_
            refine z_r_pu (ins := (.iconst 0)) (len := 1) (t := 103) (st' := [ye_v 0]) rfl rfl rfl rfl rfl ?_
            refine z_r_is (kk := z_isI) (ins := (.istore_n 3)) (len := 1) (t := 104) (i := 3) rfl rfl rfl rfl rfl rfl rfl rfl (fun l l_162 k_163 => ?_)
            have l_164 := k_163 _ _ l_12 (by decide) (Or.inl (by decide))
            have l_165 := k_163 _ _ l_13 (by decide) (Or.inl (by decide))
            have l_166 := k_163 _ _ l_10 (by decide) (Or.inr (by show (1 : Nat) ≠ 2; decide))
            obtain ⟨hg, rv, hR, fR, hrl, nRB⟩ := hag (by omega)
            have hR9 := ye_kp o_145 (ye_n1 (ye_ne hR hM (by decide))) hR
            refine yg_cpL (P0 := _) (n := n) (rv := rv) fM (by exact f_146) (by exact f_153) fB hx fA hg fR nRB (by omega) (by omega) n.toNat (i := 0) (by omega) (by decide) c_136 c_142 c_141 hR9 hrl l_164 l_165 l_166 l_162 ye_oth_rf ?_
            intro l P7 g0 g1 g2 hM7 ho7
            have hZ7 := ye_kp ho7 (ye_n1 (ye_ne c_143 hR9 (by decide))) c_143
            have o7 := ye_oth_tr o_144 ho7 (fun b hb => by simp at hb ⊢; omega)
            refine z_r_ld (kk := z_isA) (ins := (.aload_n 0)) (len := 1) (t := 130) (i := 0) rfl rfl rfl rfl rfl (fun _ => rfl) g0 rfl ?_
            refine z_r_rd (ins := (.getfield 63)) (len := 3) (t := 133) rfl rfl rfl rfl rfl (z_gfv (ci := 10) (k := 28) (v := .ref aZ) rfl (z_lkn fM hM7) (by decide) (ye_flg rfl f_154)) ?_
            refine z_r_ld (kk := z_isI) (ins := (.iload_n 1)) (len := 1) (t := 134) (i := 1) rfl rfl rfl rfl rfl (fun _ => rfl) g1 rfl ?_
            refine z_r_ld (kk := z_isI) (ins := (.iload_n 2)) (len := 1) (t := 135) (i := 2) rfl rfl rfl rfl rfl (fun _ => rfl) g2 rfl ?_
            refine ye_r_wr (ins := .iastore) (len := 1) (t := 136) (a := aZ) (q := (103, zv.set (v).toNat (ye_v n))) rfl rfl rfl rfl rfl hZ7 (ye_as (t := 103) (nf := fun x => x) (p := v) (e := n) (e' := n) hZ7 (by omega) (by omega) (by omega) rfl) (fun P_167 c_168 o_169 => ?_)
            have c_170 := ye_kp o_169 (ye_n1 (ye_ne hM7 hZ7 (by decide))) hM7
            have o_171 := ye_oth_tr o7 o_169 (ye_s1 (List.mem_cons_of_mem _ (List.mem_cons_of_mem _ (List.mem_cons_self))))
            refine z_r_pu (ins := (.iconst 0)) (len := 1) (t := 137) (st' := [ye_v 0]) rfl rfl rfl rfl rfl ?_
            refine ye_ret (ins := .ireturn) rfl rfl rfl (ye_reti rfl) ?_
            have eR : yx T lim (yx_L v) = (r_99.1 && decide (lim ≤ r_99.2), r_99.2) := by
              unfold yx
              rw [if_neg (by omega), er_99]
            have q1 : r_99.1 = true ∧ q_89 = r_99.2 := by
              rcases h_98 with ⟨g1, g2, g3⟩ | ⟨g1, g2⟩
              · exact ⟨g2, g3⟩
              · omega
            have ea : yx_a T n v = 0 := by
              unfold yx_a
              rw [if_neg (by omega), el]
              rw [eR, q1.1, decide_eq_true (by omega)]
              exact if_pos ⟨rfl, by omega⟩
            rw [ea]
            exact ⟨rfl, _, c_170, f_158, f_147, o_171⟩
          · skip
            refine z_r_jm (ins := (.ifCond .ne 10)) (len := 3) (t := 95) rfl rfl rfl rfl (ye_in (t := 102) rfl (by omega) (by omega) b_161) ?_
            refine z_r_pu (ins := (.iconst (-1))) (len := 1) (t := 96) (st' := [ye_v ((-1))]) rfl rfl rfl rfl rfl ?_
            refine z_r_ld (kk := z_isA) (ins := (.aload_n 0)) (len := 1) (t := 97) (i := 0) rfl rfl rfl rfl rfl (fun _ => rfl) l_12 rfl ?_
            refine z_r_rd (ins := (.getfield 156)) (len := 3) (t := 100) rfl rfl rfl rfl rfl (z_gfv (ci := 10) (k := 19) (v := ye_v w_134) rfl (z_lkn fM c_136) (by decide) (ye_flg rfl k_138)) ?_
            refine z_r_pu (ins := .isub) (len := 1) (t := 101) rfl rfl rfl rfl ye_sub ?_
            refine ye_ret (ins := .ireturn) rfl rfl rfl (ye_reti rfl) ?_
            have eR : yx T lim (yx_L v) = (r_99.1 && decide (lim ≤ r_99.2), r_99.2) := by
              unfold yx
              rw [if_neg (by omega), er_99]
            have kw : ¬ ((r_99.1 && decide (lim ≤ r_99.2)) = true ∧ n ≤ 40) := by
              rintro ⟨u1, u2⟩
              rw [Bool.and_eq_true] at u1
              have u3 := of_decide_eq_true u1.2
              rcases h_98 with ⟨g1, g2, g3⟩ | ⟨g1, g2⟩
              · omega
              · rw [g1] at u1; exact absurd u1.1 (by decide)
            have er2 : (-1) - w_134 = -1 - r_99.2 := by
              rcases h_98 with ⟨g1, g2, g3⟩ | ⟨g1, g2⟩
              · omega
              · omega
            rw [er2]
            have ea : yx_a T n v = -1 - r_99.2 := by
              unfold yx_a
              rw [if_neg (by omega), el]
              rw [eR]
              exact if_neg kw
            rw [ea]
            exact ⟨rfl, _, c_136, f_158, f_147, o_144⟩
    · skip
      refine z_r_jm (ins := (.if_icmp .ne 7)) (len := 3) (t := 44) rfl rfl rfl rfl (ye_jn (t := 48) rfl (by omega) (by omega) (by omega) (by omega) b_47) ?_
      refine z_r_pu (ins := (.iconst 1)) (len := 1) (t := 45) (st' := [ye_v 1, .ref aM]) rfl rfl rfl rfl rfl ?_
      refine z_r_jm (ins := (.goto 4)) (len := 3) (t := 49) rfl rfl rfl rfl (z_gty rfl) ?_
      refine ye_r_wr (ins := (.putfield 217)) (len := 3) (t := 52) (a := aM) (q := (10, ye_fl (ye_up (ye_up F_14 11 (ye_v 0)) 29 (ye_v 1)))) rfl rfl rfl rfl rfl c_36 (ye_pfm (k := 29) rfl c_36 rfl rfl (ye_b01 (by omega)) rfl) (fun P_172 c_173 o_174 => ?_)
      have c_175 := ye_kp o_174 (ye_n1 (ye_ne c_38 c_36 (by decide))) c_38
      have c_176 := ye_kp o_174 (ye_n1 (ye_ne c_39 c_36 (by decide))) c_39
      have c_177 := ye_kp o_174 (ye_n1 (ye_ne c_40 c_36 (by decide))) c_40
      have o_178 := ye_oth_tr o_41 o_174 (ye_s1 (List.mem_cons_self))
      have o_179 := ye_oth_tr o_42 o_174 (fun _ q => q)
      have f_180 := ye_fk_up (j := 29) (v := ye_v 1) f_43 (List.mem_cons_of_mem _ (List.mem_cons_of_mem _ (List.mem_cons_of_mem _ (List.mem_cons_of_mem _ (List.mem_cons_of_mem _ (List.mem_cons_of_mem _ (List.mem_cons_of_mem _ (List.mem_cons_self))))))))
      refine z_r_ld (kk := z_isA) (ins := (.aload_n 0)) (len := 1) (t := 53) (i := 0) rfl rfl rfl rfl rfl (fun _ => rfl) l_12 rfl ?_
      refine z_r_pu (ins := (.iconst (-1))) (len := 1) (t := 54) (st' := [ye_v ((-1)), .ref aM]) rfl rfl rfl rfl rfl ?_
      refine ye_r_wr (ins := (.putfield 66)) (len := 3) (t := 57) (a := aM) (q := (10, ye_fl (ye_up (ye_up (ye_up F_14 11 (ye_v 0)) 29 (ye_v 1)) 31 (ye_v ((-1)))))) rfl rfl rfl rfl rfl c_173 (ye_pfm (k := 31) rfl c_173 rfl rfl rfl rfl) (fun P_181 c_182 o_183 => ?_)
      have c_184 := ye_kp o_183 (ye_n1 (ye_ne c_175 c_173 (by decide))) c_175
      have c_185 := ye_kp o_183 (ye_n1 (ye_ne c_176 c_173 (by decide))) c_176
      have c_186 := ye_kp o_183 (ye_n1 (ye_ne c_177 c_173 (by decide))) c_177
      have o_187 := ye_oth_tr o_178 o_183 (ye_s1 (List.mem_cons_self))
      have o_188 := ye_oth_tr o_179 o_183 (fun _ q => q)
      have f_189 := ye_fk_up (j := 31) (v := ye_v ((-1))) f_180 (List.mem_cons_of_mem _ (List.mem_cons_of_mem _ (List.mem_cons_of_mem _ (List.mem_cons_of_mem _ (List.mem_cons_of_mem _ (List.mem_cons_of_mem _ (List.mem_cons_of_mem _ (List.mem_cons_of_mem _ (List.mem_cons_self)))))))))
      refine z_r_ld (kk := z_isA) (ins := (.aload_n 0)) (len := 1) (t := 58) (i := 0) rfl rfl rfl rfl rfl (fun _ => rfl) l_12 rfl ?_
      refine z_r_pu (ins := (.iconst (-1))) (len := 1) (t := 59) (st' := [ye_v ((-1)), .ref aM]) rfl rfl rfl rfl rfl ?_
      refine ye_r_wr (ins := (.putfield 69)) (len := 3) (t := 62) (a := aM) (q := (10, ye_fl (ye_up (ye_up (ye_up (ye_up F_14 11 (ye_v 0)) 29 (ye_v 1)) 31 (ye_v ((-1)))) 32 (ye_v ((-1)))))) rfl rfl rfl rfl rfl c_182 (ye_pfm (k := 32) rfl c_182 rfl rfl rfl rfl) (fun P_190 c_191 o_192 => ?_)
      have c_193 := ye_kp o_192 (ye_n1 (ye_ne c_184 c_182 (by decide))) c_184
      have c_194 := ye_kp o_192 (ye_n1 (ye_ne c_185 c_182 (by decide))) c_185
      have c_195 := ye_kp o_192 (ye_n1 (ye_ne c_186 c_182 (by decide))) c_186
      have o_196 := ye_oth_tr o_187 o_192 (ye_s1 (List.mem_cons_self))
      have o_197 := ye_oth_tr o_188 o_192 (fun _ q => q)
      have f_198 := ye_fk_up (j := 32) (v := ye_v ((-1))) f_189 (List.mem_cons_of_mem _ (List.mem_cons_of_mem _ (List.mem_cons_of_mem _ (List.mem_cons_of_mem _ (List.mem_cons_of_mem _ (List.mem_cons_of_mem _ (List.mem_cons_of_mem _ (List.mem_cons_of_mem _ (List.mem_cons_of_mem _ (List.mem_cons_self))))))))))
      refine z_r_ld (kk := z_isI) (ins := (.iload_n 2)) (len := 1) (t := 63) (i := 2) rfl rfl rfl rfl rfl (fun _ => rfl) l_10 rfl ?_
      by_cases b_199 : n ≤ 0
      · skip
        refine z_r_jm (ins := (.ifCond .le 39)) (len := 3) (t := 102) rfl rfl rfl rfl (ye_iy (t := 102) rfl (by omega) (by omega) b_199) ?_
        refine z_r_pu (ins := (.iconst 0)) (len := 1) (t := 103) (st' := [ye_v 0]) rfl rfl rfl rfl rfl ?_
        refine z_r_is (kk := z_isI) (ins := (.istore_n 3)) (len := 1) (t := 104) (i := 3) rfl rfl rfl rfl rfl rfl rfl rfl (fun l l_200 k_201 => ?_)
        have l_202 := k_201 _ _ l_12 (by decide) (Or.inl (by decide))
        have l_203 := k_201 _ _ l_13 (by decide) (Or.inl (by decide))
        have l_204 := k_201 _ _ l_10 (by decide) (Or.inr (by show (1 : Nat) ≠ 2; decide))
        obtain ⟨hg, rv, hR, fR, hrl, nRB⟩ := hag (by omega)
        have hR9 := ye_kp o_197 (ye_n1 (ye_ne hR hM (by decide))) hR
        refine yg_cpL (P0 := _) (n := n) (rv := rv) fM (by exact f_29) (by exact f_32) fB hx fA hg fR nRB (by omega) (by omega) n.toNat (i := 0) (by omega) (by decide) c_191 c_194 c_193 hR9 hrl l_202 l_203 l_204 l_200 ye_oth_rf ?_
        intro l P7 g0 g1 g2 hM7 ho7
        have hZ7 := ye_kp ho7 (ye_n1 (ye_ne c_195 hR9 (by decide))) c_195
        have o7 := ye_oth_tr o_196 ho7 (fun b hb => by simp at hb ⊢; omega)
        refine z_r_ld (kk := z_isA) (ins := (.aload_n 0)) (len := 1) (t := 130) (i := 0) rfl rfl rfl rfl rfl (fun _ => rfl) g0 rfl ?_
        refine z_r_rd (ins := (.getfield 63)) (len := 3) (t := 133) rfl rfl rfl rfl rfl (z_gfv (ci := 10) (k := 28) (v := .ref aZ) rfl (z_lkn fM hM7) (by decide) (ye_flg rfl f_33)) ?_
        refine z_r_ld (kk := z_isI) (ins := (.iload_n 1)) (len := 1) (t := 134) (i := 1) rfl rfl rfl rfl rfl (fun _ => rfl) g1 rfl ?_
        refine z_r_ld (kk := z_isI) (ins := (.iload_n 2)) (len := 1) (t := 135) (i := 2) rfl rfl rfl rfl rfl (fun _ => rfl) g2 rfl ?_
        refine ye_r_wr (ins := .iastore) (len := 1) (t := 136) (a := aZ) (q := (103, zv.set (v).toNat (ye_v n))) rfl rfl rfl rfl rfl hZ7 (ye_as (t := 103) (nf := fun x => x) (p := v) (e := n) (e' := n) hZ7 (by omega) (by omega) (by omega) rfl) (fun P_205 c_206 o_207 => ?_)
        have c_208 := ye_kp o_207 (ye_n1 (ye_ne hM7 hZ7 (by decide))) hM7
        have o_209 := ye_oth_tr o7 o_207 (ye_s1 (List.mem_cons_of_mem _ (List.mem_cons_of_mem _ (List.mem_cons_self))))
        refine z_r_pu (ins := (.iconst 0)) (len := 1) (t := 137) (st' := [ye_v 0]) rfl rfl rfl rfl rfl ?_
        refine ye_ret (ins := .ireturn) rfl rfl rfl (ye_reti rfl) ?_
        have eR : yx T lim (yx_L v) = (true, 0) := if_pos (by omega)
        have ea : yx_a T n v = 0 := by
          unfold yx_a
          rw [if_neg (by omega), el]
          rw [eR]
          exact if_pos ⟨rfl, by omega⟩
        rw [ea]
        exact ⟨rfl, _, c_208, f_198, rfl, o_209⟩
      · skip
        refine z_r_jm (ins := (.ifCond .le 39)) (len := 3) (t := 66) rfl rfl rfl rfl (ye_in (t := 102) rfl (by omega) (by omega) b_199) ?_
        refine z_r_ld (kk := z_isA) (ins := (.aload_n 0)) (len := 1) (t := 67) (i := 0) rfl rfl rfl rfl rfl (fun _ => rfl) l_12 rfl ?_
        refine z_r_pu (ins := (.iconst 0)) (len := 1) (t := 68) (st' := [ye_v 0, .ref aM]) rfl rfl rfl rfl rfl ?_
        have eW : yx_L v = [119, 122, 100, 105, 107] := if_pos (by omega)
        refine ye_ca (ins := (.invokevirtual 214)) (kd := 1) (t := 71) rfl rfl (by decide) (z_argsv rfl rfl rfl (by omega) (Nat.le_of_ble_eq_true rfl) rfl (Nat.le_of_ble_eq_true rfl) (Nat.le_refl _) (Nat.le_refl _) (Or.inr (Nat.le_of_ble_eq_true rfl)) (Or.inr (z_atv (z_lkn fM c_191) rfl))) rfl rfl rfl ((yg_mall (lim := lim) (il := 1) (L := yx_L v) fM fB hx (by omega) (by omega) (by rw [eW]; exact Or.inl ⟨rfl, rfl⟩) 164).1 _ _ _ _ _ c_191 k_19 k_20 k_21 k_22 k_23 rfl rfl rfl c_194 (by omega) (by omega) (by omega) (by omega)) ?_
        rintro _ P_210 ⟨v_211, F_212, q_213, w_214, rfl, c_215, f_216, k_217, k_218, o_219, b_220, b_221, h_222⟩
        have d_224 := yf_bd (T := T) (L := yx_L v) (lim := lim) 164 0 0 0 (by omega)
        generalize er_223 : yf T lim (yx_L v) 164 0 0 0 = r_223 at h_222 d_224
        have c_225 := ye_kp o_219 (ye_n1 (ye_ne c_193 c_191 (by decide))) c_193
        have c_226 := ye_kp o_219 (ye_n1 (ye_ne c_194 c_191 (by decide))) c_194
        have c_227 := ye_kp o_219 (ye_n1 (ye_ne c_195 c_191 (by decide))) c_195
        have o_228 := ye_oth_tr o_196 o_219 (ye_s1 (List.mem_cons_self))
        have o_229 := ye_oth_tr o_197 o_219 (fun _ q => q)
        have f_230 : F_212 10 = .ref aB := (f_216 10 (by decide)).trans f_29
        have f_231 : F_212 11 = ye_v 0 := (f_216 11 (by decide)).trans rfl
        have f_232 : F_212 14 = ye_v 0 := (f_216 14 (by decide)).trans f_31
        have f_233 : F_212 15 = .ref aB := (f_216 15 (by decide)).trans k_19
        have f_234 : F_212 16 = ye_v n := (f_216 16 (by decide)).trans k_20
        have f_235 : F_212 17 = ye_v 40 := (f_216 17 (by decide)).trans k_21
        have f_236 : F_212 27 = .ref aA := (f_216 27 (by decide)).trans f_32
        have f_237 : F_212 28 = .ref aZ := (f_216 28 (by decide)).trans f_33
        have f_238 : F_212 29 = ye_v 1 := (f_216 29 (by decide)).trans rfl
        have f_239 : F_212 31 = ye_v ((-1)) := (f_216 31 (by decide)).trans rfl
        have f_240 : F_212 32 = ye_v ((-1)) := (f_216 32 (by decide)).trans rfl
        have f_241 := ye_fk_tr f_198 f_216 (by decide)
        have b_242 : -1 ≤ w_214 ∧ w_214 ≤ 80 := by omega
        refine z_r_pu (ins := .pop) (len := 1) (t := 72) rfl rfl rfl rfl rfl ?_
        refine z_r_ld (kk := z_isA) (ins := (.aload_n 0)) (len := 1) (t := 73) (i := 0) rfl rfl rfl rfl rfl (fun _ => rfl) l_12 rfl ?_
        refine z_r_rd (ins := (.getfield 153)) (len := 3) (t := 76) rfl rfl rfl rfl rfl (z_gfv (ci := 10) (k := 18) (v := ye_v q_213) rfl (z_lkn fM c_215) (by decide) (ye_flg rfl k_217)) ?_
        refine z_r_ld (kk := z_isI) (ins := (.iload_n 2)) (len := 1) (t := 77) (i := 2) rfl rfl rfl rfl rfl (fun _ => rfl) l_10 rfl ?_
        by_cases b_243 : n ≤ q_213
        · skip
          refine z_r_jm (ins := (.if_icmp .ge 11)) (len := 3) (t := 88) rfl rfl rfl rfl (ye_jy (t := 88) rfl (by omega) (by omega) (by omega) (by omega) b_243) ?_
          refine z_r_ld (kk := z_isA) (ins := (.aload_n 0)) (len := 1) (t := 89) (i := 0) rfl rfl rfl rfl rfl (fun _ => rfl) l_12 rfl ?_
          refine ye_ca (ins := (.invokevirtual 159)) (kd := 1) (t := 92) rfl rfl (by decide) (z_argsv rfl rfl rfl (by omega) (Nat.le_of_ble_eq_true rfl) rfl (Nat.le_of_ble_eq_true rfl) (Nat.le_refl _) (Nat.le_refl _) (Or.inr (Nat.le_of_ble_eq_true rfl)) (Or.inr (z_atv (z_lkn fM c_215) rfl))) rfl rfl rfl (ye_fine c_215 fM k_218 (by omega)) ?_
          rintro _ _ ⟨rfl, b_244, rfl, h_245⟩
          by_cases b_246 : b_244 ≠ 0
          · skip
            refine z_r_jm (ins := (.ifCond .ne 10)) (len := 3) (t := 102) rfl rfl rfl rfl (ye_iy (t := 102) rfl (by omega) (by omega) b_246) ?_
            refine z_r_pu (ins := (.iconst 0)) (len := 1) (t := 103) (st' := [ye_v 0]) rfl rfl rfl rfl rfl ?_
            refine z_r_is (kk := z_isI) (ins := (.istore_n 3)) (len := 1) (t := 104) (i := 3) rfl rfl rfl rfl rfl rfl rfl rfl (fun l l_247 k_248 => ?_)
            have l_249 := k_248 _ _ l_12 (by decide) (Or.inl (by decide))
            have l_250 := k_248 _ _ l_13 (by decide) (Or.inl (by decide))
            have l_251 := k_248 _ _ l_10 (by decide) (Or.inr (by show (1 : Nat) ≠ 2; decide))
            obtain ⟨hg, rv, hR, fR, hrl, nRB⟩ := hag (by omega)
            have hR9 := ye_kp o_229 (ye_n1 (ye_ne hR hM (by decide))) hR
            refine yg_cpL (P0 := _) (n := n) (rv := rv) fM (by exact f_230) (by exact f_236) fB hx fA hg fR nRB (by omega) (by omega) n.toNat (i := 0) (by omega) (by decide) c_215 c_226 c_225 hR9 hrl l_249 l_250 l_251 l_247 ye_oth_rf ?_
            intro l P7 g0 g1 g2 hM7 ho7
            have hZ7 := ye_kp ho7 (ye_n1 (ye_ne c_227 hR9 (by decide))) c_227
            have o7 := ye_oth_tr o_228 ho7 (fun b hb => by simp at hb ⊢; omega)
            refine z_r_ld (kk := z_isA) (ins := (.aload_n 0)) (len := 1) (t := 130) (i := 0) rfl rfl rfl rfl rfl (fun _ => rfl) g0 rfl ?_
            refine z_r_rd (ins := (.getfield 63)) (len := 3) (t := 133) rfl rfl rfl rfl rfl (z_gfv (ci := 10) (k := 28) (v := .ref aZ) rfl (z_lkn fM hM7) (by decide) (ye_flg rfl f_237)) ?_
            refine z_r_ld (kk := z_isI) (ins := (.iload_n 1)) (len := 1) (t := 134) (i := 1) rfl rfl rfl rfl rfl (fun _ => rfl) g1 rfl ?_
            refine z_r_ld (kk := z_isI) (ins := (.iload_n 2)) (len := 1) (t := 135) (i := 2) rfl rfl rfl rfl rfl (fun _ => rfl) g2 rfl ?_
            refine ye_r_wr (ins := .iastore) (len := 1) (t := 136) (a := aZ) (q := (103, zv.set (v).toNat (ye_v n))) rfl rfl rfl rfl rfl hZ7 (ye_as (t := 103) (nf := fun x => x) (p := v) (e := n) (e' := n) hZ7 (by omega) (by omega) (by omega) rfl) (fun P_252 c_253 o_254 => ?_)
            have c_255 := ye_kp o_254 (ye_n1 (ye_ne hM7 hZ7 (by decide))) hM7
            have o_256 := ye_oth_tr o7 o_254 (ye_s1 (List.mem_cons_of_mem _ (List.mem_cons_of_mem _ (List.mem_cons_self))))
            refine z_r_pu (ins := (.iconst 0)) (len := 1) (t := 137) (st' := [ye_v 0]) rfl rfl rfl rfl rfl ?_
            refine ye_ret (ins := .ireturn) rfl rfl rfl (ye_reti rfl) ?_
            have eR : yx T lim (yx_L v) = (r_223.1 && decide (lim ≤ r_223.2), r_223.2) := by
              unfold yx
              rw [if_neg (by omega), er_223]
            have q1 : r_223.1 = true ∧ q_213 = r_223.2 := by
              rcases h_222 with ⟨g1, g2, g3⟩ | ⟨g1, g2⟩
              · exact ⟨g2, g3⟩
              · omega
            have ea : yx_a T n v = 0 := by
              unfold yx_a
              rw [if_neg (by omega), el]
              rw [eR, q1.1, decide_eq_true (by omega)]
              exact if_pos ⟨rfl, by omega⟩
            rw [ea]
            exact ⟨rfl, _, c_255, f_241, f_231, o_256⟩
          · skip
            refine z_r_jm (ins := (.ifCond .ne 10)) (len := 3) (t := 95) rfl rfl rfl rfl (ye_in (t := 102) rfl (by omega) (by omega) b_246) ?_
            refine z_r_pu (ins := (.iconst (-1))) (len := 1) (t := 96) (st' := [ye_v ((-1))]) rfl rfl rfl rfl rfl ?_
            refine z_r_ld (kk := z_isA) (ins := (.aload_n 0)) (len := 1) (t := 97) (i := 0) rfl rfl rfl rfl rfl (fun _ => rfl) l_12 rfl ?_
            refine z_r_rd (ins := (.getfield 156)) (len := 3) (t := 100) rfl rfl rfl rfl rfl (z_gfv (ci := 10) (k := 19) (v := ye_v w_214) rfl (z_lkn fM c_215) (by decide) (ye_flg rfl k_218)) ?_
            refine z_r_pu (ins := .isub) (len := 1) (t := 101) rfl rfl rfl rfl ye_sub ?_
            refine ye_ret (ins := .ireturn) rfl rfl rfl (ye_reti rfl) ?_
            have eR : yx T lim (yx_L v) = (r_223.1 && decide (lim ≤ r_223.2), r_223.2) := by
              unfold yx
              rw [if_neg (by omega), er_223]
            have kw : ¬ ((r_223.1 && decide (lim ≤ r_223.2)) = true ∧ n ≤ 40) := by
              rintro ⟨u1, u2⟩
              rw [Bool.and_eq_true] at u1
              have u3 := of_decide_eq_true u1.2
              rcases h_222 with ⟨g1, g2, g3⟩ | ⟨g1, g2⟩
              · omega
              · rw [g1] at u1; exact absurd u1.1 (by decide)
            have er2 : (-1) - w_214 = -1 - r_223.2 := by
              rcases h_222 with ⟨g1, g2, g3⟩ | ⟨g1, g2⟩
              · omega
              · omega
            rw [er2]
            have ea : yx_a T n v = -1 - r_223.2 := by
              unfold yx_a
              rw [if_neg (by omega), el]
              rw [eR]
              exact if_neg kw
            rw [ea]
            exact ⟨rfl, _, c_215, f_241, f_231, o_228⟩
        · skip
          refine z_r_jm (ins := (.if_icmp .ge 11)) (len := 3) (t := 80) rfl rfl rfl rfl (ye_jn (t := 88) rfl (by omega) (by omega) (by omega) (by omega) b_243) ?_
          refine z_r_ld (kk := z_isA) (ins := (.aload_n 0)) (len := 1) (t := 81) (i := 0) rfl rfl rfl rfl rfl (fun _ => rfl) l_12 rfl ?_
          refine z_r_ld (kk := z_isA) (ins := (.aload_n 0)) (len := 1) (t := 82) (i := 0) rfl rfl rfl rfl rfl (fun _ => rfl) l_12 rfl ?_
          refine z_r_rd (ins := (.getfield 153)) (len := 3) (t := 85) rfl rfl rfl rfl rfl (z_gfv (ci := 10) (k := 18) (v := ye_v q_213) rfl (z_lkn fM c_215) (by decide) (ye_flg rfl k_217)) ?_
          refine ye_cav (ins := (.invokevirtual 171)) (kd := 1) (t := 88) rfl rfl (by decide) (z_argsv rfl rfl rfl (by omega) (Nat.le_of_ble_eq_true rfl) rfl (Nat.le_of_ble_eq_true rfl) (Nat.le_refl _) (Nat.le_refl _) (Or.inr (Nat.le_of_ble_eq_true rfl)) (Or.inr (z_atv (z_lkn fM c_215) rfl))) rfl rfl rfl rfl (ye_flt c_215 fM k_218 (by omega) (by omega)) ?_
          rintro _ P_259 ⟨F_257, w_258, c_260, f_261, k_262, o_263, h_264⟩
          have c_265 := ye_kp o_263 (ye_n1 (ye_ne c_225 c_215 (by decide))) c_225
          have c_266 := ye_kp o_263 (ye_n1 (ye_ne c_226 c_215 (by decide))) c_226
          have c_267 := ye_kp o_263 (ye_n1 (ye_ne c_227 c_215 (by decide))) c_227
          have o_268 := ye_oth_tr o_228 o_263 (ye_s1 (List.mem_cons_self))
          have o_269 := ye_oth_tr o_229 o_263 (fun _ q => q)
          have f_270 : F_257 10 = .ref aB := (f_261 10 (by decide)).trans f_230
          have f_271 : F_257 11 = ye_v 0 := (f_261 11 (by decide)).trans f_231
          have f_272 : F_257 14 = ye_v 0 := (f_261 14 (by decide)).trans f_232
          have f_273 : F_257 15 = .ref aB := (f_261 15 (by decide)).trans f_233
          have f_274 : F_257 16 = ye_v n := (f_261 16 (by decide)).trans f_234
          have f_275 : F_257 17 = ye_v 40 := (f_261 17 (by decide)).trans f_235
          have f_276 : F_257 18 = ye_v q_213 := (f_261 18 (by decide)).trans k_217
          have f_277 : F_257 27 = .ref aA := (f_261 27 (by decide)).trans f_236
          have f_278 : F_257 28 = .ref aZ := (f_261 28 (by decide)).trans f_237
          have f_279 : F_257 29 = ye_v 1 := (f_261 29 (by decide)).trans f_238
          have f_280 : F_257 31 = ye_v ((-1)) := (f_261 31 (by decide)).trans f_239
          have f_281 : F_257 32 = ye_v ((-1)) := (f_261 32 (by decide)).trans f_240
          have f_282 := ye_fk_tr f_241 f_261 (by decide)
          refine z_r_ld (kk := z_isA) (ins := (.aload_n 0)) (len := 1) (t := 89) (i := 0) rfl rfl rfl rfl rfl (fun _ => rfl) l_12 rfl ?_
          refine ye_ca (ins := (.invokevirtual 159)) (kd := 1) (t := 92) rfl rfl (by decide) (z_argsv rfl rfl rfl (by omega) (Nat.le_of_ble_eq_true rfl) rfl (Nat.le_of_ble_eq_true rfl) (Nat.le_refl _) (Nat.le_refl _) (Or.inr (Nat.le_of_ble_eq_true rfl)) (Or.inr (z_atv (z_lkn fM c_260) rfl))) rfl rfl rfl (ye_fine c_260 fM k_262 (by omega)) ?_
          rintro _ _ ⟨rfl, b_283, rfl, h_284⟩
          by_cases b_285 : b_283 ≠ 0
          · skip
            refine z_r_jm (ins := (.ifCond .ne 10)) (len := 3) (t := 102) rfl rfl rfl rfl (ye_iy (t := 102) rfl (by omega) (by omega) b_285) ?_
            refine z_r_pu (ins := (.iconst 0)) (len := 1) (t := 103) (st' := [ye_v 0]) rfl rfl rfl rfl rfl ?_
            refine z_r_is (kk := z_isI) (ins := (.istore_n 3)) (len := 1) (t := 104) (i := 3) rfl rfl rfl rfl rfl rfl rfl rfl (fun l l_286 k_287 => ?_)
            have l_288 := k_287 _ _ l_12 (by decide) (Or.inl (by decide))
            have l_289 := k_287 _ _ l_13 (by decide) (Or.inl (by decide))
            have l_290 := k_287 _ _ l_10 (by decide) (Or.inr (by show (1 : Nat) ≠ 2; decide))
            obtain ⟨hg, rv, hR, fR, hrl, nRB⟩ := hag (by omega)
            have hR9 := ye_kp o_269 (ye_n1 (ye_ne hR hM (by decide))) hR
            refine yg_cpL (P0 := _) (n := n) (rv := rv) fM (by exact f_270) (by exact f_277) fB hx fA hg fR nRB (by omega) (by omega) n.toNat (i := 0) (by omega) (by decide) c_260 c_266 c_265 hR9 hrl l_288 l_289 l_290 l_286 ye_oth_rf ?_
            intro l P7 g0 g1 g2 hM7 ho7
            have hZ7 := ye_kp ho7 (ye_n1 (ye_ne c_267 hR9 (by decide))) c_267
            have o7 := ye_oth_tr o_268 ho7 (fun b hb => by simp at hb ⊢; omega)
            refine z_r_ld (kk := z_isA) (ins := (.aload_n 0)) (len := 1) (t := 130) (i := 0) rfl rfl rfl rfl rfl (fun _ => rfl) g0 rfl ?_
            refine z_r_rd (ins := (.getfield 63)) (len := 3) (t := 133) rfl rfl rfl rfl rfl (z_gfv (ci := 10) (k := 28) (v := .ref aZ) rfl (z_lkn fM hM7) (by decide) (ye_flg rfl f_278)) ?_
            refine z_r_ld (kk := z_isI) (ins := (.iload_n 1)) (len := 1) (t := 134) (i := 1) rfl rfl rfl rfl rfl (fun _ => rfl) g1 rfl ?_
            refine z_r_ld (kk := z_isI) (ins := (.iload_n 2)) (len := 1) (t := 135) (i := 2) rfl rfl rfl rfl rfl (fun _ => rfl) g2 rfl ?_
            refine ye_r_wr (ins := .iastore) (len := 1) (t := 136) (a := aZ) (q := (103, zv.set (v).toNat (ye_v n))) rfl rfl rfl rfl rfl hZ7 (ye_as (t := 103) (nf := fun x => x) (p := v) (e := n) (e' := n) hZ7 (by omega) (by omega) (by omega) rfl) (fun P_291 c_292 o_293 => ?_)
            have c_294 := ye_kp o_293 (ye_n1 (ye_ne hM7 hZ7 (by decide))) hM7
            have o_295 := ye_oth_tr o7 o_293 (ye_s1 (List.mem_cons_of_mem _ (List.mem_cons_of_mem _ (List.mem_cons_self))))
            refine z_r_pu (ins := (.iconst 0)) (len := 1) (t := 137) (st' := [ye_v 0]) rfl rfl rfl rfl rfl ?_
            refine ye_ret (ins := .ireturn) rfl rfl rfl (ye_reti rfl) ?_
            have eR : yx T lim (yx_L v) = (r_223.1 && decide (lim ≤ r_223.2), r_223.2) := by
              unfold yx
              rw [if_neg (by omega), er_223]
            have q1 : r_223.1 = true ∧ q_213 = r_223.2 := by
              rcases h_222 with ⟨g1, g2, g3⟩ | ⟨g1, g2⟩
              · exact ⟨g2, g3⟩
              · omega
            have ea : yx_a T n v = 0 := by
              unfold yx_a
              rw [if_neg (by omega), el]
              rw [eR, q1.1, decide_eq_true (by omega)]
              exact if_pos ⟨rfl, by omega⟩
            rw [ea]
            exact ⟨rfl, _, c_294, f_282, f_271, o_295⟩
          · skip
            refine z_r_jm (ins := (.ifCond .ne 10)) (len := 3) (t := 95) rfl rfl rfl rfl (ye_in (t := 102) rfl (by omega) (by omega) b_285) ?_
            refine z_r_pu (ins := (.iconst (-1))) (len := 1) (t := 96) (st' := [ye_v ((-1))]) rfl rfl rfl rfl rfl ?_
            refine z_r_ld (kk := z_isA) (ins := (.aload_n 0)) (len := 1) (t := 97) (i := 0) rfl rfl rfl rfl rfl (fun _ => rfl) l_12 rfl ?_
            refine z_r_rd (ins := (.getfield 156)) (len := 3) (t := 100) rfl rfl rfl rfl rfl (z_gfv (ci := 10) (k := 19) (v := ye_v w_258) rfl (z_lkn fM c_260) (by decide) (ye_flg rfl k_262)) ?_
            refine z_r_pu (ins := .isub) (len := 1) (t := 101) rfl rfl rfl rfl ye_sub ?_
            refine ye_ret (ins := .ireturn) rfl rfl rfl (ye_reti rfl) ?_
            have eR : yx T lim (yx_L v) = (r_223.1 && decide (lim ≤ r_223.2), r_223.2) := by
              unfold yx
              rw [if_neg (by omega), er_223]
            have kw : ¬ ((r_223.1 && decide (lim ≤ r_223.2)) = true ∧ n ≤ 40) := by
              rintro ⟨u1, u2⟩
              rw [Bool.and_eq_true] at u1
              have u3 := of_decide_eq_true u1.2
              rcases h_222 with ⟨g1, g2, g3⟩ | ⟨g1, g2⟩
              · omega
              · rw [g1] at u1; exact absurd u1.1 (by decide)
            have er2 : (-1) - w_258 = -1 - r_223.2 := by
              rcases h_222 with ⟨g1, g2, g3⟩ | ⟨g1, g2⟩
              · omega
              · omega
            rw [er2]
            have ea : yx_a T n v = -1 - r_223.2 := by
              unfold yx_a
              rw [if_neg (by omega), el]
              rw [eR]
              exact if_neg kw
            rw [ea]
            exact ⟨rfl, _, c_260, f_282, f_271, o_268⟩
  · skip
    refine z_r_jm (ins := (.ifCond .ne 6)) (len := 3) (t := 35) rfl rfl rfl rfl (ye_in (t := 38) rfl (by omega) (by omega) b_46) ?_
    refine z_r_pu (ins := (.bipush (-100))) (len := 2) (t := 37) rfl rfl rfl rfl (ye_bi (by decide) (by decide)) ?_
    refine ye_ret (ins := .ireturn) rfl rfl rfl (ye_reti rfl) ?_
    have ea : yx_a T n v = -100 := by
      exact if_pos (by omega)
    rw [ea]
    exact ⟨rfl, _, c_36, f_43, rfl, o_41⟩
end YGMA
