/-! New grains put down, yards cleared, the reference, exactly. -/
section YMGR
variable {xs : List Int32} {d aM aY aG aE m : Nat} {P : z_H} {F : Nat → Value} {mv gv ev : List Value} {mn : Int → Int} {v n nl we s k i j p ya e2 : Int} {l : z_L} {Ψ : z_S → Prop}
theorem ye_mat (hi : 0 ≤ i ∧ i ≤ 1000) (hj : 0 ≤ j ∧ j ≤ 1000) : ye_X xs d 199 [ye_v i, ye_v j] P (fun r P' => P' = P ∧ r = some (ye_v (10 * i + j))) := by
  refine ye_go ?_
  have a0 : z_get (lv_args 0 [ye_v i, ye_v j]) 0 = some (ye_v i) := rfl
  have a1 : z_get (lv_args 0 [ye_v i, ye_v j]) 1 = some (ye_v j) := rfl
  refine z_r_pu (ins := (.bipush 10)) (len := 2) (t := 2) rfl rfl rfl rfl (ye_bi (by decide) (by decide)) ?_
  refine z_r_ld (kk := z_isI) (ins := (.iload_n 0)) (len := 1) (t := 3) (i := 0) rfl rfl rfl rfl rfl (fun _ => rfl) a0 rfl ?_
  refine z_r_pu (ins := .imul) (len := 1) (t := 4) rfl rfl rfl rfl ye_mul ?_
  refine z_r_ld (kk := z_isI) (ins := (.iload_n 1)) (len := 1) (t := 5) (i := 1) rfl rfl rfl rfl rfl (fun _ => rfl) a1 rfl ?_
  refine z_r_pu (ins := .iadd) (len := 1) (t := 6) rfl rfl rfl rfl ye_add ?_
  refine ye_ret (ins := .ireturn) rfl rfl rfl (ye_reti rfl) ?_
  exact ⟨rfl, rfl⟩
theorem ye_mclI (hM : P[aM]? = some (10, ye_fl F)) (fM : aM < z_far) (k6 : F 6 = .ref aG) (hG : P[aG]? = some (103, gv)) (fG : aG < z_far) (hgl : gv.length = 310) (h0 : z_get l 0 = some (.ref aM)) (h1 : z_get l 1 = some (ye_v p)) (h2 : z_get l 2 = some (ye_v i)) (hp : 0 ≤ p ∧ p ≤ 30) (hi : 0 ≤ i ∧ i < 10) (hd : 1 ≤ d)
    (kk : ∀ l P' gv', z_get l 0 = some (.ref aM) → z_get l 1 = some (ye_v p) → z_get l 2 = some (ye_v (i + 1)) → P'[aM]? = some (10, ye_fl F) → P'[aG]? = some (103, gv') → gv'.length = 310 → ye_oth [aG] P P' → z_Rh (z_G xs) d 200 Ψ (2, l, [], P', 0, 0)) : z_Rh (z_G xs) d 200 Ψ (2, l, [], P, 0, 0) := by
  have ho0 : ye_oth [aG] P P := ye_oth_rf
  refine z_r_ld (kk := z_isI) (ins := (.iload_n 2)) (len := 1) (t := 3) (i := 2) rfl rfl rfl rfl rfl (fun _ => rfl) h2 rfl ?_
  refine z_r_pu (ins := (.bipush 10)) (len := 2) (t := 5) rfl rfl rfl rfl (ye_bi (by decide) (by decide)) ?_
  refine z_r_jm (ins := (.if_icmp .ge 20)) (len := 3) (t := 8) rfl rfl rfl rfl (ye_jn (t := 25) rfl (by omega) (by omega) (by omega) (by omega) (by show ¬ (10 ≤ i); omega)) ?_
  refine z_r_ld (kk := z_isA) (ins := (.aload_n 0)) (len := 1) (t := 9) (i := 0) rfl rfl rfl rfl rfl (fun _ => rfl) h0 rfl ?_
  refine z_r_rd (ins := (.getfield 26)) (len := 3) (t := 12) rfl rfl rfl rfl rfl (z_gfv (ci := 10) (k := 6) (v := .ref aG) rfl (z_lkn fM hM) (by decide) (ye_flg rfl k6)) ?_
  refine z_r_ld (kk := z_isI) (ins := (.iload_n 1)) (len := 1) (t := 13) (i := 1) rfl rfl rfl rfl rfl (fun _ => rfl) h1 rfl ?_
  refine z_r_ld (kk := z_isI) (ins := (.iload_n 2)) (len := 1) (t := 14) (i := 2) rfl rfl rfl rfl rfl (fun _ => rfl) h2 rfl ?_
  refine ye_ca (ins := (.invokestatic 137)) (kd := 0) (t := 17) rfl rfl (by decide) (z_argsv rfl rfl rfl (by omega) (Nat.le_of_ble_eq_true rfl) rfl (Nat.le_of_ble_eq_true rfl) (Nat.le_refl _) (Nat.le_refl _) (Or.inl rfl) (Or.inl rfl)) rfl rfl rfl (ye_mat (by omega) (by omega)) ?_
  rintro _ _ ⟨rfl, rfl⟩
  refine z_r_pu (ins := (.iconst 0)) (len := 1) (t := 18) (st' := [ye_v 0, ye_v (10 * p + i), .ref aG]) rfl rfl rfl rfl rfl ?_
  refine ye_r_wr (ins := .iastore) (len := 1) (t := 19) (a := aG) (q := (103, gv.set (10 * p + i).toNat (ye_v 0))) rfl rfl rfl rfl rfl hG (ye_as (t := 103) (nf := fun x => x) (p := 10 * p + i) (e := 0) (e' := 0) hG (by omega) (by omega) (by omega) rfl) (fun P_1 c_2 o_3 => ?_)
  have c_4 := ye_kp o_3 (ye_n1 (ye_ne hM hG (by decide))) hM
  have o_5 := ye_oth_tr ho0 o_3 (ye_s1 (List.mem_cons_self))
  refine ye_ic (ins := (.iinc 2 1)) (len := 3) (t := 22) (i := 2) (a := i) (kk := 1) rfl rfl rfl rfl rfl rfl h2 (fun l l_6 k_7 => ?_)
  have l_8 := k_7 _ _ h0 (by decide) (Or.inl (by decide))
  have l_9 := k_7 _ _ h1 (by decide) (Or.inr (by show (1 : Nat) ≠ 2; decide))
  refine z_r_jm (ins := (.goto (-20))) (len := 3) (t := 2) rfl rfl rfl rfl (z_gty rfl) ?_
  exact kk _ _ _ l_8 l_9 l_6 c_4 c_2 (by rw [List.length_set]; exact hgl) o_5
theorem ye_mclE {R : Option Value → z_H → Prop} (h2 : z_get l 2 = some (ye_v i)) (hi : i = 10) (k : R none P) : z_Rh (z_G xs) d 200 (ye_E xs d 200 R) (2, l, [], P, 0, 0) := by
  refine z_r_ld (kk := z_isI) (ins := (.iload_n 2)) (len := 1) (t := 3) (i := 2) rfl rfl rfl rfl rfl (fun _ => rfl) h2 rfl ?_
  refine z_r_pu (ins := (.bipush 10)) (len := 2) (t := 5) rfl rfl rfl rfl (ye_bi (by decide) (by decide)) ?_
  refine z_r_jm (ins := (.if_icmp .ge 20)) (len := 3) (t := 25) rfl rfl rfl rfl (ye_jy (t := 25) rfl (by omega) (by omega) (by omega) (by omega) (by show 10 ≤ i; omega)) ?_
  refine ye_ret (ins := .return_) rfl rfl rfl (ye_retv rfl) ?_
  exact k
theorem ye_mclear (hM : P[aM]? = some (10, ye_fl F)) (fM : aM < z_far) (k6 : F 6 = .ref aG) (hG : P[aG]? = some (103, gv)) (fG : aG < z_far) (hgl : gv.length = 310) (hp : 0 ≤ p ∧ p ≤ 30) (hd : 1 ≤ d) : ye_X xs d 200 [.ref aM, ye_v p] P (fun _ P' => P'[aM]? = some (10, ye_fl F) ∧ (∃ gv', P'[aG]? = some (103, gv') ∧ gv'.length = 310) ∧ ye_oth [aG] P P') := by
  have main : ∀ (k : Nat) {i : Int} {l : z_L} {P1 : z_H} {gv : List Value}, i + k = 10 → 0 ≤ i → P1[aM]? = some (10, ye_fl F) → P1[aG]? = some (103, gv) → gv.length = 310 → ye_oth [aG] P P1 → z_get l 0 = some (.ref aM) → z_get l 1 = some (ye_v p) → z_get l 2 = some (ye_v i) → z_Rh (z_G xs) d 200 (ye_E xs d 200 (fun _ P' => P'[aM]? = some (10, ye_fl F) ∧ (∃ gv', P'[aG]? = some (103, gv') ∧ gv'.length = 310) ∧ ye_oth [aG] P P')) (2, l, [], P1, 0, 0) := by
    intro k
    induction k with
    | zero => intro i l P1 gv hi i0 hM hG hgl ho h0 h1 h2; exact ye_mclE h2 (by omega) ⟨hM, ⟨gv, hG, hgl⟩, ho⟩
    | succ k ih =>
      intro i l P1 gv hi i0 hM hG hgl ho h0 h1 h2
      exact ye_mclI hM fM k6 hG fG hgl h0 h1 h2 hp (by omega) hd fun l P' gv' g0 g1 g2 hM' hG' hgl' ho' => ih (by omega) (by omega) hM' hG' hgl' (ye_oth_tr ho ho' (fun _ q => q)) g0 g1 g2
  refine ye_go ?_
  have a0 : z_get (lv_args 0 [.ref aM, ye_v p]) 0 = some (.ref aM) := rfl
  have a1 : z_get (lv_args 0 [.ref aM, ye_v p]) 1 = some (ye_v p) := rfl
  refine z_r_pu (ins := (.iconst 0)) (len := 1) (t := 1) (st' := [ye_v 0]) rfl rfl rfl rfl rfl ?_
  refine z_r_is (kk := z_isI) (ins := (.istore_n 2)) (len := 1) (t := 2) (i := 2) rfl rfl rfl rfl rfl rfl rfl rfl (fun l l_1 k_2 => ?_)
  have l_3 := k_2 _ _ a0 (by decide) (Or.inl (by decide))
  have l_4 := k_2 _ _ a1 (by decide) (Or.inr (by show (1 : Nat) ≠ 2; decide))
  exact main 10 rfl (Int.le_refl _) hM hG hgl ye_oth_rf l_3 l_4 l_1
theorem ye_mgI (hM : P[aM]? = some (10, ye_fl F)) (fM : aM < z_far) (k0 : F 0 = ye_v s) (k6 : F 6 = .ref aG) (k20 : F 20 = .ref aY) (hG : P[aG]? = some (103, gv)) (fG : aG < z_far) (hgl : gv.length = 310) (hY : P[aY]? = some (103, mv)) (fY : aY < z_far) (yY : ye_arr mn s mv) (nGY : aG ≠ aY)
    (h0 : z_get l 0 = some (.ref aM)) (h2 : z_get l 2 = some (ye_v nl)) (h3 : z_get l 3 = some (ye_v n)) (h5 : z_get l 5 = some (ye_v j)) (h6 : z_get l 6 = some (ye_v i)) (hi : 0 ≤ i ∧ i ≤ 30) (hj : 0 ≤ j ∧ j < s ∧ s ≤ 10) (hd : 1 ≤ d)
    (kk : ∀ l P' gv', z_get l 0 = some (.ref aM) → z_get l 2 = some (ye_v nl) → z_get l 3 = some (ye_v n) → z_get l 5 = some (ye_v j) → z_get l 6 = some (ye_v (i + 1)) → P'[aM]? = some (10, ye_fl F) → P'[aG]? = some (103, gv') → gv'.length = 310 → P'[aY]? = some (103, mv) → ye_oth [aG] P P' → z_Rh (z_G xs) d 191 Ψ (352, l, [], P', 0, 0)) : z_Rh (z_G xs) d 191 Ψ (352, l, [], P, 0, 0) := by
  have ho0 : ye_oth [aG] P P := ye_oth_rf
  refine z_r_ld (kk := z_isI) (ins := (.iload 6)) (len := 2) (t := 354) (i := 6) rfl rfl rfl rfl rfl (fun _ => rfl) h6 rfl ?_
  refine z_r_pu (ins := (.bipush 30)) (len := 2) (t := 356) rfl rfl rfl rfl (ye_bi (by decide) (by decide)) ?_
  refine z_r_jm (ins := (.if_icmp .gt 37)) (len := 3) (t := 359) rfl rfl rfl rfl (ye_jn (t := 393) rfl (by omega) (by omega) (by omega) (by omega) (by show ¬ (30 < i); omega)) ?_
  refine z_r_ld (kk := z_isA) (ins := (.aload_n 0)) (len := 1) (t := 360) (i := 0) rfl rfl rfl rfl rfl (fun _ => rfl) h0 rfl ?_
  refine z_r_rd (ins := (.getfield 26)) (len := 3) (t := 363) rfl rfl rfl rfl rfl (z_gfv (ci := 10) (k := 6) (v := .ref aG) rfl (z_lkn fM hM) (by decide) (ye_flg rfl k6)) ?_
  refine z_r_ld (kk := z_isI) (ins := (.iload 6)) (len := 2) (t := 365) (i := 6) rfl rfl rfl rfl rfl (fun _ => rfl) h6 rfl ?_
  refine z_r_ld (kk := z_isI) (ins := (.iload 5)) (len := 2) (t := 367) (i := 5) rfl rfl rfl rfl rfl (fun _ => rfl) h5 rfl ?_
  refine ye_ca (ins := (.invokestatic 137)) (kd := 0) (t := 370) rfl rfl (by decide) (z_argsv rfl rfl rfl (by omega) (Nat.le_of_ble_eq_true rfl) rfl (Nat.le_of_ble_eq_true rfl) (Nat.le_refl _) (Nat.le_refl _) (Or.inl rfl) (Or.inl rfl)) rfl rfl rfl (ye_mat (by omega) (by omega)) ?_
  rintro _ _ ⟨rfl, rfl⟩
  refine z_r_ld (kk := z_isI) (ins := (.iload 6)) (len := 2) (t := 372) (i := 6) rfl rfl rfl rfl rfl (fun _ => rfl) h6 rfl ?_
  by_cases b_1 : i ≠ 0
  · skip
    refine z_r_jm (ins := (.ifCond .ne 13)) (len := 3) (t := 385) rfl rfl rfl rfl (ye_iy (t := 385) rfl (by omega) (by omega) b_1) ?_
    refine z_r_pu (ins := (.iconst 0)) (len := 1) (t := 386) (st' := [ye_v 0, ye_v (10 * i + j), .ref aG]) rfl rfl rfl rfl rfl ?_
    refine ye_r_wr (ins := .iastore) (len := 1) (t := 387) (a := aG) (q := (103, gv.set (10 * i + j).toNat (ye_v 0))) rfl rfl rfl rfl rfl hG (ye_as (t := 103) (nf := fun x => x) (p := 10 * i + j) (e := 0) (e' := 0) hG (by omega) (by omega) (by omega) rfl) (fun P_2 c_3 o_4 => ?_)
    have c_5 := ye_kp o_4 (ye_n1 (ye_ne hM hG (by decide))) hM
    have c_6 := ye_kp o_4 (ye_n1 (Ne.symm nGY)) hY
    have o_7 := ye_oth_tr ho0 o_4 (ye_s1 (List.mem_cons_self))
    refine ye_ic (ins := (.iinc 6 1)) (len := 3) (t := 390) (i := 6) (a := i) (kk := 1) rfl rfl rfl rfl rfl rfl h6 (fun l l_8 k_9 => ?_)
    have l_10 := k_9 _ _ h0 (by decide) (Or.inl (by decide))
    have l_11 := k_9 _ _ h2 (by decide) (Or.inl (by decide))
    have l_12 := k_9 _ _ h3 (by decide) (Or.inl (by decide))
    have l_13 := k_9 _ _ h5 (by decide) (Or.inr (by show (1 : Nat) ≠ 2; decide))
    refine z_r_jm (ins := (.goto (-38))) (len := 3) (t := 352) rfl rfl rfl rfl (z_gty rfl) ?_
    exact kk _ _ _ l_10 l_11 l_12 l_13 l_8 c_5 c_3 (by rw [List.length_set]; exact hgl) c_6 o_7
  · skip
    refine z_r_jm (ins := (.ifCond .ne 13)) (len := 3) (t := 375) rfl rfl rfl rfl (ye_in (t := 385) rfl (by omega) (by omega) b_1) ?_
    refine z_r_ld (kk := z_isA) (ins := (.aload_n 0)) (len := 1) (t := 376) (i := 0) rfl rfl rfl rfl rfl (fun _ => rfl) h0 rfl ?_
    refine z_r_rd (ins := (.getfield 43)) (len := 3) (t := 379) rfl rfl rfl rfl rfl (z_gfv (ci := 10) (k := 20) (v := .ref aY) rfl (z_lkn fM hM) (by decide) (ye_flg rfl k20)) ?_
    refine z_r_ld (kk := z_isI) (ins := (.iload 5)) (len := 2) (t := 381) (i := 5) rfl rfl rfl rfl rfl (fun _ => rfl) h5 rfl ?_
    refine z_r_rd (ins := .iaload) (len := 1) (t := 382) rfl rfl rfl rfl rfl (ye_al (t := 103) (p := j) (e := mn j) (z_lkn fY hY) (by omega) (by omega) (yY.2 j (by omega) (by omega))) ?_
    refine z_r_jm (ins := (.goto 4)) (len := 3) (t := 386) rfl rfl rfl rfl (z_gty rfl) ?_
    refine ye_r_wr (ins := .iastore) (len := 1) (t := 387) (a := aG) (q := (103, gv.set (10 * i + j).toNat (ye_v (mn j)))) rfl rfl rfl rfl rfl hG (ye_as (t := 103) (nf := fun x => x) (p := 10 * i + j) (e := mn j) (e' := mn j) hG (by omega) (by omega) (by omega) rfl) (fun P_14 c_15 o_16 => ?_)
    have c_17 := ye_kp o_16 (ye_n1 (ye_ne hM hG (by decide))) hM
    have c_18 := ye_kp o_16 (ye_n1 (Ne.symm nGY)) hY
    have o_19 := ye_oth_tr ho0 o_16 (ye_s1 (List.mem_cons_self))
    refine ye_ic (ins := (.iinc 6 1)) (len := 3) (t := 390) (i := 6) (a := i) (kk := 1) rfl rfl rfl rfl rfl rfl h6 (fun l l_20 k_21 => ?_)
    have l_22 := k_21 _ _ h0 (by decide) (Or.inl (by decide))
    have l_23 := k_21 _ _ h2 (by decide) (Or.inl (by decide))
    have l_24 := k_21 _ _ h3 (by decide) (Or.inl (by decide))
    have l_25 := k_21 _ _ h5 (by decide) (Or.inr (by show (1 : Nat) ≠ 2; decide))
    refine z_r_jm (ins := (.goto (-38))) (len := 3) (t := 352) rfl rfl rfl rfl (z_gty rfl) ?_
    exact kk _ _ _ l_22 l_23 l_24 l_25 l_20 c_17 c_15 (by rw [List.length_set]; exact hgl) c_18 o_19
theorem ye_mgE (h0 : z_get l 0 = some (.ref aM)) (h2 : z_get l 2 = some (ye_v nl)) (h3 : z_get l 3 = some (ye_v n)) (h5 : z_get l 5 = some (ye_v j)) (h6 : z_get l 6 = some (ye_v i)) (hi : i = 31)
    (kk : z_Rh (z_G xs) d 191 Ψ (393, l, [], P, 0, 0)) : z_Rh (z_G xs) d 191 Ψ (352, l, [], P, 0, 0) := by
  refine z_r_ld (kk := z_isI) (ins := (.iload 6)) (len := 2) (t := 354) (i := 6) rfl rfl rfl rfl rfl (fun _ => rfl) h6 rfl ?_
  refine z_r_pu (ins := (.bipush 30)) (len := 2) (t := 356) rfl rfl rfl rfl (ye_bi (by decide) (by decide)) ?_
  refine z_r_jm (ins := (.if_icmp .gt 37)) (len := 3) (t := 393) rfl rfl rfl rfl (ye_jy (t := 393) rfl (by omega) (by omega) (by omega) (by omega) (by show 30 < i; omega)) ?_
  exact kk
theorem ye_mgL {P0 : z_H} (fM : aM < z_far) (k0 : F 0 = ye_v s) (k6 : F 6 = .ref aG) (k20 : F 20 = .ref aY) (fG : aG < z_far) (fY : aY < z_far) (yY : ye_arr mn s mv) (nGY : aG ≠ aY) (hj : 0 ≤ j ∧ j < s ∧ s ≤ 10) (hd : 1 ≤ d) : ∀ (k : Nat) {i : Int} {l : z_L} {P : z_H} {gv : List Value}, i + k = 31 → 0 ≤ i → P[aM]? = some (10, ye_fl F) → P[aG]? = some (103, gv) → gv.length = 310 → P[aY]? = some (103, mv) → z_get l 0 = some (.ref aM) → z_get l 2 = some (ye_v nl) → z_get l 3 = some (ye_v n) → z_get l 5 = some (ye_v j) → z_get l 6 = some (ye_v i) → ye_oth [aG] P0 P →
    (∀ l P' gv', z_get l 0 = some (.ref aM) → z_get l 2 = some (ye_v nl) → z_get l 3 = some (ye_v n) → z_get l 5 = some (ye_v j) → P'[aM]? = some (10, ye_fl F) → P'[aG]? = some (103, gv') → gv'.length = 310 → P'[aY]? = some (103, mv) → ye_oth [aG] P0 P' → z_Rh (z_G xs) d 191 Ψ (393, l, [], P', 0, 0)) → z_Rh (z_G xs) d 191 Ψ (352, l, [], P, 0, 0) := by
  intro k
  induction k with
  | zero => intro i l P gv hi i0 hM hG hgl hY h0 h2 h3 h5 h6 ho kk; exact ye_mgE h0 h2 h3 h5 h6 (by omega) (kk l P gv h0 h2 h3 h5 hM hG hgl hY ho)
  | succ k ih =>
    intro i l P gv hi i0 hM hG hgl hY h0 h2 h3 h5 h6 ho kk
    exact ye_mgI hM fM k0 k6 k20 hG fG hgl hY fY yY nGY h0 h2 h3 h5 h6 (by omega) hj hd fun l P' gv' g0 g2 g3 g5 g6 hM' hG' hgl' hY' ho' => ih (by omega) (by omega) hM' hG' hgl' hY' g0 g2 g3 g5 g6 (ye_oth_tr ho ho' (fun _ q => q)) kk
theorem ye_moI (hM : P[aM]? = some (10, ye_fl F)) (fM : aM < z_far) (k0 : F 0 = ye_v s) (k6 : F 6 = .ref aG) (k20 : F 20 = .ref aY) (hG : P[aG]? = some (103, gv)) (fG : aG < z_far) (hgl : gv.length = 310) (hY : P[aY]? = some (103, mv)) (fY : aY < z_far) (yY : ye_arr mn s mv) (nGY : aG ≠ aY)
    (h0 : z_get l 0 = some (.ref aM)) (h2 : z_get l 2 = some (ye_v nl)) (h3 : z_get l 3 = some (ye_v n)) (h5 : z_get l 5 = some (ye_v j)) (hj : 0 ≤ j ∧ j < s ∧ s ≤ 10) (hd : 1 ≤ d)
    (kk : ∀ l P' gv', z_get l 0 = some (.ref aM) → z_get l 2 = some (ye_v nl) → z_get l 3 = some (ye_v n) → z_get l 5 = some (ye_v (j + 1)) → P'[aM]? = some (10, ye_fl F) → P'[aG]? = some (103, gv') → gv'.length = 310 → P'[aY]? = some (103, mv) → ye_oth [aG] P P' → z_Rh (z_G xs) d 191 Ψ (340, l, [], P', 0, 0)) : z_Rh (z_G xs) d 191 Ψ (340, l, [], P, 0, 0) := by
  refine z_r_ld (kk := z_isI) (ins := (.iload 5)) (len := 2) (t := 342) (i := 5) rfl rfl rfl rfl rfl (fun _ => rfl) h5 rfl ?_
  refine z_r_ld (kk := z_isA) (ins := (.aload_n 0)) (len := 1) (t := 343) (i := 0) rfl rfl rfl rfl rfl (fun _ => rfl) h0 rfl ?_
  refine z_r_rd (ins := (.getfield 130)) (len := 3) (t := 346) rfl rfl rfl rfl rfl (z_gfv (ci := 10) (k := 0) (v := ye_v s) rfl (z_lkn fM hM) (by decide) (ye_flg rfl k0)) ?_
  refine z_r_jm (ins := (.if_icmp .ge 53)) (len := 3) (t := 349) rfl rfl rfl rfl (ye_jn (t := 399) rfl (by omega) (by omega) (by omega) (by omega) (by show ¬ (s ≤ j); omega)) ?_
  refine z_r_pu (ins := (.iconst 0)) (len := 1) (t := 350) (st' := [ye_v 0]) rfl rfl rfl rfl rfl ?_
  refine z_r_is (kk := z_isI) (ins := (.istore 6)) (len := 2) (t := 352) (i := 6) rfl rfl rfl rfl rfl rfl rfl rfl (fun l l_1 k_2 => ?_)
  have l_3 := k_2 _ _ h0 (by decide) (Or.inl (by decide))
  have l_4 := k_2 _ _ h2 (by decide) (Or.inl (by decide))
  have l_5 := k_2 _ _ h3 (by decide) (Or.inl (by decide))
  have l_6 := k_2 _ _ h5 (by decide) (Or.inr (by show (1 : Nat) ≠ 2; decide))
  refine ye_mgL (P0 := P) fM k0 k6 k20 fG fY yY nGY (by omega) hd 31 (i := 0) (by decide) (by decide) hM hG hgl hY l_3 l_4 l_5 l_6 l_1 ye_oth_rf ?_
  intro l P' gv' g0 g2 g3 g5 hM' hG' hgl' hY' ho'
  refine ye_ic (ins := (.iinc 5 1)) (len := 3) (t := 396) (i := 5) (a := j) (kk := 1) rfl rfl rfl rfl rfl rfl g5 (fun l l_7 k_8 => ?_)
  have l_9 := k_8 _ _ g0 (by decide) (Or.inl (by decide))
  have l_10 := k_8 _ _ g2 (by decide) (Or.inl (by decide))
  have l_11 := k_8 _ _ g3 (by decide) (Or.inl (by decide))
  refine z_r_jm (ins := (.goto (-56))) (len := 3) (t := 340) rfl rfl rfl rfl (z_gty rfl) ?_
  exact kk _ _ _ l_9 l_10 l_11 l_7 hM' hG' hgl' hY' ho'
theorem ye_moE (hM : P[aM]? = some (10, ye_fl F)) (fM : aM < z_far) (k0 : F 0 = ye_v s) (h0 : z_get l 0 = some (.ref aM)) (h5 : z_get l 5 = some (ye_v j)) (hj : 0 ≤ j ∧ s ≤ j ∧ j ≤ 10 ∧ 0 ≤ s)
    (kk : z_Rh (z_G xs) d 191 Ψ (399, l, [], P, 0, 0)) : z_Rh (z_G xs) d 191 Ψ (340, l, [], P, 0, 0) := by
  refine z_r_ld (kk := z_isI) (ins := (.iload 5)) (len := 2) (t := 342) (i := 5) rfl rfl rfl rfl rfl (fun _ => rfl) h5 rfl ?_
  refine z_r_ld (kk := z_isA) (ins := (.aload_n 0)) (len := 1) (t := 343) (i := 0) rfl rfl rfl rfl rfl (fun _ => rfl) h0 rfl ?_
  refine z_r_rd (ins := (.getfield 130)) (len := 3) (t := 346) rfl rfl rfl rfl rfl (z_gfv (ci := 10) (k := 0) (v := ye_v s) rfl (z_lkn fM hM) (by decide) (ye_flg rfl k0)) ?_
  refine z_r_jm (ins := (.if_icmp .ge 53)) (len := 3) (t := 399) rfl rfl rfl rfl (ye_jy (t := 399) rfl (by omega) (by omega) (by omega) (by omega) (by show s ≤ j; omega)) ?_
  exact kk
theorem ye_moL {P0 : z_H} (fM : aM < z_far) (k0 : F 0 = ye_v s) (k6 : F 6 = .ref aG) (k20 : F 20 = .ref aY) (fG : aG < z_far) (fY : aY < z_far) (yY : ye_arr mn s mv) (nGY : aG ≠ aY) (hs : 0 ≤ s ∧ s ≤ 10) (hd : 1 ≤ d) : ∀ (k : Nat) {j : Int} {l : z_L} {P : z_H} {gv : List Value}, j + k = s → 0 ≤ j → P[aM]? = some (10, ye_fl F) → P[aG]? = some (103, gv) → gv.length = 310 → P[aY]? = some (103, mv) → z_get l 0 = some (.ref aM) → z_get l 2 = some (ye_v nl) → z_get l 3 = some (ye_v n) → z_get l 5 = some (ye_v j) → ye_oth [aG] P0 P →
    (∀ l P' gv', z_get l 0 = some (.ref aM) → z_get l 2 = some (ye_v nl) → z_get l 3 = some (ye_v n) → P'[aM]? = some (10, ye_fl F) → P'[aG]? = some (103, gv') → gv'.length = 310 → P'[aY]? = some (103, mv) → ye_oth [aG] P0 P' → z_Rh (z_G xs) d 191 Ψ (399, l, [], P', 0, 0)) → z_Rh (z_G xs) d 191 Ψ (340, l, [], P, 0, 0) := by
  intro k
  induction k with
  | zero => intro j l P gv hj j0 hM hG hgl hY h0 h2 h3 h5 ho kk; exact ye_moE hM fM k0 h0 h5 (by omega) (kk l P gv h0 h2 h3 hM hG hgl hY ho)
  | succ k ih =>
    intro j l P gv hj j0 hM hG hgl hY h0 h2 h3 h5 ho kk
    exact ye_moI hM fM k0 k6 k20 hG fG hgl hY fY yY nGY h0 h2 h3 h5 (by omega) hd fun l P' gv' g0 g2 g3 g5 hM' hG' hgl' hY' ho' => ih (by omega) (by omega) hM' hG' hgl' hY' g0 g2 g3 g5 (ye_oth_tr ho ho' (fun _ q => q)) kk
theorem ye_myI (hM : P[aM]? = some (10, ye_fl F)) (fM : aM < z_far) (k6 : F 6 = .ref aG) (hG : P[aG]? = some (103, gv)) (fG : aG < z_far) (hgl : gv.length = 310)
    (h0 : z_get l 0 = some (.ref aM)) (h3 : z_get l 3 = some (ye_v n)) (h5 : z_get l 5 = some (ye_v j)) (hj : 0 ≤ j ∧ j < 24) (hd : 2 ≤ d)
    (kk : ∀ l P' gv', z_get l 0 = some (.ref aM) → z_get l 3 = some (ye_v n) → z_get l 5 = some (ye_v (j + 1)) → P'[aM]? = some (10, ye_fl F) → P'[aG]? = some (103, gv') → gv'.length = 310 → ye_oth [aG] P P' → z_Rh (z_G xs) d 191 Ψ (412, l, [], P', 0, 0)) : z_Rh (z_G xs) d 191 Ψ (412, l, [], P, 0, 0) := by
  have ho0 : ye_oth [aG] P P := ye_oth_rf
  refine z_r_ld (kk := z_isI) (ins := (.iload 5)) (len := 2) (t := 414) (i := 5) rfl rfl rfl rfl rfl (fun _ => rfl) h5 rfl ?_
  refine z_r_pu (ins := (.bipush 24)) (len := 2) (t := 416) rfl rfl rfl rfl (ye_bi (by decide) (by decide)) ?_
  refine z_r_jm (ins := (.if_icmp .ge 18)) (len := 3) (t := 419) rfl rfl rfl rfl (ye_jn (t := 434) rfl (by omega) (by omega) (by omega) (by omega) (by show ¬ (24 ≤ j); omega)) ?_
  refine z_r_ld (kk := z_isA) (ins := (.aload_n 0)) (len := 1) (t := 420) (i := 0) rfl rfl rfl rfl rfl (fun _ => rfl) h0 rfl ?_
  refine z_r_pu (ins := (.bipush 6)) (len := 2) (t := 422) rfl rfl rfl rfl (ye_bi (by decide) (by decide)) ?_
  refine z_r_ld (kk := z_isI) (ins := (.iload 5)) (len := 2) (t := 424) (i := 5) rfl rfl rfl rfl rfl (fun _ => rfl) h5 rfl ?_
  refine z_r_pu (ins := .iadd) (len := 1) (t := 425) rfl rfl rfl rfl ye_add ?_
  refine ye_cav (ins := (.invokevirtual 187)) (kd := 1) (t := 428) rfl rfl (by decide) (z_argsv rfl rfl rfl (by omega) (Nat.le_of_ble_eq_true rfl) rfl (Nat.le_of_ble_eq_true rfl) (Nat.le_refl _) (Nat.le_refl _) (Or.inr (Nat.le_of_ble_eq_true rfl)) (Or.inr (z_atv (z_lkn fM hM) rfl))) rfl rfl rfl rfl (ye_mclear hM fM k6 hG fG hgl (by omega) (by omega)) ?_
  rintro _ P_1 ⟨c_2, ⟨g_3, c_4, h_5⟩, o_6⟩
  have o_7 := ye_oth_tr ho0 o_6 (fun _ q => q)
  refine ye_ic (ins := (.iinc 5 1)) (len := 3) (t := 431) (i := 5) (a := j) (kk := 1) rfl rfl rfl rfl rfl rfl h5 (fun l l_8 k_9 => ?_)
  have l_10 := k_9 _ _ h0 (by decide) (Or.inl (by decide))
  have l_11 := k_9 _ _ h3 (by decide) (Or.inl (by decide))
  refine z_r_jm (ins := (.goto (-19))) (len := 3) (t := 412) rfl rfl rfl rfl (z_gty rfl) ?_
  exact kk _ _ _ l_10 l_11 l_8 c_2 c_4 h_5 o_7
theorem ye_myE (h5 : z_get l 5 = some (ye_v j)) (hj : j = 24)
    (kk : z_Rh (z_G xs) d 191 Ψ (434, l, [], P, 0, 0)) : z_Rh (z_G xs) d 191 Ψ (412, l, [], P, 0, 0) := by
  refine z_r_ld (kk := z_isI) (ins := (.iload 5)) (len := 2) (t := 414) (i := 5) rfl rfl rfl rfl rfl (fun _ => rfl) h5 rfl ?_
  refine z_r_pu (ins := (.bipush 24)) (len := 2) (t := 416) rfl rfl rfl rfl (ye_bi (by decide) (by decide)) ?_
  refine z_r_jm (ins := (.if_icmp .ge 18)) (len := 3) (t := 434) rfl rfl rfl rfl (ye_jy (t := 434) rfl (by omega) (by omega) (by omega) (by omega) (by show 24 ≤ j; omega)) ?_
  exact kk
theorem ye_myL {P0 : z_H} (fM : aM < z_far) (k6 : F 6 = .ref aG) (fG : aG < z_far) (hd : 2 ≤ d) : ∀ (k : Nat) {j : Int} {l : z_L} {P : z_H} {gv : List Value}, j + k = 24 → 0 ≤ j → P[aM]? = some (10, ye_fl F) → P[aG]? = some (103, gv) → gv.length = 310 → z_get l 0 = some (.ref aM) → z_get l 3 = some (ye_v n) → z_get l 5 = some (ye_v j) → ye_oth [aG] P0 P →
    (∀ l P', z_get l 0 = some (.ref aM) → z_get l 3 = some (ye_v n) → P'[aM]? = some (10, ye_fl F) → ye_oth [aG] P0 P' → z_Rh (z_G xs) d 191 Ψ (434, l, [], P', 0, 0)) → z_Rh (z_G xs) d 191 Ψ (412, l, [], P, 0, 0) := by
  intro k
  induction k with
  | zero => intro j l P gv hj j0 hM hG hgl h0 h3 h5 ho kk; exact ye_myE h5 (by omega) (kk l P h0 h3 hM ho)
  | succ k ih =>
    intro j l P gv hj j0 hM hG hgl h0 h3 h5 ho kk
    exact ye_myI hM fM k6 hG fG hgl h0 h3 h5 (by omega) hd fun l P' gv' g0 g3 g5 hM' hG' hgl' ho' => ih (by omega) (by omega) hM' hG' hgl' g0 g3 g5 (ye_oth_tr ho ho' (fun _ q => q)) kk
end YMGR
