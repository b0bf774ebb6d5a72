/-! sheet, the reference, exactly. -/
section YMSH
theorem yh_v_step {f sp : Int32} {i : Int} : f + Int32.ofInt i * sp + sp = f + Int32.ofInt (i + 1) * sp := by
  rw [Int32.ofInt_add, Int32.add_mul, Int32.add_assoc]
  congr 2
  exact (Int32.one_mul sp).symm
/-- what a SORT's place brings -/
def yh_c (k n : Int) (f sp : Int32) : Int → Int := fun j => if k = 3 ∨ n ≤ j then 0 else yh_en k (f + Int32.ofInt j * sp)
theorem yh_c_bd {k n j : Int} {f sp : Int32} : 0 ≤ yh_c k n f sp j ∧ yh_c k n f sp j ≤ 999 := by
  unfold yh_c
  split
  · omega
  · exact yh_en_bd
theorem yh_sum_cg {k n so : Int} {f sp : Int32} (hk : k ≠ 3) (hso : 0 ≤ so ∧ so ≤ 10) : yh_sum (yh_c k n f sp) so.toNat = yh_sum (yh_g k n f sp so) 10 := by
  have e1 : yh_sum (yh_g k n f sp so) 10 = yh_sum (yh_g k n f sp so) so.toNat := by
    have h := yh_sum_z (f := yh_g k n f sp so) (m := so.toNat) (fun i hi => if_neg (by omega)) (10 - so.toNat)
    rw [show so.toNat + (10 - so.toNat) = 10 by omega] at h
    exact h
  rw [e1]
  refine yh_sum_eq fun i i0 i1 => ?_
  unfold yh_c yh_g
  by_cases h : n ≤ i
  · rw [if_pos (Or.inr h), if_neg (by omega)]
  · rw [if_neg (by omega), if_pos ⟨by omega, by omega⟩]
variable {xs : List Int32} {d aM aG : Nat} {P : z_H} {F : Nat → Value} {gv : List Value} {h k n so s i acc : Int} {f sp w : Int32} {l : z_L} {Ψ : z_S → Prop}
theorem ye_minX : ye_X xs d 15 [ye_v 999, .int w] P (fun r P' => P' = P ∧ ∃ m, r = some (ye_v m) ∧ ((m = 999 ∧ 999 ≤ w.toInt) ∨ (m = w.toInt ∧ w.toInt < 999))) := by
  have h1 := w.le_toInt
  have h2 := w.toInt_lt
  have h := ye_min (xs := xs) (d := d) (P := P) (a := 999) (b := w.toInt) ⟨by decide, by decide⟩ ⟨by omega, by omega⟩
  rw [← ye_of] at h
  exact h
set_option maxHeartbeats 8000000 in
theorem ye_msI (hM : P[aM]? = some (10, ye_fl F)) (fM : aM < z_far) (k0 : F 0 = ye_v so) (k6 : F 6 = .ref aG) (hG : P[aG]? = some (103, gv)) (fG : aG < z_far) (hgl : gv.length = 310)
    (h0 : z_get l 0 = some (.ref aM)) (h1 : z_get l 1 = some (ye_v h)) (h2 : z_get l 2 = some (ye_v k)) (h3 : z_get l 3 = some (ye_v n)) (h5 : z_get l 5 = some (.int sp)) (h6 : z_get l 6 = some (ye_v acc)) (h7 : z_get l 7 = some (.int (f + Int32.ofInt i * sp))) (h8 : z_get l 8 = some (ye_v i)) (hh : 0 ≤ h ∧ h ≤ 5) (hk : 0 ≤ k ∧ k ≤ 3) (hn : -2147483648 ≤ n ∧ n ≤ 10) (hi : 0 ≤ i ∧ i < so ∧ so ≤ 10) (hc : 0 ≤ acc ∧ acc ≤ 20000) (hd : 1 ≤ d)
    (kk : ∀ l P' gv', z_get l 0 = some (.ref aM) → z_get l 1 = some (ye_v h) → z_get l 2 = some (ye_v k) → z_get l 3 = some (ye_v n) → z_get l 5 = some (.int sp) → z_get l 6 = some (ye_v (acc + yh_c k n f sp i)) → z_get l 7 = some (.int (f + Int32.ofInt (i + 1) * sp)) → z_get l 8 = some (ye_v (i + 1)) → P'[aM]? = some (10, ye_fl F) → P'[aG]? = some (103, gv') → gv'.length = 310 → z_Rh (z_G xs) d 217 Ψ (51, l, [], P', 0, 0)) : z_Rh (z_G xs) d 217 Ψ (51, l, [], P, 0, 0) := by
  have ho0 : ye_oth [aG] P P := ye_oth_rf
  have hf0 : ye_fk [] F F := ye_fk_rf
  refine z_r_ld (kk := z_isI) (ins := (.iload 8)) (len := 2) (t := 53) (i := 8) rfl rfl rfl rfl rfl (fun _ => rfl) h8 rfl ?_
  refine z_r_ld (kk := z_isA) (ins := (.aload_n 0)) (len := 1) (t := 54) (i := 0) rfl rfl rfl rfl rfl (fun _ => rfl) h0 rfl ?_
  refine z_r_rd (ins := (.getfield 130)) (len := 3) (t := 57) rfl rfl rfl rfl rfl (z_gfv (ci := 10) (k := 0) (v := ye_v so) rfl (z_lkn fM hM) (by decide) (ye_flg rfl k0)) ?_
  refine z_r_jm (ins := (.if_icmp .ge 95)) (len := 3) (t := 60) rfl rfl rfl rfl (ye_jn (t := 152) rfl (by omega) (by omega) (by omega) (by omega) (by show ¬ (so ≤ i); omega)) ?_
  refine z_r_ld (kk := z_isI) (ins := (.iload_n 2)) (len := 1) (t := 61) (i := 2) rfl rfl rfl rfl rfl (fun _ => rfl) h2 rfl ?_
  by_cases b_1 : k ≠ 0
  · skip
    refine z_r_jm (ins := (.ifCond .ne 9)) (len := 3) (t := 70) rfl rfl rfl rfl (ye_iy (t := 70) rfl (by omega) (by omega) b_1) ?_
    refine z_r_ld (kk := z_isI) (ins := (.iload_n 2)) (len := 1) (t := 71) (i := 2) rfl rfl rfl rfl rfl (fun _ => rfl) h2 rfl ?_
    refine z_r_pu (ins := (.iconst 1)) (len := 1) (t := 72) (st' := [ye_v 1, ye_v k]) rfl rfl rfl rfl rfl ?_
    by_cases b_2 : k ≠ 1
    · skip
      refine z_r_jm (ins := (.if_icmp .ne 9)) (len := 3) (t := 81) rfl rfl rfl rfl (ye_jy (t := 81) rfl (by omega) (by omega) (by omega) (by omega) b_2) ?_
      refine z_r_ld (kk := z_isI) (ins := (.iload 7)) (len := 2) (t := 83) (i := 7) rfl rfl rfl rfl rfl (fun _ => rfl) h7 rfl ?_
      refine z_r_is (kk := z_isI) (ins := (.istore 9)) (len := 2) (t := 85) (i := 9) rfl rfl rfl rfl rfl rfl rfl rfl (fun l l_3 k_4 => ?_)
      have l_5 := k_4 _ _ h0 (by decide) (Or.inl (by decide))
      have l_6 := k_4 _ _ h1 (by decide) (Or.inl (by decide))
      have l_7 := k_4 _ _ h2 (by decide) (Or.inl (by decide))
      have l_8 := k_4 _ _ h3 (by decide) (Or.inl (by decide))
      have l_9 := k_4 _ _ h5 (by decide) (Or.inl (by decide))
      have l_10 := k_4 _ _ h6 (by decide) (Or.inl (by decide))
      have l_11 := k_4 _ _ h7 (by decide) (Or.inl (by decide))
      have l_12 := k_4 _ _ h8 (by decide) (Or.inr (by show (1 : Nat) ≠ 2; decide))
      refine z_r_ld (kk := z_isA) (ins := (.aload_n 0)) (len := 1) (t := 86) (i := 0) rfl rfl rfl rfl rfl (fun _ => rfl) l_5 rfl ?_
      refine z_r_rd (ins := (.getfield 26)) (len := 3) (t := 89) rfl rfl rfl rfl rfl (z_gfv (ci := 10) (k := 6) (v := .ref aG) rfl (z_lkn fM hM) (by decide) (ye_flg rfl k6)) ?_
      refine z_r_ld (kk := z_isI) (ins := (.iload_n 1)) (len := 1) (t := 90) (i := 1) rfl rfl rfl rfl rfl (fun _ => rfl) l_6 rfl ?_
      refine z_r_ld (kk := z_isI) (ins := (.iload 8)) (len := 2) (t := 92) (i := 8) rfl rfl rfl rfl rfl (fun _ => rfl) l_12 rfl ?_
      refine ye_ca (ins := (.invokestatic 137)) (kd := 0) (t := 95) rfl rfl (by decide) (z_argsv rfl rfl rfl (by omega) (Nat.le_of_ble_eq_true rfl) rfl (Nat.le_of_ble_eq_true rfl) (Nat.le_refl _) (Nat.le_refl _) (Or.inl rfl) (Or.inl rfl)) rfl rfl rfl (ye_mat (by omega) (by omega)) ?_
      rintro _ _ ⟨rfl, rfl⟩
      refine z_r_ld (kk := z_isI) (ins := (.iload_n 2)) (len := 1) (t := 96) (i := 2) rfl rfl rfl rfl rfl (fun _ => rfl) l_7 rfl ?_
      refine z_r_pu (ins := (.iconst 3)) (len := 1) (t := 97) (st' := [ye_v 3, ye_v k, ye_v (10 * h + i), .ref aG]) rfl rfl rfl rfl rfl ?_
      by_cases b_13 : k = 3
      · skip
        refine z_r_jm (ins := (.if_icmp .eq 9)) (len := 3) (t := 106) rfl rfl rfl rfl (ye_jy (t := 106) rfl (by omega) (by omega) (by omega) (by omega) b_13) ?_
        refine z_r_pu (ins := (.iconst 0)) (len := 1) (t := 107) (st' := [ye_v 0, ye_v (10 * h + i), .ref aG]) rfl rfl rfl rfl rfl ?_
        refine z_r_jm (ins := (.goto 15)) (len := 3) (t := 122) rfl rfl rfl rfl (z_gty rfl) ?_
        refine ye_r_wr (ins := .iastore) (len := 1) (t := 123) (a := aG) (q := (103, gv.set (10 * h + i).toNat (ye_v 0))) rfl rfl rfl rfl rfl hG (ye_as (t := 103) (nf := fun x => x) (p := 10 * h + i) (e := 0) (e' := 0) hG (by omega) (by omega) (by omega) rfl) (fun P_14 c_15 o_16 => ?_)
        have c_17 := ye_kp o_16 (ye_n1 (ye_ne hM hG (by decide))) hM
        have o_18 := ye_oth_tr ho0 o_16 (ye_s1 (List.mem_cons_self))
        refine z_r_ld (kk := z_isI) (ins := (.iload 6)) (len := 2) (t := 125) (i := 6) rfl rfl rfl rfl rfl (fun _ => rfl) l_10 rfl ?_
        refine z_r_ld (kk := z_isA) (ins := (.aload_n 0)) (len := 1) (t := 126) (i := 0) rfl rfl rfl rfl rfl (fun _ => rfl) l_5 rfl ?_
        refine z_r_rd (ins := (.getfield 26)) (len := 3) (t := 129) rfl rfl rfl rfl rfl (z_gfv (ci := 10) (k := 6) (v := .ref aG) rfl (z_lkn fM c_17) (by decide) (ye_flg rfl k6)) ?_
        refine z_r_ld (kk := z_isI) (ins := (.iload_n 1)) (len := 1) (t := 130) (i := 1) rfl rfl rfl rfl rfl (fun _ => rfl) l_6 rfl ?_
        refine z_r_ld (kk := z_isI) (ins := (.iload 8)) (len := 2) (t := 132) (i := 8) rfl rfl rfl rfl rfl (fun _ => rfl) l_12 rfl ?_
        refine ye_ca (ins := (.invokestatic 137)) (kd := 0) (t := 135) rfl rfl (by decide) (z_argsv rfl rfl rfl (by omega) (Nat.le_of_ble_eq_true rfl) rfl (Nat.le_of_ble_eq_true rfl) (Nat.le_refl _) (Nat.le_refl _) (Or.inl rfl) (Or.inl rfl)) rfl rfl rfl (ye_mat (by omega) (by omega)) ?_
        rintro _ _ ⟨rfl, rfl⟩
        refine z_r_rd (ins := .iaload) (len := 1) (t := 136) rfl rfl rfl rfl rfl (ye_al (t := 103) (p := 10 * h + i) (e := 0) (z_lkn fG c_15) (by omega) (by omega) (List.getElem?_set_self (by omega))) ?_
        refine z_r_pu (ins := .iadd) (len := 1) (t := 137) rfl rfl rfl rfl ye_add ?_
        refine z_r_is (kk := z_isI) (ins := (.istore 6)) (len := 2) (t := 139) (i := 6) rfl rfl rfl rfl rfl rfl rfl rfl (fun l l_19 k_20 => ?_)
        have l_21 := k_20 _ _ l_5 (by decide) (Or.inl (by decide))
        have l_22 := k_20 _ _ l_6 (by decide) (Or.inl (by decide))
        have l_23 := k_20 _ _ l_7 (by decide) (Or.inl (by decide))
        have l_24 := k_20 _ _ l_8 (by decide) (Or.inl (by decide))
        have l_25 := k_20 _ _ l_9 (by decide) (Or.inr (by show (1 : Nat) ≠ 2; decide))
        have l_26 := k_20 _ _ l_11 (by decide) (Or.inl (by decide))
        have l_27 := k_20 _ _ l_12 (by decide) (Or.inl (by decide))
        have l_28 := k_20 _ _ l_3 (by decide) (Or.inl (by decide))
        refine z_r_ld (kk := z_isI) (ins := (.iload 7)) (len := 2) (t := 141) (i := 7) rfl rfl rfl rfl rfl (fun _ => rfl) l_26 rfl ?_
        refine z_r_ld (kk := z_isI) (ins := (.iload 5)) (len := 2) (t := 143) (i := 5) rfl rfl rfl rfl rfl (fun _ => rfl) l_25 rfl ?_
        refine z_r_pu (ins := .iadd) (len := 1) (t := 144) (st' := [.int ((f + Int32.ofInt i * sp) + sp)]) rfl rfl rfl rfl rfl ?_
        refine z_r_is (kk := z_isI) (ins := (.istore 7)) (len := 2) (t := 146) (i := 7) rfl rfl rfl rfl rfl rfl rfl rfl (fun l l_29 k_30 => ?_)
        have l_31 := k_30 _ _ l_21 (by decide) (Or.inl (by decide))
        have l_32 := k_30 _ _ l_22 (by decide) (Or.inl (by decide))
        have l_33 := k_30 _ _ l_23 (by decide) (Or.inl (by decide))
        have l_34 := k_30 _ _ l_24 (by decide) (Or.inl (by decide))
        have l_35 := k_30 _ _ l_25 (by decide) (Or.inl (by decide))
        have l_36 := k_30 _ _ l_19 (by decide) (Or.inr (by show (1 : Nat) ≠ 2; decide))
        have l_37 := k_30 _ _ l_27 (by decide) (Or.inl (by decide))
        have l_38 := k_30 _ _ l_28 (by decide) (Or.inl (by decide))
        refine ye_ic (ins := (.iinc 8 1)) (len := 3) (t := 149) (i := 8) (a := i) (kk := 1) rfl rfl rfl rfl rfl rfl l_37 (fun l l_39 k_40 => ?_)
        have l_41 := k_40 _ _ l_31 (by decide) (Or.inl (by decide))
        have l_42 := k_40 _ _ l_32 (by decide) (Or.inl (by decide))
        have l_43 := k_40 _ _ l_33 (by decide) (Or.inl (by decide))
        have l_44 := k_40 _ _ l_34 (by decide) (Or.inl (by decide))
        have l_45 := k_40 _ _ l_35 (by decide) (Or.inl (by decide))
        have l_46 := k_40 _ _ l_36 (by decide) (Or.inl (by decide))
        have l_47 := k_40 _ _ l_29 (by decide) (Or.inr (by show (1 : Nat) ≠ 2; decide))
        have l_48 := k_40 _ _ l_38 (by decide) (Or.inl (by decide))
        refine z_r_jm (ins := (.goto (-98))) (len := 3) (t := 51) rfl rfl rfl rfl (z_gty rfl) ?_
        have ee : yh_c k n f sp i = 0 := if_pos (by omega)
        exact kk _ _ _ l_41 l_42 l_43 l_44 l_45 (by rw [ee]; exact l_46) (by rw [← yh_v_step]; exact l_47) l_39 c_17 c_15 (by rw [List.length_set]; exact hgl)
      · skip
        refine z_r_jm (ins := (.if_icmp .eq 9)) (len := 3) (t := 100) rfl rfl rfl rfl (ye_jn (t := 106) rfl (by omega) (by omega) (by omega) (by omega) b_13) ?_
        refine z_r_ld (kk := z_isI) (ins := (.iload 8)) (len := 2) (t := 102) (i := 8) rfl rfl rfl rfl rfl (fun _ => rfl) l_12 rfl ?_
        refine z_r_ld (kk := z_isI) (ins := (.iload_n 3)) (len := 1) (t := 103) (i := 3) rfl rfl rfl rfl rfl (fun _ => rfl) l_8 rfl ?_
        by_cases b_49 : i < n
        · skip
          refine z_r_jm (ins := (.if_icmp .lt 7)) (len := 3) (t := 110) rfl rfl rfl rfl (ye_jy (t := 110) rfl (by omega) (by omega) (by omega) (by omega) b_49) ?_
          refine z_r_pu (ins := (.iconst 0)) (len := 1) (t := 111) (st' := [ye_v 0, ye_v (10 * h + i), .ref aG]) rfl rfl rfl rfl rfl ?_
          refine z_r_pu (ins := (.sipush 999)) (len := 3) (t := 114) rfl rfl rfl rfl (ye_si (by decide) (by decide)) ?_
          refine z_r_ld (kk := z_isI) (ins := (.iload 9)) (len := 2) (t := 116) (i := 9) rfl rfl rfl rfl rfl (fun _ => rfl) l_3 rfl ?_
          have w1 := ((f + Int32.ofInt i * sp)).le_toInt
          have w2 := ((f + Int32.ofInt i * sp)).toInt_lt
          refine ye_ca (ins := (.invokestatic 190)) (kd := 0) (t := 119) rfl rfl (by decide) (z_argsv rfl rfl rfl (by omega) (Nat.le_of_ble_eq_true rfl) rfl (Nat.le_of_ble_eq_true rfl) (Nat.le_refl _) (Nat.le_refl _) (Or.inl rfl) (Or.inl rfl)) rfl rfl rfl (ye_minX (w := (f + Int32.ofInt i * sp))) ?_
          rintro _ _ ⟨rfl, m_50, rfl, h_51⟩
          refine ye_ca (ins := (.invokestatic 239)) (kd := 0) (t := 122) rfl rfl (by decide) (z_argsv rfl rfl rfl (by omega) (Nat.le_of_ble_eq_true rfl) rfl (Nat.le_of_ble_eq_true rfl) (Nat.le_refl _) (Nat.le_refl _) (Or.inl rfl) (Or.inl rfl)) rfl rfl rfl (ye_max (by omega) (by omega)) ?_
          rintro _ _ ⟨rfl, m_52, rfl, h_53⟩
          refine ye_r_wr (ins := .iastore) (len := 1) (t := 123) (a := aG) (q := (103, gv.set (10 * h + i).toNat (ye_v m_52))) rfl rfl rfl rfl rfl hG (ye_as (t := 103) (nf := fun x => x) (p := 10 * h + i) (e := m_52) (e' := m_52) hG (by omega) (by omega) (by omega) rfl) (fun P_54 c_55 o_56 => ?_)
          have c_57 := ye_kp o_56 (ye_n1 (ye_ne hM hG (by decide))) hM
          have o_58 := ye_oth_tr ho0 o_56 (ye_s1 (List.mem_cons_self))
          refine z_r_ld (kk := z_isI) (ins := (.iload 6)) (len := 2) (t := 125) (i := 6) rfl rfl rfl rfl rfl (fun _ => rfl) l_10 rfl ?_
          refine z_r_ld (kk := z_isA) (ins := (.aload_n 0)) (len := 1) (t := 126) (i := 0) rfl rfl rfl rfl rfl (fun _ => rfl) l_5 rfl ?_
          refine z_r_rd (ins := (.getfield 26)) (len := 3) (t := 129) rfl rfl rfl rfl rfl (z_gfv (ci := 10) (k := 6) (v := .ref aG) rfl (z_lkn fM c_57) (by decide) (ye_flg rfl k6)) ?_
          refine z_r_ld (kk := z_isI) (ins := (.iload_n 1)) (len := 1) (t := 130) (i := 1) rfl rfl rfl rfl rfl (fun _ => rfl) l_6 rfl ?_
          refine z_r_ld (kk := z_isI) (ins := (.iload 8)) (len := 2) (t := 132) (i := 8) rfl rfl rfl rfl rfl (fun _ => rfl) l_12 rfl ?_
          refine ye_ca (ins := (.invokestatic 137)) (kd := 0) (t := 135) rfl rfl (by decide) (z_argsv rfl rfl rfl (by omega) (Nat.le_of_ble_eq_true rfl) rfl (Nat.le_of_ble_eq_true rfl) (Nat.le_refl _) (Nat.le_refl _) (Or.inl rfl) (Or.inl rfl)) rfl rfl rfl (ye_mat (by omega) (by omega)) ?_
          rintro _ _ ⟨rfl, rfl⟩
          refine z_r_rd (ins := .iaload) (len := 1) (t := 136) rfl rfl rfl rfl rfl (ye_al (t := 103) (p := 10 * h + i) (e := m_52) (z_lkn fG c_55) (by omega) (by omega) (List.getElem?_set_self (by omega))) ?_
          refine z_r_pu (ins := .iadd) (len := 1) (t := 137) rfl rfl rfl rfl ye_add ?_
          refine z_r_is (kk := z_isI) (ins := (.istore 6)) (len := 2) (t := 139) (i := 6) rfl rfl rfl rfl rfl rfl rfl rfl (fun l l_59 k_60 => ?_)
          have l_61 := k_60 _ _ l_5 (by decide) (Or.inl (by decide))
          have l_62 := k_60 _ _ l_6 (by decide) (Or.inl (by decide))
          have l_63 := k_60 _ _ l_7 (by decide) (Or.inl (by decide))
          have l_64 := k_60 _ _ l_8 (by decide) (Or.inl (by decide))
          have l_65 := k_60 _ _ l_9 (by decide) (Or.inr (by show (1 : Nat) ≠ 2; decide))
          have l_66 := k_60 _ _ l_11 (by decide) (Or.inl (by decide))
          have l_67 := k_60 _ _ l_12 (by decide) (Or.inl (by decide))
          have l_68 := k_60 _ _ l_3 (by decide) (Or.inl (by decide))
          refine z_r_ld (kk := z_isI) (ins := (.iload 7)) (len := 2) (t := 141) (i := 7) rfl rfl rfl rfl rfl (fun _ => rfl) l_66 rfl ?_
          refine z_r_ld (kk := z_isI) (ins := (.iload 5)) (len := 2) (t := 143) (i := 5) rfl rfl rfl rfl rfl (fun _ => rfl) l_65 rfl ?_
          refine z_r_pu (ins := .iadd) (len := 1) (t := 144) (st' := [.int ((f + Int32.ofInt i * sp) + sp)]) rfl rfl rfl rfl rfl ?_
          refine z_r_is (kk := z_isI) (ins := (.istore 7)) (len := 2) (t := 146) (i := 7) rfl rfl rfl rfl rfl rfl rfl rfl (fun l l_69 k_70 => ?_)
          have l_71 := k_70 _ _ l_61 (by decide) (Or.inl (by decide))
          have l_72 := k_70 _ _ l_62 (by decide) (Or.inl (by decide))
          have l_73 := k_70 _ _ l_63 (by decide) (Or.inl (by decide))
          have l_74 := k_70 _ _ l_64 (by decide) (Or.inl (by decide))
          have l_75 := k_70 _ _ l_65 (by decide) (Or.inl (by decide))
          have l_76 := k_70 _ _ l_59 (by decide) (Or.inr (by show (1 : Nat) ≠ 2; decide))
          have l_77 := k_70 _ _ l_67 (by decide) (Or.inl (by decide))
          have l_78 := k_70 _ _ l_68 (by decide) (Or.inl (by decide))
          refine ye_ic (ins := (.iinc 8 1)) (len := 3) (t := 149) (i := 8) (a := i) (kk := 1) rfl rfl rfl rfl rfl rfl l_77 (fun l l_79 k_80 => ?_)
          have l_81 := k_80 _ _ l_71 (by decide) (Or.inl (by decide))
          have l_82 := k_80 _ _ l_72 (by decide) (Or.inl (by decide))
          have l_83 := k_80 _ _ l_73 (by decide) (Or.inl (by decide))
          have l_84 := k_80 _ _ l_74 (by decide) (Or.inl (by decide))
          have l_85 := k_80 _ _ l_75 (by decide) (Or.inl (by decide))
          have l_86 := k_80 _ _ l_76 (by decide) (Or.inl (by decide))
          have l_87 := k_80 _ _ l_69 (by decide) (Or.inr (by show (1 : Nat) ≠ 2; decide))
          have l_88 := k_80 _ _ l_78 (by decide) (Or.inl (by decide))
          refine z_r_jm (ins := (.goto (-98))) (len := 3) (t := 51) rfl rfl rfl rfl (z_gty rfl) ?_
          have e0 : m_52 = yh_cl ((f + Int32.ofInt i * sp)).toInt := by
            unfold yh_cl
            split
            · omega
            · split <;> omega
          have e1 : yh_en k (f + Int32.ofInt i * sp) = m_52 := by
            rw [e0]
            unfold yh_en yh_cv
            rw [if_neg (by omega), if_neg (by omega)]
          have ee : yh_c k n f sp i = m_52 := (if_neg (by omega)).trans e1
          exact kk _ _ _ l_81 l_82 l_83 l_84 l_85 (by rw [ee]; exact l_86) (by rw [← yh_v_step]; exact l_87) l_79 c_57 c_55 (by rw [List.length_set]; exact hgl)
        · skip
          refine z_r_jm (ins := (.if_icmp .lt 7)) (len := 3) (t := 106) rfl rfl rfl rfl (ye_jn (t := 110) rfl (by omega) (by omega) (by omega) (by omega) b_49) ?_
          refine z_r_pu (ins := (.iconst 0)) (len := 1) (t := 107) (st' := [ye_v 0, ye_v (10 * h + i), .ref aG]) rfl rfl rfl rfl rfl ?_
          refine z_r_jm (ins := (.goto 15)) (len := 3) (t := 122) rfl rfl rfl rfl (z_gty rfl) ?_
          refine ye_r_wr (ins := .iastore) (len := 1) (t := 123) (a := aG) (q := (103, gv.set (10 * h + i).toNat (ye_v 0))) rfl rfl rfl rfl rfl hG (ye_as (t := 103) (nf := fun x => x) (p := 10 * h + i) (e := 0) (e' := 0) hG (by omega) (by omega) (by omega) rfl) (fun P_89 c_90 o_91 => ?_)
          have c_92 := ye_kp o_91 (ye_n1 (ye_ne hM hG (by decide))) hM
          have o_93 := ye_oth_tr ho0 o_91 (ye_s1 (List.mem_cons_self))
          refine z_r_ld (kk := z_isI) (ins := (.iload 6)) (len := 2) (t := 125) (i := 6) rfl rfl rfl rfl rfl (fun _ => rfl) l_10 rfl ?_
          refine z_r_ld (kk := z_isA) (ins := (.aload_n 0)) (len := 1) (t := 126) (i := 0) rfl rfl rfl rfl rfl (fun _ => rfl) l_5 rfl ?_
          refine z_r_rd (ins := (.getfield 26)) (len := 3) (t := 129) rfl rfl rfl rfl rfl (z_gfv (ci := 10) (k := 6) (v := .ref aG) rfl (z_lkn fM c_92) (by decide) (ye_flg rfl k6)) ?_
          refine z_r_ld (kk := z_isI) (ins := (.iload_n 1)) (len := 1) (t := 130) (i := 1) rfl rfl rfl rfl rfl (fun _ => rfl) l_6 rfl ?_
          refine z_r_ld (kk := z_isI) (ins := (.iload 8)) (len := 2) (t := 132) (i := 8) rfl rfl rfl rfl rfl (fun _ => rfl) l_12 rfl ?_
          refine ye_ca (ins := (.invokestatic 137)) (kd := 0) (t := 135) rfl rfl (by decide) (z_argsv rfl rfl rfl (by omega) (Nat.le_of_ble_eq_true rfl) rfl (Nat.le_of_ble_eq_true rfl) (Nat.le_refl _) (Nat.le_refl _) (Or.inl rfl) (Or.inl rfl)) rfl rfl rfl (ye_mat (by omega) (by omega)) ?_
          rintro _ _ ⟨rfl, rfl⟩
          refine z_r_rd (ins := .iaload) (len := 1) (t := 136) rfl rfl rfl rfl rfl (ye_al (t := 103) (p := 10 * h + i) (e := 0) (z_lkn fG c_90) (by omega) (by omega) (List.getElem?_set_self (by omega))) ?_
          refine z_r_pu (ins := .iadd) (len := 1) (t := 137) rfl rfl rfl rfl ye_add ?_
          refine z_r_is (kk := z_isI) (ins := (.istore 6)) (len := 2) (t := 139) (i := 6) rfl rfl rfl rfl rfl rfl rfl rfl (fun l l_94 k_95 => ?_)
          have l_96 := k_95 _ _ l_5 (by decide) (Or.inl (by decide))
          have l_97 := k_95 _ _ l_6 (by decide) (Or.inl (by decide))
          have l_98 := k_95 _ _ l_7 (by decide) (Or.inl (by decide))
          have l_99 := k_95 _ _ l_8 (by decide) (Or.inl (by decide))
          have l_100 := k_95 _ _ l_9 (by decide) (Or.inr (by show (1 : Nat) ≠ 2; decide))
          have l_101 := k_95 _ _ l_11 (by decide) (Or.inl (by decide))
          have l_102 := k_95 _ _ l_12 (by decide) (Or.inl (by decide))
          have l_103 := k_95 _ _ l_3 (by decide) (Or.inl (by decide))
          refine z_r_ld (kk := z_isI) (ins := (.iload 7)) (len := 2) (t := 141) (i := 7) rfl rfl rfl rfl rfl (fun _ => rfl) l_101 rfl ?_
          refine z_r_ld (kk := z_isI) (ins := (.iload 5)) (len := 2) (t := 143) (i := 5) rfl rfl rfl rfl rfl (fun _ => rfl) l_100 rfl ?_
          refine z_r_pu (ins := .iadd) (len := 1) (t := 144) (st' := [.int ((f + Int32.ofInt i * sp) + sp)]) rfl rfl rfl rfl rfl ?_
          refine z_r_is (kk := z_isI) (ins := (.istore 7)) (len := 2) (t := 146) (i := 7) rfl rfl rfl rfl rfl rfl rfl rfl (fun l l_104 k_105 => ?_)
          have l_106 := k_105 _ _ l_96 (by decide) (Or.inl (by decide))
          have l_107 := k_105 _ _ l_97 (by decide) (Or.inl (by decide))
          have l_108 := k_105 _ _ l_98 (by decide) (Or.inl (by decide))
          have l_109 := k_105 _ _ l_99 (by decide) (Or.inl (by decide))
          have l_110 := k_105 _ _ l_100 (by decide) (Or.inl (by decide))
          have l_111 := k_105 _ _ l_94 (by decide) (Or.inr (by show (1 : Nat) ≠ 2; decide))
          have l_112 := k_105 _ _ l_102 (by decide) (Or.inl (by decide))
          have l_113 := k_105 _ _ l_103 (by decide) (Or.inl (by decide))
          refine ye_ic (ins := (.iinc 8 1)) (len := 3) (t := 149) (i := 8) (a := i) (kk := 1) rfl rfl rfl rfl rfl rfl l_112 (fun l l_114 k_115 => ?_)
          have l_116 := k_115 _ _ l_106 (by decide) (Or.inl (by decide))
          have l_117 := k_115 _ _ l_107 (by decide) (Or.inl (by decide))
          have l_118 := k_115 _ _ l_108 (by decide) (Or.inl (by decide))
          have l_119 := k_115 _ _ l_109 (by decide) (Or.inl (by decide))
          have l_120 := k_115 _ _ l_110 (by decide) (Or.inl (by decide))
          have l_121 := k_115 _ _ l_111 (by decide) (Or.inl (by decide))
          have l_122 := k_115 _ _ l_104 (by decide) (Or.inr (by show (1 : Nat) ≠ 2; decide))
          have l_123 := k_115 _ _ l_113 (by decide) (Or.inl (by decide))
          refine z_r_jm (ins := (.goto (-98))) (len := 3) (t := 51) rfl rfl rfl rfl (z_gty rfl) ?_
          have ee : yh_c k n f sp i = 0 := if_pos (by omega)
          exact kk _ _ _ l_116 l_117 l_118 l_119 l_120 (by rw [ee]; exact l_121) (by rw [← yh_v_step]; exact l_122) l_114 c_92 c_90 (by rw [List.length_set]; exact hgl)
    · skip
      refine z_r_jm (ins := (.if_icmp .ne 9)) (len := 3) (t := 75) rfl rfl rfl rfl (ye_jn (t := 81) rfl (by omega) (by omega) (by omega) (by omega) b_2) ?_
      refine z_r_ld (kk := z_isI) (ins := (.iload 7)) (len := 2) (t := 77) (i := 7) rfl rfl rfl rfl rfl (fun _ => rfl) h7 rfl ?_
      refine z_r_pu (ins := .i2s) (len := 1) (t := 78) rfl rfl rfl rfl ye_i2sx ?_
      refine z_r_jm (ins := (.goto 5)) (len := 3) (t := 83) rfl rfl rfl rfl (z_gty rfl) ?_
      refine z_r_is (kk := z_isI) (ins := (.istore 9)) (len := 2) (t := 85) (i := 9) rfl rfl rfl rfl rfl rfl rfl rfl (fun l l_124 k_125 => ?_)
      have l_126 := k_125 _ _ h0 (by decide) (Or.inl (by decide))
      have l_127 := k_125 _ _ h1 (by decide) (Or.inl (by decide))
      have l_128 := k_125 _ _ h2 (by decide) (Or.inl (by decide))
      have l_129 := k_125 _ _ h3 (by decide) (Or.inl (by decide))
      have l_130 := k_125 _ _ h5 (by decide) (Or.inl (by decide))
      have l_131 := k_125 _ _ h6 (by decide) (Or.inl (by decide))
      have l_132 := k_125 _ _ h7 (by decide) (Or.inl (by decide))
      have l_133 := k_125 _ _ h8 (by decide) (Or.inr (by show (1 : Nat) ≠ 2; decide))
      refine z_r_ld (kk := z_isA) (ins := (.aload_n 0)) (len := 1) (t := 86) (i := 0) rfl rfl rfl rfl rfl (fun _ => rfl) l_126 rfl ?_
      refine z_r_rd (ins := (.getfield 26)) (len := 3) (t := 89) rfl rfl rfl rfl rfl (z_gfv (ci := 10) (k := 6) (v := .ref aG) rfl (z_lkn fM hM) (by decide) (ye_flg rfl k6)) ?_
      refine z_r_ld (kk := z_isI) (ins := (.iload_n 1)) (len := 1) (t := 90) (i := 1) rfl rfl rfl rfl rfl (fun _ => rfl) l_127 rfl ?_
      refine z_r_ld (kk := z_isI) (ins := (.iload 8)) (len := 2) (t := 92) (i := 8) rfl rfl rfl rfl rfl (fun _ => rfl) l_133 rfl ?_
      refine ye_ca (ins := (.invokestatic 137)) (kd := 0) (t := 95) rfl rfl (by decide) (z_argsv rfl rfl rfl (by omega) (Nat.le_of_ble_eq_true rfl) rfl (Nat.le_of_ble_eq_true rfl) (Nat.le_refl _) (Nat.le_refl _) (Or.inl rfl) (Or.inl rfl)) rfl rfl rfl (ye_mat (by omega) (by omega)) ?_
      rintro _ _ ⟨rfl, rfl⟩
      refine z_r_ld (kk := z_isI) (ins := (.iload_n 2)) (len := 1) (t := 96) (i := 2) rfl rfl rfl rfl rfl (fun _ => rfl) l_128 rfl ?_
      refine z_r_pu (ins := (.iconst 3)) (len := 1) (t := 97) (st' := [ye_v 3, ye_v k, ye_v (10 * h + i), .ref aG]) rfl rfl rfl rfl rfl ?_
      by_cases b_134 : k = 3
      · skip
        refine z_r_jm (ins := (.if_icmp .eq 9)) (len := 3) (t := 106) rfl rfl rfl rfl (ye_jy (t := 106) rfl (by omega) (by omega) (by omega) (by omega) b_134) ?_
        refine z_r_pu (ins := (.iconst 0)) (len := 1) (t := 107) (st' := [ye_v 0, ye_v (10 * h + i), .ref aG]) rfl rfl rfl rfl rfl ?_
        refine z_r_jm (ins := (.goto 15)) (len := 3) (t := 122) rfl rfl rfl rfl (z_gty rfl) ?_
        refine ye_r_wr (ins := .iastore) (len := 1) (t := 123) (a := aG) (q := (103, gv.set (10 * h + i).toNat (ye_v 0))) rfl rfl rfl rfl rfl hG (ye_as (t := 103) (nf := fun x => x) (p := 10 * h + i) (e := 0) (e' := 0) hG (by omega) (by omega) (by omega) rfl) (fun P_135 c_136 o_137 => ?_)
        have c_138 := ye_kp o_137 (ye_n1 (ye_ne hM hG (by decide))) hM
        have o_139 := ye_oth_tr ho0 o_137 (ye_s1 (List.mem_cons_self))
        refine z_r_ld (kk := z_isI) (ins := (.iload 6)) (len := 2) (t := 125) (i := 6) rfl rfl rfl rfl rfl (fun _ => rfl) l_131 rfl ?_
        refine z_r_ld (kk := z_isA) (ins := (.aload_n 0)) (len := 1) (t := 126) (i := 0) rfl rfl rfl rfl rfl (fun _ => rfl) l_126 rfl ?_
        refine z_r_rd (ins := (.getfield 26)) (len := 3) (t := 129) rfl rfl rfl rfl rfl (z_gfv (ci := 10) (k := 6) (v := .ref aG) rfl (z_lkn fM c_138) (by decide) (ye_flg rfl k6)) ?_
        refine z_r_ld (kk := z_isI) (ins := (.iload_n 1)) (len := 1) (t := 130) (i := 1) rfl rfl rfl rfl rfl (fun _ => rfl) l_127 rfl ?_
        refine z_r_ld (kk := z_isI) (ins := (.iload 8)) (len := 2) (t := 132) (i := 8) rfl rfl rfl rfl rfl (fun _ => rfl) l_133 rfl ?_
        refine ye_ca (ins := (.invokestatic 137)) (kd := 0) (t := 135) rfl rfl (by decide) (z_argsv rfl rfl rfl (by omega) (Nat.le_of_ble_eq_true rfl) rfl (Nat.le_of_ble_eq_true rfl) (Nat.le_refl _) (Nat.le_refl _) (Or.inl rfl) (Or.inl rfl)) rfl rfl rfl (ye_mat (by omega) (by omega)) ?_
        rintro _ _ ⟨rfl, rfl⟩
        refine z_r_rd (ins := .iaload) (len := 1) (t := 136) rfl rfl rfl rfl rfl (ye_al (t := 103) (p := 10 * h + i) (e := 0) (z_lkn fG c_136) (by omega) (by omega) (List.getElem?_set_self (by omega))) ?_
        refine z_r_pu (ins := .iadd) (len := 1) (t := 137) rfl rfl rfl rfl ye_add ?_
        refine z_r_is (kk := z_isI) (ins := (.istore 6)) (len := 2) (t := 139) (i := 6) rfl rfl rfl rfl rfl rfl rfl rfl (fun l l_140 k_141 => ?_)
        have l_142 := k_141 _ _ l_126 (by decide) (Or.inl (by decide))
        have l_143 := k_141 _ _ l_127 (by decide) (Or.inl (by decide))
        have l_144 := k_141 _ _ l_128 (by decide) (Or.inl (by decide))
        have l_145 := k_141 _ _ l_129 (by decide) (Or.inl (by decide))
        have l_146 := k_141 _ _ l_130 (by decide) (Or.inr (by show (1 : Nat) ≠ 2; decide))
        have l_147 := k_141 _ _ l_132 (by decide) (Or.inl (by decide))
        have l_148 := k_141 _ _ l_133 (by decide) (Or.inl (by decide))
        have l_149 := k_141 _ _ l_124 (by decide) (Or.inl (by decide))
        refine z_r_ld (kk := z_isI) (ins := (.iload 7)) (len := 2) (t := 141) (i := 7) rfl rfl rfl rfl rfl (fun _ => rfl) l_147 rfl ?_
        refine z_r_ld (kk := z_isI) (ins := (.iload 5)) (len := 2) (t := 143) (i := 5) rfl rfl rfl rfl rfl (fun _ => rfl) l_146 rfl ?_
        refine z_r_pu (ins := .iadd) (len := 1) (t := 144) (st' := [.int ((f + Int32.ofInt i * sp) + sp)]) rfl rfl rfl rfl rfl ?_
        refine z_r_is (kk := z_isI) (ins := (.istore 7)) (len := 2) (t := 146) (i := 7) rfl rfl rfl rfl rfl rfl rfl rfl (fun l l_150 k_151 => ?_)
        have l_152 := k_151 _ _ l_142 (by decide) (Or.inl (by decide))
        have l_153 := k_151 _ _ l_143 (by decide) (Or.inl (by decide))
        have l_154 := k_151 _ _ l_144 (by decide) (Or.inl (by decide))
        have l_155 := k_151 _ _ l_145 (by decide) (Or.inl (by decide))
        have l_156 := k_151 _ _ l_146 (by decide) (Or.inl (by decide))
        have l_157 := k_151 _ _ l_140 (by decide) (Or.inr (by show (1 : Nat) ≠ 2; decide))
        have l_158 := k_151 _ _ l_148 (by decide) (Or.inl (by decide))
        have l_159 := k_151 _ _ l_149 (by decide) (Or.inl (by decide))
        refine ye_ic (ins := (.iinc 8 1)) (len := 3) (t := 149) (i := 8) (a := i) (kk := 1) rfl rfl rfl rfl rfl rfl l_158 (fun l l_160 k_161 => ?_)
        have l_162 := k_161 _ _ l_152 (by decide) (Or.inl (by decide))
        have l_163 := k_161 _ _ l_153 (by decide) (Or.inl (by decide))
        have l_164 := k_161 _ _ l_154 (by decide) (Or.inl (by decide))
        have l_165 := k_161 _ _ l_155 (by decide) (Or.inl (by decide))
        have l_166 := k_161 _ _ l_156 (by decide) (Or.inl (by decide))
        have l_167 := k_161 _ _ l_157 (by decide) (Or.inl (by decide))
        have l_168 := k_161 _ _ l_150 (by decide) (Or.inr (by show (1 : Nat) ≠ 2; decide))
        have l_169 := k_161 _ _ l_159 (by decide) (Or.inl (by decide))
        refine z_r_jm (ins := (.goto (-98))) (len := 3) (t := 51) rfl rfl rfl rfl (z_gty rfl) ?_
        have ee : yh_c k n f sp i = 0 := if_pos (by omega)
        exact kk _ _ _ l_162 l_163 l_164 l_165 l_166 (by rw [ee]; exact l_167) (by rw [← yh_v_step]; exact l_168) l_160 c_138 c_136 (by rw [List.length_set]; exact hgl)
      · skip
        refine z_r_jm (ins := (.if_icmp .eq 9)) (len := 3) (t := 100) rfl rfl rfl rfl (ye_jn (t := 106) rfl (by omega) (by omega) (by omega) (by omega) b_134) ?_
        refine z_r_ld (kk := z_isI) (ins := (.iload 8)) (len := 2) (t := 102) (i := 8) rfl rfl rfl rfl rfl (fun _ => rfl) l_133 rfl ?_
        refine z_r_ld (kk := z_isI) (ins := (.iload_n 3)) (len := 1) (t := 103) (i := 3) rfl rfl rfl rfl rfl (fun _ => rfl) l_129 rfl ?_
        by_cases b_170 : i < n
        · skip
          refine z_r_jm (ins := (.if_icmp .lt 7)) (len := 3) (t := 110) rfl rfl rfl rfl (ye_jy (t := 110) rfl (by omega) (by omega) (by omega) (by omega) b_170) ?_
          refine z_r_pu (ins := (.iconst 0)) (len := 1) (t := 111) (st' := [ye_v 0, ye_v (10 * h + i), .ref aG]) rfl rfl rfl rfl rfl ?_
          refine z_r_pu (ins := (.sipush 999)) (len := 3) (t := 114) rfl rfl rfl rfl (ye_si (by decide) (by decide)) ?_
          refine z_r_ld (kk := z_isI) (ins := (.iload 9)) (len := 2) (t := 116) (i := 9) rfl rfl rfl rfl rfl (fun _ => rfl) l_124 rfl ?_
          have w1 := (((f + Int32.ofInt i * sp).toInt16.toInt32)).le_toInt
          have w2 := (((f + Int32.ofInt i * sp).toInt16.toInt32)).toInt_lt
          refine ye_ca (ins := (.invokestatic 190)) (kd := 0) (t := 119) rfl rfl (by decide) (z_argsv rfl rfl rfl (by omega) (Nat.le_of_ble_eq_true rfl) rfl (Nat.le_of_ble_eq_true rfl) (Nat.le_refl _) (Nat.le_refl _) (Or.inl rfl) (Or.inl rfl)) rfl rfl rfl (ye_minX (w := ((f + Int32.ofInt i * sp).toInt16.toInt32))) ?_
          rintro _ _ ⟨rfl, m_171, rfl, h_172⟩
          refine ye_ca (ins := (.invokestatic 239)) (kd := 0) (t := 122) rfl rfl (by decide) (z_argsv rfl rfl rfl (by omega) (Nat.le_of_ble_eq_true rfl) rfl (Nat.le_of_ble_eq_true rfl) (Nat.le_refl _) (Nat.le_refl _) (Or.inl rfl) (Or.inl rfl)) rfl rfl rfl (ye_max (by omega) (by omega)) ?_
          rintro _ _ ⟨rfl, m_173, rfl, h_174⟩
          refine ye_r_wr (ins := .iastore) (len := 1) (t := 123) (a := aG) (q := (103, gv.set (10 * h + i).toNat (ye_v m_173))) rfl rfl rfl rfl rfl hG (ye_as (t := 103) (nf := fun x => x) (p := 10 * h + i) (e := m_173) (e' := m_173) hG (by omega) (by omega) (by omega) rfl) (fun P_175 c_176 o_177 => ?_)
          have c_178 := ye_kp o_177 (ye_n1 (ye_ne hM hG (by decide))) hM
          have o_179 := ye_oth_tr ho0 o_177 (ye_s1 (List.mem_cons_self))
          refine z_r_ld (kk := z_isI) (ins := (.iload 6)) (len := 2) (t := 125) (i := 6) rfl rfl rfl rfl rfl (fun _ => rfl) l_131 rfl ?_
          refine z_r_ld (kk := z_isA) (ins := (.aload_n 0)) (len := 1) (t := 126) (i := 0) rfl rfl rfl rfl rfl (fun _ => rfl) l_126 rfl ?_
          refine z_r_rd (ins := (.getfield 26)) (len := 3) (t := 129) rfl rfl rfl rfl rfl (z_gfv (ci := 10) (k := 6) (v := .ref aG) rfl (z_lkn fM c_178) (by decide) (ye_flg rfl k6)) ?_
          refine z_r_ld (kk := z_isI) (ins := (.iload_n 1)) (len := 1) (t := 130) (i := 1) rfl rfl rfl rfl rfl (fun _ => rfl) l_127 rfl ?_
          refine z_r_ld (kk := z_isI) (ins := (.iload 8)) (len := 2) (t := 132) (i := 8) rfl rfl rfl rfl rfl (fun _ => rfl) l_133 rfl ?_
          refine ye_ca (ins := (.invokestatic 137)) (kd := 0) (t := 135) rfl rfl (by decide) (z_argsv rfl rfl rfl (by omega) (Nat.le_of_ble_eq_true rfl) rfl (Nat.le_of_ble_eq_true rfl) (Nat.le_refl _) (Nat.le_refl _) (Or.inl rfl) (Or.inl rfl)) rfl rfl rfl (ye_mat (by omega) (by omega)) ?_
          rintro _ _ ⟨rfl, rfl⟩
          refine z_r_rd (ins := .iaload) (len := 1) (t := 136) rfl rfl rfl rfl rfl (ye_al (t := 103) (p := 10 * h + i) (e := m_173) (z_lkn fG c_176) (by omega) (by omega) (List.getElem?_set_self (by omega))) ?_
          refine z_r_pu (ins := .iadd) (len := 1) (t := 137) rfl rfl rfl rfl ye_add ?_
          refine z_r_is (kk := z_isI) (ins := (.istore 6)) (len := 2) (t := 139) (i := 6) rfl rfl rfl rfl rfl rfl rfl rfl (fun l l_180 k_181 => ?_)
          have l_182 := k_181 _ _ l_126 (by decide) (Or.inl (by decide))
          have l_183 := k_181 _ _ l_127 (by decide) (Or.inl (by decide))
          have l_184 := k_181 _ _ l_128 (by decide) (Or.inl (by decide))
          have l_185 := k_181 _ _ l_129 (by decide) (Or.inl (by decide))
          have l_186 := k_181 _ _ l_130 (by decide) (Or.inr (by show (1 : Nat) ≠ 2; decide))
          have l_187 := k_181 _ _ l_132 (by decide) (Or.inl (by decide))
          have l_188 := k_181 _ _ l_133 (by decide) (Or.inl (by decide))
          have l_189 := k_181 _ _ l_124 (by decide) (Or.inl (by decide))
          refine z_r_ld (kk := z_isI) (ins := (.iload 7)) (len := 2) (t := 141) (i := 7) rfl rfl rfl rfl rfl (fun _ => rfl) l_187 rfl ?_
          refine z_r_ld (kk := z_isI) (ins := (.iload 5)) (len := 2) (t := 143) (i := 5) rfl rfl rfl rfl rfl (fun _ => rfl) l_186 rfl ?_
          refine z_r_pu (ins := .iadd) (len := 1) (t := 144) (st' := [.int ((f + Int32.ofInt i * sp) + sp)]) rfl rfl rfl rfl rfl ?_
          refine z_r_is (kk := z_isI) (ins := (.istore 7)) (len := 2) (t := 146) (i := 7) rfl rfl rfl rfl rfl rfl rfl rfl (fun l l_190 k_191 => ?_)
          have l_192 := k_191 _ _ l_182 (by decide) (Or.inl (by decide))
          have l_193 := k_191 _ _ l_183 (by decide) (Or.inl (by decide))
          have l_194 := k_191 _ _ l_184 (by decide) (Or.inl (by decide))
          have l_195 := k_191 _ _ l_185 (by decide) (Or.inl (by decide))
          have l_196 := k_191 _ _ l_186 (by decide) (Or.inl (by decide))
          have l_197 := k_191 _ _ l_180 (by decide) (Or.inr (by show (1 : Nat) ≠ 2; decide))
          have l_198 := k_191 _ _ l_188 (by decide) (Or.inl (by decide))
          have l_199 := k_191 _ _ l_189 (by decide) (Or.inl (by decide))
          refine ye_ic (ins := (.iinc 8 1)) (len := 3) (t := 149) (i := 8) (a := i) (kk := 1) rfl rfl rfl rfl rfl rfl l_198 (fun l l_200 k_201 => ?_)
          have l_202 := k_201 _ _ l_192 (by decide) (Or.inl (by decide))
          have l_203 := k_201 _ _ l_193 (by decide) (Or.inl (by decide))
          have l_204 := k_201 _ _ l_194 (by decide) (Or.inl (by decide))
          have l_205 := k_201 _ _ l_195 (by decide) (Or.inl (by decide))
          have l_206 := k_201 _ _ l_196 (by decide) (Or.inl (by decide))
          have l_207 := k_201 _ _ l_197 (by decide) (Or.inl (by decide))
          have l_208 := k_201 _ _ l_190 (by decide) (Or.inr (by show (1 : Nat) ≠ 2; decide))
          have l_209 := k_201 _ _ l_199 (by decide) (Or.inl (by decide))
          refine z_r_jm (ins := (.goto (-98))) (len := 3) (t := 51) rfl rfl rfl rfl (z_gty rfl) ?_
          have e0 : m_173 = yh_cl (((f + Int32.ofInt i * sp).toInt16.toInt32)).toInt := by
            unfold yh_cl
            split
            · omega
            · split <;> omega
          have e1 : yh_en k (f + Int32.ofInt i * sp) = m_173 := by
            rw [e0]
            unfold yh_en yh_cv
            rw [if_neg (by omega), if_pos (by omega)]
          have ee : yh_c k n f sp i = m_173 := (if_neg (by omega)).trans e1
          exact kk _ _ _ l_202 l_203 l_204 l_205 l_206 (by rw [ee]; exact l_207) (by rw [← yh_v_step]; exact l_208) l_200 c_178 c_176 (by rw [List.length_set]; exact hgl)
        · skip
          refine z_r_jm (ins := (.if_icmp .lt 7)) (len := 3) (t := 106) rfl rfl rfl rfl (ye_jn (t := 110) rfl (by omega) (by omega) (by omega) (by omega) b_170) ?_
          refine z_r_pu (ins := (.iconst 0)) (len := 1) (t := 107) (st' := [ye_v 0, ye_v (10 * h + i), .ref aG]) rfl rfl rfl rfl rfl ?_
          refine z_r_jm (ins := (.goto 15)) (len := 3) (t := 122) rfl rfl rfl rfl (z_gty rfl) ?_
          refine ye_r_wr (ins := .iastore) (len := 1) (t := 123) (a := aG) (q := (103, gv.set (10 * h + i).toNat (ye_v 0))) rfl rfl rfl rfl rfl hG (ye_as (t := 103) (nf := fun x => x) (p := 10 * h + i) (e := 0) (e' := 0) hG (by omega) (by omega) (by omega) rfl) (fun P_210 c_211 o_212 => ?_)
          have c_213 := ye_kp o_212 (ye_n1 (ye_ne hM hG (by decide))) hM
          have o_214 := ye_oth_tr ho0 o_212 (ye_s1 (List.mem_cons_self))
          refine z_r_ld (kk := z_isI) (ins := (.iload 6)) (len := 2) (t := 125) (i := 6) rfl rfl rfl rfl rfl (fun _ => rfl) l_131 rfl ?_
          refine z_r_ld (kk := z_isA) (ins := (.aload_n 0)) (len := 1) (t := 126) (i := 0) rfl rfl rfl rfl rfl (fun _ => rfl) l_126 rfl ?_
          refine z_r_rd (ins := (.getfield 26)) (len := 3) (t := 129) rfl rfl rfl rfl rfl (z_gfv (ci := 10) (k := 6) (v := .ref aG) rfl (z_lkn fM c_213) (by decide) (ye_flg rfl k6)) ?_
          refine z_r_ld (kk := z_isI) (ins := (.iload_n 1)) (len := 1) (t := 130) (i := 1) rfl rfl rfl rfl rfl (fun _ => rfl) l_127 rfl ?_
          refine z_r_ld (kk := z_isI) (ins := (.iload 8)) (len := 2) (t := 132) (i := 8) rfl rfl rfl rfl rfl (fun _ => rfl) l_133 rfl ?_
          refine ye_ca (ins := (.invokestatic 137)) (kd := 0) (t := 135) rfl rfl (by decide) (z_argsv rfl rfl rfl (by omega) (Nat.le_of_ble_eq_true rfl) rfl (Nat.le_of_ble_eq_true rfl) (Nat.le_refl _) (Nat.le_refl _) (Or.inl rfl) (Or.inl rfl)) rfl rfl rfl (ye_mat (by omega) (by omega)) ?_
          rintro _ _ ⟨rfl, rfl⟩
          refine z_r_rd (ins := .iaload) (len := 1) (t := 136) rfl rfl rfl rfl rfl (ye_al (t := 103) (p := 10 * h + i) (e := 0) (z_lkn fG c_211) (by omega) (by omega) (List.getElem?_set_self (by omega))) ?_
          refine z_r_pu (ins := .iadd) (len := 1) (t := 137) rfl rfl rfl rfl ye_add ?_
          refine z_r_is (kk := z_isI) (ins := (.istore 6)) (len := 2) (t := 139) (i := 6) rfl rfl rfl rfl rfl rfl rfl rfl (fun l l_215 k_216 => ?_)
          have l_217 := k_216 _ _ l_126 (by decide) (Or.inl (by decide))
          have l_218 := k_216 _ _ l_127 (by decide) (Or.inl (by decide))
          have l_219 := k_216 _ _ l_128 (by decide) (Or.inl (by decide))
          have l_220 := k_216 _ _ l_129 (by decide) (Or.inl (by decide))
          have l_221 := k_216 _ _ l_130 (by decide) (Or.inr (by show (1 : Nat) ≠ 2; decide))
          have l_222 := k_216 _ _ l_132 (by decide) (Or.inl (by decide))
          have l_223 := k_216 _ _ l_133 (by decide) (Or.inl (by decide))
          have l_224 := k_216 _ _ l_124 (by decide) (Or.inl (by decide))
          refine z_r_ld (kk := z_isI) (ins := (.iload 7)) (len := 2) (t := 141) (i := 7) rfl rfl rfl rfl rfl (fun _ => rfl) l_222 rfl ?_
          refine z_r_ld (kk := z_isI) (ins := (.iload 5)) (len := 2) (t := 143) (i := 5) rfl rfl rfl rfl rfl (fun _ => rfl) l_221 rfl ?_
          refine z_r_pu (ins := .iadd) (len := 1) (t := 144) (st' := [.int ((f + Int32.ofInt i * sp) + sp)]) rfl rfl rfl rfl rfl ?_
          refine z_r_is (kk := z_isI) (ins := (.istore 7)) (len := 2) (t := 146) (i := 7) rfl rfl rfl rfl rfl rfl rfl rfl (fun l l_225 k_226 => ?_)
          have l_227 := k_226 _ _ l_217 (by decide) (Or.inl (by decide))
          have l_228 := k_226 _ _ l_218 (by decide) (Or.inl (by decide))
          have l_229 := k_226 _ _ l_219 (by decide) (Or.inl (by decide))
          have l_230 := k_226 _ _ l_220 (by decide) (Or.inl (by decide))
          have l_231 := k_226 _ _ l_221 (by decide) (Or.inl (by decide))
          have l_232 := k_226 _ _ l_215 (by decide) (Or.inr (by show (1 : Nat) ≠ 2; decide))
          have l_233 := k_226 _ _ l_223 (by decide) (Or.inl (by decide))
          have l_234 := k_226 _ _ l_224 (by decide) (Or.inl (by decide))
          refine ye_ic (ins := (.iinc 8 1)) (len := 3) (t := 149) (i := 8) (a := i) (kk := 1) rfl rfl rfl rfl rfl rfl l_233 (fun l l_235 k_236 => ?_)
          have l_237 := k_236 _ _ l_227 (by decide) (Or.inl (by decide))
          have l_238 := k_236 _ _ l_228 (by decide) (Or.inl (by decide))
          have l_239 := k_236 _ _ l_229 (by decide) (Or.inl (by decide))
          have l_240 := k_236 _ _ l_230 (by decide) (Or.inl (by decide))
          have l_241 := k_236 _ _ l_231 (by decide) (Or.inl (by decide))
          have l_242 := k_236 _ _ l_232 (by decide) (Or.inl (by decide))
          have l_243 := k_236 _ _ l_225 (by decide) (Or.inr (by show (1 : Nat) ≠ 2; decide))
          have l_244 := k_236 _ _ l_234 (by decide) (Or.inl (by decide))
          refine z_r_jm (ins := (.goto (-98))) (len := 3) (t := 51) rfl rfl rfl rfl (z_gty rfl) ?_
          have ee : yh_c k n f sp i = 0 := if_pos (by omega)
          exact kk _ _ _ l_237 l_238 l_239 l_240 l_241 (by rw [ee]; exact l_242) (by rw [← yh_v_step]; exact l_243) l_235 c_213 c_211 (by rw [List.length_set]; exact hgl)
  · skip
    refine z_r_jm (ins := (.ifCond .ne 9)) (len := 3) (t := 64) rfl rfl rfl rfl (ye_in (t := 70) rfl (by omega) (by omega) b_1) ?_
    refine z_r_ld (kk := z_isI) (ins := (.iload 7)) (len := 2) (t := 66) (i := 7) rfl rfl rfl rfl rfl (fun _ => rfl) h7 rfl ?_
    refine z_r_pu (ins := .i2b) (len := 1) (t := 67) rfl rfl rfl rfl ye_i2bx ?_
    refine z_r_jm (ins := (.goto 16)) (len := 3) (t := 83) rfl rfl rfl rfl (z_gty rfl) ?_
    refine z_r_is (kk := z_isI) (ins := (.istore 9)) (len := 2) (t := 85) (i := 9) rfl rfl rfl rfl rfl rfl rfl rfl (fun l l_245 k_246 => ?_)
    have l_247 := k_246 _ _ h0 (by decide) (Or.inl (by decide))
    have l_248 := k_246 _ _ h1 (by decide) (Or.inl (by decide))
    have l_249 := k_246 _ _ h2 (by decide) (Or.inl (by decide))
    have l_250 := k_246 _ _ h3 (by decide) (Or.inl (by decide))
    have l_251 := k_246 _ _ h5 (by decide) (Or.inl (by decide))
    have l_252 := k_246 _ _ h6 (by decide) (Or.inl (by decide))
    have l_253 := k_246 _ _ h7 (by decide) (Or.inl (by decide))
    have l_254 := k_246 _ _ h8 (by decide) (Or.inr (by show (1 : Nat) ≠ 2; decide))
    refine z_r_ld (kk := z_isA) (ins := (.aload_n 0)) (len := 1) (t := 86) (i := 0) rfl rfl rfl rfl rfl (fun _ => rfl) l_247 rfl ?_
    refine z_r_rd (ins := (.getfield 26)) (len := 3) (t := 89) rfl rfl rfl rfl rfl (z_gfv (ci := 10) (k := 6) (v := .ref aG) rfl (z_lkn fM hM) (by decide) (ye_flg rfl k6)) ?_
    refine z_r_ld (kk := z_isI) (ins := (.iload_n 1)) (len := 1) (t := 90) (i := 1) rfl rfl rfl rfl rfl (fun _ => rfl) l_248 rfl ?_
    refine z_r_ld (kk := z_isI) (ins := (.iload 8)) (len := 2) (t := 92) (i := 8) rfl rfl rfl rfl rfl (fun _ => rfl) l_254 rfl ?_
    refine ye_ca (ins := (.invokestatic 137)) (kd := 0) (t := 95) rfl rfl (by decide) (z_argsv rfl rfl rfl (by omega) (Nat.le_of_ble_eq_true rfl) rfl (Nat.le_of_ble_eq_true rfl) (Nat.le_refl _) (Nat.le_refl _) (Or.inl rfl) (Or.inl rfl)) rfl rfl rfl (ye_mat (by omega) (by omega)) ?_
    rintro _ _ ⟨rfl, rfl⟩
    refine z_r_ld (kk := z_isI) (ins := (.iload_n 2)) (len := 1) (t := 96) (i := 2) rfl rfl rfl rfl rfl (fun _ => rfl) l_249 rfl ?_
    refine z_r_pu (ins := (.iconst 3)) (len := 1) (t := 97) (st' := [ye_v 3, ye_v k, ye_v (10 * h + i), .ref aG]) rfl rfl rfl rfl rfl ?_
    by_cases b_255 : k = 3
    · skip
      refine z_r_jm (ins := (.if_icmp .eq 9)) (len := 3) (t := 106) rfl rfl rfl rfl (ye_jy (t := 106) rfl (by omega) (by omega) (by omega) (by omega) b_255) ?_
      refine z_r_pu (ins := (.iconst 0)) (len := 1) (t := 107) (st' := [ye_v 0, ye_v (10 * h + i), .ref aG]) rfl rfl rfl rfl rfl ?_
      refine z_r_jm (ins := (.goto 15)) (len := 3) (t := 122) rfl rfl rfl rfl (z_gty rfl) ?_
      refine ye_r_wr (ins := .iastore) (len := 1) (t := 123) (a := aG) (q := (103, gv.set (10 * h + i).toNat (ye_v 0))) rfl rfl rfl rfl rfl hG (ye_as (t := 103) (nf := fun x => x) (p := 10 * h + i) (e := 0) (e' := 0) hG (by omega) (by omega) (by omega) rfl) (fun P_256 c_257 o_258 => ?_)
      have c_259 := ye_kp o_258 (ye_n1 (ye_ne hM hG (by decide))) hM
      have o_260 := ye_oth_tr ho0 o_258 (ye_s1 (List.mem_cons_self))
      refine z_r_ld (kk := z_isI) (ins := (.iload 6)) (len := 2) (t := 125) (i := 6) rfl rfl rfl rfl rfl (fun _ => rfl) l_252 rfl ?_
      refine z_r_ld (kk := z_isA) (ins := (.aload_n 0)) (len := 1) (t := 126) (i := 0) rfl rfl rfl rfl rfl (fun _ => rfl) l_247 rfl ?_
      refine z_r_rd (ins := (.getfield 26)) (len := 3) (t := 129) rfl rfl rfl rfl rfl (z_gfv (ci := 10) (k := 6) (v := .ref aG) rfl (z_lkn fM c_259) (by decide) (ye_flg rfl k6)) ?_
      refine z_r_ld (kk := z_isI) (ins := (.iload_n 1)) (len := 1) (t := 130) (i := 1) rfl rfl rfl rfl rfl (fun _ => rfl) l_248 rfl ?_
      refine z_r_ld (kk := z_isI) (ins := (.iload 8)) (len := 2) (t := 132) (i := 8) rfl rfl rfl rfl rfl (fun _ => rfl) l_254 rfl ?_
      refine ye_ca (ins := (.invokestatic 137)) (kd := 0) (t := 135) rfl rfl (by decide) (z_argsv rfl rfl rfl (by omega) (Nat.le_of_ble_eq_true rfl) rfl (Nat.le_of_ble_eq_true rfl) (Nat.le_refl _) (Nat.le_refl _) (Or.inl rfl) (Or.inl rfl)) rfl rfl rfl (ye_mat (by omega) (by omega)) ?_
      rintro _ _ ⟨rfl, rfl⟩
      refine z_r_rd (ins := .iaload) (len := 1) (t := 136) rfl rfl rfl rfl rfl (ye_al (t := 103) (p := 10 * h + i) (e := 0) (z_lkn fG c_257) (by omega) (by omega) (List.getElem?_set_self (by omega))) ?_
      refine z_r_pu (ins := .iadd) (len := 1) (t := 137) rfl rfl rfl rfl ye_add ?_
      refine z_r_is (kk := z_isI) (ins := (.istore 6)) (len := 2) (t := 139) (i := 6) rfl rfl rfl rfl rfl rfl rfl rfl (fun l l_261 k_262 => ?_)
      have l_263 := k_262 _ _ l_247 (by decide) (Or.inl (by decide))
      have l_264 := k_262 _ _ l_248 (by decide) (Or.inl (by decide))
      have l_265 := k_262 _ _ l_249 (by decide) (Or.inl (by decide))
      have l_266 := k_262 _ _ l_250 (by decide) (Or.inl (by decide))
      have l_267 := k_262 _ _ l_251 (by decide) (Or.inr (by show (1 : Nat) ≠ 2; decide))
      have l_268 := k_262 _ _ l_253 (by decide) (Or.inl (by decide))
      have l_269 := k_262 _ _ l_254 (by decide) (Or.inl (by decide))
      have l_270 := k_262 _ _ l_245 (by decide) (Or.inl (by decide))
      refine z_r_ld (kk := z_isI) (ins := (.iload 7)) (len := 2) (t := 141) (i := 7) rfl rfl rfl rfl rfl (fun _ => rfl) l_268 rfl ?_
      refine z_r_ld (kk := z_isI) (ins := (.iload 5)) (len := 2) (t := 143) (i := 5) rfl rfl rfl rfl rfl (fun _ => rfl) l_267 rfl ?_
      refine z_r_pu (ins := .iadd) (len := 1) (t := 144) (st' := [.int ((f + Int32.ofInt i * sp) + sp)]) rfl rfl rfl rfl rfl ?_
      refine z_r_is (kk := z_isI) (ins := (.istore 7)) (len := 2) (t := 146) (i := 7) rfl rfl rfl rfl rfl rfl rfl rfl (fun l l_271 k_272 => ?_)
      have l_273 := k_272 _ _ l_263 (by decide) (Or.inl (by decide))
      have l_274 := k_272 _ _ l_264 (by decide) (Or.inl (by decide))
      have l_275 := k_272 _ _ l_265 (by decide) (Or.inl (by decide))
      have l_276 := k_272 _ _ l_266 (by decide) (Or.inl (by decide))
      have l_277 := k_272 _ _ l_267 (by decide) (Or.inl (by decide))
      have l_278 := k_272 _ _ l_261 (by decide) (Or.inr (by show (1 : Nat) ≠ 2; decide))
      have l_279 := k_272 _ _ l_269 (by decide) (Or.inl (by decide))
      have l_280 := k_272 _ _ l_270 (by decide) (Or.inl (by decide))
      refine ye_ic (ins := (.iinc 8 1)) (len := 3) (t := 149) (i := 8) (a := i) (kk := 1) rfl rfl rfl rfl rfl rfl l_279 (fun l l_281 k_282 => ?_)
      have l_283 := k_282 _ _ l_273 (by decide) (Or.inl (by decide))
      have l_284 := k_282 _ _ l_274 (by decide) (Or.inl (by decide))
      have l_285 := k_282 _ _ l_275 (by decide) (Or.inl (by decide))
      have l_286 := k_282 _ _ l_276 (by decide) (Or.inl (by decide))
      have l_287 := k_282 _ _ l_277 (by decide) (Or.inl (by decide))
      have l_288 := k_282 _ _ l_278 (by decide) (Or.inl (by decide))
      have l_289 := k_282 _ _ l_271 (by decide) (Or.inr (by show (1 : Nat) ≠ 2; decide))
      have l_290 := k_282 _ _ l_280 (by decide) (Or.inl (by decide))
      refine z_r_jm (ins := (.goto (-98))) (len := 3) (t := 51) rfl rfl rfl rfl (z_gty rfl) ?_
      have ee : yh_c k n f sp i = 0 := if_pos (by omega)
      exact kk _ _ _ l_283 l_284 l_285 l_286 l_287 (by rw [ee]; exact l_288) (by rw [← yh_v_step]; exact l_289) l_281 c_259 c_257 (by rw [List.length_set]; exact hgl)
    · skip
      refine z_r_jm (ins := (.if_icmp .eq 9)) (len := 3) (t := 100) rfl rfl rfl rfl (ye_jn (t := 106) rfl (by omega) (by omega) (by omega) (by omega) b_255) ?_
      refine z_r_ld (kk := z_isI) (ins := (.iload 8)) (len := 2) (t := 102) (i := 8) rfl rfl rfl rfl rfl (fun _ => rfl) l_254 rfl ?_
      refine z_r_ld (kk := z_isI) (ins := (.iload_n 3)) (len := 1) (t := 103) (i := 3) rfl rfl rfl rfl rfl (fun _ => rfl) l_250 rfl ?_
      by_cases b_291 : i < n
      · skip
        refine z_r_jm (ins := (.if_icmp .lt 7)) (len := 3) (t := 110) rfl rfl rfl rfl (ye_jy (t := 110) rfl (by omega) (by omega) (by omega) (by omega) b_291) ?_
        refine z_r_pu (ins := (.iconst 0)) (len := 1) (t := 111) (st' := [ye_v 0, ye_v (10 * h + i), .ref aG]) rfl rfl rfl rfl rfl ?_
        refine z_r_pu (ins := (.sipush 999)) (len := 3) (t := 114) rfl rfl rfl rfl (ye_si (by decide) (by decide)) ?_
        refine z_r_ld (kk := z_isI) (ins := (.iload 9)) (len := 2) (t := 116) (i := 9) rfl rfl rfl rfl rfl (fun _ => rfl) l_245 rfl ?_
        have w1 := (((f + Int32.ofInt i * sp).toInt8.toInt32)).le_toInt
        have w2 := (((f + Int32.ofInt i * sp).toInt8.toInt32)).toInt_lt
        refine ye_ca (ins := (.invokestatic 190)) (kd := 0) (t := 119) rfl rfl (by decide) (z_argsv rfl rfl rfl (by omega) (Nat.le_of_ble_eq_true rfl) rfl (Nat.le_of_ble_eq_true rfl) (Nat.le_refl _) (Nat.le_refl _) (Or.inl rfl) (Or.inl rfl)) rfl rfl rfl (ye_minX (w := ((f + Int32.ofInt i * sp).toInt8.toInt32))) ?_
        rintro _ _ ⟨rfl, m_292, rfl, h_293⟩
        refine ye_ca (ins := (.invokestatic 239)) (kd := 0) (t := 122) rfl rfl (by decide) (z_argsv rfl rfl rfl (by omega) (Nat.le_of_ble_eq_true rfl) rfl (Nat.le_of_ble_eq_true rfl) (Nat.le_refl _) (Nat.le_refl _) (Or.inl rfl) (Or.inl rfl)) rfl rfl rfl (ye_max (by omega) (by omega)) ?_
        rintro _ _ ⟨rfl, m_294, rfl, h_295⟩
        refine ye_r_wr (ins := .iastore) (len := 1) (t := 123) (a := aG) (q := (103, gv.set (10 * h + i).toNat (ye_v m_294))) rfl rfl rfl rfl rfl hG (ye_as (t := 103) (nf := fun x => x) (p := 10 * h + i) (e := m_294) (e' := m_294) hG (by omega) (by omega) (by omega) rfl) (fun P_296 c_297 o_298 => ?_)
        have c_299 := ye_kp o_298 (ye_n1 (ye_ne hM hG (by decide))) hM
        have o_300 := ye_oth_tr ho0 o_298 (ye_s1 (List.mem_cons_self))
        refine z_r_ld (kk := z_isI) (ins := (.iload 6)) (len := 2) (t := 125) (i := 6) rfl rfl rfl rfl rfl (fun _ => rfl) l_252 rfl ?_
        refine z_r_ld (kk := z_isA) (ins := (.aload_n 0)) (len := 1) (t := 126) (i := 0) rfl rfl rfl rfl rfl (fun _ => rfl) l_247 rfl ?_
        refine z_r_rd (ins := (.getfield 26)) (len := 3) (t := 129) rfl rfl rfl rfl rfl (z_gfv (ci := 10) (k := 6) (v := .ref aG) rfl (z_lkn fM c_299) (by decide) (ye_flg rfl k6)) ?_
        refine z_r_ld (kk := z_isI) (ins := (.iload_n 1)) (len := 1) (t := 130) (i := 1) rfl rfl rfl rfl rfl (fun _ => rfl) l_248 rfl ?_
        refine z_r_ld (kk := z_isI) (ins := (.iload 8)) (len := 2) (t := 132) (i := 8) rfl rfl rfl rfl rfl (fun _ => rfl) l_254 rfl ?_
        refine ye_ca (ins := (.invokestatic 137)) (kd := 0) (t := 135) rfl rfl (by decide) (z_argsv rfl rfl rfl (by omega) (Nat.le_of_ble_eq_true rfl) rfl (Nat.le_of_ble_eq_true rfl) (Nat.le_refl _) (Nat.le_refl _) (Or.inl rfl) (Or.inl rfl)) rfl rfl rfl (ye_mat (by omega) (by omega)) ?_
        rintro _ _ ⟨rfl, rfl⟩
        refine z_r_rd (ins := .iaload) (len := 1) (t := 136) rfl rfl rfl rfl rfl (ye_al (t := 103) (p := 10 * h + i) (e := m_294) (z_lkn fG c_297) (by omega) (by omega) (List.getElem?_set_self (by omega))) ?_
        refine z_r_pu (ins := .iadd) (len := 1) (t := 137) rfl rfl rfl rfl ye_add ?_
        refine z_r_is (kk := z_isI) (ins := (.istore 6)) (len := 2) (t := 139) (i := 6) rfl rfl rfl rfl rfl rfl rfl rfl (fun l l_301 k_302 => ?_)
        have l_303 := k_302 _ _ l_247 (by decide) (Or.inl (by decide))
        have l_304 := k_302 _ _ l_248 (by decide) (Or.inl (by decide))
        have l_305 := k_302 _ _ l_249 (by decide) (Or.inl (by decide))
        have l_306 := k_302 _ _ l_250 (by decide) (Or.inl (by decide))
        have l_307 := k_302 _ _ l_251 (by decide) (Or.inr (by show (1 : Nat) ≠ 2; decide))
        have l_308 := k_302 _ _ l_253 (by decide) (Or.inl (by decide))
        have l_309 := k_302 _ _ l_254 (by decide) (Or.inl (by decide))
        have l_310 := k_302 _ _ l_245 (by decide) (Or.inl (by decide))
        refine z_r_ld (kk := z_isI) (ins := (.iload 7)) (len := 2) (t := 141) (i := 7) rfl rfl rfl rfl rfl (fun _ => rfl) l_308 rfl ?_
        refine z_r_ld (kk := z_isI) (ins := (.iload 5)) (len := 2) (t := 143) (i := 5) rfl rfl rfl rfl rfl (fun _ => rfl) l_307 rfl ?_
        refine z_r_pu (ins := .iadd) (len := 1) (t := 144) (st' := [.int ((f + Int32.ofInt i * sp) + sp)]) rfl rfl rfl rfl rfl ?_
        refine z_r_is (kk := z_isI) (ins := (.istore 7)) (len := 2) (t := 146) (i := 7) rfl rfl rfl rfl rfl rfl rfl rfl (fun l l_311 k_312 => ?_)
        have l_313 := k_312 _ _ l_303 (by decide) (Or.inl (by decide))
        have l_314 := k_312 _ _ l_304 (by decide) (Or.inl (by decide))
        have l_315 := k_312 _ _ l_305 (by decide) (Or.inl (by decide))
        have l_316 := k_312 _ _ l_306 (by decide) (Or.inl (by decide))
        have l_317 := k_312 _ _ l_307 (by decide) (Or.inl (by decide))
        have l_318 := k_312 _ _ l_301 (by decide) (Or.inr (by show (1 : Nat) ≠ 2; decide))
        have l_319 := k_312 _ _ l_309 (by decide) (Or.inl (by decide))
        have l_320 := k_312 _ _ l_310 (by decide) (Or.inl (by decide))
        refine ye_ic (ins := (.iinc 8 1)) (len := 3) (t := 149) (i := 8) (a := i) (kk := 1) rfl rfl rfl rfl rfl rfl l_319 (fun l l_321 k_322 => ?_)
        have l_323 := k_322 _ _ l_313 (by decide) (Or.inl (by decide))
        have l_324 := k_322 _ _ l_314 (by decide) (Or.inl (by decide))
        have l_325 := k_322 _ _ l_315 (by decide) (Or.inl (by decide))
        have l_326 := k_322 _ _ l_316 (by decide) (Or.inl (by decide))
        have l_327 := k_322 _ _ l_317 (by decide) (Or.inl (by decide))
        have l_328 := k_322 _ _ l_318 (by decide) (Or.inl (by decide))
        have l_329 := k_322 _ _ l_311 (by decide) (Or.inr (by show (1 : Nat) ≠ 2; decide))
        have l_330 := k_322 _ _ l_320 (by decide) (Or.inl (by decide))
        refine z_r_jm (ins := (.goto (-98))) (len := 3) (t := 51) rfl rfl rfl rfl (z_gty rfl) ?_
        have e0 : m_294 = yh_cl (((f + Int32.ofInt i * sp).toInt8.toInt32)).toInt := by
          unfold yh_cl
          split
          · omega
          · split <;> omega
        have e1 : yh_en k (f + Int32.ofInt i * sp) = m_294 := by
          rw [e0]
          unfold yh_en yh_cv
          rw [if_pos (by omega)]
        have ee : yh_c k n f sp i = m_294 := (if_neg (by omega)).trans e1
        exact kk _ _ _ l_323 l_324 l_325 l_326 l_327 (by rw [ee]; exact l_328) (by rw [← yh_v_step]; exact l_329) l_321 c_299 c_297 (by rw [List.length_set]; exact hgl)
      · skip
        refine z_r_jm (ins := (.if_icmp .lt 7)) (len := 3) (t := 106) rfl rfl rfl rfl (ye_jn (t := 110) rfl (by omega) (by omega) (by omega) (by omega) b_291) ?_
        refine z_r_pu (ins := (.iconst 0)) (len := 1) (t := 107) (st' := [ye_v 0, ye_v (10 * h + i), .ref aG]) rfl rfl rfl rfl rfl ?_
        refine z_r_jm (ins := (.goto 15)) (len := 3) (t := 122) rfl rfl rfl rfl (z_gty rfl) ?_
        refine ye_r_wr (ins := .iastore) (len := 1) (t := 123) (a := aG) (q := (103, gv.set (10 * h + i).toNat (ye_v 0))) rfl rfl rfl rfl rfl hG (ye_as (t := 103) (nf := fun x => x) (p := 10 * h + i) (e := 0) (e' := 0) hG (by omega) (by omega) (by omega) rfl) (fun P_331 c_332 o_333 => ?_)
        have c_334 := ye_kp o_333 (ye_n1 (ye_ne hM hG (by decide))) hM
        have o_335 := ye_oth_tr ho0 o_333 (ye_s1 (List.mem_cons_self))
        refine z_r_ld (kk := z_isI) (ins := (.iload 6)) (len := 2) (t := 125) (i := 6) rfl rfl rfl rfl rfl (fun _ => rfl) l_252 rfl ?_
        refine z_r_ld (kk := z_isA) (ins := (.aload_n 0)) (len := 1) (t := 126) (i := 0) rfl rfl rfl rfl rfl (fun _ => rfl) l_247 rfl ?_
        refine z_r_rd (ins := (.getfield 26)) (len := 3) (t := 129) rfl rfl rfl rfl rfl (z_gfv (ci := 10) (k := 6) (v := .ref aG) rfl (z_lkn fM c_334) (by decide) (ye_flg rfl k6)) ?_
        refine z_r_ld (kk := z_isI) (ins := (.iload_n 1)) (len := 1) (t := 130) (i := 1) rfl rfl rfl rfl rfl (fun _ => rfl) l_248 rfl ?_
        refine z_r_ld (kk := z_isI) (ins := (.iload 8)) (len := 2) (t := 132) (i := 8) rfl rfl rfl rfl rfl (fun _ => rfl) l_254 rfl ?_
        refine ye_ca (ins := (.invokestatic 137)) (kd := 0) (t := 135) rfl rfl (by decide) (z_argsv rfl rfl rfl (by omega) (Nat.le_of_ble_eq_true rfl) rfl (Nat.le_of_ble_eq_true rfl) (Nat.le_refl _) (Nat.le_refl _) (Or.inl rfl) (Or.inl rfl)) rfl rfl rfl (ye_mat (by omega) (by omega)) ?_
        rintro _ _ ⟨rfl, rfl⟩
        refine z_r_rd (ins := .iaload) (len := 1) (t := 136) rfl rfl rfl rfl rfl (ye_al (t := 103) (p := 10 * h + i) (e := 0) (z_lkn fG c_332) (by omega) (by omega) (List.getElem?_set_self (by omega))) ?_
        refine z_r_pu (ins := .iadd) (len := 1) (t := 137) rfl rfl rfl rfl ye_add ?_
        refine z_r_is (kk := z_isI) (ins := (.istore 6)) (len := 2) (t := 139) (i := 6) rfl rfl rfl rfl rfl rfl rfl rfl (fun l l_336 k_337 => ?_)
        have l_338 := k_337 _ _ l_247 (by decide) (Or.inl (by decide))
        have l_339 := k_337 _ _ l_248 (by decide) (Or.inl (by decide))
        have l_340 := k_337 _ _ l_249 (by decide) (Or.inl (by decide))
        have l_341 := k_337 _ _ l_250 (by decide) (Or.inl (by decide))
        have l_342 := k_337 _ _ l_251 (by decide) (Or.inr (by show (1 : Nat) ≠ 2; decide))
        have l_343 := k_337 _ _ l_253 (by decide) (Or.inl (by decide))
        have l_344 := k_337 _ _ l_254 (by decide) (Or.inl (by decide))
        have l_345 := k_337 _ _ l_245 (by decide) (Or.inl (by decide))
        refine z_r_ld (kk := z_isI) (ins := (.iload 7)) (len := 2) (t := 141) (i := 7) rfl rfl rfl rfl rfl (fun _ => rfl) l_343 rfl ?_
        refine z_r_ld (kk := z_isI) (ins := (.iload 5)) (len := 2) (t := 143) (i := 5) rfl rfl rfl rfl rfl (fun _ => rfl) l_342 rfl ?_
        refine z_r_pu (ins := .iadd) (len := 1) (t := 144) (st' := [.int ((f + Int32.ofInt i * sp) + sp)]) rfl rfl rfl rfl rfl ?_
        refine z_r_is (kk := z_isI) (ins := (.istore 7)) (len := 2) (t := 146) (i := 7) rfl rfl rfl rfl rfl rfl rfl rfl (fun l l_346 k_347 => ?_)
        have l_348 := k_347 _ _ l_338 (by decide) (Or.inl (by decide))
        have l_349 := k_347 _ _ l_339 (by decide) (Or.inl (by decide))
        have l_350 := k_347 _ _ l_340 (by decide) (Or.inl (by decide))
        have l_351 := k_347 _ _ l_341 (by decide) (Or.inl (by decide))
        have l_352 := k_347 _ _ l_342 (by decide) (Or.inl (by decide))
        have l_353 := k_347 _ _ l_336 (by decide) (Or.inr (by show (1 : Nat) ≠ 2; decide))
        have l_354 := k_347 _ _ l_344 (by decide) (Or.inl (by decide))
        have l_355 := k_347 _ _ l_345 (by decide) (Or.inl (by decide))
        refine ye_ic (ins := (.iinc 8 1)) (len := 3) (t := 149) (i := 8) (a := i) (kk := 1) rfl rfl rfl rfl rfl rfl l_354 (fun l l_356 k_357 => ?_)
        have l_358 := k_357 _ _ l_348 (by decide) (Or.inl (by decide))
        have l_359 := k_357 _ _ l_349 (by decide) (Or.inl (by decide))
        have l_360 := k_357 _ _ l_350 (by decide) (Or.inl (by decide))
        have l_361 := k_357 _ _ l_351 (by decide) (Or.inl (by decide))
        have l_362 := k_357 _ _ l_352 (by decide) (Or.inl (by decide))
        have l_363 := k_357 _ _ l_353 (by decide) (Or.inl (by decide))
        have l_364 := k_357 _ _ l_346 (by decide) (Or.inr (by show (1 : Nat) ≠ 2; decide))
        have l_365 := k_357 _ _ l_355 (by decide) (Or.inl (by decide))
        refine z_r_jm (ins := (.goto (-98))) (len := 3) (t := 51) rfl rfl rfl rfl (z_gty rfl) ?_
        have ee : yh_c k n f sp i = 0 := if_pos (by omega)
        exact kk _ _ _ l_358 l_359 l_360 l_361 l_362 (by rw [ee]; exact l_363) (by rw [← yh_v_step]; exact l_364) l_356 c_334 c_332 (by rw [List.length_set]; exact hgl)
theorem ye_msE {R : Option Value → z_H → Prop} (hM : P[aM]? = some (10, ye_fl F)) (fM : aM < z_far) (k0 : F 0 = ye_v so) (k6 : F 6 = .ref aG) (hG : P[aG]? = some (103, gv)) (fG : aG < z_far) (hgl : gv.length = 310) (h0 : z_get l 0 = some (.ref aM)) (h2 : z_get l 2 = some (ye_v k)) (h6 : z_get l 6 = some (ye_v acc)) (h8 : z_get l 8 = some (ye_v i)) (hk : 0 ≤ k ∧ k ≤ 3) (hi : i = so ∧ 0 ≤ so ∧ so ≤ 10) (kk : ∀ P', R (some (ye_v (if k = 3 then -3 else acc))) P') : z_Rh (z_G xs) d 217 (ye_E xs d 217 R) (51, l, [], P, 0, 0) := by
  refine z_r_ld (kk := z_isI) (ins := (.iload 8)) (len := 2) (t := 53) (i := 8) rfl rfl rfl rfl rfl (fun _ => rfl) h8 rfl ?_
  refine z_r_ld (kk := z_isA) (ins := (.aload_n 0)) (len := 1) (t := 54) (i := 0) rfl rfl rfl rfl rfl (fun _ => rfl) h0 rfl ?_
  refine z_r_rd (ins := (.getfield 130)) (len := 3) (t := 57) rfl rfl rfl rfl rfl (z_gfv (ci := 10) (k := 0) (v := ye_v so) rfl (z_lkn fM hM) (by decide) (ye_flg rfl k0)) ?_
  refine z_r_jm (ins := (.if_icmp .ge 95)) (len := 3) (t := 152) rfl rfl rfl rfl (ye_jy (t := 152) rfl (by omega) (by omega) (by omega) (by omega) (by show so ≤ i; omega)) ?_
  refine z_r_ld (kk := z_isI) (ins := (.iload_n 2)) (len := 1) (t := 153) (i := 2) rfl rfl rfl rfl rfl (fun _ => rfl) h2 rfl ?_
  refine z_r_pu (ins := (.iconst 3)) (len := 1) (t := 154) (st' := [ye_v 3, ye_v k]) rfl rfl rfl rfl rfl ?_
  by_cases b_1 : k ≠ 3
  · skip
    refine z_r_jm (ins := (.if_icmp .ne 8)) (len := 3) (t := 162) rfl rfl rfl rfl (ye_jy (t := 162) rfl (by omega) (by omega) (by omega) (by omega) b_1) ?_
    refine z_r_ld (kk := z_isI) (ins := (.iload 6)) (len := 2) (t := 164) (i := 6) rfl rfl rfl rfl rfl (fun _ => rfl) h6 rfl ?_
    refine ye_ret (ins := .ireturn) rfl rfl rfl (ye_reti rfl) ?_
    have e : (if k = 3 then -3 else acc) = acc := if_neg (by omega)
    have q := kk P
    rw [e] at q
    exact q
  · skip
    refine z_r_jm (ins := (.if_icmp .ne 8)) (len := 3) (t := 157) rfl rfl rfl rfl (ye_jn (t := 162) rfl (by omega) (by omega) (by omega) (by omega) b_1) ?_
    refine z_r_pu (ins := (.bipush (-3))) (len := 2) (t := 159) rfl rfl rfl rfl (ye_bi (by decide) (by decide)) ?_
    refine z_r_jm (ins := (.goto 5)) (len := 3) (t := 164) rfl rfl rfl rfl (z_gty rfl) ?_
    refine ye_ret (ins := .ireturn) rfl rfl rfl (ye_reti rfl) ?_
    have e : (if k = 3 then -3 else acc) = (-3) := if_pos (by omega)
    have q := kk P
    rw [e] at q
    exact q
theorem ye_msL {R : Option Value → z_H → Prop} (fM : aM < z_far) (k0 : F 0 = ye_v so) (k6 : F 6 = .ref aG) (fG : aG < z_far) (hh : 0 ≤ h ∧ h ≤ 5) (hk : 0 ≤ k ∧ k ≤ 3) (hn : -2147483648 ≤ n ∧ n ≤ 10) (hso : 0 ≤ so ∧ so ≤ 10) (hd : 1 ≤ d) (kk : ∀ P', R (some (ye_v (if k = 3 then -3 else yh_sum (yh_c k n f sp) so.toNat))) P') : ∀ (j q : Nat) {l : z_L} {P : z_H} {gv : List Value}, ((q : Nat) : Int) + j = so → P[aM]? = some (10, ye_fl F) → P[aG]? = some (103, gv) → gv.length = 310 → z_get l 0 = some (.ref aM) → z_get l 1 = some (ye_v h) → z_get l 2 = some (ye_v k) → z_get l 3 = some (ye_v n) → z_get l 5 = some (.int sp) → z_get l 6 = some (ye_v (yh_sum (yh_c k n f sp) q)) → z_get l 7 = some (.int (f + Int32.ofInt (q : Int) * sp)) → z_get l 8 = some (ye_v (q : Int)) → z_Rh (z_G xs) d 217 (ye_E xs d 217 R) (51, l, [], P, 0, 0) := by
  intro j
  induction j with
  | zero =>
    intro q l P gv hq hM hG hgl h0 h1 h2 h3 h5 h6 h7 h8
    have e : q = so.toNat := by omega
    subst e
    exact ye_msE hM fM k0 k6 hG fG hgl h0 h2 h6 h8 hk ⟨by omega, hso⟩ kk
  | succ j ih =>
    intro q l P gv hq hM hG hgl h0 h1 h2 h3 h5 h6 h7 h8
    have s1 := yh_sum_bd (f := yh_c k n f sp) (fun _ => yh_c_bd) q
    exact ye_msI hM fM k0 k6 hG fG hgl h0 h1 h2 h3 h5 h6 h7 h8 hh hk hn (by omega) (by omega) hd fun l P' gv' g0 g1 g2 g3 g5 g6 g7 g8 hM' hG' hgl' => ih (q + 1) (by omega) hM' hG' hgl' g0 g1 g2 g3 g5 g6 g7 g8
theorem ye_isHeapM (hh : -2147483648 ≤ h ∧ h < 2147483648) (hd : 1 ≤ d) : ye_X xs d 215 [ye_v h] P (fun r P' => P' = P ∧ ∃ b, r = some (ye_v b) ∧ ((b = 1 ∧ 0 ≤ h ∧ h < 6) ∨ (b = 0 ∧ (h < 0 ∨ 6 ≤ h)))) := by
  refine ye_go ?_
  have a0 : z_get (lv_args 0 [ye_v h]) 0 = some (ye_v h) := rfl
  refine z_r_ld (kk := z_isI) (ins := (.iload_n 0)) (len := 1) (t := 1) (i := 0) rfl rfl rfl rfl rfl (fun _ => rfl) a0 rfl ?_
  refine z_r_pu (ins := (.iconst 0)) (len := 1) (t := 2) (st' := [ye_v 0, ye_v h]) rfl rfl rfl rfl rfl ?_
  refine z_r_pu (ins := (.iconst 5)) (len := 1) (t := 3) (st' := [ye_v 5, ye_v 0, ye_v h]) rfl rfl rfl rfl rfl ?_
  refine ye_ca (ins := (.invokestatic 133)) (kd := 0) (t := 6) rfl rfl (by decide) (z_argsv rfl rfl rfl (by omega) (Nat.le_of_ble_eq_true rfl) rfl (Nat.le_of_ble_eq_true rfl) (Nat.le_refl _) (Nat.le_refl _) (Or.inl rfl) (Or.inl rfl)) rfl rfl rfl (ye_inr (by omega) (by omega) (by omega)) ?_
  rintro _ _ ⟨rfl, b_1, rfl, h_2⟩
  refine ye_ret (ins := .ireturn) rfl rfl rfl (ye_retz rfl (by omega)) ?_
  exact ⟨rfl, b_1, rfl, by omega⟩
theorem ye_Msheet (hM : P[aM]? = some (10, ye_fl F)) (fM : aM < z_far) (k0 : F 0 = ye_v so) (k6 : F 6 = .ref aG) (hG : P[aG]? = some (103, gv)) (fG : aG < z_far) (hgl : gv.length = 310)
    (hso : 0 ≤ so ∧ so ≤ 10) (bh : -2147483648 ≤ h ∧ h < 2147483648) (bk : -2147483648 ≤ k ∧ k < 2147483648) (bn : -2147483648 ≤ n ∧ n < 2147483648) (hd : 2 ≤ d) : ye_X xs d 217 [.ref aM, ye_v h, ye_v k, ye_v n, .int f, .int sp] P (fun r _ => r = some (ye_v (yh_sh so h k n f sp))) := by
  refine ye_go ?_
  have a0 : z_get (lv_args 0 [.ref aM, ye_v h, ye_v k, ye_v n, .int f, .int sp]) 0 = some (.ref aM) := rfl
  have a1 : z_get (lv_args 0 [.ref aM, ye_v h, ye_v k, ye_v n, .int f, .int sp]) 1 = some (ye_v h) := rfl
  have a2 : z_get (lv_args 0 [.ref aM, ye_v h, ye_v k, ye_v n, .int f, .int sp]) 2 = some (ye_v k) := rfl
  have a3 : z_get (lv_args 0 [.ref aM, ye_v h, ye_v k, ye_v n, .int f, .int sp]) 3 = some (ye_v n) := rfl
  have a4 : z_get (lv_args 0 [.ref aM, ye_v h, ye_v k, ye_v n, .int f, .int sp]) 4 = some (.int f) := rfl
  have a5 : z_get (lv_args 0 [.ref aM, ye_v h, ye_v k, ye_v n, .int f, .int sp]) 5 = some (.int sp) := rfl
  have ho0 : ye_oth [aM] P P := ye_oth_rf
  refine z_r_ld (kk := z_isA) (ins := (.aload_n 0)) (len := 1) (t := 1) (i := 0) rfl rfl rfl rfl rfl (fun _ => rfl) a0 rfl ?_
  refine z_r_pu (ins := (.iconst 0)) (len := 1) (t := 2) (st' := [ye_v 0, .ref aM]) rfl rfl rfl rfl rfl ?_
  refine ye_r_wr (ins := (.putfield 124)) (len := 3) (t := 5) (a := aM) (q := (10, ye_fl (ye_up F 14 (ye_v 0)))) rfl rfl rfl rfl rfl hM (ye_pfm (k := 14) rfl hM rfl rfl rfl rfl) (fun P_1 c_2 o_3 => ?_)
  have c_4 := ye_kp o_3 (ye_n1 (ye_ne hG hM (by decide))) hG
  have o_5 := ye_oth_tr ho0 o_3 (ye_s1 (List.mem_cons_self))
  refine z_r_ld (kk := z_isI) (ins := (.iload_n 1)) (len := 1) (t := 6) (i := 1) rfl rfl rfl rfl rfl (fun _ => rfl) a1 rfl ?_
  refine ye_ca (ins := (.invokestatic 256)) (kd := 0) (t := 9) rfl rfl (by decide) (z_argsv rfl rfl rfl (by omega) (Nat.le_of_ble_eq_true rfl) rfl (Nat.le_of_ble_eq_true rfl) (Nat.le_refl _) (Nat.le_refl _) (Or.inl rfl) (Or.inl rfl)) rfl rfl rfl (ye_isHeapM (by omega) (by omega)) ?_
  rintro _ _ ⟨rfl, b_6, rfl, h_7⟩
  by_cases b_8 : b_6 = 0
  · skip
    refine z_r_jm (ins := (.ifCond .eq 18)) (len := 3) (t := 27) rfl rfl rfl rfl (ye_iy (t := 27) rfl (by omega) (by omega) b_8) ?_
    refine z_r_pu (ins := (.iconst (-1))) (len := 1) (t := 28) (st' := [ye_v ((-1))]) rfl rfl rfl rfl rfl ?_
    refine ye_ret (ins := .ireturn) rfl rfl rfl (ye_reti rfl) ?_
    have ea : yh_sh so h k n f sp = (-1) := by
      unfold yh_sh
      exact if_pos (by omega)
    rw [ea]
  · skip
    refine z_r_jm (ins := (.ifCond .eq 18)) (len := 3) (t := 12) rfl rfl rfl rfl (ye_in (t := 27) rfl (by omega) (by omega) b_8) ?_
    refine z_r_ld (kk := z_isI) (ins := (.iload_n 2)) (len := 1) (t := 13) (i := 2) rfl rfl rfl rfl rfl (fun _ => rfl) a2 rfl ?_
    refine z_r_pu (ins := (.iconst 0)) (len := 1) (t := 14) (st' := [ye_v 0, ye_v k]) rfl rfl rfl rfl rfl ?_
    refine z_r_pu (ins := (.iconst 3)) (len := 1) (t := 15) (st' := [ye_v 3, ye_v 0, ye_v k]) rfl rfl rfl rfl rfl ?_
    refine ye_ca (ins := (.invokestatic 133)) (kd := 0) (t := 18) rfl rfl (by decide) (z_argsv rfl rfl rfl (by omega) (Nat.le_of_ble_eq_true rfl) rfl (Nat.le_of_ble_eq_true rfl) (Nat.le_refl _) (Nat.le_refl _) (Or.inl rfl) (Or.inl rfl)) rfl rfl rfl (ye_inr (by omega) (by omega) (by omega)) ?_
    rintro _ _ ⟨rfl, b_9, rfl, h_10⟩
    by_cases b_11 : b_9 = 0
    · skip
      refine z_r_jm (ins := (.ifCond .eq 9)) (len := 3) (t := 27) rfl rfl rfl rfl (ye_iy (t := 27) rfl (by omega) (by omega) b_11) ?_
      refine z_r_pu (ins := (.iconst (-1))) (len := 1) (t := 28) (st' := [ye_v ((-1))]) rfl rfl rfl rfl rfl ?_
      refine ye_ret (ins := .ireturn) rfl rfl rfl (ye_reti rfl) ?_
      have ea : yh_sh so h k n f sp = (-1) := by
        unfold yh_sh
        exact if_pos (by omega)
      rw [ea]
    · skip
      refine z_r_jm (ins := (.ifCond .eq 9)) (len := 3) (t := 21) rfl rfl rfl rfl (ye_in (t := 27) rfl (by omega) (by omega) b_11) ?_
      refine z_r_ld (kk := z_isI) (ins := (.iload_n 3)) (len := 1) (t := 22) (i := 3) rfl rfl rfl rfl rfl (fun _ => rfl) a3 rfl ?_
      refine z_r_pu (ins := (.bipush 10)) (len := 2) (t := 24) rfl rfl rfl rfl (ye_bi (by decide) (by decide)) ?_
      by_cases b_12 : n ≤ 10
      · skip
        refine z_r_jm (ins := (.if_icmp .le 5)) (len := 3) (t := 29) rfl rfl rfl rfl (ye_jy (t := 29) rfl (by omega) (by omega) (by omega) (by omega) b_12) ?_
        refine z_r_ld (kk := z_isI) (ins := (.iload_n 2)) (len := 1) (t := 30) (i := 2) rfl rfl rfl rfl rfl (fun _ => rfl) a2 rfl ?_
        refine z_r_pu (ins := (.iconst 3)) (len := 1) (t := 31) (st' := [ye_v 3, ye_v k]) rfl rfl rfl rfl rfl ?_
        by_cases b_13 : 3 ≤ k
        · skip
          refine z_r_jm (ins := (.if_icmp .ge 10)) (len := 3) (t := 41) rfl rfl rfl rfl (ye_jy (t := 41) rfl (by omega) (by omega) (by omega) (by omega) b_13) ?_
          refine z_r_pu (ins := (.iconst 0)) (len := 1) (t := 42) (st' := [ye_v 0]) rfl rfl rfl rfl rfl ?_
          refine z_r_is (kk := z_isI) (ins := (.istore 6)) (len := 2) (t := 44) (i := 6) rfl rfl rfl rfl rfl rfl rfl rfl (fun l l_14 k_15 => ?_)
          have l_16 := k_15 _ _ a0 (by decide) (Or.inl (by decide))
          have l_17 := k_15 _ _ a1 (by decide) (Or.inl (by decide))
          have l_18 := k_15 _ _ a2 (by decide) (Or.inl (by decide))
          have l_19 := k_15 _ _ a3 (by decide) (Or.inl (by decide))
          have l_20 := k_15 _ _ a4 (by decide) (Or.inl (by decide))
          have l_21 := k_15 _ _ a5 (by decide) (Or.inr (by show (1 : Nat) ≠ 2; decide))
          refine z_r_ld (kk := z_isI) (ins := (.iload 4)) (len := 2) (t := 46) (i := 4) rfl rfl rfl rfl rfl (fun _ => rfl) l_20 rfl ?_
          refine z_r_is (kk := z_isI) (ins := (.istore 7)) (len := 2) (t := 48) (i := 7) rfl rfl rfl rfl rfl rfl rfl rfl (fun l l_22 k_23 => ?_)
          have l_24 := k_23 _ _ l_16 (by decide) (Or.inl (by decide))
          have l_25 := k_23 _ _ l_17 (by decide) (Or.inl (by decide))
          have l_26 := k_23 _ _ l_18 (by decide) (Or.inl (by decide))
          have l_27 := k_23 _ _ l_19 (by decide) (Or.inl (by decide))
          have l_28 := k_23 _ _ l_20 (by decide) (Or.inl (by decide))
          have l_29 := k_23 _ _ l_21 (by decide) (Or.inl (by decide))
          have l_30 := k_23 _ _ l_14 (by decide) (Or.inr (by show (1 : Nat) ≠ 2; decide))
          refine z_r_pu (ins := (.iconst 0)) (len := 1) (t := 49) (st' := [ye_v 0]) rfl rfl rfl rfl rfl ?_
          refine z_r_is (kk := z_isI) (ins := (.istore 8)) (len := 2) (t := 51) (i := 8) rfl rfl rfl rfl rfl rfl rfl rfl (fun l l_31 k_32 => ?_)
          have l_33 := k_32 _ _ l_24 (by decide) (Or.inl (by decide))
          have l_34 := k_32 _ _ l_25 (by decide) (Or.inl (by decide))
          have l_35 := k_32 _ _ l_26 (by decide) (Or.inl (by decide))
          have l_36 := k_32 _ _ l_27 (by decide) (Or.inl (by decide))
          have l_37 := k_32 _ _ l_28 (by decide) (Or.inl (by decide))
          have l_38 := k_32 _ _ l_29 (by decide) (Or.inl (by decide))
          have l_39 := k_32 _ _ l_30 (by decide) (Or.inl (by decide))
          have l_40 := k_32 _ _ l_22 (by decide) (Or.inr (by show (1 : Nat) ≠ 2; decide))
          have ea : yh_sh so h k n f sp = (if k = 3 then -3 else yh_sum (yh_c k n f sp) so.toNat) := by
            unfold yh_sh
            rw [if_neg (by omega), if_neg (by omega)]
            by_cases q : k = 3
            · rw [if_pos q, if_pos q]
            · rw [if_neg q, if_neg q, yh_sum_cg q hso]
          rw [ea]
          have ev : f + Int32.ofInt ((0 : Nat) : Int) * sp = f := by
            show f + Int32.ofInt 0 * sp = f
            rw [show (Int32.ofInt 0 : Int32) = 0 from rfl, Int32.zero_mul, Int32.add_zero]
          exact ye_msL (F := ye_up F 14 (ye_v 0)) fM k0 k6 fG (by omega) (by omega) (by omega) hso (by omega) (fun _ => rfl) so.toNat 0 (by omega) c_2 c_4 hgl l_33 l_34 l_35 l_36 l_38 l_39 (by rw [ev]; exact l_40) l_31
        · skip
          refine z_r_jm (ins := (.if_icmp .ge 10)) (len := 3) (t := 34) rfl rfl rfl rfl (ye_jn (t := 41) rfl (by omega) (by omega) (by omega) (by omega) b_13) ?_
          refine z_r_ld (kk := z_isI) (ins := (.iload_n 3)) (len := 1) (t := 35) (i := 3) rfl rfl rfl rfl rfl (fun _ => rfl) a3 rfl ?_
          by_cases b_41 : 0 ≤ n
          · skip
            refine z_r_jm (ins := (.ifCond .ge 6)) (len := 3) (t := 41) rfl rfl rfl rfl (ye_iy (t := 41) rfl (by omega) (by omega) b_41) ?_
            refine z_r_pu (ins := (.iconst 0)) (len := 1) (t := 42) (st' := [ye_v 0]) rfl rfl rfl rfl rfl ?_
            refine z_r_is (kk := z_isI) (ins := (.istore 6)) (len := 2) (t := 44) (i := 6) rfl rfl rfl rfl rfl rfl rfl rfl (fun l l_42 k_43 => ?_)
            have l_44 := k_43 _ _ a0 (by decide) (Or.inl (by decide))
            have l_45 := k_43 _ _ a1 (by decide) (Or.inl (by decide))
            have l_46 := k_43 _ _ a2 (by decide) (Or.inl (by decide))
            have l_47 := k_43 _ _ a3 (by decide) (Or.inl (by decide))
            have l_48 := k_43 _ _ a4 (by decide) (Or.inl (by decide))
            have l_49 := k_43 _ _ a5 (by decide) (Or.inr (by show (1 : Nat) ≠ 2; decide))
            refine z_r_ld (kk := z_isI) (ins := (.iload 4)) (len := 2) (t := 46) (i := 4) rfl rfl rfl rfl rfl (fun _ => rfl) l_48 rfl ?_
            refine z_r_is (kk := z_isI) (ins := (.istore 7)) (len := 2) (t := 48) (i := 7) rfl rfl rfl rfl rfl rfl rfl rfl (fun l l_50 k_51 => ?_)
            have l_52 := k_51 _ _ l_44 (by decide) (Or.inl (by decide))
            have l_53 := k_51 _ _ l_45 (by decide) (Or.inl (by decide))
            have l_54 := k_51 _ _ l_46 (by decide) (Or.inl (by decide))
            have l_55 := k_51 _ _ l_47 (by decide) (Or.inl (by decide))
            have l_56 := k_51 _ _ l_48 (by decide) (Or.inl (by decide))
            have l_57 := k_51 _ _ l_49 (by decide) (Or.inl (by decide))
            have l_58 := k_51 _ _ l_42 (by decide) (Or.inr (by show (1 : Nat) ≠ 2; decide))
            refine z_r_pu (ins := (.iconst 0)) (len := 1) (t := 49) (st' := [ye_v 0]) rfl rfl rfl rfl rfl ?_
            refine z_r_is (kk := z_isI) (ins := (.istore 8)) (len := 2) (t := 51) (i := 8) rfl rfl rfl rfl rfl rfl rfl rfl (fun l l_59 k_60 => ?_)
            have l_61 := k_60 _ _ l_52 (by decide) (Or.inl (by decide))
            have l_62 := k_60 _ _ l_53 (by decide) (Or.inl (by decide))
            have l_63 := k_60 _ _ l_54 (by decide) (Or.inl (by decide))
            have l_64 := k_60 _ _ l_55 (by decide) (Or.inl (by decide))
            have l_65 := k_60 _ _ l_56 (by decide) (Or.inl (by decide))
            have l_66 := k_60 _ _ l_57 (by decide) (Or.inl (by decide))
            have l_67 := k_60 _ _ l_58 (by decide) (Or.inl (by decide))
            have l_68 := k_60 _ _ l_50 (by decide) (Or.inr (by show (1 : Nat) ≠ 2; decide))
            have ea : yh_sh so h k n f sp = (if k = 3 then -3 else yh_sum (yh_c k n f sp) so.toNat) := by
              unfold yh_sh
              rw [if_neg (by omega), if_neg (by omega)]
              by_cases q : k = 3
              · rw [if_pos q, if_pos q]
              · rw [if_neg q, if_neg q, yh_sum_cg q hso]
            rw [ea]
            have ev : f + Int32.ofInt ((0 : Nat) : Int) * sp = f := by
              show f + Int32.ofInt 0 * sp = f
              rw [show (Int32.ofInt 0 : Int32) = 0 from rfl, Int32.zero_mul, Int32.add_zero]
            exact ye_msL (F := ye_up F 14 (ye_v 0)) fM k0 k6 fG (by omega) (by omega) (by omega) hso (by omega) (fun _ => rfl) so.toNat 0 (by omega) c_2 c_4 hgl l_61 l_62 l_63 l_64 l_66 l_67 (by rw [ev]; exact l_68) l_59
          · skip
            refine z_r_jm (ins := (.ifCond .ge 6)) (len := 3) (t := 38) rfl rfl rfl rfl (ye_in (t := 41) rfl (by omega) (by omega) b_41) ?_
            refine z_r_pu (ins := (.bipush (-2))) (len := 2) (t := 40) rfl rfl rfl rfl (ye_bi (by decide) (by decide)) ?_
            refine ye_ret (ins := .ireturn) rfl rfl rfl (ye_reti rfl) ?_
            have ea : yh_sh so h k n f sp = (-2) := by
              unfold yh_sh
              rw [if_neg (by omega), if_pos (by omega)]
            rw [ea]
      · skip
        refine z_r_jm (ins := (.if_icmp .le 5)) (len := 3) (t := 27) rfl rfl rfl rfl (ye_jn (t := 29) rfl (by omega) (by omega) (by omega) (by omega) b_12) ?_
        refine z_r_pu (ins := (.iconst (-1))) (len := 1) (t := 28) (st' := [ye_v ((-1))]) rfl rfl rfl rfl rfl ?_
        refine ye_ret (ins := .ireturn) rfl rfl rfl (ye_reti rfl) ?_
        have ea : yh_sh so h k n f sp = (-1) := by
          unfold yh_sh
          exact if_pos (by omega)
        rw [ea]
end YMSH
