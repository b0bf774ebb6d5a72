/-! The reference's numbers, exactly. -/
section YMNU
variable {xs : List Int32} {d aM aB : Nat} {P : z_H} {F : Nat → Value} {bs : List Value} {T : Int → Int} {sz tp h w lim lo hi n fr dg : Int} {l : z_L} {Ψ : z_S → Prop}
theorem ye_mnI (hM : P[aM]? = some (10, ye_fl F)) (fM : aM < z_far) (k15 : F 15 = .ref aB) (k16 : F 16 = ye_v sz) (k17 : F 17 = ye_v tp) (k18 : F 18 = ye_v h) (k19 : F 19 = ye_v w) (hB : P[aB]? = some (101, bs)) (fB : aB < z_far) (hx : ye_tx T sz (-128) 127 bs) (hl : (lim = sz ∧ sz ≤ tp) ∨ (lim = tp ∧ tp < sz)) (hb : 0 ≤ h ∧ h ≤ lim ∧ 0 ≤ sz ∧ sz ≤ 80 ∧ 0 ≤ tp ∧ tp ≤ 80 ∧ -1 ≤ w ∧ w ≤ 80)
    (h0 : z_get l 0 = some (.ref aM)) (h1 : z_get l 1 = some (ye_v dg)) (h2 : z_get l 2 = some (ye_v lo)) (h3 : z_get l 3 = some (ye_v hi)) (h4 : z_get l 4 = some (ye_v fr)) (h5 : z_get l 5 = some (ye_v n)) (hr : 0 ≤ fr ∧ fr ≤ h ∧ h < fr + dg ∧ 0 ≤ dg ∧ dg ≤ 3 ∧ 0 ≤ n ∧ n ≤ 999) (hw : w = -1) (hd : 2 ≤ d) (hc : h < lim ∧ 48 ≤ T h ∧ T h ≤ 57)
    (kk : ∀ l P' F', z_get l 0 = some (.ref aM) → z_get l 1 = some (ye_v dg) → z_get l 2 = some (ye_v lo) → z_get l 3 = some (ye_v hi) → z_get l 4 = some (ye_v fr) → z_get l 5 = some (ye_v (10 * n + T h - 48)) → P'[aM]? = some (10, ye_fl F') → ye_fk [18] F F' → F' 18 = ye_v (h + 1) → ye_oth [aM] P P' → z_Rh (z_G xs) d 195 Ψ (18, l, [], P', 0, 0)) : z_Rh (z_G xs) d 195 Ψ (18, l, [], P, 0, 0) := by
  have ho0 : ye_oth [aM] P P := ye_oth_rf
  have hf0 : ye_fk [18] F F := ye_fk_rf
  refine z_r_ld (kk := z_isA) (ins := (.aload_n 0)) (len := 1) (t := 19) (i := 0) rfl rfl rfl rfl rfl (fun _ => rfl) h0 rfl ?_
  refine z_r_rd (ins := (.getfield 153)) (len := 3) (t := 22) rfl rfl rfl rfl rfl (z_gfv (ci := 10) (k := 18) (v := ye_v h) rfl (z_lkn fM hM) (by decide) (ye_flg rfl k18)) ?_
  refine z_r_ld (kk := z_isI) (ins := (.iload 4)) (len := 2) (t := 24) (i := 4) rfl rfl rfl rfl rfl (fun _ => rfl) h4 rfl ?_
  refine z_r_ld (kk := z_isI) (ins := (.iload_n 1)) (len := 1) (t := 25) (i := 1) rfl rfl rfl rfl rfl (fun _ => rfl) h1 rfl ?_
  refine z_r_pu (ins := .iadd) (len := 1) (t := 26) rfl rfl rfl rfl ye_add ?_
  refine z_r_jm (ins := (.if_icmp .ge 45)) (len := 3) (t := 29) rfl rfl rfl rfl (ye_jn (t := 71) rfl (by omega) (by omega) (by omega) (by omega) (by show ¬ (fr + dg ≤ h); omega)) ?_
  refine z_r_ld (kk := z_isA) (ins := (.aload_n 0)) (len := 1) (t := 30) (i := 0) rfl rfl rfl rfl rfl (fun _ => rfl) h0 rfl ?_
  refine ye_ca (ins := (.invokevirtual 163)) (kd := 1) (t := 33) rfl rfl (by decide) (z_argsv rfl rfl rfl (by omega) (Nat.le_of_ble_eq_true rfl) rfl (Nat.le_of_ble_eq_true rfl) (Nat.le_refl _) (Nat.le_refl _) (Or.inr (Nat.le_of_ble_eq_true rfl)) (Or.inr (z_atv (z_lkn fM hM) rfl))) rfl rfl rfl (ye_here (lim := lim) hM fM k15 k16 k17 k18 k19 hB fB hx (by omega) (by omega)) ?_
  rintro _ _ ⟨rfl, e_1, rfl, h_2⟩
  unfold ye_sig at h_2
  refine z_r_pu (ins := (.bipush 48)) (len := 2) (t := 35) rfl rfl rfl rfl (ye_bi (by decide) (by decide)) ?_
  refine z_r_pu (ins := (.bipush 57)) (len := 2) (t := 37) rfl rfl rfl rfl (ye_bi (by decide) (by decide)) ?_
  refine ye_ca (ins := (.invokestatic 133)) (kd := 0) (t := 40) rfl rfl (by decide) (z_argsv rfl rfl rfl (by omega) (Nat.le_of_ble_eq_true rfl) rfl (Nat.le_of_ble_eq_true rfl) (Nat.le_refl _) (Nat.le_refl _) (Or.inl rfl) (Or.inl rfl)) rfl rfl rfl (ye_inr (by omega) (by omega) (by omega)) ?_
  rintro _ _ ⟨rfl, b_3, rfl, h_4⟩
  refine z_r_jm (ins := (.ifCond .eq 31)) (len := 3) (t := 43) rfl rfl rfl rfl (ye_in (t := 71) rfl (by omega) (by omega) (by show ¬ (b_3 = 0); omega)) ?_
  refine z_r_pu (ins := (.bipush 10)) (len := 2) (t := 45) rfl rfl rfl rfl (ye_bi (by decide) (by decide)) ?_
  refine z_r_ld (kk := z_isI) (ins := (.iload 5)) (len := 2) (t := 47) (i := 5) rfl rfl rfl rfl rfl (fun _ => rfl) h5 rfl ?_
  refine z_r_pu (ins := .imul) (len := 1) (t := 48) rfl rfl rfl rfl ye_mul ?_
  refine z_r_ld (kk := z_isA) (ins := (.aload_n 0)) (len := 1) (t := 49) (i := 0) rfl rfl rfl rfl rfl (fun _ => rfl) h0 rfl ?_
  refine ye_ca (ins := (.invokevirtual 163)) (kd := 1) (t := 52) rfl rfl (by decide) (z_argsv rfl rfl rfl (by omega) (Nat.le_of_ble_eq_true rfl) rfl (Nat.le_of_ble_eq_true rfl) (Nat.le_refl _) (Nat.le_refl _) (Or.inr (Nat.le_of_ble_eq_true rfl)) (Or.inr (z_atv (z_lkn fM hM) rfl))) rfl rfl rfl (ye_here (lim := lim) hM fM k15 k16 k17 k18 k19 hB fB hx (by omega) (by omega)) ?_
  rintro _ _ ⟨rfl, e_5, rfl, h_6⟩
  unfold ye_sig at h_6
  refine z_r_pu (ins := .iadd) (len := 1) (t := 53) rfl rfl rfl rfl ye_add ?_
  refine z_r_pu (ins := (.bipush 48)) (len := 2) (t := 55) rfl rfl rfl rfl (ye_bi (by decide) (by decide)) ?_
  refine z_r_pu (ins := .isub) (len := 1) (t := 56) rfl rfl rfl rfl ye_sub ?_
  refine z_r_is (kk := z_isI) (ins := (.istore 5)) (len := 2) (t := 58) (i := 5) rfl rfl rfl rfl rfl rfl rfl rfl (fun l l_7 k_8 => ?_)
  have l_9 := k_8 _ _ h0 (by decide) (Or.inl (by decide))
  have l_10 := k_8 _ _ h1 (by decide) (Or.inl (by decide))
  have l_11 := k_8 _ _ h2 (by decide) (Or.inl (by decide))
  have l_12 := k_8 _ _ h3 (by decide) (Or.inl (by decide))
  have l_13 := k_8 _ _ h4 (by decide) (Or.inr (by show (1 : Nat) ≠ 2; decide))
  refine z_r_ld (kk := z_isA) (ins := (.aload_n 0)) (len := 1) (t := 59) (i := 0) rfl rfl rfl rfl rfl (fun _ => rfl) l_9 rfl ?_
  refine z_r_pu (ins := .dup) (len := 1) (t := 60) rfl rfl rfl rfl rfl ?_
  refine z_r_rd (ins := (.getfield 153)) (len := 3) (t := 63) rfl rfl rfl rfl rfl (z_gfv (ci := 10) (k := 18) (v := ye_v h) rfl (z_lkn fM hM) (by decide) (ye_flg rfl k18)) ?_
  refine z_r_pu (ins := (.iconst 1)) (len := 1) (t := 64) (st' := [ye_v 1, ye_v h, .ref aM]) rfl rfl rfl rfl rfl ?_
  refine z_r_pu (ins := .iadd) (len := 1) (t := 65) rfl rfl rfl rfl ye_add ?_
  refine ye_r_wr (ins := (.putfield 153)) (len := 3) (t := 68) (a := aM) (q := (10, ye_fl (ye_up F 18 (ye_v (h + 1))))) rfl rfl rfl rfl rfl hM (ye_pfm (k := 18) rfl hM rfl rfl rfl rfl) (fun P_14 c_15 o_16 => ?_)
  have c_17 := ye_kp o_16 (ye_n1 (ye_ne hB hM (by decide))) hB
  have o_18 := ye_oth_tr ho0 o_16 (ye_s1 (List.mem_cons_self))
  have f_19 := ye_fk_up (j := 18) (v := ye_v (h + 1)) hf0 (List.mem_cons_self)
  refine z_r_jm (ins := (.goto (-50))) (len := 3) (t := 18) rfl rfl rfl rfl (z_gty rfl) ?_
  have hT1 : e_5 = T h := by omega
  exact kk _ _ _ l_9 l_10 l_11 l_12 l_13 (by rw [← hT1]; exact l_7) c_15 f_19 rfl o_18
theorem ye_mnE (hM : P[aM]? = some (10, ye_fl F)) (fM : aM < z_far) (k15 : F 15 = .ref aB) (k16 : F 16 = ye_v sz) (k17 : F 17 = ye_v tp) (k18 : F 18 = ye_v h) (k19 : F 19 = ye_v w) (hB : P[aB]? = some (101, bs)) (fB : aB < z_far) (hx : ye_tx T sz (-128) 127 bs) (hl : (lim = sz ∧ sz ≤ tp) ∨ (lim = tp ∧ tp < sz)) (hb : 0 ≤ h ∧ h ≤ lim ∧ 0 ≤ sz ∧ sz ≤ 80 ∧ 0 ≤ tp ∧ tp ≤ 80 ∧ -1 ≤ w ∧ w ≤ 80)
    (h0 : z_get l 0 = some (.ref aM)) (h1 : z_get l 1 = some (ye_v dg)) (h2 : z_get l 2 = some (ye_v lo)) (h3 : z_get l 3 = some (ye_v hi)) (h4 : z_get l 4 = some (ye_v fr)) (h5 : z_get l 5 = some (ye_v n)) (hr : 0 ≤ fr ∧ fr ≤ h ∧ h ≤ fr + dg ∧ 0 ≤ dg ∧ dg ≤ 3) (hd : 2 ≤ d) (hc : h = fr + dg ∨ ¬ (h < lim ∧ 48 ≤ T h ∧ T h ≤ 57))
    (kk : z_Rh (z_G xs) d 195 Ψ (71, l, [], P, 0, 0)) : z_Rh (z_G xs) d 195 Ψ (18, l, [], P, 0, 0) := by
  refine z_r_ld (kk := z_isA) (ins := (.aload_n 0)) (len := 1) (t := 19) (i := 0) rfl rfl rfl rfl rfl (fun _ => rfl) h0 rfl ?_
  refine z_r_rd (ins := (.getfield 153)) (len := 3) (t := 22) rfl rfl rfl rfl rfl (z_gfv (ci := 10) (k := 18) (v := ye_v h) rfl (z_lkn fM hM) (by decide) (ye_flg rfl k18)) ?_
  refine z_r_ld (kk := z_isI) (ins := (.iload 4)) (len := 2) (t := 24) (i := 4) rfl rfl rfl rfl rfl (fun _ => rfl) h4 rfl ?_
  refine z_r_ld (kk := z_isI) (ins := (.iload_n 1)) (len := 1) (t := 25) (i := 1) rfl rfl rfl rfl rfl (fun _ => rfl) h1 rfl ?_
  refine z_r_pu (ins := .iadd) (len := 1) (t := 26) rfl rfl rfl rfl ye_add ?_
  by_cases b_1 : fr + dg ≤ h
  · skip
    refine z_r_jm (ins := (.if_icmp .ge 45)) (len := 3) (t := 71) rfl rfl rfl rfl (ye_jy (t := 71) rfl (by omega) (by omega) (by omega) (by omega) b_1) ?_
    exact kk
  · skip
    refine z_r_jm (ins := (.if_icmp .ge 45)) (len := 3) (t := 29) rfl rfl rfl rfl (ye_jn (t := 71) rfl (by omega) (by omega) (by omega) (by omega) b_1) ?_
    refine z_r_ld (kk := z_isA) (ins := (.aload_n 0)) (len := 1) (t := 30) (i := 0) rfl rfl rfl rfl rfl (fun _ => rfl) h0 rfl ?_
    refine ye_ca (ins := (.invokevirtual 163)) (kd := 1) (t := 33) rfl rfl (by decide) (z_argsv rfl rfl rfl (by omega) (Nat.le_of_ble_eq_true rfl) rfl (Nat.le_of_ble_eq_true rfl) (Nat.le_refl _) (Nat.le_refl _) (Or.inr (Nat.le_of_ble_eq_true rfl)) (Or.inr (z_atv (z_lkn fM hM) rfl))) rfl rfl rfl (ye_here (lim := lim) hM fM k15 k16 k17 k18 k19 hB fB hx (by omega) (by omega)) ?_
    rintro _ _ ⟨rfl, e_2, rfl, h_3⟩
    unfold ye_sig at h_3
    refine z_r_pu (ins := (.bipush 48)) (len := 2) (t := 35) rfl rfl rfl rfl (ye_bi (by decide) (by decide)) ?_
    refine z_r_pu (ins := (.bipush 57)) (len := 2) (t := 37) rfl rfl rfl rfl (ye_bi (by decide) (by decide)) ?_
    refine ye_ca (ins := (.invokestatic 133)) (kd := 0) (t := 40) rfl rfl (by decide) (z_argsv rfl rfl rfl (by omega) (Nat.le_of_ble_eq_true rfl) rfl (Nat.le_of_ble_eq_true rfl) (Nat.le_refl _) (Nat.le_refl _) (Or.inl rfl) (Or.inl rfl)) rfl rfl rfl (ye_inr (by omega) (by omega) (by omega)) ?_
    rintro _ _ ⟨rfl, b_4, rfl, h_5⟩
    refine z_r_jm (ins := (.ifCond .eq 31)) (len := 3) (t := 71) rfl rfl rfl rfl (ye_iy (t := 71) rfl (by omega) (by omega) (by show b_4 = 0; omega)) ?_
    exact kk
theorem ye_mnL (fM : aM < z_far) (fB : aB < z_far) (hx : ye_tx T sz (-128) 127 bs) (hl : (lim = sz ∧ sz ≤ tp) ∨ (lim = tp ∧ tp < sz)) (hb : 0 ≤ sz ∧ sz ≤ 80 ∧ 0 ≤ tp ∧ tp ≤ 80) (hd : 2 ≤ d) : ∀ (k : Nat) {h n : Int} {l : z_L} {P : z_H} {F : Nat → Value}, P[aM]? = some (10, ye_fl F) → F 15 = .ref aB → F 16 = ye_v sz → F 17 = ye_v tp → F 18 = ye_v h → F 19 = ye_v (-1) → P[aB]? = some (101, bs) → 0 ≤ fr → fr ≤ h → h ≤ lim → h + k = fr + dg → 0 ≤ dg → dg ≤ 3 → 0 ≤ n → n ≤ yq_cap k → z_get l 0 = some (.ref aM) → z_get l 1 = some (ye_v dg) → z_get l 2 = some (ye_v lo) → z_get l 3 = some (ye_v hi) → z_get l 4 = some (ye_v fr) → z_get l 5 = some (ye_v n) →
    (∀ l P' F', z_get l 0 = some (.ref aM) → z_get l 2 = some (ye_v lo) → z_get l 3 = some (ye_v hi) → z_get l 4 = some (ye_v fr) → z_get l 5 = some (ye_v (yq_dg T lim k h n).2) → P'[aM]? = some (10, ye_fl F') → ye_fk [18] F F' → F' 18 = ye_v (yq_dg T lim k h n).1 → ye_oth [aM] P P' → z_Rh (z_G xs) d 195 Ψ (71, l, [], P', 0, 0)) → z_Rh (z_G xs) d 195 Ψ (18, l, [], P, 0, 0) := by
  intro k
  induction k with
  | zero =>
    intro h n l P F hM k15 k16 k17 k18 k19 hB r0 r1 r2 r3 r4 r5 n0 n1 h0 h1 h2 h3 h4 h5 kk
    exact ye_mnE hM fM k15 k16 k17 k18 k19 hB fB hx hl (by omega) h0 h1 h2 h3 h4 h5 (by omega) hd (Or.inl (by omega)) (kk l P F h0 h2 h3 h4 h5 hM ye_fk_rf k18 ye_oth_rf)
  | succ k ih =>
    intro h n l P F hM k15 k16 k17 k18 k19 hB r0 r1 r2 r3 r4 r5 n0 n1 h0 h1 h2 h3 h4 h5 kk
    by_cases hc : h < lim ∧ 48 ≤ T h ∧ T h ≤ 57
    · skip
      have e : yq_dg T lim (k + 1) h n = yq_dg T lim k (h + 1) (10 * n + T h - 48) := by
        show (if h < lim ∧ 48 ≤ T h ∧ T h ≤ 57 then yq_dg T lim k (h + 1) (10 * n + T h - 48) else (h, n)) = _
        rw [if_pos hc]
      rw [e] at kk
      have hk3 : k = 0 ∨ k = 1 ∨ k = 2 := by omega
      have hn9 : n ≤ 99 ∧ 10 * n + 9 ≤ yq_cap k := by
        rcases hk3 with rfl | rfl | rfl
        · have n1 : n ≤ 99 := n1
          refine ⟨n1, ?_⟩
          show 10 * n + 9 ≤ 999
          omega
        · have n1 : n ≤ 9 := n1
          refine ⟨by omega, ?_⟩
          show 10 * n + 9 ≤ 99
          omega
        · have n1 : n ≤ 0 := n1
          refine ⟨by omega, ?_⟩
          show 10 * n + 9 ≤ 9
          omega
      refine ye_mnI hM fM k15 k16 k17 k18 k19 hB fB hx hl (by omega) h0 h1 h2 h3 h4 h5 (by omega) rfl hd hc fun l P' F' g0 g1 g2 g3 g4 g5 hM' hf hk ho => ?_
      refine ih hM' ((hf 15 (by decide)).trans k15) ((hf 16 (by decide)).trans k16) ((hf 17 (by decide)).trans k17) hk ((hf 19 (by decide)).trans k19) (ye_kp ho (ye_n1 (ye_ne hB hM (by decide))) hB) r0 (by omega) (by omega) (by omega) r4 r5 (by omega) (by omega) g0 g1 g2 g3 g4 g5 fun l P'' F'' f0 f2 f3 f4 f5 hM'' hf' hk' ho' => ?_
      exact kk l P'' F'' f0 f2 f3 f4 f5 hM'' (ye_fk_tr hf hf' (fun _ q => q)) hk' (ye_oth_tr ho ho' (fun _ q => q))
    · skip
      have e : yq_dg T lim (k + 1) h n = (h, n) := by
        show (if h < lim ∧ 48 ≤ T h ∧ T h ≤ 57 then yq_dg T lim k (h + 1) (10 * n + T h - 48) else (h, n)) = _
        rw [if_neg hc]
      rw [e] at kk
      exact ye_mnE hM fM k15 k16 k17 k18 k19 hB fB hx hl (by omega) h0 h1 h2 h3 h4 h5 (by omega) hd (Or.inr hc) (kk l P F h0 h2 h3 h4 h5 hM ye_fk_rf k18 ye_oth_rf)
theorem ye_mnum {k : Nat} (hM : P[aM]? = some (10, ye_fl F)) (fM : aM < z_far) (k15 : F 15 = .ref aB) (k16 : F 16 = ye_v sz) (k17 : F 17 = ye_v tp) (k18 : F 18 = ye_v h) (k19 : F 19 = ye_v w) (hB : P[aB]? = some (101, bs)) (fB : aB < z_far) (hx : ye_tx T sz (-128) 127 bs) (hl : (lim = sz ∧ sz ≤ tp) ∨ (lim = tp ∧ tp < sz)) (hb : 0 ≤ h ∧ h ≤ lim ∧ 0 ≤ sz ∧ sz ≤ 80 ∧ 0 ≤ tp ∧ tp ≤ 80 ∧ -1 ≤ w ∧ w ≤ 80) (hk : dg = (k : Int)) (hk3 : 1 ≤ k ∧ k ≤ 3) (hlo : 0 ≤ lo ∧ lo ≤ 999) (hhi : 0 ≤ hi ∧ hi ≤ 999) (hd : 3 ≤ d) : ye_X xs d 195 [.ref aM, ye_v dg, ye_v lo, ye_v hi] P (fun r P' => ∃ v F' h' w', r = some (ye_v v) ∧ P'[aM]? = some (10, ye_fl F') ∧ ye_fk [18, 19] F F' ∧ F' 18 = ye_v h' ∧ F' 19 = ye_v w' ∧ ye_oth [aM] P P' ∧ h ≤ h' ∧ h' ≤ lim ∧ ((w ≠ -1 ∧ v = 0 ∧ h' = h ∧ w' = w) ∨ (w = -1 ∧ (yq_num T lim k lo hi h).1 = true ∧ v = (yq_num T lim k lo hi h).2.2 ∧ h' = (yq_num T lim k lo hi h).2.1 ∧ w' = -1) ∨ (w = -1 ∧ (yq_num T lim k lo hi h).1 = false ∧ v = 0 ∧ w' = (yq_num T lim k lo hi h).2.1))) := by
  refine ye_go ?_
  have a0 : z_get (lv_args 0 [.ref aM, ye_v dg, ye_v lo, ye_v hi]) 0 = some (.ref aM) := rfl
  have a1 : z_get (lv_args 0 [.ref aM, ye_v dg, ye_v lo, ye_v hi]) 1 = some (ye_v dg) := rfl
  have a2 : z_get (lv_args 0 [.ref aM, ye_v dg, ye_v lo, ye_v hi]) 2 = some (ye_v lo) := rfl
  have a3 : z_get (lv_args 0 [.ref aM, ye_v dg, ye_v lo, ye_v hi]) 3 = some (ye_v hi) := rfl
  have ho0 : ye_oth [aM] P P := ye_oth_rf
  have hf0 : ye_fk [18, 19] F F := ye_fk_rf
  refine z_r_ld (kk := z_isA) (ins := (.aload_n 0)) (len := 1) (t := 1) (i := 0) rfl rfl rfl rfl rfl (fun _ => rfl) a0 rfl ?_
  refine ye_ca (ins := (.invokevirtual 159)) (kd := 1) (t := 4) rfl rfl (by decide) (z_argsv rfl rfl rfl (by omega) (Nat.le_of_ble_eq_true rfl) rfl (Nat.le_of_ble_eq_true rfl) (Nat.le_refl _) (Nat.le_refl _) (Or.inr (Nat.le_of_ble_eq_true rfl)) (Or.inr (z_atv (z_lkn fM hM) rfl))) rfl rfl rfl (ye_fine hM fM k19 (by omega)) ?_
  rintro _ _ ⟨rfl, b_1, rfl, h_2⟩
  by_cases b_3 : b_1 ≠ 0
  · skip
    refine z_r_jm (ins := (.ifCond .ne 5)) (len := 3) (t := 9) rfl rfl rfl rfl (ye_iy (t := 9) rfl (by omega) (by omega) b_3) ?_
    refine z_r_ld (kk := z_isA) (ins := (.aload_n 0)) (len := 1) (t := 10) (i := 0) rfl rfl rfl rfl rfl (fun _ => rfl) a0 rfl ?_
    refine z_r_rd (ins := (.getfield 153)) (len := 3) (t := 13) rfl rfl rfl rfl rfl (z_gfv (ci := 10) (k := 18) (v := ye_v h) rfl (z_lkn fM hM) (by decide) (ye_flg rfl k18)) ?_
    refine z_r_is (kk := z_isI) (ins := (.istore 4)) (len := 2) (t := 15) (i := 4) rfl rfl rfl rfl rfl rfl rfl rfl (fun l l_4 k_5 => ?_)
    have l_6 := k_5 _ _ a0 (by decide) (Or.inl (by decide))
    have l_7 := k_5 _ _ a1 (by decide) (Or.inl (by decide))
    have l_8 := k_5 _ _ a2 (by decide) (Or.inl (by decide))
    have l_9 := k_5 _ _ a3 (by decide) (Or.inr (by show (1 : Nat) ≠ 2; decide))
    refine z_r_pu (ins := (.iconst 0)) (len := 1) (t := 16) (st' := [ye_v 0]) rfl rfl rfl rfl rfl ?_
    refine z_r_is (kk := z_isI) (ins := (.istore 5)) (len := 2) (t := 18) (i := 5) rfl rfl rfl rfl rfl rfl rfl rfl (fun l l_10 k_11 => ?_)
    have l_12 := k_11 _ _ l_6 (by decide) (Or.inl (by decide))
    have l_13 := k_11 _ _ l_7 (by decide) (Or.inl (by decide))
    have l_14 := k_11 _ _ l_8 (by decide) (Or.inl (by decide))
    have l_15 := k_11 _ _ l_9 (by decide) (Or.inl (by decide))
    have l_16 := k_11 _ _ l_4 (by decide) (Or.inr (by show (1 : Nat) ≠ 2; decide))
    have hw1 : w = -1 := by omega
    subst hw1
    have hcap : (0 : Int) ≤ yq_cap k := by
      have : k = 1 ∨ k = 2 ∨ k = 3 := by omega
      rcases this with rfl | rfl | rfl <;> decide
    refine ye_mnL fM fB hx hl (by omega) (by omega) k hM k15 k16 k17 k18 k19 hB (by omega) (by omega) (by omega) (by omega) (by omega) (by omega) (by decide) hcap l_12 l_13 l_14 l_15 l_16 l_10 ?_
    intro l P1 F1 g0 g2 g3 g4 g5 hM1 hf1 hk1 ho1
    obtain ⟨q1, q2, q3, q4, q5⟩ := yq_dg_bd (T := T) (lim := lim) (k := k) (p := h) (n := 0) (by omega) (by omega) hcap (by omega)
    have eN : yq_num T lim k lo hi h = (if (yq_dg T lim k h 0).1 = h then (false, h, 0) else if (yq_dg T lim k h 0).2 < lo ∨ hi < (yq_dg T lim k h 0).2 then (false, (yq_dg T lim k h 0).1 - 1, 0) else (true, (yq_dg T lim k h 0).1, (yq_dg T lim k h 0).2)) := rfl
    generalize (yq_dg T lim k h 0).1 = p1 at q1 q2 q3 hk1 eN
    generalize (yq_dg T lim k h 0).2 = n1 at q4 q5 g5 eN
    have m15 := (hf1 15 (by decide)).trans k15
    have m16 := (hf1 16 (by decide)).trans k16
    have m17 := (hf1 17 (by decide)).trans k17
    have m19 := (hf1 19 (by decide)).trans k19
    have hB1 := ye_kp ho1 (ye_n1 (ye_ne hB hM (by decide))) hB
    have hf2 : ye_fk [18, 19] F F1 := ye_fk_tr ye_fk_rf hf1 (by decide)
    by_cases c0 : p1 = h
    · skip
      refine z_r_ld (kk := z_isA) (ins := (.aload_n 0)) (len := 1) (t := 72) (i := 0) rfl rfl rfl rfl rfl (fun _ => rfl) g0 rfl ?_
      refine z_r_rd (ins := (.getfield 153)) (len := 3) (t := 75) rfl rfl rfl rfl rfl (z_gfv (ci := 10) (k := 18) (v := ye_v p1) rfl (z_lkn fM hM1) (by decide) (ye_flg rfl hk1)) ?_
      refine z_r_ld (kk := z_isI) (ins := (.iload 4)) (len := 2) (t := 77) (i := 4) rfl rfl rfl rfl rfl (fun _ => rfl) g4 rfl ?_
      refine z_r_jm (ins := (.if_icmp .ne 14)) (len := 3) (t := 80) rfl rfl rfl rfl (ye_jn (t := 91) rfl (by omega) (by omega) (by omega) (by omega) (by show ¬ (p1 ≠ h); omega)) ?_
      refine z_r_ld (kk := z_isA) (ins := (.aload_n 0)) (len := 1) (t := 81) (i := 0) rfl rfl rfl rfl rfl (fun _ => rfl) g0 rfl ?_
      refine z_r_ld (kk := z_isA) (ins := (.aload_n 0)) (len := 1) (t := 82) (i := 0) rfl rfl rfl rfl rfl (fun _ => rfl) g0 rfl ?_
      refine z_r_rd (ins := (.getfield 153)) (len := 3) (t := 85) rfl rfl rfl rfl rfl (z_gfv (ci := 10) (k := 18) (v := ye_v p1) rfl (z_lkn fM hM1) (by decide) (ye_flg rfl hk1)) ?_
      refine ye_cav (ins := (.invokevirtual 171)) (kd := 1) (t := 88) rfl rfl (by decide) (z_argsv rfl rfl rfl (by omega) (Nat.le_of_ble_eq_true rfl) rfl (Nat.le_of_ble_eq_true rfl) (Nat.le_refl _) (Nat.le_refl _) (Or.inr (Nat.le_of_ble_eq_true rfl)) (Or.inr (z_atv (z_lkn fM hM1) rfl))) rfl rfl rfl rfl (ye_flt hM1 fM m19 (by omega) (by omega)) ?_
      rintro _ P_119 ⟨F_117, w_118, c_120, f_121, k_122, o_123, h_124⟩
      have c_125 := ye_kp o_123 (ye_n1 (ye_ne hB1 hM1 (by decide))) hB1
      have o_126 := ye_oth_tr ho1 o_123 (ye_s1 (List.mem_cons_self))
      have f_127 : F_117 15 = .ref aB := (f_121 15 (by decide)).trans m15
      have f_128 : F_117 16 = ye_v sz := (f_121 16 (by decide)).trans m16
      have f_129 : F_117 17 = ye_v tp := (f_121 17 (by decide)).trans m17
      have f_130 : F_117 18 = ye_v p1 := (f_121 18 (by decide)).trans hk1
      have f_131 := ye_fk_tr hf2 f_121 (by decide)
      refine z_r_jm (ins := (.goto 23)) (len := 3) (t := 111) rfl rfl rfl rfl (z_gty rfl) ?_
      refine z_r_ld (kk := z_isA) (ins := (.aload_n 0)) (len := 1) (t := 112) (i := 0) rfl rfl rfl rfl rfl (fun _ => rfl) g0 rfl ?_
      refine ye_ca (ins := (.invokevirtual 159)) (kd := 1) (t := 115) rfl rfl (by decide) (z_argsv rfl rfl rfl (by omega) (Nat.le_of_ble_eq_true rfl) rfl (Nat.le_of_ble_eq_true rfl) (Nat.le_refl _) (Nat.le_refl _) (Or.inr (Nat.le_of_ble_eq_true rfl)) (Or.inr (z_atv (z_lkn fM c_120) rfl))) rfl rfl rfl (ye_fine c_120 fM k_122 (by omega)) ?_
      rintro _ _ ⟨rfl, b_132, rfl, h_133⟩
      refine z_r_jm (ins := (.ifCond .eq 8)) (len := 3) (t := 123) rfl rfl rfl rfl (ye_iy (t := 123) rfl (by omega) (by omega) (by show b_132 = 0; omega)) ?_
      refine z_r_pu (ins := (.iconst 0)) (len := 1) (t := 124) (st' := [ye_v 0]) rfl rfl rfl rfl rfl ?_
      refine ye_ret (ins := .ireturn) rfl rfl rfl (ye_reti rfl) ?_
      rw [if_pos (by omega)] at eN
      rw [eN]
      exact ⟨0, _, p1, w_118, rfl, c_120, f_131, f_130, k_122, o_126, by omega, by omega, Or.inr (Or.inr ⟨rfl, rfl, rfl, by show w_118 = h; omega⟩)⟩
    by_cases c1 : n1 < lo ∨ hi < n1
    · skip
      refine z_r_ld (kk := z_isA) (ins := (.aload_n 0)) (len := 1) (t := 72) (i := 0) rfl rfl rfl rfl rfl (fun _ => rfl) g0 rfl ?_
      refine z_r_rd (ins := (.getfield 153)) (len := 3) (t := 75) rfl rfl rfl rfl rfl (z_gfv (ci := 10) (k := 18) (v := ye_v p1) rfl (z_lkn fM hM1) (by decide) (ye_flg rfl hk1)) ?_
      refine z_r_ld (kk := z_isI) (ins := (.iload 4)) (len := 2) (t := 77) (i := 4) rfl rfl rfl rfl rfl (fun _ => rfl) g4 rfl ?_
      refine z_r_jm (ins := (.if_icmp .ne 14)) (len := 3) (t := 91) rfl rfl rfl rfl (ye_jy (t := 91) rfl (by omega) (by omega) (by omega) (by omega) (by show p1 ≠ h; omega)) ?_
      refine z_r_ld (kk := z_isI) (ins := (.iload 5)) (len := 2) (t := 93) (i := 5) rfl rfl rfl rfl rfl (fun _ => rfl) g5 rfl ?_
      refine z_r_ld (kk := z_isI) (ins := (.iload_n 2)) (len := 1) (t := 94) (i := 2) rfl rfl rfl rfl rfl (fun _ => rfl) g2 rfl ?_
      refine z_r_ld (kk := z_isI) (ins := (.iload_n 3)) (len := 1) (t := 95) (i := 3) rfl rfl rfl rfl rfl (fun _ => rfl) g3 rfl ?_
      refine ye_ca (ins := (.invokestatic 133)) (kd := 0) (t := 98) rfl rfl (by decide) (z_argsv rfl rfl rfl (by omega) (Nat.le_of_ble_eq_true rfl) rfl (Nat.le_of_ble_eq_true rfl) (Nat.le_refl _) (Nat.le_refl _) (Or.inl rfl) (Or.inl rfl)) rfl rfl rfl (ye_inr (by omega) (by omega) (by omega)) ?_
      rintro _ _ ⟨rfl, b_117, rfl, h_118⟩
      refine z_r_jm (ins := (.ifCond .ne 13)) (len := 3) (t := 101) rfl rfl rfl rfl (ye_in (t := 111) rfl (by omega) (by omega) (by show ¬ (b_117 ≠ 0); omega)) ?_
      refine z_r_ld (kk := z_isA) (ins := (.aload_n 0)) (len := 1) (t := 102) (i := 0) rfl rfl rfl rfl rfl (fun _ => rfl) g0 rfl ?_
      refine z_r_ld (kk := z_isA) (ins := (.aload_n 0)) (len := 1) (t := 103) (i := 0) rfl rfl rfl rfl rfl (fun _ => rfl) g0 rfl ?_
      refine z_r_rd (ins := (.getfield 153)) (len := 3) (t := 106) rfl rfl rfl rfl rfl (z_gfv (ci := 10) (k := 18) (v := ye_v p1) rfl (z_lkn fM hM1) (by decide) (ye_flg rfl hk1)) ?_
      refine z_r_pu (ins := (.iconst 1)) (len := 1) (t := 107) (st' := [ye_v 1, ye_v p1, .ref aM]) rfl rfl rfl rfl rfl ?_
      refine z_r_pu (ins := .isub) (len := 1) (t := 108) rfl rfl rfl rfl ye_sub ?_
      refine ye_cav (ins := (.invokevirtual 171)) (kd := 1) (t := 111) rfl rfl (by decide) (z_argsv rfl rfl rfl (by omega) (Nat.le_of_ble_eq_true rfl) rfl (Nat.le_of_ble_eq_true rfl) (Nat.le_refl _) (Nat.le_refl _) (Or.inr (Nat.le_of_ble_eq_true rfl)) (Or.inr (z_atv (z_lkn fM hM1) rfl))) rfl rfl rfl rfl (ye_flt hM1 fM m19 (by omega) (by omega)) ?_
      rintro _ P_121 ⟨F_119, w_120, c_122, f_123, k_124, o_125, h_126⟩
      have c_127 := ye_kp o_125 (ye_n1 (ye_ne hB1 hM1 (by decide))) hB1
      have o_128 := ye_oth_tr ho1 o_125 (ye_s1 (List.mem_cons_self))
      have f_129 : F_119 15 = .ref aB := (f_123 15 (by decide)).trans m15
      have f_130 : F_119 16 = ye_v sz := (f_123 16 (by decide)).trans m16
      have f_131 : F_119 17 = ye_v tp := (f_123 17 (by decide)).trans m17
      have f_132 : F_119 18 = ye_v p1 := (f_123 18 (by decide)).trans hk1
      have f_133 := ye_fk_tr hf2 f_123 (by decide)
      refine z_r_ld (kk := z_isA) (ins := (.aload_n 0)) (len := 1) (t := 112) (i := 0) rfl rfl rfl rfl rfl (fun _ => rfl) g0 rfl ?_
      refine ye_ca (ins := (.invokevirtual 159)) (kd := 1) (t := 115) rfl rfl (by decide) (z_argsv rfl rfl rfl (by omega) (Nat.le_of_ble_eq_true rfl) rfl (Nat.le_of_ble_eq_true rfl) (Nat.le_refl _) (Nat.le_refl _) (Or.inr (Nat.le_of_ble_eq_true rfl)) (Or.inr (z_atv (z_lkn fM c_122) rfl))) rfl rfl rfl (ye_fine c_122 fM k_124 (by omega)) ?_
      rintro _ _ ⟨rfl, b_134, rfl, h_135⟩
      refine z_r_jm (ins := (.ifCond .eq 8)) (len := 3) (t := 123) rfl rfl rfl rfl (ye_iy (t := 123) rfl (by omega) (by omega) (by show b_134 = 0; omega)) ?_
      refine z_r_pu (ins := (.iconst 0)) (len := 1) (t := 124) (st' := [ye_v 0]) rfl rfl rfl rfl rfl ?_
      refine ye_ret (ins := .ireturn) rfl rfl rfl (ye_reti rfl) ?_
      rw [if_neg (by omega), if_pos (by omega)] at eN
      rw [eN]
      exact ⟨0, _, p1, w_120, rfl, c_122, f_133, f_132, k_124, o_128, by omega, by omega, Or.inr (Or.inr ⟨rfl, rfl, rfl, by show w_120 = p1 - 1; omega⟩)⟩
    refine z_r_ld (kk := z_isA) (ins := (.aload_n 0)) (len := 1) (t := 72) (i := 0) rfl rfl rfl rfl rfl (fun _ => rfl) g0 rfl ?_
    refine z_r_rd (ins := (.getfield 153)) (len := 3) (t := 75) rfl rfl rfl rfl rfl (z_gfv (ci := 10) (k := 18) (v := ye_v p1) rfl (z_lkn fM hM1) (by decide) (ye_flg rfl hk1)) ?_
    refine z_r_ld (kk := z_isI) (ins := (.iload 4)) (len := 2) (t := 77) (i := 4) rfl rfl rfl rfl rfl (fun _ => rfl) g4 rfl ?_
    refine z_r_jm (ins := (.if_icmp .ne 14)) (len := 3) (t := 91) rfl rfl rfl rfl (ye_jy (t := 91) rfl (by omega) (by omega) (by omega) (by omega) (by show p1 ≠ h; omega)) ?_
    refine z_r_ld (kk := z_isI) (ins := (.iload 5)) (len := 2) (t := 93) (i := 5) rfl rfl rfl rfl rfl (fun _ => rfl) g5 rfl ?_
    refine z_r_ld (kk := z_isI) (ins := (.iload_n 2)) (len := 1) (t := 94) (i := 2) rfl rfl rfl rfl rfl (fun _ => rfl) g2 rfl ?_
    refine z_r_ld (kk := z_isI) (ins := (.iload_n 3)) (len := 1) (t := 95) (i := 3) rfl rfl rfl rfl rfl (fun _ => rfl) g3 rfl ?_
    refine ye_ca (ins := (.invokestatic 133)) (kd := 0) (t := 98) rfl rfl (by decide) (z_argsv rfl rfl rfl (by omega) (Nat.le_of_ble_eq_true rfl) rfl (Nat.le_of_ble_eq_true rfl) (Nat.le_refl _) (Nat.le_refl _) (Or.inl rfl) (Or.inl rfl)) rfl rfl rfl (ye_inr (by omega) (by omega) (by omega)) ?_
    rintro _ _ ⟨rfl, b_117, rfl, h_118⟩
    refine z_r_jm (ins := (.ifCond .ne 13)) (len := 3) (t := 111) rfl rfl rfl rfl (ye_iy (t := 111) rfl (by omega) (by omega) (by show b_117 ≠ 0; omega)) ?_
    refine z_r_ld (kk := z_isA) (ins := (.aload_n 0)) (len := 1) (t := 112) (i := 0) rfl rfl rfl rfl rfl (fun _ => rfl) g0 rfl ?_
    refine ye_ca (ins := (.invokevirtual 159)) (kd := 1) (t := 115) rfl rfl (by decide) (z_argsv rfl rfl rfl (by omega) (Nat.le_of_ble_eq_true rfl) rfl (Nat.le_of_ble_eq_true rfl) (Nat.le_refl _) (Nat.le_refl _) (Or.inr (Nat.le_of_ble_eq_true rfl)) (Or.inr (z_atv (z_lkn fM hM1) rfl))) rfl rfl rfl (ye_fine hM1 fM m19 (by omega)) ?_
    rintro _ _ ⟨rfl, b_119, rfl, h_120⟩
    refine z_r_jm (ins := (.ifCond .eq 8)) (len := 3) (t := 118) rfl rfl rfl rfl (ye_in (t := 123) rfl (by omega) (by omega) (by show ¬ (b_119 = 0); omega)) ?_
    refine z_r_ld (kk := z_isI) (ins := (.iload 5)) (len := 2) (t := 120) (i := 5) rfl rfl rfl rfl rfl (fun _ => rfl) g5 rfl ?_
    refine z_r_jm (ins := (.goto 4)) (len := 3) (t := 124) rfl rfl rfl rfl (z_gty rfl) ?_
    refine ye_ret (ins := .ireturn) rfl rfl rfl (ye_reti rfl) ?_
    rw [if_neg (by omega), if_neg (by omega)] at eN
    rw [eN]
    exact ⟨n1, _, p1, (-1), rfl, hM1, hf2, hk1, m19, ho1, by omega, by omega, Or.inr (Or.inl ⟨rfl, rfl, rfl, rfl, by omega⟩)⟩
  · skip
    refine z_r_jm (ins := (.ifCond .ne 5)) (len := 3) (t := 7) rfl rfl rfl rfl (ye_in (t := 9) rfl (by omega) (by omega) b_3) ?_
    refine z_r_pu (ins := (.iconst 0)) (len := 1) (t := 8) (st' := [ye_v 0]) rfl rfl rfl rfl rfl ?_
    refine ye_ret (ins := .ireturn) rfl rfl rfl (ye_reti rfl) ?_
    exact ⟨0, _, h, w, rfl, hM, hf0, k18, k19, ho0, by omega, by omega, Or.inl ⟨by omega, rfl, rfl, rfl⟩⟩
end YMNU
