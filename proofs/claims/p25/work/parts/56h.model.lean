/-! The reference's signs, exactly. -/
section YMOD
variable {xs : List Int32} {d aM aB : Nat} {P : z_H} {F : Nat → Value} {bs : List Value} {T : Int → Int} {sz tp h w lim c : Int} {l : z_L} {Ψ : z_S → Prop}
theorem ye_fine (hM : P[aM]? = some (10, ye_fl F)) (fM : aM < z_far) (k19 : F 19 = ye_v w) (hw : -1 ≤ w ∧ w ≤ 80) : ye_X xs d 193 [.ref aM] P (fun r P' => P' = P ∧ ∃ b, r = some (ye_v b) ∧ ((b = 1 ∧ w = -1) ∨ (b = 0 ∧ w ≠ -1))) := by
  refine ye_go ?_
  have a0 : z_get (lv_args 0 [.ref aM]) 0 = some (.ref aM) := rfl
  have ho0 : ye_oth [aM] P P := ye_oth_rf
  have hf0 : ye_fk [] F F := ye_fk_rf
  refine z_r_ld (kk := z_isA) (ins := (.aload_n 0)) (len := 1) (t := 1) (i := 0) rfl rfl rfl rfl rfl (fun _ => rfl) a0 rfl ?_
  refine z_r_rd (ins := (.getfield 156)) (len := 3) (t := 4) rfl rfl rfl rfl rfl (z_gfv (ci := 10) (k := 19) (v := ye_v w) rfl (z_lkn fM hM) (by decide) (ye_flg rfl k19)) ?_
  refine z_r_pu (ins := (.iconst (-1))) (len := 1) (t := 5) (st' := [ye_v ((-1)), ye_v w]) rfl rfl rfl rfl rfl ?_
  by_cases b_1 : w ≠ (-1)
  · skip
    refine z_r_jm (ins := (.if_icmp .ne 7)) (len := 3) (t := 12) rfl rfl rfl rfl (ye_jy (t := 12) rfl (by omega) (by omega) (by omega) (by omega) b_1) ?_
    refine z_r_pu (ins := (.iconst 0)) (len := 1) (t := 13) (st' := [ye_v 0]) rfl rfl rfl rfl rfl ?_
    refine ye_ret (ins := .ireturn) rfl rfl rfl (ye_retz rfl (by omega)) ?_
    exact ⟨rfl, 0, rfl, Or.inr ⟨rfl, by omega⟩⟩
  · skip
    refine z_r_jm (ins := (.if_icmp .ne 7)) (len := 3) (t := 8) rfl rfl rfl rfl (ye_jn (t := 12) rfl (by omega) (by omega) (by omega) (by omega) b_1) ?_
    refine z_r_pu (ins := (.iconst 1)) (len := 1) (t := 9) (st' := [ye_v 1]) rfl rfl rfl rfl rfl ?_
    refine z_r_jm (ins := (.goto 4)) (len := 3) (t := 13) rfl rfl rfl rfl (z_gty rfl) ?_
    refine ye_ret (ins := .ireturn) rfl rfl rfl (ye_retz rfl (by omega)) ?_
    exact ⟨rfl, 1, rfl, Or.inl ⟨rfl, by omega⟩⟩
theorem ye_inr {v lo hi : Int} (h0 : -2147483648 ≤ v ∧ v < 2147483648) (h1 : -2147483648 ≤ lo ∧ lo < 2147483648) (h2 : -2147483648 ≤ hi ∧ hi < 2147483648) : ye_X xs d 190 [ye_v v, ye_v lo, ye_v hi] P (fun r P' => P' = P ∧ ∃ b, r = some (ye_v b) ∧ ((b = 1 ∧ lo ≤ v ∧ v ≤ hi) ∨ (b = 0 ∧ ¬ (lo ≤ v ∧ v ≤ hi)))) := by
  refine ye_go ?_
  have a0 : z_get (lv_args 0 [ye_v v, ye_v lo, ye_v hi]) 0 = some (ye_v v) := rfl
  have a1 : z_get (lv_args 0 [ye_v v, ye_v lo, ye_v hi]) 1 = some (ye_v lo) := rfl
  have a2 : z_get (lv_args 0 [ye_v v, ye_v lo, ye_v hi]) 2 = some (ye_v hi) := rfl
  refine z_r_ld (kk := z_isI) (ins := (.iload_n 0)) (len := 1) (t := 1) (i := 0) rfl rfl rfl rfl rfl (fun _ => rfl) a0 rfl ?_
  refine z_r_ld (kk := z_isI) (ins := (.iload_n 1)) (len := 1) (t := 2) (i := 1) rfl rfl rfl rfl rfl (fun _ => rfl) a1 rfl ?_
  by_cases b_1 : v < lo
  · skip
    refine z_r_jm (ins := (.if_icmp .lt 12)) (len := 3) (t := 14) rfl rfl rfl rfl (ye_jy (t := 14) rfl (by omega) (by omega) (by omega) (by omega) b_1) ?_
    refine z_r_pu (ins := (.iconst 0)) (len := 1) (t := 15) (st' := [ye_v 0]) rfl rfl rfl rfl rfl ?_
    refine ye_ret (ins := .ireturn) rfl rfl rfl (ye_retz rfl (by omega)) ?_
    exact ⟨rfl, 0, rfl, Or.inr ⟨rfl, by omega⟩⟩
  · skip
    refine z_r_jm (ins := (.if_icmp .lt 12)) (len := 3) (t := 5) rfl rfl rfl rfl (ye_jn (t := 14) rfl (by omega) (by omega) (by omega) (by omega) b_1) ?_
    refine z_r_ld (kk := z_isI) (ins := (.iload_n 0)) (len := 1) (t := 6) (i := 0) rfl rfl rfl rfl rfl (fun _ => rfl) a0 rfl ?_
    refine z_r_ld (kk := z_isI) (ins := (.iload_n 2)) (len := 1) (t := 7) (i := 2) rfl rfl rfl rfl rfl (fun _ => rfl) a2 rfl ?_
    by_cases b_2 : hi < v
    · skip
      refine z_r_jm (ins := (.if_icmp .gt 7)) (len := 3) (t := 14) rfl rfl rfl rfl (ye_jy (t := 14) rfl (by omega) (by omega) (by omega) (by omega) b_2) ?_
      refine z_r_pu (ins := (.iconst 0)) (len := 1) (t := 15) (st' := [ye_v 0]) rfl rfl rfl rfl rfl ?_
      refine ye_ret (ins := .ireturn) rfl rfl rfl (ye_retz rfl (by omega)) ?_
      exact ⟨rfl, 0, rfl, Or.inr ⟨rfl, by omega⟩⟩
    · skip
      refine z_r_jm (ins := (.if_icmp .gt 7)) (len := 3) (t := 10) rfl rfl rfl rfl (ye_jn (t := 14) rfl (by omega) (by omega) (by omega) (by omega) b_2) ?_
      refine z_r_pu (ins := (.iconst 1)) (len := 1) (t := 11) (st' := [ye_v 1]) rfl rfl rfl rfl rfl ?_
      refine z_r_jm (ins := (.goto 4)) (len := 3) (t := 15) rfl rfl rfl rfl (z_gty rfl) ?_
      refine ye_ret (ins := .ireturn) rfl rfl rfl (ye_retz rfl (by omega)) ?_
      exact ⟨rfl, 1, rfl, Or.inl ⟨rfl, by omega, by omega⟩⟩
theorem ye_here (hM : P[aM]? = some (10, ye_fl F)) (fM : aM < z_far) (k15 : F 15 = .ref aB) (k16 : F 16 = ye_v sz) (k17 : F 17 = ye_v tp) (k18 : F 18 = ye_v h) (k19 : F 19 = ye_v w) (hB : P[aB]? = some (101, bs)) (fB : aB < z_far) (hx : ye_tx T sz (-128) 127 bs) (hl : (lim = sz ∧ sz ≤ tp) ∨ (lim = tp ∧ tp < sz)) (hb : 0 ≤ h ∧ h ≤ lim ∧ 0 ≤ sz ∧ sz ≤ 80 ∧ 0 ≤ tp ∧ tp ≤ 80 ∧ -1 ≤ w ∧ w ≤ 80) : ye_X xs d 194 [.ref aM] P (fun r P' => P' = P ∧ ∃ e, r = some (ye_v e) ∧ ((h < lim ∧ -128 ≤ e ∧ e ≤ 127 ∧ ye_sig e (T h)) ∨ (lim ≤ h ∧ e = -1))) := by
  refine ye_go ?_
  have a0 : z_get (lv_args 0 [.ref aM]) 0 = some (.ref aM) := rfl
  have ho0 : ye_oth [aM] P P := ye_oth_rf
  have hf0 : ye_fk [] F F := ye_fk_rf
  refine z_r_ld (kk := z_isA) (ins := (.aload_n 0)) (len := 1) (t := 1) (i := 0) rfl rfl rfl rfl rfl (fun _ => rfl) a0 rfl ?_
  refine z_r_rd (ins := (.getfield 153)) (len := 3) (t := 4) rfl rfl rfl rfl rfl (z_gfv (ci := 10) (k := 18) (v := ye_v h) rfl (z_lkn fM hM) (by decide) (ye_flg rfl k18)) ?_
  refine z_r_ld (kk := z_isA) (ins := (.aload_n 0)) (len := 1) (t := 5) (i := 0) rfl rfl rfl rfl rfl (fun _ => rfl) a0 rfl ?_
  refine z_r_rd (ins := (.getfield 147)) (len := 3) (t := 8) rfl rfl rfl rfl rfl (z_gfv (ci := 10) (k := 16) (v := ye_v sz) rfl (z_lkn fM hM) (by decide) (ye_flg rfl k16)) ?_
  by_cases b_1 : sz ≤ h
  · skip
    refine z_r_jm (ins := (.if_icmp .ge 26)) (len := 3) (t := 34) rfl rfl rfl rfl (ye_jy (t := 34) rfl (by omega) (by omega) (by omega) (by omega) b_1) ?_
    refine z_r_pu (ins := (.iconst (-1))) (len := 1) (t := 35) (st' := [ye_v ((-1))]) rfl rfl rfl rfl rfl ?_
    refine ye_ret (ins := .ireturn) rfl rfl rfl (ye_reti rfl) ?_
    exact ⟨rfl, (-1), rfl, Or.inr ⟨by omega, rfl⟩⟩
  · skip
    refine z_r_jm (ins := (.if_icmp .ge 26)) (len := 3) (t := 11) rfl rfl rfl rfl (ye_jn (t := 34) rfl (by omega) (by omega) (by omega) (by omega) b_1) ?_
    refine z_r_ld (kk := z_isA) (ins := (.aload_n 0)) (len := 1) (t := 12) (i := 0) rfl rfl rfl rfl rfl (fun _ => rfl) a0 rfl ?_
    refine z_r_rd (ins := (.getfield 153)) (len := 3) (t := 15) rfl rfl rfl rfl rfl (z_gfv (ci := 10) (k := 18) (v := ye_v h) rfl (z_lkn fM hM) (by decide) (ye_flg rfl k18)) ?_
    refine z_r_ld (kk := z_isA) (ins := (.aload_n 0)) (len := 1) (t := 16) (i := 0) rfl rfl rfl rfl rfl (fun _ => rfl) a0 rfl ?_
    refine z_r_rd (ins := (.getfield 150)) (len := 3) (t := 19) rfl rfl rfl rfl rfl (z_gfv (ci := 10) (k := 17) (v := ye_v tp) rfl (z_lkn fM hM) (by decide) (ye_flg rfl k17)) ?_
    by_cases b_2 : tp ≤ h
    · skip
      refine z_r_jm (ins := (.if_icmp .ge 15)) (len := 3) (t := 34) rfl rfl rfl rfl (ye_jy (t := 34) rfl (by omega) (by omega) (by omega) (by omega) b_2) ?_
      refine z_r_pu (ins := (.iconst (-1))) (len := 1) (t := 35) (st' := [ye_v ((-1))]) rfl rfl rfl rfl rfl ?_
      refine ye_ret (ins := .ireturn) rfl rfl rfl (ye_reti rfl) ?_
      exact ⟨rfl, (-1), rfl, Or.inr ⟨by omega, rfl⟩⟩
    · skip
      refine z_r_jm (ins := (.if_icmp .ge 15)) (len := 3) (t := 22) rfl rfl rfl rfl (ye_jn (t := 34) rfl (by omega) (by omega) (by omega) (by omega) b_2) ?_
      refine z_r_ld (kk := z_isA) (ins := (.aload_n 0)) (len := 1) (t := 23) (i := 0) rfl rfl rfl rfl rfl (fun _ => rfl) a0 rfl ?_
      refine z_r_rd (ins := (.getfield 144)) (len := 3) (t := 26) rfl rfl rfl rfl rfl (z_gfv (ci := 10) (k := 15) (v := .ref aB) rfl (z_lkn fM hM) (by decide) (ye_flg rfl k15)) ?_
      refine z_r_ld (kk := z_isA) (ins := (.aload_n 0)) (len := 1) (t := 27) (i := 0) rfl rfl rfl rfl rfl (fun _ => rfl) a0 rfl ?_
      refine z_r_rd (ins := (.getfield 153)) (len := 3) (t := 30) rfl rfl rfl rfl rfl (z_gfv (ci := 10) (k := 18) (v := ye_v h) rfl (z_lkn fM hM) (by decide) (ye_flg rfl k18)) ?_
      obtain ⟨e_3, v_4, v_41, v_42, s_5⟩ := hx.2 (h) (by omega) (by omega)
      refine z_r_rd (ins := .baload) (len := 1) (t := 31) rfl rfl rfl rfl rfl (ye_bal (p := h) (e := e_3) (z_lkn fB hB) (by omega) (by omega) v_4) ?_
      refine z_r_jm (ins := (.goto 4)) (len := 3) (t := 35) rfl rfl rfl rfl (z_gty rfl) ?_
      refine ye_ret (ins := .ireturn) rfl rfl rfl (ye_reti rfl) ?_
      exact ⟨rfl, e_3, rfl, Or.inl ⟨by omega, v_41, v_42, s_5⟩⟩
theorem ye_flt {q : Int} (hM : P[aM]? = some (10, ye_fl F)) (fM : aM < z_far) (k19 : F 19 = ye_v w) (hw : -1 ≤ w ∧ w ≤ 80) (hd : 1 ≤ d) : ye_X xs d 196 [.ref aM, ye_v q] P (fun _ P' => ∃ F' w', P'[aM]? = some (10, ye_fl F') ∧ ye_fk [19] F F' ∧ F' 19 = ye_v w' ∧ ye_oth [aM] P P' ∧ ((w = -1 ∧ w' = q) ∨ (w ≠ -1 ∧ w' = w))) := by
  refine ye_go ?_
  have a0 : z_get (lv_args 0 [.ref aM, ye_v q]) 0 = some (.ref aM) := rfl
  have a1 : z_get (lv_args 0 [.ref aM, ye_v q]) 1 = some (ye_v q) := rfl
  have ho0 : ye_oth [aM] P P := ye_oth_rf
  have hf0 : ye_fk [19] F F := ye_fk_rf
  refine z_r_ld (kk := z_isA) (ins := (.aload_n 0)) (len := 1) (t := 1) (i := 0) rfl rfl rfl rfl rfl (fun _ => rfl) a0 rfl ?_
  refine ye_ca (ins := (.invokevirtual 159)) (kd := 1) (t := 4) rfl rfl (by decide) (z_argsv rfl rfl rfl (by omega) (Nat.le_of_ble_eq_true rfl) rfl (Nat.le_of_ble_eq_true rfl) (Nat.le_refl _) (Nat.le_refl _) (Or.inr (Nat.le_of_ble_eq_true rfl)) (Or.inr (z_atv (z_lkn fM hM) rfl))) rfl rfl rfl (ye_fine hM fM k19 (by omega)) ?_
  rintro _ _ ⟨rfl, b_1, rfl, h_2⟩
  by_cases b_3 : b_1 = 0
  · skip
    refine z_r_jm (ins := (.ifCond .eq 8)) (len := 3) (t := 12) rfl rfl rfl rfl (ye_iy (t := 12) rfl (by omega) (by omega) b_3) ?_
    refine ye_ret (ins := .return_) rfl rfl rfl (ye_retv rfl) ?_
    exact ⟨_, w, hM, hf0, k19, ho0, Or.inr ⟨by omega, rfl⟩⟩
  · skip
    refine z_r_jm (ins := (.ifCond .eq 8)) (len := 3) (t := 7) rfl rfl rfl rfl (ye_in (t := 12) rfl (by omega) (by omega) b_3) ?_
    refine z_r_ld (kk := z_isA) (ins := (.aload_n 0)) (len := 1) (t := 8) (i := 0) rfl rfl rfl rfl rfl (fun _ => rfl) a0 rfl ?_
    refine z_r_ld (kk := z_isI) (ins := (.iload_n 1)) (len := 1) (t := 9) (i := 1) rfl rfl rfl rfl rfl (fun _ => rfl) a1 rfl ?_
    refine ye_r_wr (ins := (.putfield 156)) (len := 3) (t := 12) (a := aM) (q := (10, ye_fl (ye_up F 19 (ye_v q)))) rfl rfl rfl rfl rfl hM (ye_pfm (k := 19) rfl hM rfl rfl rfl rfl) (fun P_4 c_5 o_6 => ?_)
    have o_7 := ye_oth_tr ho0 o_6 (ye_s1 (List.mem_cons_self))
    have f_8 := ye_fk_up (j := 19) (v := ye_v q) hf0 (List.mem_cons_self)
    refine ye_ret (ins := .return_) rfl rfl rfl (ye_retv rfl) ?_
    exact ⟨_, q, c_5, f_8, rfl, o_7, Or.inl ⟨by omega, rfl⟩⟩
theorem ye_passes (hM : P[aM]? = some (10, ye_fl F)) (fM : aM < z_far) (k15 : F 15 = .ref aB) (k16 : F 16 = ye_v sz) (k17 : F 17 = ye_v tp) (k18 : F 18 = ye_v h) (k19 : F 19 = ye_v w) (hB : P[aB]? = some (101, bs)) (fB : aB < z_far) (hx : ye_tx T sz (-128) 127 bs) (hl : (lim = sz ∧ sz ≤ tp) ∨ (lim = tp ∧ tp < sz)) (hb : 0 ≤ h ∧ h ≤ lim ∧ 0 ≤ sz ∧ sz ≤ 80 ∧ 0 ≤ tp ∧ tp ≤ 80 ∧ -1 ≤ w ∧ w ≤ 80)
    (hc : 0 ≤ c ∧ c < 128) (hd : 2 ≤ d) : ye_X xs d 198 [.ref aM, ye_v c] P (fun r P' => ∃ b F' h', r = some (ye_v b) ∧ P'[aM]? = some (10, ye_fl F') ∧ ye_fk [18] F F' ∧ F' 18 = ye_v h' ∧ ye_oth [aM] P P' ∧ ((b = 1 ∧ w = -1 ∧ h < lim ∧ T h = c ∧ h' = h + 1) ∨ (b = 0 ∧ ¬ (w = -1 ∧ h < lim ∧ T h = c) ∧ h' = h))) := by
  refine ye_go ?_
  have a0 : z_get (lv_args 0 [.ref aM, ye_v c]) 0 = some (.ref aM) := rfl
  have a1 : z_get (lv_args 0 [.ref aM, ye_v c]) 1 = some (ye_v c) := rfl
  have ho0 : ye_oth [aM] P P := ye_oth_rf
  have hf0 : ye_fk [18] F F := ye_fk_rf
  refine z_r_ld (kk := z_isA) (ins := (.aload_n 0)) (len := 1) (t := 1) (i := 0) rfl rfl rfl rfl rfl (fun _ => rfl) a0 rfl ?_
  refine ye_ca (ins := (.invokevirtual 159)) (kd := 1) (t := 4) rfl rfl (by decide) (z_argsv rfl rfl rfl (by omega) (Nat.le_of_ble_eq_true rfl) rfl (Nat.le_of_ble_eq_true rfl) (Nat.le_refl _) (Nat.le_refl _) (Or.inr (Nat.le_of_ble_eq_true rfl)) (Or.inr (z_atv (z_lkn fM hM) rfl))) rfl rfl rfl (ye_fine hM fM k19 (by omega)) ?_
  rintro _ _ ⟨rfl, b_1, rfl, h_2⟩
  by_cases b_3 : b_1 = 0
  · skip
    refine z_r_jm (ins := (.ifCond .eq 11)) (len := 3) (t := 15) rfl rfl rfl rfl (ye_iy (t := 15) rfl (by omega) (by omega) b_3) ?_
    refine z_r_pu (ins := (.iconst 0)) (len := 1) (t := 16) (st' := [ye_v 0]) rfl rfl rfl rfl rfl ?_
    refine ye_ret (ins := .ireturn) rfl rfl rfl (ye_retz rfl (by omega)) ?_
    exact ⟨0, _, h, rfl, hM, hf0, k18, ho0, Or.inr ⟨rfl, by omega, rfl⟩⟩
  · skip
    refine z_r_jm (ins := (.ifCond .eq 11)) (len := 3) (t := 7) rfl rfl rfl rfl (ye_in (t := 15) rfl (by omega) (by omega) b_3) ?_
    refine z_r_ld (kk := z_isA) (ins := (.aload_n 0)) (len := 1) (t := 8) (i := 0) rfl rfl rfl rfl rfl (fun _ => rfl) a0 rfl ?_
    refine ye_ca (ins := (.invokevirtual 163)) (kd := 1) (t := 11) rfl rfl (by decide) (z_argsv rfl rfl rfl (by omega) (Nat.le_of_ble_eq_true rfl) rfl (Nat.le_of_ble_eq_true rfl) (Nat.le_refl _) (Nat.le_refl _) (Or.inr (Nat.le_of_ble_eq_true rfl)) (Or.inr (z_atv (z_lkn fM hM) rfl))) rfl rfl rfl (ye_here (lim := lim) hM fM k15 k16 k17 k18 k19 hB fB hx (by omega) (by omega)) ?_
    rintro _ _ ⟨rfl, e_4, rfl, h_5⟩
    unfold ye_sig at h_5
    refine z_r_ld (kk := z_isI) (ins := (.iload_n 1)) (len := 1) (t := 12) (i := 1) rfl rfl rfl rfl rfl (fun _ => rfl) a1 rfl ?_
    by_cases b_6 : e_4 = c
    · skip
      refine z_r_jm (ins := (.if_icmp .eq 5)) (len := 3) (t := 17) rfl rfl rfl rfl (ye_jy (t := 17) rfl (by omega) (by omega) (by omega) (by omega) b_6) ?_
      refine z_r_ld (kk := z_isA) (ins := (.aload_n 0)) (len := 1) (t := 18) (i := 0) rfl rfl rfl rfl rfl (fun _ => rfl) a0 rfl ?_
      refine z_r_pu (ins := .dup) (len := 1) (t := 19) rfl rfl rfl rfl rfl ?_
      refine z_r_rd (ins := (.getfield 153)) (len := 3) (t := 22) rfl rfl rfl rfl rfl (z_gfv (ci := 10) (k := 18) (v := ye_v h) rfl (z_lkn fM hM) (by decide) (ye_flg rfl k18)) ?_
      refine z_r_pu (ins := (.iconst 1)) (len := 1) (t := 23) (st' := [ye_v 1, ye_v h, .ref aM]) rfl rfl rfl rfl rfl ?_
      refine z_r_pu (ins := .iadd) (len := 1) (t := 24) rfl rfl rfl rfl ye_add ?_
      refine ye_r_wr (ins := (.putfield 153)) (len := 3) (t := 27) (a := aM) (q := (10, ye_fl (ye_up F 18 (ye_v (h + 1))))) rfl rfl rfl rfl rfl hM (ye_pfm (k := 18) rfl hM rfl rfl rfl rfl) (fun P_7 c_8 o_9 => ?_)
      have c_10 := ye_kp o_9 (ye_n1 (ye_ne hB hM (by decide))) hB
      have o_11 := ye_oth_tr ho0 o_9 (ye_s1 (List.mem_cons_self))
      have f_12 := ye_fk_up (j := 18) (v := ye_v (h + 1)) hf0 (List.mem_cons_self)
      refine z_r_pu (ins := (.iconst 1)) (len := 1) (t := 28) (st' := [ye_v 1]) rfl rfl rfl rfl rfl ?_
      refine ye_ret (ins := .ireturn) rfl rfl rfl (ye_retz rfl (by omega)) ?_
      exact ⟨1, _, h + 1, rfl, c_8, f_12, rfl, o_11, Or.inl ⟨rfl, by omega, by omega, by omega, rfl⟩⟩
    · skip
      refine z_r_jm (ins := (.if_icmp .eq 5)) (len := 3) (t := 15) rfl rfl rfl rfl (ye_jn (t := 17) rfl (by omega) (by omega) (by omega) (by omega) b_6) ?_
      refine z_r_pu (ins := (.iconst 0)) (len := 1) (t := 16) (st' := [ye_v 0]) rfl rfl rfl rfl rfl ?_
      refine ye_ret (ins := .ireturn) rfl rfl rfl (ye_retz rfl (by omega)) ?_
      exact ⟨0, _, h, rfl, hM, hf0, k18, ho0, Or.inr ⟨rfl, by omega, rfl⟩⟩
theorem ye_need (hM : P[aM]? = some (10, ye_fl F)) (fM : aM < z_far) (k15 : F 15 = .ref aB) (k16 : F 16 = ye_v sz) (k17 : F 17 = ye_v tp) (k18 : F 18 = ye_v h) (k19 : F 19 = ye_v w) (hB : P[aB]? = some (101, bs)) (fB : aB < z_far) (hx : ye_tx T sz (-128) 127 bs) (hl : (lim = sz ∧ sz ≤ tp) ∨ (lim = tp ∧ tp < sz)) (hb : 0 ≤ h ∧ h ≤ lim ∧ 0 ≤ sz ∧ sz ≤ 80 ∧ 0 ≤ tp ∧ tp ≤ 80 ∧ -1 ≤ w ∧ w ≤ 80)
    (hc : 0 ≤ c ∧ c < 128) (hd : 3 ≤ d) : ye_X xs d 197 [.ref aM, ye_v c] P (fun _ P' => ∃ F' h' w', P'[aM]? = some (10, ye_fl F') ∧ ye_fk [18, 19] F F' ∧ F' 18 = ye_v h' ∧ F' 19 = ye_v w' ∧ ye_oth [aM] P P' ∧ ((w = -1 ∧ h < lim ∧ T h = c ∧ h' = h + 1 ∧ w' = -1) ∨ (w = -1 ∧ ¬ (h < lim ∧ T h = c) ∧ h' = h ∧ w' = h) ∨ (w ≠ -1 ∧ h' = h ∧ w' = w))) := by
  refine ye_go ?_
  have a0 : z_get (lv_args 0 [.ref aM, ye_v c]) 0 = some (.ref aM) := rfl
  have a1 : z_get (lv_args 0 [.ref aM, ye_v c]) 1 = some (ye_v c) := rfl
  have ho0 : ye_oth [aM] P P := ye_oth_rf
  have hf0 : ye_fk [18, 19] F F := ye_fk_rf
  refine z_r_ld (kk := z_isA) (ins := (.aload_n 0)) (len := 1) (t := 1) (i := 0) rfl rfl rfl rfl rfl (fun _ => rfl) a0 rfl ?_
  refine z_r_ld (kk := z_isI) (ins := (.iload_n 1)) (len := 1) (t := 2) (i := 1) rfl rfl rfl rfl rfl (fun _ => rfl) a1 rfl ?_
  refine ye_ca (ins := (.invokevirtual 167)) (kd := 1) (t := 5) rfl rfl (by decide) (z_argsv rfl rfl rfl (by omega) (Nat.le_of_ble_eq_true rfl) rfl (Nat.le_of_ble_eq_true rfl) (Nat.le_refl _) (Nat.le_refl _) (Or.inr (Nat.le_of_ble_eq_true rfl)) (Or.inr (z_atv (z_lkn fM hM) rfl))) rfl rfl rfl (ye_passes (lim := lim) hM fM k15 k16 k17 k18 k19 hB fB hx (by omega) (by omega) (by omega) (by omega)) ?_
  rintro _ P_4 ⟨bt_1, F_2, q_3, rfl, c_5, f_6, k_7, o_8, ht_1⟩
  have c_9 := ye_kp o_8 (ye_n1 (ye_ne hB hM (by decide))) hB
  have o_10 := ye_oth_tr ho0 o_8 (ye_s1 (List.mem_cons_self))
  have f_11 : F_2 15 = .ref aB := (f_6 15 (by decide)).trans k15
  have f_12 : F_2 16 = ye_v sz := (f_6 16 (by decide)).trans k16
  have f_13 : F_2 17 = ye_v tp := (f_6 17 (by decide)).trans k17
  have f_14 : F_2 19 = ye_v w := (f_6 19 (by decide)).trans k19
  have f_15 := ye_fk_tr hf0 f_6 (by decide)
  by_cases b_16 : bt_1 ≠ 0
  · skip
    refine z_r_jm (ins := (.ifCond .ne 11)) (len := 3) (t := 16) rfl rfl rfl rfl (ye_iy (t := 16) rfl (by omega) (by omega) b_16) ?_
    refine ye_ret (ins := .return_) rfl rfl rfl (ye_retv rfl) ?_
    exact ⟨_, q_3, w, c_5, f_15, k_7, f_14, o_10, by omega⟩
  · skip
    refine z_r_jm (ins := (.ifCond .ne 11)) (len := 3) (t := 8) rfl rfl rfl rfl (ye_in (t := 16) rfl (by omega) (by omega) b_16) ?_
    refine z_r_ld (kk := z_isA) (ins := (.aload_n 0)) (len := 1) (t := 9) (i := 0) rfl rfl rfl rfl rfl (fun _ => rfl) a0 rfl ?_
    refine z_r_ld (kk := z_isA) (ins := (.aload_n 0)) (len := 1) (t := 10) (i := 0) rfl rfl rfl rfl rfl (fun _ => rfl) a0 rfl ?_
    refine z_r_rd (ins := (.getfield 153)) (len := 3) (t := 13) rfl rfl rfl rfl rfl (z_gfv (ci := 10) (k := 18) (v := ye_v q_3) rfl (z_lkn fM c_5) (by decide) (ye_flg rfl k_7)) ?_
    refine ye_cav (ins := (.invokevirtual 171)) (kd := 1) (t := 16) rfl rfl (by decide) (z_argsv rfl rfl rfl (by omega) (Nat.le_of_ble_eq_true rfl) rfl (Nat.le_of_ble_eq_true rfl) (Nat.le_refl _) (Nat.le_refl _) (Or.inr (Nat.le_of_ble_eq_true rfl)) (Or.inr (z_atv (z_lkn fM c_5) rfl))) rfl rfl rfl rfl (ye_flt c_5 fM f_14 (by omega) (by omega)) ?_
    rintro _ P_19 ⟨F_17, w_18, c_20, f_21, k_22, o_23, h_24⟩
    have c_25 := ye_kp o_23 (ye_n1 (ye_ne c_9 c_5 (by decide))) c_9
    have o_26 := ye_oth_tr o_10 o_23 (ye_s1 (List.mem_cons_self))
    have f_27 : F_17 15 = .ref aB := (f_21 15 (by decide)).trans f_11
    have f_28 : F_17 16 = ye_v sz := (f_21 16 (by decide)).trans f_12
    have f_29 : F_17 17 = ye_v tp := (f_21 17 (by decide)).trans f_13
    have f_30 : F_17 18 = ye_v q_3 := (f_21 18 (by decide)).trans k_7
    have f_31 := ye_fk_tr f_15 f_21 (by decide)
    refine ye_ret (ins := .return_) rfl rfl rfl (ye_retv rfl) ?_
    exact ⟨_, q_3, w_18, c_20, f_31, f_30, k_22, o_26, by omega⟩
theorem ye_begin (hM : P[aM]? = some (10, ye_fl F)) (fM : aM < z_far) : ye_X xs d 192 [.ref aM, .ref aB, ye_v sz, ye_v tp] P (fun _ P' => ∃ F', P'[aM]? = some (10, ye_fl F') ∧ ye_fk [15, 16, 17, 18, 19] F F' ∧ F' 15 = .ref aB ∧ F' 16 = ye_v sz ∧ F' 17 = ye_v tp ∧ F' 18 = ye_v 0 ∧ F' 19 = ye_v (-1) ∧ ye_oth [aM] P P') := by
  refine ye_go ?_
  have a0 : z_get (lv_args 0 [.ref aM, .ref aB, ye_v sz, ye_v tp]) 0 = some (.ref aM) := rfl
  have a1 : z_get (lv_args 0 [.ref aM, .ref aB, ye_v sz, ye_v tp]) 1 = some (.ref aB) := rfl
  have a2 : z_get (lv_args 0 [.ref aM, .ref aB, ye_v sz, ye_v tp]) 2 = some (ye_v sz) := rfl
  have a3 : z_get (lv_args 0 [.ref aM, .ref aB, ye_v sz, ye_v tp]) 3 = some (ye_v tp) := rfl
  have ho0 : ye_oth [aM] P P := ye_oth_rf
  have hf0 : ye_fk [15, 16, 17, 18, 19] F F := ye_fk_rf
  refine z_r_ld (kk := z_isA) (ins := (.aload_n 0)) (len := 1) (t := 1) (i := 0) rfl rfl rfl rfl rfl (fun _ => rfl) a0 rfl ?_
  refine z_r_ld (kk := z_isA) (ins := (.aload_n 1)) (len := 1) (t := 2) (i := 1) rfl rfl rfl rfl rfl (fun _ => rfl) a1 rfl ?_
  refine ye_r_wr (ins := (.putfield 144)) (len := 3) (t := 5) (a := aM) (q := (10, ye_fl (ye_up F 15 (.ref aB)))) rfl rfl rfl rfl rfl hM (ye_pfm (k := 15) rfl hM rfl rfl rfl rfl) (fun P_1 c_2 o_3 => ?_)
  have o_4 := ye_oth_tr ho0 o_3 (ye_s1 (List.mem_cons_self))
  have f_5 := ye_fk_up (j := 15) (v := .ref aB) hf0 (List.mem_cons_self)
  refine z_r_ld (kk := z_isA) (ins := (.aload_n 0)) (len := 1) (t := 6) (i := 0) rfl rfl rfl rfl rfl (fun _ => rfl) a0 rfl ?_
  refine z_r_ld (kk := z_isI) (ins := (.iload_n 2)) (len := 1) (t := 7) (i := 2) rfl rfl rfl rfl rfl (fun _ => rfl) a2 rfl ?_
  refine ye_r_wr (ins := (.putfield 147)) (len := 3) (t := 10) (a := aM) (q := (10, ye_fl (ye_up (ye_up F 15 (.ref aB)) 16 (ye_v sz)))) rfl rfl rfl rfl rfl c_2 (ye_pfm (k := 16) rfl c_2 rfl rfl rfl rfl) (fun P_6 c_7 o_8 => ?_)
  have o_9 := ye_oth_tr o_4 o_8 (ye_s1 (List.mem_cons_self))
  have f_10 := ye_fk_up (j := 16) (v := ye_v sz) f_5 (List.mem_cons_of_mem _ (List.mem_cons_self))
  refine z_r_ld (kk := z_isA) (ins := (.aload_n 0)) (len := 1) (t := 11) (i := 0) rfl rfl rfl rfl rfl (fun _ => rfl) a0 rfl ?_
  refine z_r_ld (kk := z_isI) (ins := (.iload_n 3)) (len := 1) (t := 12) (i := 3) rfl rfl rfl rfl rfl (fun _ => rfl) a3 rfl ?_
  refine ye_r_wr (ins := (.putfield 150)) (len := 3) (t := 15) (a := aM) (q := (10, ye_fl (ye_up (ye_up (ye_up F 15 (.ref aB)) 16 (ye_v sz)) 17 (ye_v tp)))) rfl rfl rfl rfl rfl c_7 (ye_pfm (k := 17) rfl c_7 rfl rfl rfl rfl) (fun P_11 c_12 o_13 => ?_)
  have o_14 := ye_oth_tr o_9 o_13 (ye_s1 (List.mem_cons_self))
  have f_15 := ye_fk_up (j := 17) (v := ye_v tp) f_10 (List.mem_cons_of_mem _ (List.mem_cons_of_mem _ (List.mem_cons_self)))
  refine z_r_ld (kk := z_isA) (ins := (.aload_n 0)) (len := 1) (t := 16) (i := 0) rfl rfl rfl rfl rfl (fun _ => rfl) a0 rfl ?_
  refine z_r_pu (ins := (.iconst 0)) (len := 1) (t := 17) (st' := [ye_v 0, .ref aM]) rfl rfl rfl rfl rfl ?_
  refine ye_r_wr (ins := (.putfield 153)) (len := 3) (t := 20) (a := aM) (q := (10, ye_fl (ye_up (ye_up (ye_up (ye_up F 15 (.ref aB)) 16 (ye_v sz)) 17 (ye_v tp)) 18 (ye_v 0)))) rfl rfl rfl rfl rfl c_12 (ye_pfm (k := 18) rfl c_12 rfl rfl rfl rfl) (fun P_16 c_17 o_18 => ?_)
  have o_19 := ye_oth_tr o_14 o_18 (ye_s1 (List.mem_cons_self))
  have f_20 := ye_fk_up (j := 18) (v := ye_v 0) f_15 (List.mem_cons_of_mem _ (List.mem_cons_of_mem _ (List.mem_cons_of_mem _ (List.mem_cons_self))))
  refine z_r_ld (kk := z_isA) (ins := (.aload_n 0)) (len := 1) (t := 21) (i := 0) rfl rfl rfl rfl rfl (fun _ => rfl) a0 rfl ?_
  refine z_r_pu (ins := (.iconst (-1))) (len := 1) (t := 22) (st' := [ye_v ((-1)), .ref aM]) rfl rfl rfl rfl rfl ?_
  refine ye_r_wr (ins := (.putfield 156)) (len := 3) (t := 25) (a := aM) (q := (10, ye_fl (ye_up (ye_up (ye_up (ye_up (ye_up F 15 (.ref aB)) 16 (ye_v sz)) 17 (ye_v tp)) 18 (ye_v 0)) 19 (ye_v ((-1)))))) rfl rfl rfl rfl rfl c_17 (ye_pfm (k := 19) rfl c_17 rfl rfl rfl rfl) (fun P_21 c_22 o_23 => ?_)
  have o_24 := ye_oth_tr o_19 o_23 (ye_s1 (List.mem_cons_self))
  have f_25 := ye_fk_up (j := 19) (v := ye_v ((-1))) f_20 (List.mem_cons_of_mem _ (List.mem_cons_of_mem _ (List.mem_cons_of_mem _ (List.mem_cons_of_mem _ (List.mem_cons_self)))))
  refine ye_ret (ins := .return_) rfl rfl rfl (ye_retv rfl) ?_
  exact ⟨_, c_22, f_25, rfl, rfl, rfl, rfl, rfl, o_24⟩
end YMOD
