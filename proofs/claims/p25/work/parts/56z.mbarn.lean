/-! barn, the reference, exactly. -/
section YMBN
/-- the reference's SORTS, settled -/
def ye_MN (aK aW aZ aD : Nat) (s : Int) (kd wt zs dr : Int → Int) (P : z_H) : Prop := ∃ (kv wv zv dv : List Value), P[aK]? = some (103, kv) ∧ P[aW]? = some (103, wv) ∧ P[aZ]? = some (103, zv) ∧ P[aD]? = some (103, dv) ∧ ye_arr kd s kv ∧ ye_arr wt s wv ∧ ye_arr zs s zv ∧ ye_arr dr s dv
theorem ye_MN_of {aK aW aZ aD aY : Nat} {L : List Nat} {S S' : yb_S} {so : Int} {P P' : z_H} (h : ye_MA aK aW aZ aD aY S' P) (ha : yb_ag S S') (hs : so = S.1) (ho : ye_oth L P P') (h1 : aK ∉ L) (h2 : aW ∉ L) (h3 : aZ ∉ L) (h4 : aD ∉ L) : ye_MN aK aW aZ aD so S.2.2.1 S.2.2.2.1 S.2.2.2.2.1 S.2.2.2.2.2.1 P' := by
  subst hs
  obtain ⟨kv, wv, zv, dv, mv, q1, q2, q3, q4, q5, y1, y2, y3, y4, y5⟩ := h
  exact ⟨kv, wv, zv, dv, ye_kp ho h1 q1, ye_kp ho h2 q2, ye_kp ho h3 q3, ye_kp ho h4 q4, ye_arr_eq (ye_arr_le y1 ha.1) (fun i i0 i1 => (ha.2 i i0 i1).1), ye_arr_eq (ye_arr_le y2 ha.1) (fun i i0 i1 => (ha.2 i i0 i1).2.1), ye_arr_eq (ye_arr_le y3 ha.1) (fun i i0 i1 => (ha.2 i i0 i1).2.2.1), ye_arr_eq (ye_arr_le y4 ha.1) (fun i i0 i1 => (ha.2 i i0 i1).2.2.2.1)⟩
variable {xs : List Int32} {d aM aB aK aW aZ aD aY aG aE : Nat} {P : z_H} {F : Nat → Value} {bs kv wv zv dv mv gv ev : List Value} {T kd wt zs dr mn : Int → Int} {S : yb_S} {sz tp h w lim n nl we s so lg k i p ya e2 : Int} {l : z_L} {Ψ : z_S → Prop}
set_option maxHeartbeats 8000000 in
theorem ye_mbT {R : Option Value → z_H → Prop} (hM : P[aM]? = some (10, ye_fl F)) (fM : aM < z_far) (k0 : F 0 = ye_v s) (k5 : F 5 = ye_v ya) (k6 : F 6 = .ref aG) (k7 : F 7 = .ref aE) (k16 : F 16 = ye_v sz) (k18 : F 18 = ye_v h) (k19 : F 19 = ye_v w) (k20 : F 20 = .ref aY) (hG : P[aG]? = some (103, gv)) (fG : aG < z_far) (hgl : gv.length = 310) (hY : P[aY]? = some (103, mv)) (fY : aY < z_far) (yY : ye_arr mn s mv) (hE : P[aE]? = some (103, ev)) (fE : aE < z_far) (hel : ev.length = 5) (he2 : ev[(2 : Int).toNat]? = some (ye_v e2)) (he3 : -1000 ≤ e2 ∧ e2 ≤ 1000) (nGY : aG ≠ aY) (nGE : aG ≠ aE) (nEY : aE ≠ aY)
    (h0 : z_get l 0 = some (.ref aM)) (h1 : z_get l 1 = some (ye_v we)) (h2 : z_get l 2 = some (ye_v nl)) (h3 : z_get l 3 = some (ye_v n))
    (hb : 0 ≤ sz ∧ sz ≤ 80 ∧ 0 ≤ h ∧ h ≤ 80 ∧ -1 ≤ w ∧ w ≤ 80 ∧ 0 ≤ we ∧ we ≤ s ∧ s ≤ 10) (hg : w = -1 → sz ≤ h → (0 ≤ n ∧ n ≤ 76) ∧ (nl = -1 ∨ (1 ≤ nl ∧ nl ≤ 24))) (hd : 2 ≤ d)
    (kg : w = -1 → sz ≤ h → ∀ P' F', P'[aM]? = some (10, ye_fl F') → ye_fk [0, 5, 19] F F' → F' 0 = ye_v s → F' 5 = ye_v (if nl = -1 then ya else nl) → ye_oth [aM, aG, aE] P P' → R (some (ye_v n)) P') (kb : ∀ a P' F', (w = -1 ∧ h < sz ∧ a = -1 - h) ∨ (w ≠ -1 ∧ a = -1 - w) → P'[aM]? = some (10, ye_fl F') → ye_fk [0, 5, 19] F F' → F' 0 = ye_v we → F' 5 = ye_v ya → ye_oth [aM, aG, aE] P P' → R (some (ye_v a)) P') : z_Rh (z_G xs) d 191 (ye_E xs d 191 R) (299, l, [], P, 0, 0) := by
  have ho0 : ye_oth [aM, aG, aE] P P := ye_oth_rf
  have hf0 : ye_fk [0, 5, 19] F F := ye_fk_rf
  refine z_r_ld (kk := z_isA) (ins := (.aload_n 0)) (len := 1) (t := 300) (i := 0) rfl rfl rfl rfl rfl (fun _ => rfl) h0 rfl ?_
  refine z_r_rd (ins := (.getfield 153)) (len := 3) (t := 303) rfl rfl rfl rfl rfl (z_gfv (ci := 10) (k := 18) (v := ye_v h) rfl (z_lkn fM hM) (by decide) (ye_flg rfl k18)) ?_
  refine z_r_ld (kk := z_isA) (ins := (.aload_n 0)) (len := 1) (t := 304) (i := 0) rfl rfl rfl rfl rfl (fun _ => rfl) h0 rfl ?_
  refine z_r_rd (ins := (.getfield 147)) (len := 3) (t := 307) rfl rfl rfl rfl rfl (z_gfv (ci := 10) (k := 16) (v := ye_v sz) rfl (z_lkn fM hM) (by decide) (ye_flg rfl k16)) ?_
  by_cases b_1 : sz ≤ h
  · skip
    refine z_r_jm (ins := (.if_icmp .ge 11)) (len := 3) (t := 318) rfl rfl rfl rfl (ye_jy (t := 318) rfl (by omega) (by omega) (by omega) (by omega) b_1) ?_
    refine z_r_ld (kk := z_isA) (ins := (.aload_n 0)) (len := 1) (t := 319) (i := 0) rfl rfl rfl rfl rfl (fun _ => rfl) h0 rfl ?_
    refine ye_ca (ins := (.invokevirtual 159)) (kd := 1) (t := 322) rfl rfl (by decide) (z_argsv rfl rfl rfl (by omega) (Nat.le_of_ble_eq_true rfl) rfl (Nat.le_of_ble_eq_true rfl) (Nat.le_refl _) (Nat.le_refl _) (Or.inr (Nat.le_of_ble_eq_true rfl)) (Or.inr (z_atv (z_lkn fM hM) rfl))) rfl rfl rfl (ye_fine hM fM k19 (by omega)) ?_
    rintro _ _ ⟨rfl, b_2, rfl, h_3⟩
    by_cases b_4 : b_2 ≠ 0
    · skip
      refine z_r_jm (ins := (.ifCond .ne 15)) (len := 3) (t := 337) rfl rfl rfl rfl (ye_iy (t := 337) rfl (by omega) (by omega) b_4) ?_
      refine z_r_ld (kk := z_isI) (ins := (.iload_n 1)) (len := 1) (t := 338) (i := 1) rfl rfl rfl rfl rfl (fun _ => rfl) h1 rfl ?_
      refine z_r_is (kk := z_isI) (ins := (.istore 5)) (len := 2) (t := 340) (i := 5) rfl rfl rfl rfl rfl rfl rfl rfl (fun l l_5 k_6 => ?_)
      have l_7 := k_6 _ _ h0 (by decide) (Or.inl (by decide))
      have l_8 := k_6 _ _ h1 (by decide) (Or.inl (by decide))
      have l_9 := k_6 _ _ h2 (by decide) (Or.inl (by decide))
      have l_10 := k_6 _ _ h3 (by decide) (Or.inl (by decide))
      obtain ⟨hn1, hl1⟩ := hg (by omega) (by omega)
      refine ye_moL (s := s) fM k0 k6 k20 fG fY yY nGY (by omega) (by omega) (s - we).toNat (by omega) (by omega) hM hG hgl hY l_7 l_9 l_10 l_5 ye_oth_rf ?_
      intro l P7 gv7 g0 g2 g3 hM7 hG7 hgl7 hY7 ho7
      have hE7 := ye_kp ho7 (ye_n1 (Ne.symm nGE)) hE
      have o7 := ye_oth_tr ho0 ho7 (ye_s1 (List.mem_cons_of_mem _ (List.mem_cons_self)))
      refine z_r_ld (kk := z_isI) (ins := (.iload_n 2)) (len := 1) (t := 400) (i := 2) rfl rfl rfl rfl rfl (fun _ => rfl) g2 rfl ?_
      refine z_r_pu (ins := (.iconst (-1))) (len := 1) (t := 401) (st' := [ye_v ((-1)), ye_v nl]) rfl rfl rfl rfl rfl ?_
      by_cases b_11 : nl = (-1)
      · skip
        refine z_r_jm (ins := (.if_icmp .eq 54)) (len := 3) (t := 455) rfl rfl rfl rfl (ye_jy (t := 455) rfl (by omega) (by omega) (by omega) (by omega) b_11) ?_
        refine z_r_ld (kk := z_isI) (ins := (.iload_n 3)) (len := 1) (t := 456) (i := 3) rfl rfl rfl rfl rfl (fun _ => rfl) g3 rfl ?_
        refine ye_ret (ins := .ireturn) rfl rfl rfl (ye_reti rfl) ?_
        exact kg (by omega) (by omega) _ _ hM7 hf0 k0 (by rw [if_pos (by omega)]; exact k5) o7
      · skip
        refine z_r_jm (ins := (.if_icmp .eq 54)) (len := 3) (t := 404) rfl rfl rfl rfl (ye_jn (t := 455) rfl (by omega) (by omega) (by omega) (by omega) b_11) ?_
        refine z_r_ld (kk := z_isA) (ins := (.aload_n 0)) (len := 1) (t := 405) (i := 0) rfl rfl rfl rfl rfl (fun _ => rfl) g0 rfl ?_
        refine z_r_ld (kk := z_isI) (ins := (.iload_n 2)) (len := 1) (t := 406) (i := 2) rfl rfl rfl rfl rfl (fun _ => rfl) g2 rfl ?_
        refine ye_r_wr (ins := (.putfield 22)) (len := 3) (t := 409) (a := aM) (q := (10, ye_fl (ye_up F 5 (ye_v nl)))) rfl rfl rfl rfl rfl hM7 (ye_pfm (k := 5) rfl hM7 rfl rfl rfl rfl) (fun P_12 c_13 o_14 => ?_)
        have c_15 := ye_kp o_14 (ye_n1 (ye_ne hE7 hM7 (by decide))) hE7
        have c_16 := ye_kp o_14 (ye_n1 (ye_ne hG7 hM7 (by decide))) hG7
        have c_17 := ye_kp o_14 (ye_n1 (ye_ne hY7 hM7 (by decide))) hY7
        have o_18 := ye_oth_tr o7 o_14 (ye_s1 (List.mem_cons_self))
        have f_19 := ye_fk_up (j := 5) (v := ye_v nl) hf0 (List.mem_cons_of_mem _ (List.mem_cons_self))
        refine z_r_pu (ins := (.iconst 0)) (len := 1) (t := 410) (st' := [ye_v 0]) rfl rfl rfl rfl rfl ?_
        refine z_r_is (kk := z_isI) (ins := (.istore 5)) (len := 2) (t := 412) (i := 5) rfl rfl rfl rfl rfl rfl rfl rfl (fun l l_20 k_21 => ?_)
        have l_22 := k_21 _ _ g0 (by decide) (Or.inl (by decide))
        have l_23 := k_21 _ _ g2 (by decide) (Or.inl (by decide))
        have l_24 := k_21 _ _ g3 (by decide) (Or.inl (by decide))
        refine ye_myL (F := ye_up F 5 (ye_v nl)) (P0 := P_12) (n := n) fM k6 fG (by omega) 24 (by decide) (by decide) c_13 c_16 hgl7 l_22 l_24 l_20 ye_oth_rf ?_
        intro l P8 y0 y3 hM8 ho8
        have hE8 := ye_kp ho8 (ye_n1 (Ne.symm nGE)) c_15
        have o8 := ye_oth_tr o_18 ho8 (ye_s1 (List.mem_cons_of_mem _ (List.mem_cons_self)))
        refine z_r_ld (kk := z_isA) (ins := (.aload_n 0)) (len := 1) (t := 435) (i := 0) rfl rfl rfl rfl rfl (fun _ => rfl) y0 rfl ?_
        refine z_r_rd (ins := (.getfield 29)) (len := 3) (t := 438) rfl rfl rfl rfl rfl (z_gfv (ci := 10) (k := 7) (v := .ref aE) rfl (z_lkn fM hM8) (by decide) (ye_flg rfl k7)) ?_
        refine z_r_pu (ins := (.iconst 2)) (len := 1) (t := 439) (st' := [ye_v 2, .ref aE]) rfl rfl rfl rfl rfl ?_
        refine z_r_ld (kk := z_isA) (ins := (.aload_n 0)) (len := 1) (t := 440) (i := 0) rfl rfl rfl rfl rfl (fun _ => rfl) y0 rfl ?_
        refine z_r_rd (ins := (.getfield 29)) (len := 3) (t := 443) rfl rfl rfl rfl rfl (z_gfv (ci := 10) (k := 7) (v := .ref aE) rfl (z_lkn fM hM8) (by decide) (ye_flg rfl k7)) ?_
        refine z_r_pu (ins := (.iconst 2)) (len := 1) (t := 444) (st' := [ye_v 2, .ref aE, ye_v 2, .ref aE]) rfl rfl rfl rfl rfl ?_
        refine z_r_rd (ins := .iaload) (len := 1) (t := 445) rfl rfl rfl rfl rfl (ye_al (t := 103) (p := 2) (e := e2) (z_lkn fE hE8) (by omega) (by omega) he2) ?_
        refine z_r_ld (kk := z_isA) (ins := (.aload_n 0)) (len := 1) (t := 446) (i := 0) rfl rfl rfl rfl rfl (fun _ => rfl) y0 rfl ?_
        refine z_r_rd (ins := (.getfield 22)) (len := 3) (t := 449) rfl rfl rfl rfl rfl (z_gfv (ci := 10) (k := 5) (v := ye_v nl) rfl (z_lkn fM hM8) (by decide) (ye_flg rfl rfl)) ?_
        refine z_r_pu (ins := (.iconst 1)) (len := 1) (t := 450) (st' := [ye_v 1, ye_v nl, ye_v e2, ye_v 2, .ref aE]) rfl rfl rfl rfl rfl ?_
        refine z_r_pu (ins := .isub) (len := 1) (t := 451) rfl rfl rfl rfl ye_sub ?_
        refine ye_ca (ins := (.invokestatic 190)) (kd := 0) (t := 454) rfl rfl (by decide) (z_argsv rfl rfl rfl (by omega) (Nat.le_of_ble_eq_true rfl) rfl (Nat.le_of_ble_eq_true rfl) (Nat.le_refl _) (Nat.le_refl _) (Or.inl rfl) (Or.inl rfl)) rfl rfl rfl (ye_min (by omega) (by omega)) ?_
        rintro _ _ ⟨rfl, m_25, rfl, h_26⟩
        refine ye_r_wr (ins := .iastore) (len := 1) (t := 455) (a := aE) (q := (103, ev.set ((2 : Int)).toNat (ye_v m_25))) rfl rfl rfl rfl rfl hE8 (ye_as (t := 103) (nf := fun x => x) (p := 2) (e := m_25) (e' := m_25) hE8 (by omega) (by omega) (by omega) rfl) (fun P_27 c_28 o_29 => ?_)
        have c_30 := ye_kp o_29 (ye_n1 (ye_ne hM8 hE8 (by decide))) hM8
        have o_31 := ye_oth_tr o8 o_29 (ye_s1 (List.mem_cons_of_mem _ (List.mem_cons_of_mem _ (List.mem_cons_self))))
        refine z_r_ld (kk := z_isI) (ins := (.iload_n 3)) (len := 1) (t := 456) (i := 3) rfl rfl rfl rfl rfl (fun _ => rfl) y3 rfl ?_
        refine ye_ret (ins := .ireturn) rfl rfl rfl (ye_reti rfl) ?_
        exact kg (by omega) (by omega) _ _ c_30 f_19 k0 (by rw [if_neg (by omega)]; exact rfl) o_31
    · skip
      refine z_r_jm (ins := (.ifCond .ne 15)) (len := 3) (t := 325) rfl rfl rfl rfl (ye_in (t := 337) rfl (by omega) (by omega) b_4) ?_
      refine z_r_ld (kk := z_isA) (ins := (.aload_n 0)) (len := 1) (t := 326) (i := 0) rfl rfl rfl rfl rfl (fun _ => rfl) h0 rfl ?_
      refine z_r_ld (kk := z_isI) (ins := (.iload_n 1)) (len := 1) (t := 327) (i := 1) rfl rfl rfl rfl rfl (fun _ => rfl) h1 rfl ?_
      refine ye_r_wr (ins := (.putfield 130)) (len := 3) (t := 330) (a := aM) (q := (10, ye_fl (ye_up F 0 (ye_v we)))) rfl rfl rfl rfl rfl hM (ye_pfm (k := 0) rfl hM rfl rfl rfl rfl) (fun P_32 c_33 o_34 => ?_)
      have c_35 := ye_kp o_34 (ye_n1 (ye_ne hE hM (by decide))) hE
      have c_36 := ye_kp o_34 (ye_n1 (ye_ne hG hM (by decide))) hG
      have c_37 := ye_kp o_34 (ye_n1 (ye_ne hY hM (by decide))) hY
      have o_38 := ye_oth_tr ho0 o_34 (ye_s1 (List.mem_cons_self))
      have f_39 := ye_fk_up (j := 0) (v := ye_v we) hf0 (List.mem_cons_self)
      refine z_r_pu (ins := (.iconst (-1))) (len := 1) (t := 331) (st' := [ye_v ((-1))]) rfl rfl rfl rfl rfl ?_
      refine z_r_ld (kk := z_isA) (ins := (.aload_n 0)) (len := 1) (t := 332) (i := 0) rfl rfl rfl rfl rfl (fun _ => rfl) h0 rfl ?_
      refine z_r_rd (ins := (.getfield 156)) (len := 3) (t := 335) rfl rfl rfl rfl rfl (z_gfv (ci := 10) (k := 19) (v := ye_v w) rfl (z_lkn fM c_33) (by decide) (ye_flg rfl k19)) ?_
      refine z_r_pu (ins := .isub) (len := 1) (t := 336) rfl rfl rfl rfl ye_sub ?_
      refine ye_ret (ins := .ireturn) rfl rfl rfl (ye_reti rfl) ?_
      exact kb _ _ _ (by omega) c_33 f_39 rfl k5 o_38
  · skip
    refine z_r_jm (ins := (.if_icmp .ge 11)) (len := 3) (t := 310) rfl rfl rfl rfl (ye_jn (t := 318) rfl (by omega) (by omega) (by omega) (by omega) b_1) ?_
    refine z_r_ld (kk := z_isA) (ins := (.aload_n 0)) (len := 1) (t := 311) (i := 0) rfl rfl rfl rfl rfl (fun _ => rfl) h0 rfl ?_
    refine z_r_ld (kk := z_isA) (ins := (.aload_n 0)) (len := 1) (t := 312) (i := 0) rfl rfl rfl rfl rfl (fun _ => rfl) h0 rfl ?_
    refine z_r_rd (ins := (.getfield 153)) (len := 3) (t := 315) rfl rfl rfl rfl rfl (z_gfv (ci := 10) (k := 18) (v := ye_v h) rfl (z_lkn fM hM) (by decide) (ye_flg rfl k18)) ?_
    refine ye_cav (ins := (.invokevirtual 171)) (kd := 1) (t := 318) rfl rfl (by decide) (z_argsv rfl rfl rfl (by omega) (Nat.le_of_ble_eq_true rfl) rfl (Nat.le_of_ble_eq_true rfl) (Nat.le_refl _) (Nat.le_refl _) (Or.inr (Nat.le_of_ble_eq_true rfl)) (Or.inr (z_atv (z_lkn fM hM) rfl))) rfl rfl rfl rfl (ye_flt hM fM k19 (by omega) (by omega)) ?_
    rintro _ P_42 ⟨F_40, w_41, c_43, f_44, k_45, o_46, h_47⟩
    have c_48 := ye_kp o_46 (ye_n1 (ye_ne hE hM (by decide))) hE
    have c_49 := ye_kp o_46 (ye_n1 (ye_ne hG hM (by decide))) hG
    have c_50 := ye_kp o_46 (ye_n1 (ye_ne hY hM (by decide))) hY
    have o_51 := ye_oth_tr ho0 o_46 (ye_s1 (List.mem_cons_self))
    have f_52 : F_40 0 = ye_v s := (f_44 0 (by decide)).trans k0
    have f_53 : F_40 5 = ye_v ya := (f_44 5 (by decide)).trans k5
    have f_54 : F_40 6 = .ref aG := (f_44 6 (by decide)).trans k6
    have f_55 : F_40 7 = .ref aE := (f_44 7 (by decide)).trans k7
    have f_56 : F_40 16 = ye_v sz := (f_44 16 (by decide)).trans k16
    have f_57 : F_40 18 = ye_v h := (f_44 18 (by decide)).trans k18
    have f_58 : F_40 20 = .ref aY := (f_44 20 (by decide)).trans k20
    have f_59 := ye_fk_tr hf0 f_44 (by decide)
    refine z_r_ld (kk := z_isA) (ins := (.aload_n 0)) (len := 1) (t := 319) (i := 0) rfl rfl rfl rfl rfl (fun _ => rfl) h0 rfl ?_
    refine ye_ca (ins := (.invokevirtual 159)) (kd := 1) (t := 322) rfl rfl (by decide) (z_argsv rfl rfl rfl (by omega) (Nat.le_of_ble_eq_true rfl) rfl (Nat.le_of_ble_eq_true rfl) (Nat.le_refl _) (Nat.le_refl _) (Or.inr (Nat.le_of_ble_eq_true rfl)) (Or.inr (z_atv (z_lkn fM c_43) rfl))) rfl rfl rfl (ye_fine c_43 fM k_45 (by omega)) ?_
    rintro _ _ ⟨rfl, b_60, rfl, h_61⟩
    by_cases b_62 : b_60 ≠ 0
    · skip
      refine z_r_jm (ins := (.ifCond .ne 15)) (len := 3) (t := 337) rfl rfl rfl rfl (ye_iy (t := 337) rfl (by omega) (by omega) b_62) ?_
      refine z_r_ld (kk := z_isI) (ins := (.iload_n 1)) (len := 1) (t := 338) (i := 1) rfl rfl rfl rfl rfl (fun _ => rfl) h1 rfl ?_
      refine z_r_is (kk := z_isI) (ins := (.istore 5)) (len := 2) (t := 340) (i := 5) rfl rfl rfl rfl rfl rfl rfl rfl (fun l l_63 k_64 => ?_)
      have l_65 := k_64 _ _ h0 (by decide) (Or.inl (by decide))
      have l_66 := k_64 _ _ h1 (by decide) (Or.inl (by decide))
      have l_67 := k_64 _ _ h2 (by decide) (Or.inl (by decide))
      have l_68 := k_64 _ _ h3 (by decide) (Or.inl (by decide))
      obtain ⟨hn1, hl1⟩ := hg (by omega) (by omega)
      refine ye_moL (s := s) fM f_52 f_54 f_58 fG fY yY nGY (by omega) (by omega) (s - we).toNat (by omega) (by omega) c_43 c_49 hgl c_50 l_65 l_67 l_68 l_63 ye_oth_rf ?_
      intro l P7 gv7 g0 g2 g3 hM7 hG7 hgl7 hY7 ho7
      have hE7 := ye_kp ho7 (ye_n1 (Ne.symm nGE)) c_48
      have o7 := ye_oth_tr o_51 ho7 (ye_s1 (List.mem_cons_of_mem _ (List.mem_cons_self)))
      refine z_r_ld (kk := z_isI) (ins := (.iload_n 2)) (len := 1) (t := 400) (i := 2) rfl rfl rfl rfl rfl (fun _ => rfl) g2 rfl ?_
      refine z_r_pu (ins := (.iconst (-1))) (len := 1) (t := 401) (st' := [ye_v ((-1)), ye_v nl]) rfl rfl rfl rfl rfl ?_
      by_cases b_69 : nl = (-1)
      · skip
        refine z_r_jm (ins := (.if_icmp .eq 54)) (len := 3) (t := 455) rfl rfl rfl rfl (ye_jy (t := 455) rfl (by omega) (by omega) (by omega) (by omega) b_69) ?_
        refine z_r_ld (kk := z_isI) (ins := (.iload_n 3)) (len := 1) (t := 456) (i := 3) rfl rfl rfl rfl rfl (fun _ => rfl) g3 rfl ?_
        refine ye_ret (ins := .ireturn) rfl rfl rfl (ye_reti rfl) ?_
        exact kg (by omega) (by omega) _ _ hM7 f_59 f_52 (by rw [if_pos (by omega)]; exact f_53) o7
      · skip
        refine z_r_jm (ins := (.if_icmp .eq 54)) (len := 3) (t := 404) rfl rfl rfl rfl (ye_jn (t := 455) rfl (by omega) (by omega) (by omega) (by omega) b_69) ?_
        refine z_r_ld (kk := z_isA) (ins := (.aload_n 0)) (len := 1) (t := 405) (i := 0) rfl rfl rfl rfl rfl (fun _ => rfl) g0 rfl ?_
        refine z_r_ld (kk := z_isI) (ins := (.iload_n 2)) (len := 1) (t := 406) (i := 2) rfl rfl rfl rfl rfl (fun _ => rfl) g2 rfl ?_
        refine ye_r_wr (ins := (.putfield 22)) (len := 3) (t := 409) (a := aM) (q := (10, ye_fl (ye_up F_40 5 (ye_v nl)))) rfl rfl rfl rfl rfl hM7 (ye_pfm (k := 5) rfl hM7 rfl rfl rfl rfl) (fun P_70 c_71 o_72 => ?_)
        have c_73 := ye_kp o_72 (ye_n1 (ye_ne hE7 hM7 (by decide))) hE7
        have c_74 := ye_kp o_72 (ye_n1 (ye_ne hG7 hM7 (by decide))) hG7
        have c_75 := ye_kp o_72 (ye_n1 (ye_ne hY7 hM7 (by decide))) hY7
        have o_76 := ye_oth_tr o7 o_72 (ye_s1 (List.mem_cons_self))
        have f_77 := ye_fk_up (j := 5) (v := ye_v nl) f_59 (List.mem_cons_of_mem _ (List.mem_cons_self))
        refine z_r_pu (ins := (.iconst 0)) (len := 1) (t := 410) (st' := [ye_v 0]) rfl rfl rfl rfl rfl ?_
        refine z_r_is (kk := z_isI) (ins := (.istore 5)) (len := 2) (t := 412) (i := 5) rfl rfl rfl rfl rfl rfl rfl rfl (fun l l_78 k_79 => ?_)
        have l_80 := k_79 _ _ g0 (by decide) (Or.inl (by decide))
        have l_81 := k_79 _ _ g2 (by decide) (Or.inl (by decide))
        have l_82 := k_79 _ _ g3 (by decide) (Or.inl (by decide))
        refine ye_myL (F := ye_up F_40 5 (ye_v nl)) (P0 := P_70) (n := n) fM f_54 fG (by omega) 24 (by decide) (by decide) c_71 c_74 hgl7 l_80 l_82 l_78 ye_oth_rf ?_
        intro l P8 y0 y3 hM8 ho8
        have hE8 := ye_kp ho8 (ye_n1 (Ne.symm nGE)) c_73
        have o8 := ye_oth_tr o_76 ho8 (ye_s1 (List.mem_cons_of_mem _ (List.mem_cons_self)))
        refine z_r_ld (kk := z_isA) (ins := (.aload_n 0)) (len := 1) (t := 435) (i := 0) rfl rfl rfl rfl rfl (fun _ => rfl) y0 rfl ?_
        refine z_r_rd (ins := (.getfield 29)) (len := 3) (t := 438) rfl rfl rfl rfl rfl (z_gfv (ci := 10) (k := 7) (v := .ref aE) rfl (z_lkn fM hM8) (by decide) (ye_flg rfl f_55)) ?_
        refine z_r_pu (ins := (.iconst 2)) (len := 1) (t := 439) (st' := [ye_v 2, .ref aE]) rfl rfl rfl rfl rfl ?_
        refine z_r_ld (kk := z_isA) (ins := (.aload_n 0)) (len := 1) (t := 440) (i := 0) rfl rfl rfl rfl rfl (fun _ => rfl) y0 rfl ?_
        refine z_r_rd (ins := (.getfield 29)) (len := 3) (t := 443) rfl rfl rfl rfl rfl (z_gfv (ci := 10) (k := 7) (v := .ref aE) rfl (z_lkn fM hM8) (by decide) (ye_flg rfl f_55)) ?_
        refine z_r_pu (ins := (.iconst 2)) (len := 1) (t := 444) (st' := [ye_v 2, .ref aE, ye_v 2, .ref aE]) rfl rfl rfl rfl rfl ?_
        refine z_r_rd (ins := .iaload) (len := 1) (t := 445) rfl rfl rfl rfl rfl (ye_al (t := 103) (p := 2) (e := e2) (z_lkn fE hE8) (by omega) (by omega) he2) ?_
        refine z_r_ld (kk := z_isA) (ins := (.aload_n 0)) (len := 1) (t := 446) (i := 0) rfl rfl rfl rfl rfl (fun _ => rfl) y0 rfl ?_
        refine z_r_rd (ins := (.getfield 22)) (len := 3) (t := 449) rfl rfl rfl rfl rfl (z_gfv (ci := 10) (k := 5) (v := ye_v nl) rfl (z_lkn fM hM8) (by decide) (ye_flg rfl rfl)) ?_
        refine z_r_pu (ins := (.iconst 1)) (len := 1) (t := 450) (st' := [ye_v 1, ye_v nl, ye_v e2, ye_v 2, .ref aE]) rfl rfl rfl rfl rfl ?_
        refine z_r_pu (ins := .isub) (len := 1) (t := 451) rfl rfl rfl rfl ye_sub ?_
        refine ye_ca (ins := (.invokestatic 190)) (kd := 0) (t := 454) rfl rfl (by decide) (z_argsv rfl rfl rfl (by omega) (Nat.le_of_ble_eq_true rfl) rfl (Nat.le_of_ble_eq_true rfl) (Nat.le_refl _) (Nat.le_refl _) (Or.inl rfl) (Or.inl rfl)) rfl rfl rfl (ye_min (by omega) (by omega)) ?_
        rintro _ _ ⟨rfl, m_83, rfl, h_84⟩
        refine ye_r_wr (ins := .iastore) (len := 1) (t := 455) (a := aE) (q := (103, ev.set ((2 : Int)).toNat (ye_v m_83))) rfl rfl rfl rfl rfl hE8 (ye_as (t := 103) (nf := fun x => x) (p := 2) (e := m_83) (e' := m_83) hE8 (by omega) (by omega) (by omega) rfl) (fun P_85 c_86 o_87 => ?_)
        have c_88 := ye_kp o_87 (ye_n1 (ye_ne hM8 hE8 (by decide))) hM8
        have o_89 := ye_oth_tr o8 o_87 (ye_s1 (List.mem_cons_of_mem _ (List.mem_cons_of_mem _ (List.mem_cons_self))))
        refine z_r_ld (kk := z_isI) (ins := (.iload_n 3)) (len := 1) (t := 456) (i := 3) rfl rfl rfl rfl rfl (fun _ => rfl) y3 rfl ?_
        refine ye_ret (ins := .ireturn) rfl rfl rfl (ye_reti rfl) ?_
        exact kg (by omega) (by omega) _ _ c_88 f_77 f_52 (by rw [if_neg (by omega)]; exact rfl) o_89
    · skip
      refine z_r_jm (ins := (.ifCond .ne 15)) (len := 3) (t := 325) rfl rfl rfl rfl (ye_in (t := 337) rfl (by omega) (by omega) b_62) ?_
      refine z_r_ld (kk := z_isA) (ins := (.aload_n 0)) (len := 1) (t := 326) (i := 0) rfl rfl rfl rfl rfl (fun _ => rfl) h0 rfl ?_
      refine z_r_ld (kk := z_isI) (ins := (.iload_n 1)) (len := 1) (t := 327) (i := 1) rfl rfl rfl rfl rfl (fun _ => rfl) h1 rfl ?_
      refine ye_r_wr (ins := (.putfield 130)) (len := 3) (t := 330) (a := aM) (q := (10, ye_fl (ye_up F_40 0 (ye_v we)))) rfl rfl rfl rfl rfl c_43 (ye_pfm (k := 0) rfl c_43 rfl rfl rfl rfl) (fun P_90 c_91 o_92 => ?_)
      have c_93 := ye_kp o_92 (ye_n1 (ye_ne c_48 c_43 (by decide))) c_48
      have c_94 := ye_kp o_92 (ye_n1 (ye_ne c_49 c_43 (by decide))) c_49
      have c_95 := ye_kp o_92 (ye_n1 (ye_ne c_50 c_43 (by decide))) c_50
      have o_96 := ye_oth_tr o_51 o_92 (ye_s1 (List.mem_cons_self))
      have f_97 := ye_fk_up (j := 0) (v := ye_v we) f_59 (List.mem_cons_self)
      refine z_r_pu (ins := (.iconst (-1))) (len := 1) (t := 331) (st' := [ye_v ((-1))]) rfl rfl rfl rfl rfl ?_
      refine z_r_ld (kk := z_isA) (ins := (.aload_n 0)) (len := 1) (t := 332) (i := 0) rfl rfl rfl rfl rfl (fun _ => rfl) h0 rfl ?_
      refine z_r_rd (ins := (.getfield 156)) (len := 3) (t := 335) rfl rfl rfl rfl rfl (z_gfv (ci := 10) (k := 19) (v := ye_v w_41) rfl (z_lkn fM c_91) (by decide) (ye_flg rfl k_45)) ?_
      refine z_r_pu (ins := .isub) (len := 1) (t := 336) rfl rfl rfl rfl ye_sub ?_
      refine ye_ret (ins := .ireturn) rfl rfl rfl (ye_reti rfl) ?_
      exact kb _ _ _ (by omega) c_91 f_97 rfl f_53 o_96
theorem ye_mbTb {R : Option Value → z_H → Prop} {n nl : Int} (hM : P[aM]? = some (10, ye_fl F)) (fM : aM < z_far) (k0 : F 0 = ye_v s) (k5 : F 5 = ye_v ya) (k16 : F 16 = ye_v sz) (k18 : F 18 = ye_v h) (k19 : F 19 = ye_v w)
    (h0 : z_get l 0 = some (.ref aM)) (h1 : z_get l 1 = some (ye_v we)) (hb : 0 ≤ sz ∧ sz ≤ 80 ∧ 0 ≤ h ∧ h ≤ 80 ∧ -1 ≤ w ∧ w ≤ 80 ∧ 0 ≤ we ∧ we ≤ 10) (hbad : ¬ (w = -1 ∧ sz ≤ h)) (hd : 2 ≤ d)
    (kb : ∀ a P' F', (w = -1 ∧ h < sz ∧ a = -1 - h) ∨ (w ≠ -1 ∧ a = -1 - w) → P'[aM]? = some (10, ye_fl F') → ye_fk [0, 5, 19] F F' → F' 0 = ye_v we → F' 5 = ye_v ya → ye_oth [aM] P P' → R (some (ye_v a)) P') : z_Rh (z_G xs) d 191 (ye_E xs d 191 R) (299, l, [], P, 0, 0) := by
  have ho0 : ye_oth [aM] P P := ye_oth_rf
  have hf0 : ye_fk [0, 5, 19] F F := ye_fk_rf
  refine z_r_ld (kk := z_isA) (ins := (.aload_n 0)) (len := 1) (t := 300) (i := 0) rfl rfl rfl rfl rfl (fun _ => rfl) h0 rfl ?_
  refine z_r_rd (ins := (.getfield 153)) (len := 3) (t := 303) rfl rfl rfl rfl rfl (z_gfv (ci := 10) (k := 18) (v := ye_v h) rfl (z_lkn fM hM) (by decide) (ye_flg rfl k18)) ?_
  refine z_r_ld (kk := z_isA) (ins := (.aload_n 0)) (len := 1) (t := 304) (i := 0) rfl rfl rfl rfl rfl (fun _ => rfl) h0 rfl ?_
  refine z_r_rd (ins := (.getfield 147)) (len := 3) (t := 307) rfl rfl rfl rfl rfl (z_gfv (ci := 10) (k := 16) (v := ye_v sz) rfl (z_lkn fM hM) (by decide) (ye_flg rfl k16)) ?_
  by_cases b_1 : sz ≤ h
  · skip
    refine z_r_jm (ins := (.if_icmp .ge 11)) (len := 3) (t := 318) rfl rfl rfl rfl (ye_jy (t := 318) rfl (by omega) (by omega) (by omega) (by omega) b_1) ?_
    refine z_r_ld (kk := z_isA) (ins := (.aload_n 0)) (len := 1) (t := 319) (i := 0) rfl rfl rfl rfl rfl (fun _ => rfl) h0 rfl ?_
    refine ye_ca (ins := (.invokevirtual 159)) (kd := 1) (t := 322) rfl rfl (by decide) (z_argsv rfl rfl rfl (by omega) (Nat.le_of_ble_eq_true rfl) rfl (Nat.le_of_ble_eq_true rfl) (Nat.le_refl _) (Nat.le_refl _) (Or.inr (Nat.le_of_ble_eq_true rfl)) (Or.inr (z_atv (z_lkn fM hM) rfl))) rfl rfl rfl (ye_fine hM fM k19 (by omega)) ?_
    rintro _ _ ⟨rfl, b_2, rfl, h_3⟩
    refine z_r_jm (ins := (.ifCond .ne 15)) (len := 3) (t := 325) rfl rfl rfl rfl (ye_in (t := 337) rfl (by omega) (by omega) (by show ¬ (b_2 ≠ 0); omega)) ?_
    refine z_r_ld (kk := z_isA) (ins := (.aload_n 0)) (len := 1) (t := 326) (i := 0) rfl rfl rfl rfl rfl (fun _ => rfl) h0 rfl ?_
    refine z_r_ld (kk := z_isI) (ins := (.iload_n 1)) (len := 1) (t := 327) (i := 1) rfl rfl rfl rfl rfl (fun _ => rfl) h1 rfl ?_
    refine ye_r_wr (ins := (.putfield 130)) (len := 3) (t := 330) (a := aM) (q := (10, ye_fl (ye_up F 0 (ye_v we)))) rfl rfl rfl rfl rfl hM (ye_pfm (k := 0) rfl hM rfl rfl rfl rfl) (fun P_4 c_5 o_6 => ?_)
    have o_7 := ye_oth_tr ho0 o_6 (ye_s1 (List.mem_cons_self))
    have f_8 := ye_fk_up (j := 0) (v := ye_v we) hf0 (List.mem_cons_self)
    refine z_r_pu (ins := (.iconst (-1))) (len := 1) (t := 331) (st' := [ye_v ((-1))]) rfl rfl rfl rfl rfl ?_
    refine z_r_ld (kk := z_isA) (ins := (.aload_n 0)) (len := 1) (t := 332) (i := 0) rfl rfl rfl rfl rfl (fun _ => rfl) h0 rfl ?_
    refine z_r_rd (ins := (.getfield 156)) (len := 3) (t := 335) rfl rfl rfl rfl rfl (z_gfv (ci := 10) (k := 19) (v := ye_v w) rfl (z_lkn fM c_5) (by decide) (ye_flg rfl k19)) ?_
    refine z_r_pu (ins := .isub) (len := 1) (t := 336) rfl rfl rfl rfl ye_sub ?_
    refine ye_ret (ins := .ireturn) rfl rfl rfl (ye_reti rfl) ?_
    exact kb _ _ _ (by omega) c_5 f_8 rfl k5 o_7
  · skip
    refine z_r_jm (ins := (.if_icmp .ge 11)) (len := 3) (t := 310) rfl rfl rfl rfl (ye_jn (t := 318) rfl (by omega) (by omega) (by omega) (by omega) b_1) ?_
    refine z_r_ld (kk := z_isA) (ins := (.aload_n 0)) (len := 1) (t := 311) (i := 0) rfl rfl rfl rfl rfl (fun _ => rfl) h0 rfl ?_
    refine z_r_ld (kk := z_isA) (ins := (.aload_n 0)) (len := 1) (t := 312) (i := 0) rfl rfl rfl rfl rfl (fun _ => rfl) h0 rfl ?_
    refine z_r_rd (ins := (.getfield 153)) (len := 3) (t := 315) rfl rfl rfl rfl rfl (z_gfv (ci := 10) (k := 18) (v := ye_v h) rfl (z_lkn fM hM) (by decide) (ye_flg rfl k18)) ?_
    refine ye_cav (ins := (.invokevirtual 171)) (kd := 1) (t := 318) rfl rfl (by decide) (z_argsv rfl rfl rfl (by omega) (Nat.le_of_ble_eq_true rfl) rfl (Nat.le_of_ble_eq_true rfl) (Nat.le_refl _) (Nat.le_refl _) (Or.inr (Nat.le_of_ble_eq_true rfl)) (Or.inr (z_atv (z_lkn fM hM) rfl))) rfl rfl rfl rfl (ye_flt hM fM k19 (by omega) (by omega)) ?_
    rintro _ P_11 ⟨F_9, w_10, c_12, f_13, k_14, o_15, h_16⟩
    have o_17 := ye_oth_tr ho0 o_15 (ye_s1 (List.mem_cons_self))
    have f_18 : F_9 0 = ye_v s := (f_13 0 (by decide)).trans k0
    have f_19 : F_9 5 = ye_v ya := (f_13 5 (by decide)).trans k5
    have f_20 : F_9 16 = ye_v sz := (f_13 16 (by decide)).trans k16
    have f_21 : F_9 18 = ye_v h := (f_13 18 (by decide)).trans k18
    have f_22 := ye_fk_tr hf0 f_13 (by decide)
    refine z_r_ld (kk := z_isA) (ins := (.aload_n 0)) (len := 1) (t := 319) (i := 0) rfl rfl rfl rfl rfl (fun _ => rfl) h0 rfl ?_
    refine ye_ca (ins := (.invokevirtual 159)) (kd := 1) (t := 322) rfl rfl (by decide) (z_argsv rfl rfl rfl (by omega) (Nat.le_of_ble_eq_true rfl) rfl (Nat.le_of_ble_eq_true rfl) (Nat.le_refl _) (Nat.le_refl _) (Or.inr (Nat.le_of_ble_eq_true rfl)) (Or.inr (z_atv (z_lkn fM c_12) rfl))) rfl rfl rfl (ye_fine c_12 fM k_14 (by omega)) ?_
    rintro _ _ ⟨rfl, b_23, rfl, h_24⟩
    refine z_r_jm (ins := (.ifCond .ne 15)) (len := 3) (t := 325) rfl rfl rfl rfl (ye_in (t := 337) rfl (by omega) (by omega) (by show ¬ (b_23 ≠ 0); omega)) ?_
    refine z_r_ld (kk := z_isA) (ins := (.aload_n 0)) (len := 1) (t := 326) (i := 0) rfl rfl rfl rfl rfl (fun _ => rfl) h0 rfl ?_
    refine z_r_ld (kk := z_isI) (ins := (.iload_n 1)) (len := 1) (t := 327) (i := 1) rfl rfl rfl rfl rfl (fun _ => rfl) h1 rfl ?_
    refine ye_r_wr (ins := (.putfield 130)) (len := 3) (t := 330) (a := aM) (q := (10, ye_fl (ye_up F_9 0 (ye_v we)))) rfl rfl rfl rfl rfl c_12 (ye_pfm (k := 0) rfl c_12 rfl rfl rfl rfl) (fun P_25 c_26 o_27 => ?_)
    have o_28 := ye_oth_tr o_17 o_27 (ye_s1 (List.mem_cons_self))
    have f_29 := ye_fk_up (j := 0) (v := ye_v we) f_22 (List.mem_cons_self)
    refine z_r_pu (ins := (.iconst (-1))) (len := 1) (t := 331) (st' := [ye_v ((-1))]) rfl rfl rfl rfl rfl ?_
    refine z_r_ld (kk := z_isA) (ins := (.aload_n 0)) (len := 1) (t := 332) (i := 0) rfl rfl rfl rfl rfl (fun _ => rfl) h0 rfl ?_
    refine z_r_rd (ins := (.getfield 156)) (len := 3) (t := 335) rfl rfl rfl rfl rfl (z_gfv (ci := 10) (k := 19) (v := ye_v w_10) rfl (z_lkn fM c_26) (by decide) (ye_flg rfl k_14)) ?_
    refine z_r_pu (ins := .isub) (len := 1) (t := 336) rfl rfl rfl rfl ye_sub ?_
    refine ye_ret (ins := .ireturn) rfl rfl rfl (ye_reti rfl) ?_
    exact kb _ _ _ (by omega) c_26 f_29 rfl f_19 o_28
set_option maxHeartbeats 8000000 in
theorem ye_Mbarn (hM : P[aM]? = some (10, ye_fl F)) (fM : aM < z_far) (k0 : F 0 = ye_v so) (k1 : F 1 = .ref aK) (k2 : F 2 = .ref aW) (k3 : F 3 = .ref aZ) (k4 : F 4 = .ref aD) (k5 : F 5 = ye_v ya) (k6 : F 6 = .ref aG) (k7 : F 7 = .ref aE) (k10 : F 10 = .ref aB) (k11 : F 11 = ye_v sz) (k20 : F 20 = .ref aY) (hK : P[aK]? = some (103, kv)) (fK : aK < z_far) (hW : P[aW]? = some (103, wv)) (fW : aW < z_far) (hZ : P[aZ]? = some (103, zv)) (fZ : aZ < z_far) (hD : P[aD]? = some (103, dv)) (fD : aD < z_far) (hY : P[aY]? = some (103, mv)) (fY : aY < z_far)
    (n01 : aK ≠ aW) (n02 : aK ≠ aZ) (n03 : aK ≠ aD) (n04 : aK ≠ aY) (n12 : aW ≠ aZ) (n13 : aW ≠ aD) (n14 : aW ≠ aY) (n23 : aZ ≠ aD) (n24 : aZ ≠ aY) (n34 : aD ≠ aY) (yK : ye_arr kd so kv) (yW : ye_arr wt so wv) (yZ : ye_arr zs so zv) (yD : ye_arr dr so dv) (yY : ye_arr mn so mv) (hG : P[aG]? = some (103, gv)) (fG : aG < z_far) (hgl : gv.length = 310) (hE : P[aE]? = some (103, ev)) (fE : aE < z_far) (hel : ev.length = 5) (he2 : ev[(2 : Int).toNat]? = some (ye_v e2)) (he3 : -1000 ≤ e2 ∧ e2 ≤ 1000) (gK : aG ≠ aK) (eK : aE ≠ aK) (gW : aG ≠ aW) (eW : aE ≠ aW) (gZ : aG ≠ aZ) (eZ : aE ≠ aZ) (gD : aG ≠ aD) (eD : aE ≠ aD) (gY : aG ≠ aY) (eY : aE ≠ aY) (nGE : aG ≠ aE) (hB : P[aB]? = some (101, bs)) (fB : aB < z_far) (hx : ye_tx T sz (-128) 127 bs) (hz : 0 ≤ sz ∧ sz ≤ 80)
    (hso : 0 ≤ so ∧ so ≤ 10) (hlm : lim = if sz ≤ 76 then sz else 76) (hd : 5 ≤ d) : ye_X xs d 191 [.ref aM] P (fun r P' => r = some (ye_v (yb_a T sz (so, 0, kd, wt, zs, dr, mn))) ∧ ∃ F', P'[aM]? = some (10, ye_fl F') ∧ ye_fk [0, 5, 11, 14, 15, 16, 17, 18, 19] F F' ∧ F' 11 = ye_v 0 ∧ ye_oth [aM, aK, aW, aZ, aD, aY, aG, aE] P P' ∧ (0 ≤ (yb_a T sz (so, 0, kd, wt, zs, dr, mn)) → F' 0 = ye_v (yb_S' T sz (so, 0, kd, wt, zs, dr, mn)).1 ∧ F' 5 = ye_v (if 0 < (yb_S' T sz (so, 0, kd, wt, zs, dr, mn)).2.1 then (yb_S' T sz (so, 0, kd, wt, zs, dr, mn)).2.1 else ya) ∧ ye_MN aK aW aZ aD (yb_S' T sz (so, 0, kd, wt, zs, dr, mn)).1 (yb_S' T sz (so, 0, kd, wt, zs, dr, mn)).2.2.1 (yb_S' T sz (so, 0, kd, wt, zs, dr, mn)).2.2.2.1 (yb_S' T sz (so, 0, kd, wt, zs, dr, mn)).2.2.2.2.1 (yb_S' T sz (so, 0, kd, wt, zs, dr, mn)).2.2.2.2.2.1 P') ∧ ((yb_a T sz (so, 0, kd, wt, zs, dr, mn)) < 0 → F' 0 = ye_v so ∧ F' 5 = ye_v ya ∧ ye_MN aK aW aZ aD so kd wt zs dr P')) := by
  have hlm2 : (lim = sz ∧ sz ≤ 76) ∨ (lim = 76 ∧ 76 < sz) := by
    rw [hlm]
    split <;> omega
  refine ye_go ?_
  have a0 : z_get (lv_args 0 [.ref aM]) 0 = some (.ref aM) := rfl
  have ho0 : ye_oth [aM, aK, aW, aZ, aD, aY, aG, aE] P P := ye_oth_rf
  have hf0 : ye_fk [0, 5, 11, 14, 15, 16, 17, 18, 19] F F := ye_fk_rf
  refine z_r_ld (kk := z_isA) (ins := (.aload_n 0)) (len := 1) (t := 1) (i := 0) rfl rfl rfl rfl rfl (fun _ => rfl) a0 rfl ?_
  refine z_r_pu (ins := (.iconst 0)) (len := 1) (t := 2) (st' := [ye_v 0, .ref aM]) rfl rfl rfl rfl rfl ?_
  refine ye_r_wr (ins := (.putfield 124)) (len := 3) (t := 5) (a := aM) (q := (10, ye_fl (ye_up F 14 (ye_v 0)))) rfl rfl rfl rfl rfl hM (ye_pfm (k := 14) rfl hM rfl rfl rfl rfl) (fun P_1 c_2 o_3 => ?_)
  have c_4 := ye_kp o_3 (ye_n1 (ye_ne hB hM (by decide))) hB
  have c_5 := ye_kp o_3 (ye_n1 (ye_ne hD hM (by decide))) hD
  have c_6 := ye_kp o_3 (ye_n1 (ye_ne hE hM (by decide))) hE
  have c_7 := ye_kp o_3 (ye_n1 (ye_ne hG hM (by decide))) hG
  have c_8 := ye_kp o_3 (ye_n1 (ye_ne hK hM (by decide))) hK
  have c_9 := ye_kp o_3 (ye_n1 (ye_ne hW hM (by decide))) hW
  have c_10 := ye_kp o_3 (ye_n1 (ye_ne hY hM (by decide))) hY
  have c_11 := ye_kp o_3 (ye_n1 (ye_ne hZ hM (by decide))) hZ
  have o_12 := ye_oth_tr ho0 o_3 (ye_s1 (List.mem_cons_self))
  have f_13 := ye_fk_up (j := 14) (v := ye_v 0) hf0 (List.mem_cons_of_mem _ (List.mem_cons_of_mem _ (List.mem_cons_of_mem _ (List.mem_cons_self))))
  refine z_r_ld (kk := z_isA) (ins := (.aload_n 0)) (len := 1) (t := 6) (i := 0) rfl rfl rfl rfl rfl (fun _ => rfl) a0 rfl ?_
  refine z_r_ld (kk := z_isA) (ins := (.aload_n 0)) (len := 1) (t := 7) (i := 0) rfl rfl rfl rfl rfl (fun _ => rfl) a0 rfl ?_
  refine z_r_rd (ins := (.getfield 35)) (len := 3) (t := 10) rfl rfl rfl rfl rfl (z_gfv (ci := 10) (k := 10) (v := .ref aB) rfl (z_lkn fM c_2) (by decide) (ye_flg rfl k10)) ?_
  refine z_r_ld (kk := z_isA) (ins := (.aload_n 0)) (len := 1) (t := 11) (i := 0) rfl rfl rfl rfl rfl (fun _ => rfl) a0 rfl ?_
  refine z_r_rd (ins := (.getfield 141)) (len := 3) (t := 14) rfl rfl rfl rfl rfl (z_gfv (ci := 10) (k := 11) (v := ye_v sz) rfl (z_lkn fM c_2) (by decide) (ye_flg rfl k11)) ?_
  refine z_r_pu (ins := (.bipush 76)) (len := 2) (t := 16) rfl rfl rfl rfl (ye_bi (by decide) (by decide)) ?_
  refine ye_cav (ins := (.invokevirtual 175)) (kd := 1) (t := 19) rfl rfl (by decide) (z_argsv rfl rfl rfl (by omega) (Nat.le_of_ble_eq_true rfl) rfl (Nat.le_of_ble_eq_true rfl) (Nat.le_refl _) (Nat.le_refl _) (Or.inr (Nat.le_of_ble_eq_true rfl)) (Or.inr (z_atv (z_lkn fM c_2) rfl))) rfl rfl rfl rfl (ye_begin c_2 fM) ?_
  rintro _ P_15 ⟨F_14, c_16, f_17, k_19, k_20, k_21, k_22, k_23, o_18⟩
  have c_24 := ye_kp o_18 (ye_n1 (ye_ne c_4 c_2 (by decide))) c_4
  have c_25 := ye_kp o_18 (ye_n1 (ye_ne c_5 c_2 (by decide))) c_5
  have c_26 := ye_kp o_18 (ye_n1 (ye_ne c_6 c_2 (by decide))) c_6
  have c_27 := ye_kp o_18 (ye_n1 (ye_ne c_7 c_2 (by decide))) c_7
  have c_28 := ye_kp o_18 (ye_n1 (ye_ne c_8 c_2 (by decide))) c_8
  have c_29 := ye_kp o_18 (ye_n1 (ye_ne c_9 c_2 (by decide))) c_9
  have c_30 := ye_kp o_18 (ye_n1 (ye_ne c_10 c_2 (by decide))) c_10
  have c_31 := ye_kp o_18 (ye_n1 (ye_ne c_11 c_2 (by decide))) c_11
  have o_32 := ye_oth_tr o_12 o_18 (ye_s1 (List.mem_cons_self))
  have f_33 : F_14 0 = ye_v so := (f_17 0 (by decide)).trans k0
  have f_34 : F_14 1 = .ref aK := (f_17 1 (by decide)).trans k1
  have f_35 : F_14 2 = .ref aW := (f_17 2 (by decide)).trans k2
  have f_36 : F_14 3 = .ref aZ := (f_17 3 (by decide)).trans k3
  have f_37 : F_14 4 = .ref aD := (f_17 4 (by decide)).trans k4
  have f_38 : F_14 5 = ye_v ya := (f_17 5 (by decide)).trans k5
  have f_39 : F_14 6 = .ref aG := (f_17 6 (by decide)).trans k6
  have f_40 : F_14 7 = .ref aE := (f_17 7 (by decide)).trans k7
  have f_41 : F_14 10 = .ref aB := (f_17 10 (by decide)).trans k10
  have f_42 : F_14 11 = ye_v sz := (f_17 11 (by decide)).trans k11
  have f_43 : F_14 14 = ye_v 0 := (f_17 14 (by decide)).trans rfl
  have f_44 : F_14 20 = .ref aY := (f_17 20 (by decide)).trans k20
  have f_45 := ye_fk_tr f_13 f_17 (by decide)
  refine z_r_ld (kk := z_isA) (ins := (.aload_n 0)) (len := 1) (t := 20) (i := 0) rfl rfl rfl rfl rfl (fun _ => rfl) a0 rfl ?_
  refine z_r_pu (ins := (.iconst 0)) (len := 1) (t := 21) (st' := [ye_v 0, .ref aM]) rfl rfl rfl rfl rfl ?_
  refine ye_r_wr (ins := (.putfield 141)) (len := 3) (t := 24) (a := aM) (q := (10, ye_fl (ye_up F_14 11 (ye_v 0)))) rfl rfl rfl rfl rfl c_16 (ye_pfm (k := 11) rfl c_16 rfl rfl rfl rfl) (fun P_46 c_47 o_48 => ?_)
  have c_49 := ye_kp o_48 (ye_n1 (ye_ne c_24 c_16 (by decide))) c_24
  have c_50 := ye_kp o_48 (ye_n1 (ye_ne c_25 c_16 (by decide))) c_25
  have c_51 := ye_kp o_48 (ye_n1 (ye_ne c_26 c_16 (by decide))) c_26
  have c_52 := ye_kp o_48 (ye_n1 (ye_ne c_27 c_16 (by decide))) c_27
  have c_53 := ye_kp o_48 (ye_n1 (ye_ne c_28 c_16 (by decide))) c_28
  have c_54 := ye_kp o_48 (ye_n1 (ye_ne c_29 c_16 (by decide))) c_29
  have c_55 := ye_kp o_48 (ye_n1 (ye_ne c_30 c_16 (by decide))) c_30
  have c_56 := ye_kp o_48 (ye_n1 (ye_ne c_31 c_16 (by decide))) c_31
  have o_57 := ye_oth_tr o_32 o_48 (ye_s1 (List.mem_cons_self))
  have f_58 := ye_fk_up (j := 11) (v := ye_v 0) f_45 (List.mem_cons_of_mem _ (List.mem_cons_of_mem _ (List.mem_cons_self)))
  refine z_r_ld (kk := z_isA) (ins := (.aload_n 0)) (len := 1) (t := 25) (i := 0) rfl rfl rfl rfl rfl (fun _ => rfl) a0 rfl ?_
  refine z_r_rd (ins := (.getfield 130)) (len := 3) (t := 28) rfl rfl rfl rfl rfl (z_gfv (ci := 10) (k := 0) (v := ye_v so) rfl (z_lkn fM c_47) (by decide) (ye_flg rfl f_33)) ?_
  refine z_r_is (kk := z_isI) (ins := (.istore_n 1)) (len := 1) (t := 29) (i := 1) rfl rfl rfl rfl rfl rfl rfl rfl (fun l l_59 k_60 => ?_)
  have l_61 := k_60 _ _ a0 (by decide) (Or.inr (by show (1 : Nat) ≠ 2; decide))
  refine z_r_pu (ins := (.iconst (-1))) (len := 1) (t := 30) (st' := [ye_v ((-1))]) rfl rfl rfl rfl rfl ?_
  refine z_r_is (kk := z_isI) (ins := (.istore_n 2)) (len := 1) (t := 31) (i := 2) rfl rfl rfl rfl rfl rfl rfl rfl (fun l l_62 k_63 => ?_)
  have l_64 := k_63 _ _ l_61 (by decide) (Or.inl (by decide))
  have l_65 := k_63 _ _ l_59 (by decide) (Or.inr (by show (1 : Nat) ≠ 2; decide))
  refine z_r_pu (ins := (.iconst 0)) (len := 1) (t := 32) (st' := [ye_v 0]) rfl rfl rfl rfl rfl ?_
  refine z_r_is (kk := z_isI) (ins := (.istore_n 3)) (len := 1) (t := 33) (i := 3) rfl rfl rfl rfl rfl rfl rfl rfl (fun l l_66 k_67 => ?_)
  have l_68 := k_67 _ _ l_64 (by decide) (Or.inl (by decide))
  have l_69 := k_67 _ _ l_65 (by decide) (Or.inl (by decide))
  have l_70 := k_67 _ _ l_62 (by decide) (Or.inr (by show (1 : Nat) ≠ 2; decide))
  refine z_r_ld (kk := z_isA) (ins := (.aload_n 0)) (len := 1) (t := 34) (i := 0) rfl rfl rfl rfl rfl (fun _ => rfl) l_68 rfl ?_
  refine z_r_rd (ins := (.getfield 147)) (len := 3) (t := 37) rfl rfl rfl rfl rfl (z_gfv (ci := 10) (k := 16) (v := ye_v sz) rfl (z_lkn fM c_47) (by decide) (ye_flg rfl k_20)) ?_
  by_cases b_71 : sz ≤ 0
  · skip
    refine z_r_jm (ins := (.ifCond .le 7)) (len := 3) (t := 44) rfl rfl rfl rfl (ye_iy (t := 44) rfl (by omega) (by omega) b_71) ?_
    refine z_r_pu (ins := (.iconst 0)) (len := 1) (t := 45) (st' := [ye_v 0]) rfl rfl rfl rfl rfl ?_
    refine z_r_is (kk := z_isI) (ins := (.istore 4)) (len := 2) (t := 47) (i := 4) rfl rfl rfl rfl rfl rfl rfl rfl (fun l l_72 k_73 => ?_)
    have l_74 := k_73 _ _ l_68 (by decide) (Or.inl (by decide))
    have l_75 := k_73 _ _ l_69 (by decide) (Or.inl (by decide))
    have l_76 := k_73 _ _ l_70 (by decide) (Or.inl (by decide))
    have l_77 := k_73 _ _ l_66 (by decide) (Or.inr (by show (1 : Nat) ≠ 2; decide))
    have el : yq_lim sz 76 = lim := by
      unfold yq_lim
      split <;> omega
    have rb := yb_rd_bd (T := T) (lim := lim) (S := (so, 0, kd, wt, zs, dr, mn)) (by omega) hso.1 hso.2 ⟨by show (0 : Int) ≤ 0; decide, by show (0 : Int) ≤ 24; decide⟩
    have ew : yb_a T sz (so, 0, kd, wt, zs, dr, mn) = (if (yb_rd T lim (so, 0, kd, wt, zs, dr, mn)).1 = true ∧ sz ≤ 76 then (yb_rd T lim (so, 0, kd, wt, zs, dr, mn)).2.1 else -1 - (yb_rd T lim (so, 0, kd, wt, zs, dr, mn)).2.2.1) := by
      unfold yb_a
      rw [el]
    have eS : yb_S' T sz (so, 0, kd, wt, zs, dr, mn) = (yb_rd T lim (so, 0, kd, wt, zs, dr, mn)).2.2.2 := by
      unfold yb_S'
      rw [el]
    have eR : yb_rd T lim (so, 0, kd, wt, zs, dr, mn) = (true, 0, 0, (so, 0, kd, wt, zs, dr, mn)) := if_pos (by omega)
    rw [eR] at ew eS rb
    rw [if_pos ⟨rfl, by omega⟩] at ew
    have ew : yb_a T sz (so, 0, kd, wt, zs, dr, mn) = 0 := ew
    have eS : yb_S' T sz (so, 0, kd, wt, zs, dr, mn) = (so, 0, kd, wt, zs, dr, mn) := eS
    refine ye_mbE l_72 ?_
    refine ye_mbT (n := 0) (nl := -1) (we := so) c_47 fM f_33 f_38 f_39 f_40 k_20 k_22 k_23 f_44 c_52 fG hgl c_55 fY yY c_51 fE hel he2 he3 gY nGE eY l_74 l_75 l_76 l_77 (by omega) (fun _ _ => ⟨⟨by decide, by decide⟩, Or.inl rfl⟩) (by omega) ?_ ?_
    · intro _ _ P' F' r1 r2 r3 r4 r5
      rw [ew, eS]
      have hMN : ye_MN aK aW aZ aD so kd wt zs dr P' := ⟨_, _, _, _, ye_kp r5 (by simp only [List.mem_cons, List.not_mem_nil, or_false, not_or]; exact ⟨ye_ne c_53 c_47 (by decide), Ne.symm gK, Ne.symm eK⟩) c_53, ye_kp r5 (by simp only [List.mem_cons, List.not_mem_nil, or_false, not_or]; exact ⟨ye_ne c_54 c_47 (by decide), Ne.symm gW, Ne.symm eW⟩) c_54, ye_kp r5 (by simp only [List.mem_cons, List.not_mem_nil, or_false, not_or]; exact ⟨ye_ne c_56 c_47 (by decide), Ne.symm gZ, Ne.symm eZ⟩) c_56, ye_kp r5 (by simp only [List.mem_cons, List.not_mem_nil, or_false, not_or]; exact ⟨ye_ne c_50 c_47 (by decide), Ne.symm gD, Ne.symm eD⟩) c_50, yK, yW, yZ, yD⟩
      exact ⟨rfl, F', r1, ye_fk_tr f_58 r2 (by decide), (r2 11 (by decide)).trans rfl, ye_oth_tr o_57 r5 (fun b hb => by simp only [List.mem_cons, List.not_mem_nil, or_false] at hb ⊢; (repeat (rcases hb with h | hb; · simp [h])); simp [hb]), fun _ => ⟨r3, r4, hMN⟩, fun q => absurd q (by decide)⟩
    · intro a P' F' hc
      omega
  · skip
    refine z_r_jm (ins := (.ifCond .le 7)) (len := 3) (t := 40) rfl rfl rfl rfl (ye_in (t := 44) rfl (by omega) (by omega) b_71) ?_
    refine z_r_pu (ins := (.iconst 1)) (len := 1) (t := 41) (st' := [ye_v 1]) rfl rfl rfl rfl rfl ?_
    refine z_r_jm (ins := (.goto 4)) (len := 3) (t := 45) rfl rfl rfl rfl (z_gty rfl) ?_
    refine z_r_is (kk := z_isI) (ins := (.istore 4)) (len := 2) (t := 47) (i := 4) rfl rfl rfl rfl rfl rfl rfl rfl (fun l l_78 k_79 => ?_)
    have l_80 := k_79 _ _ l_68 (by decide) (Or.inl (by decide))
    have l_81 := k_79 _ _ l_69 (by decide) (Or.inl (by decide))
    have l_82 := k_79 _ _ l_70 (by decide) (Or.inl (by decide))
    have l_83 := k_79 _ _ l_66 (by decide) (Or.inr (by show (1 : Nat) ≠ 2; decide))
    have el : yq_lim sz 76 = lim := by
      unfold yq_lim
      split <;> omega
    have rb := yb_rd_bd (T := T) (lim := lim) (S := (so, 0, kd, wt, zs, dr, mn)) (by omega) hso.1 hso.2 ⟨by show (0 : Int) ≤ 0; decide, by show (0 : Int) ≤ 24; decide⟩
    have ew : yb_a T sz (so, 0, kd, wt, zs, dr, mn) = (if (yb_rd T lim (so, 0, kd, wt, zs, dr, mn)).1 = true ∧ sz ≤ 76 then (yb_rd T lim (so, 0, kd, wt, zs, dr, mn)).2.1 else -1 - (yb_rd T lim (so, 0, kd, wt, zs, dr, mn)).2.2.1) := by
      unfold yb_a
      rw [el]
    have eS : yb_S' T sz (so, 0, kd, wt, zs, dr, mn) = (yb_rd T lim (so, 0, kd, wt, zs, dr, mn)).2.2.2 := by
      unfold yb_S'
      rw [el]
    have eR : yb_rd T lim (so, 0, kd, wt, zs, dr, mn) = yb_r T lim 76 0 0 (so, 0, kd, wt, zs, dr, mn) := if_neg (by omega)
    rw [eR] at ew eS rb
    refine ye_mbL (P0 := P_46) (F0 := ye_up F_14 11 (ye_v 0)) (lim := lim) (sz := sz) (tp := 76) (S := (so, 0, kd, wt, zs, dr, mn)) fM fB hx (by omega) (by omega) fK fW fZ fD fY n01 n02 n03 n04 n12 n13 n14 n23 n24 n34 (by omega) 76 (n := 0) (p := 0) (by decide) (by decide) (by decide) (by omega) hso.1 hso.2 rfl l_80 l_81 l_82 l_83 l_78 c_47 f_33 f_34 f_35 f_36 f_37 f_44 k_19 k_20 k_21 k_22 k_23 c_49 ⟨_, _, _, _, _, c_53, c_54, c_56, c_50, c_55, yK, yW, yZ, yD, yY⟩ ye_fk_rf ye_oth_rf ?_
    intro l P8 F8 n8 h8 w8 nl8 s8 S8 z0 z1 z2 z3 hM8 hf8 m0 m18 m19 hMA8 ho8 hb8 hag8 hc8
    have hs8 : so ≤ S8.1 := hag8.1
    have m5 := (hf8 5 (by decide)).trans f_38
    have m6 := (hf8 6 (by decide)).trans f_39
    have m7 := (hf8 7 (by decide)).trans f_40
    have m11 := (hf8 11 (by decide)).trans rfl
    have m16 := (hf8 16 (by decide)).trans k_20
    have m20 := (hf8 20 (by decide)).trans f_44
    have hG8 := ye_kp ho8 (by simp only [List.mem_cons, List.not_mem_nil, or_false, not_or]; exact ⟨ye_ne c_52 c_47 (by decide), gK, gW, gZ, gD, gY⟩) c_52
    have hE8 := ye_kp ho8 (by simp only [List.mem_cons, List.not_mem_nil, or_false, not_or]; exact ⟨ye_ne c_51 c_47 (by decide), eK, eW, eZ, eD, eY⟩) c_51
    generalize ewr : yb_r T lim 76 0 0 (so, 0, kd, wt, zs, dr, mn) = wr at ew eS rb hc8
    have nM8 := hM8
    by_cases hgood : w8 = -1 ∧ sz ≤ h8
    · skip
      have kc8 : wr.1 = true ∧ n8 = wr.2.1 ∧ S8 = wr.2.2.2 ∧ s8 = S8.1 ∧ nl8 = yb_nl S8.2.1 := by
        rcases hc8 with ⟨g1, g2, g3, g4, g5, g6, g7, g8⟩ | ⟨g1, g2, g3, g4⟩ | ⟨g1, g2, g3⟩
        · exact ⟨g1, g5, g6, g7, g8⟩
        · omega
        · omega
      obtain ⟨c1, c2, c3, c4, c5⟩ := kc8
      rw [← c3] at eS rb
      have hMA9 := hMA8
      obtain ⟨kv8, wv8, zv8, dv8, mv8, hK8, hW8, hZ8, hD8, hY8, y18, y28, y38, y48, y58⟩ := hMA9
      rw [← c4] at y58
      have ea : yb_a T sz (so, 0, kd, wt, zs, dr, mn) = n8 := by
        rw [if_pos ⟨c1, by omega⟩] at ew
        rw [ew, c2]
      have enl : (if nl8 = -1 then ya else nl8) = (if 0 < S8.2.1 then S8.2.1 else ya) ∧ (nl8 = -1 ∨ (1 ≤ nl8 ∧ nl8 ≤ 24)) := by
        unfold yb_nl at c5
        by_cases q : S8.2.1 = 0
        · rw [if_pos q] at c5
          rw [if_pos c5, if_neg (by omega)]
          exact ⟨rfl, Or.inl c5⟩
        · rw [if_neg q] at c5
          rw [if_neg (by omega), if_pos (by omega)]
          exact ⟨c5, Or.inr (by omega)⟩
      refine ye_mbT (n := n8) (nl := nl8) (h := h8) (w := w8) (s := s8) (we := so) hM8 fM m0 m5 m6 m7 m16 m18 m19 m20 hG8 fG hgl hY8 fY y58 hE8 fE hel he2 he3 gY nGE eY z0 z1 z2 z3 (by omega) (fun _ _ => ⟨by omega, enl.2⟩) (by omega) ?_ ?_
      · intro q1 q2 P' F' r1 r2 r3 r4 r5
        rw [ea, eS]
        have hMN : ye_MN aK aW aZ aD S8.1 S8.2.2.1 S8.2.2.2.1 S8.2.2.2.2.1 S8.2.2.2.2.2.1 P' := ye_MN_of hMA8 yb_ag_rf rfl r5 (by simp only [List.mem_cons, List.not_mem_nil, or_false, not_or]; exact ⟨ye_ne hK8 hM8 (by decide), Ne.symm gK, Ne.symm eK⟩) (by simp only [List.mem_cons, List.not_mem_nil, or_false, not_or]; exact ⟨ye_ne hW8 hM8 (by decide), Ne.symm gW, Ne.symm eW⟩) (by simp only [List.mem_cons, List.not_mem_nil, or_false, not_or]; exact ⟨ye_ne hZ8 hM8 (by decide), Ne.symm gZ, Ne.symm eZ⟩) (by simp only [List.mem_cons, List.not_mem_nil, or_false, not_or]; exact ⟨ye_ne hD8 hM8 (by decide), Ne.symm gD, Ne.symm eD⟩)
        exact ⟨rfl, F', r1, ye_fk_tr (ye_fk_tr f_58 hf8 (by decide)) r2 (by decide), (r2 11 (by decide)).trans m11, ye_oth_tr (ye_oth_tr o_57 ho8 (fun b hb => by simp only [List.mem_cons, List.not_mem_nil, or_false] at hb ⊢; (repeat (rcases hb with h | hb; · simp [h])); simp [hb])) r5 (fun b hb => by simp only [List.mem_cons, List.not_mem_nil, or_false] at hb ⊢; (repeat (rcases hb with h | hb; · simp [h])); simp [hb]), fun _ => ⟨by rw [r3, c4], by rw [r4, enl.1], hMN⟩, fun q => absurd q (by omega)⟩
      · intro a P' F' hc
        omega
    · skip
      obtain ⟨kv8, wv8, zv8, dv8, mv8, hK8, hW8, hZ8, hD8, hY8, y18, y28, y38, y48, y58⟩ := hMA8
      have hMA9 : ye_MA aK aW aZ aD aY S8 P8 := ⟨kv8, wv8, zv8, dv8, mv8, hK8, hW8, hZ8, hD8, hY8, y18, y28, y38, y48, y58⟩
      refine ye_mbTb (n := n8) (nl := nl8) (h := h8) (w := w8) (s := s8) (we := so) hM8 fM m0 m5 m16 m18 m19 z0 z1 (by omega) hgood (by omega) ?_
      intro a P' F' hca r1 r2 r3 r4 r5
      have ea : yb_a T sz (so, 0, kd, wt, zs, dr, mn) = a := by
        rcases hc8 with ⟨g1, g2, g3, g4, g5, g6, g7, g8⟩ | ⟨g1, g2, g3, g4⟩ | ⟨g1, g2, g3⟩
        · rw [if_neg (by rintro ⟨-, u⟩; omega)] at ew
          omega
        · rw [if_neg (by rw [g1]; rintro ⟨u, -⟩; cases u)] at ew
          omega
        · rw [if_neg (by rw [g1]; rintro ⟨u, -⟩; cases u)] at ew
          omega
      rw [ea]
      have hm : a < 0 := by omega
      have hMN : ye_MN aK aW aZ aD so kd wt zs dr P' := ye_MN_of hMA9 hag8 rfl r5 (ye_n1 (ye_ne hK8 hM8 (by decide))) (ye_n1 (ye_ne hW8 hM8 (by decide))) (ye_n1 (ye_ne hZ8 hM8 (by decide))) (ye_n1 (ye_ne hD8 hM8 (by decide)))
      exact ⟨rfl, F', r1, ye_fk_tr (ye_fk_tr f_58 hf8 (by decide)) r2 (by decide), (r2 11 (by decide)).trans m11, ye_oth_tr (ye_oth_tr o_57 ho8 (fun b hb => by simp only [List.mem_cons, List.not_mem_nil, or_false] at hb ⊢; (repeat (rcases hb with h | hb; · simp [h])); simp [hb])) r5 (fun b hb => by simp only [List.mem_cons, List.not_mem_nil, or_false] at hb ⊢; (repeat (rcases hb with h | hb; · simp [h])); simp [hb]), fun q => absurd q (by omega), fun _ => ⟨r3, r4, hMN⟩⟩
end YMBN
