/-! The wind's text read, the class, exactly. -/
section YWRD
variable {xs : List Int32} {d aS aT aG aW aI aR : Nat} {P : z_H} {vs wv tv sv : List Value} {T : Int → Int} {len p lim mo i gl gr : Int} {l : z_L} {Ψ : z_S → Prop}
theorem ye_readI {R : Option Value → z_H → Prop} (hS : P[aS]? = some (1, [.ref aT, ye_v len, ye_v p, ye_v lim, ye_v mo])) (fS : aS < z_far) (hT : P[aT]? = some (102, vs)) (fT : aT < z_far) (hx : ye_tx T len 0 255 vs) (hb : 0 ≤ p ∧ p ≤ lim ∧ lim ≤ len ∧ len ≤ 80)
    (hG : P[aG]? = some (6, [.ref aW, .ref aI, .ref aR, ye_v gl, ye_v gr])) (fG : aG < z_far) (hW : P[aW]? = some (103, wv)) (fW : aW < z_far) (hI : P[aI]? = some (103, tv)) (fI : aI < z_far) (hR : P[aR]? = some (103, sv)) (fR : aR < z_far) (nWI : aW ≠ aI) (nWR : aW ≠ aR) (nIR : aI ≠ aR)
    (hw : wv.length = 10) (ht : tv.length = 10) (hv : sv.length = 10) (hi : 0 ≤ i ∧ i < 10) (hd : 3 ≤ d) (h0 : z_get l 0 = some (.ref aG)) (h1 : z_get l 1 = some (.ref aS)) (h2 : z_get l 2 = some (ye_v i))
    (kk : ∀ l P' wv' tv' sv' gl' gr', (yq_wl T lim p).1 = true → (yq_wl T lim p).2 < lim → T (yq_wl T lim p).2 = 59 → z_get l 0 = some (.ref aG) → z_get l 1 = some (.ref aS) → z_get l 2 = some (ye_v (i + 1)) → P'[aS]? = some (1, [.ref aT, ye_v len, ye_v ((yq_wl T lim p).2 + 1), ye_v lim, ye_v mo]) → P'[aG]? = some (6, [.ref aW, .ref aI, .ref aR, ye_v gl', ye_v gr']) → P'[aW]? = some (103, wv') → P'[aI]? = some (103, tv') → P'[aR]? = some (103, sv') → wv'.length = 10 → tv'.length = 10 → sv'.length = 10 → ye_oth [aS, aW, aI, aR, aG] P P' → z_Rh (z_G xs) d 44 (ye_E xs d 44 R) (21, l, [], P', 0, 0))
    (ke : ∀ P' v gl' gr', P'[aS]? = some (1, [.ref aT, ye_v len, ye_v (yq_wl T lim p).2, ye_v lim, ye_v mo]) → P'[aG]? = some (6, [.ref aW, .ref aI, .ref aR, ye_v gl', ye_v gr']) → ye_oth [aS, aW, aI, aR, aG] P P' → (((yq_wl T lim p).1 = true ∧ lim ≤ (yq_wl T lim p).2 ∧ v = i + 1 ∧ gl' = v) ∨ ((yq_wl T lim p).1 = true ∧ (yq_wl T lim p).2 < lim ∧ T (yq_wl T lim p).2 ≠ 59 ∧ v = -1) ∨ ((yq_wl T lim p).1 = false ∧ v = -1)) → R (some (ye_v v)) P') : z_Rh (z_G xs) d 44 (ye_E xs d 44 R) (21, l, [], P, 0, 0) := by
  have ho0 : ye_oth [aS, aW, aI, aR, aG] P P := ye_oth_rf
  refine z_r_ld (kk := z_isI) (ins := (.iload_n 2)) (len := 1) (t := 22) (i := 2) rfl rfl rfl rfl rfl (fun _ => rfl) h2 rfl ?_
  refine z_r_pu (ins := (.bipush 10)) (len := 2) (t := 24) rfl rfl rfl rfl (ye_bi (by decide) (by decide)) ?_
  refine z_r_jm (ins := (.if_icmp .ge 65)) (len := 3) (t := 27) rfl rfl rfl rfl (ye_jn (t := 89) rfl (by omega) (by omega) (by omega) (by omega) (by show ¬ (10 ≤ i); omega)) ?_
  refine z_r_ld (kk := z_isA) (ins := (.aload_n 0)) (len := 1) (t := 28) (i := 0) rfl rfl rfl rfl rfl (fun _ => rfl) h0 rfl ?_
  refine z_r_ld (kk := z_isA) (ins := (.aload_n 1)) (len := 1) (t := 29) (i := 1) rfl rfl rfl rfl rfl (fun _ => rfl) h1 rfl ?_
  refine z_r_ld (kk := z_isI) (ins := (.iload_n 2)) (len := 1) (t := 30) (i := 2) rfl rfl rfl rfl rfl (fun _ => rfl) h2 rfl ?_
  refine ye_ca (ins := (.invokevirtual 34)) (kd := 1) (t := 33) rfl rfl (by decide) (z_argsv rfl rfl rfl (by omega) (Nat.le_of_ble_eq_true rfl) rfl (Nat.le_of_ble_eq_true rfl) (Nat.le_refl _) (Nat.le_refl _) (Or.inr (Nat.le_of_ble_eq_true rfl)) (Or.inr (z_atv (z_lkn fG hG) rfl))) rfl rfl rfl (ye_wline hS fS hT fT hx (by omega) hG fG hW fW hI fI hR fR nWI nWR nIR (by omega) (by omega) (by omega) (by omega) (by omega)) ?_
  rintro _ P_1 ⟨b_2, w_12, w_13, w_14, rfl, c_3, c_4, c_5, c_6, n_8, n_9, n_10, o_7, h_11⟩
  obtain ⟨wb1, wb2, wb3⟩ := yq_wl_bd (T := T) (lim := lim) (p := p) (by omega)
  generalize ew : yq_wl T lim p = wl at wb1 wb2 wb3 c_3 h_11
  have c_15 := ye_kp o_7 (ye_nc (ye_ne hG hS (by decide)) (ye_nc (ye_ne hG hW (by decide)) (ye_nc (ye_ne hG hI (by decide)) (ye_n1 (ye_ne hG hR (by decide)))))) hG
  have c_16 := ye_kp o_7 (ye_nc (ye_ne hT hS (by decide)) (ye_nc (ye_ne hT hW (by decide)) (ye_nc (ye_ne hT hI (by decide)) (ye_n1 (ye_ne hT hR (by decide)))))) hT
  have o_17 := ye_oth_tr ho0 o_7 ((fun b hb => by simp at hb ⊢; omega))
  by_cases b_18 : b_2 ≠ 0
  · skip
    refine z_r_jm (ins := (.ifCond .ne 5)) (len := 3) (t := 38) rfl rfl rfl rfl (ye_iy (t := 38) rfl (by omega) (by omega) b_18) ?_
    refine z_r_ld (kk := z_isA) (ins := (.aload_n 0)) (len := 1) (t := 39) (i := 0) rfl rfl rfl rfl rfl (fun _ => rfl) h0 rfl ?_
    refine z_r_ld (kk := z_isI) (ins := (.iload_n 2)) (len := 1) (t := 40) (i := 2) rfl rfl rfl rfl rfl (fun _ => rfl) h2 rfl ?_
    refine z_r_pu (ins := (.iconst 1)) (len := 1) (t := 41) (st' := [ye_v 1, ye_v i, .ref aG]) rfl rfl rfl rfl rfl ?_
    refine z_r_pu (ins := .iadd) (len := 1) (t := 42) rfl rfl rfl rfl ye_add ?_
    refine ye_r_wr (ins := (.putfield 21)) (len := 3) (t := 45) (a := aG) (q := (6, [.ref aW, .ref aI, .ref aR, ye_v (i + 1), ye_v gr])) rfl rfl rfl rfl rfl c_15 (z_pfv (ci := 6) (k := 3) rfl c_15 (by decide) (Nat.le_of_ble_eq_true rfl) rfl rfl rfl) (fun P_19 c_20 o_21 => ?_)
    have c_22 := ye_kp o_21 (ye_n1 (ye_ne c_5 c_15 (by decide))) c_5
    have c_23 := ye_kp o_21 (ye_n1 (ye_ne c_6 c_15 (by decide))) c_6
    have c_24 := ye_kp o_21 (ye_n1 (ye_ne c_3 c_15 (by decide))) c_3
    have c_25 := ye_kp o_21 (ye_n1 (ye_ne c_16 c_15 (by decide))) c_16
    have c_26 := ye_kp o_21 (ye_n1 (ye_ne c_4 c_15 (by decide))) c_4
    have o_27 := ye_oth_tr o_17 o_21 (ye_s1 (List.mem_cons_of_mem _ (List.mem_cons_of_mem _ (List.mem_cons_of_mem _ (List.mem_cons_of_mem _ (List.mem_cons_self))))))
    refine z_r_ld (kk := z_isA) (ins := (.aload_n 0)) (len := 1) (t := 46) (i := 0) rfl rfl rfl rfl rfl (fun _ => rfl) h0 rfl ?_
    refine z_r_pu (ins := .dup) (len := 1) (t := 47) rfl rfl rfl rfl rfl ?_
    refine z_r_rd (ins := (.getfield 25)) (len := 3) (t := 50) rfl rfl rfl rfl rfl (z_gfv (ci := 6) (k := 4) (v := ye_v gr) rfl (z_lkn fG c_20) (by decide) rfl) ?_
    refine z_r_ld (kk := z_isA) (ins := (.aload_n 0)) (len := 1) (t := 51) (i := 0) rfl rfl rfl rfl rfl (fun _ => rfl) h0 rfl ?_
    refine z_r_rd (ins := (.getfield 15)) (len := 3) (t := 54) rfl rfl rfl rfl rfl (z_gfv (ci := 6) (k := 1) (v := .ref aI) rfl (z_lkn fG c_20) (by decide) rfl) ?_
    refine z_r_ld (kk := z_isI) (ins := (.iload_n 2)) (len := 1) (t := 55) (i := 2) rfl rfl rfl rfl rfl (fun _ => rfl) h2 rfl ?_
    obtain ⟨tq, htq⟩ : ∃ t, w_13[i.toNat]? = some (ye_v t) := by
      rcases h_11 with ⟨g1, g2, g3⟩ | ⟨g1, g2⟩
      · exact g3
      · exact absurd g1 (by omega)
    refine z_r_rd (ins := .iaload) (len := 1) (t := 56) rfl rfl rfl rfl rfl (ye_al (t := 103) (p := i) (e := tq) (z_lkn fI c_22) (by omega) (by omega) htq) ?_
    refine z_r_pu (ins := .iadd) (len := 1) (t := 57) rfl rfl rfl rfl ye_add ?_
    refine ye_r_wr (ins := (.putfield 25)) (len := 3) (t := 60) (a := aG) (q := (6, [.ref aW, .ref aI, .ref aR, ye_v (i + 1), ye_v (gr + tq)])) rfl rfl rfl rfl rfl c_20 (z_pfv (ci := 6) (k := 4) rfl c_20 (by decide) (Nat.le_of_ble_eq_true rfl) rfl rfl rfl) (fun P_28 c_29 o_30 => ?_)
    have c_31 := ye_kp o_30 (ye_n1 (ye_ne c_22 c_20 (by decide))) c_22
    have c_32 := ye_kp o_30 (ye_n1 (ye_ne c_23 c_20 (by decide))) c_23
    have c_33 := ye_kp o_30 (ye_n1 (ye_ne c_24 c_20 (by decide))) c_24
    have c_34 := ye_kp o_30 (ye_n1 (ye_ne c_25 c_20 (by decide))) c_25
    have c_35 := ye_kp o_30 (ye_n1 (ye_ne c_26 c_20 (by decide))) c_26
    have o_36 := ye_oth_tr o_27 o_30 (ye_s1 (List.mem_cons_of_mem _ (List.mem_cons_of_mem _ (List.mem_cons_of_mem _ (List.mem_cons_of_mem _ (List.mem_cons_self))))))
    refine z_r_ld (kk := z_isA) (ins := (.aload_n 1)) (len := 1) (t := 61) (i := 1) rfl rfl rfl rfl rfl (fun _ => rfl) h1 rfl ?_
    refine ye_ca (ins := (.invokevirtual 28)) (kd := 1) (t := 64) rfl rfl (by decide) (z_argsv rfl rfl rfl (by omega) (Nat.le_of_ble_eq_true rfl) rfl (Nat.le_of_ble_eq_true rfl) (Nat.le_refl _) (Nat.le_refl _) (Or.inr (Nat.le_of_ble_eq_true rfl)) (Or.inr (z_atv (z_lkn fS c_33) rfl))) rfl rfl rfl (ye_isDone c_33 fS c_34 fT hx (by omega)) ?_
    rintro _ _ ⟨rfl, b_37, rfl, h_38⟩
    by_cases b_39 : b_37 = 0
    · skip
      refine z_r_jm (ins := (.ifCond .eq 8)) (len := 3) (t := 72) rfl rfl rfl rfl (ye_iy (t := 72) rfl (by omega) (by omega) b_39) ?_
      refine z_r_ld (kk := z_isA) (ins := (.aload_n 1)) (len := 1) (t := 73) (i := 1) rfl rfl rfl rfl rfl (fun _ => rfl) h1 rfl ?_
      refine z_r_pu (ins := (.bipush 59)) (len := 2) (t := 75) rfl rfl rfl rfl (ye_bi (by decide) (by decide)) ?_
      refine ye_ca (ins := (.invokevirtual 38)) (kd := 1) (t := 78) rfl rfl (by decide) (z_argsv rfl rfl rfl (by omega) (Nat.le_of_ble_eq_true rfl) rfl (Nat.le_of_ble_eq_true rfl) (Nat.le_refl _) (Nat.le_refl _) (Or.inr (Nat.le_of_ble_eq_true rfl)) (Or.inr (z_atv (z_lkn fS c_33) rfl))) rfl rfl rfl (ye_take c_33 fS c_34 fT hx (by omega) (by omega) (by omega)) ?_
      rintro _ P_44 ⟨bt_40, p_41, rfl, c_42, o_43, ht_40⟩
      unfold ye_tk at ht_40
      have c_45 := ye_kp o_43 (ye_n1 (ye_ne c_29 c_33 (by decide))) c_29
      have c_46 := ye_kp o_43 (ye_n1 (ye_ne c_31 c_33 (by decide))) c_31
      have c_47 := ye_kp o_43 (ye_n1 (ye_ne c_32 c_33 (by decide))) c_32
      have c_48 := ye_kp o_43 (ye_n1 (ye_ne c_34 c_33 (by decide))) c_34
      have c_49 := ye_kp o_43 (ye_n1 (ye_ne c_35 c_33 (by decide))) c_35
      have o_50 := ye_oth_tr o_36 o_43 (ye_s1 (List.mem_cons_self))
      by_cases b_51 : bt_40 ≠ 0
      · skip
        refine z_r_jm (ins := (.ifCond .ne 5)) (len := 3) (t := 83) rfl rfl rfl rfl (ye_iy (t := 83) rfl (by omega) (by omega) b_51) ?_
        refine ye_ic (ins := (.iinc 2 1)) (len := 3) (t := 86) (i := 2) (a := i) (kk := 1) rfl rfl rfl rfl rfl rfl h2 (fun l l_52 k_53 => ?_)
        have l_54 := k_53 _ _ h0 (by decide) (Or.inl (by decide))
        have l_55 := k_53 _ _ h1 (by decide) (Or.inr (by show (1 : Nat) ≠ 2; decide))
        refine z_r_jm (ins := (.goto (-65))) (len := 3) (t := 21) rfl rfl rfl rfl (z_gty rfl) ?_
        have kw : wl.1 = true := by
          rcases h_11 with ⟨g1, g2, g3⟩ | ⟨g1, g2⟩
          · exact g2
          · exact absurd g1 (by omega)
        have ep : p_41 = wl.2 + 1 := by omega
        rw [ep] at c_42
        rw [ew] at kk
        exact kk _ _ _ _ _ _ _ kw (by omega) (by omega) l_54 l_55 l_52 c_42 c_45 c_49 c_46 c_47 n_8 n_9 n_10 o_50
      · skip
        refine z_r_jm (ins := (.ifCond .ne 5)) (len := 3) (t := 81) rfl rfl rfl rfl (ye_in (t := 83) rfl (by omega) (by omega) b_51) ?_
        refine z_r_pu (ins := (.iconst (-1))) (len := 1) (t := 82) (st' := [ye_v ((-1))]) rfl rfl rfl rfl rfl ?_
        refine ye_ret (ins := .ireturn) rfl rfl rfl (ye_reti rfl) ?_
        have kw : wl.1 = true := by
          rcases h_11 with ⟨g1, g2, g3⟩ | ⟨g1, g2⟩
          · exact g2
          · exact absurd g1 (by omega)
        have ep : p_41 = wl.2 := by omega
        rw [ep] at c_42
        rw [ew] at ke
        exact ke _ ((-1)) _ _ c_42 c_45 o_50 (Or.inr (Or.inl ⟨kw, by omega, by omega, rfl⟩))
    · skip
      refine z_r_jm (ins := (.ifCond .eq 8)) (len := 3) (t := 67) rfl rfl rfl rfl (ye_in (t := 72) rfl (by omega) (by omega) b_39) ?_
      refine z_r_ld (kk := z_isA) (ins := (.aload_n 0)) (len := 1) (t := 68) (i := 0) rfl rfl rfl rfl rfl (fun _ => rfl) h0 rfl ?_
      refine z_r_rd (ins := (.getfield 21)) (len := 3) (t := 71) rfl rfl rfl rfl rfl (z_gfv (ci := 6) (k := 3) (v := ye_v (i + 1)) rfl (z_lkn fG c_29) (by decide) rfl) ?_
      refine ye_ret (ins := .ireturn) rfl rfl rfl (ye_reti rfl) ?_
      have kw : wl.1 = true := by
        rcases h_11 with ⟨g1, g2, g3⟩ | ⟨g1, g2⟩
        · exact g2
        · exact absurd g1 (by omega)
      rw [ew] at ke
      exact ke _ (i + 1) _ _ c_33 c_29 o_36 (Or.inl ⟨kw, by omega, rfl, rfl⟩)
  · skip
    refine z_r_jm (ins := (.ifCond .ne 5)) (len := 3) (t := 36) rfl rfl rfl rfl (ye_in (t := 38) rfl (by omega) (by omega) b_18) ?_
    refine z_r_pu (ins := (.iconst (-1))) (len := 1) (t := 37) (st' := [ye_v ((-1))]) rfl rfl rfl rfl rfl ?_
    refine ye_ret (ins := .ireturn) rfl rfl rfl (ye_reti rfl) ?_
    have kw : wl.1 = false := by
      rcases h_11 with ⟨g1, g2, g3⟩ | ⟨g1, g2⟩
      · exact absurd g1 (by omega)
      · exact g2
    rw [ew] at ke
    exact ke _ ((-1)) _ _ c_3 c_15 o_17 (Or.inr (Or.inr ⟨kw, rfl⟩))
theorem ye_readE {R : Option Value → z_H → Prop} (hi : i = 10) (h2 : z_get l 2 = some (ye_v i)) (ke : R (some (ye_v (-1))) P) : z_Rh (z_G xs) d 44 (ye_E xs d 44 R) (21, l, [], P, 0, 0) := by
  refine z_r_ld (kk := z_isI) (ins := (.iload_n 2)) (len := 1) (t := 22) (i := 2) rfl rfl rfl rfl rfl (fun _ => rfl) h2 rfl ?_
  refine z_r_pu (ins := (.bipush 10)) (len := 2) (t := 24) rfl rfl rfl rfl (ye_bi (by decide) (by decide)) ?_
  refine z_r_jm (ins := (.if_icmp .ge 65)) (len := 3) (t := 89) rfl rfl rfl rfl (ye_jy (t := 89) rfl (by omega) (by omega) (by omega) (by omega) (by show 10 ≤ i; omega)) ?_
  refine z_r_pu (ins := (.iconst (-1))) (len := 1) (t := 90) (st' := [ye_v ((-1))]) rfl rfl rfl rfl rfl ?_
  refine ye_ret (ins := .ireturn) rfl rfl rfl (ye_reti rfl) ?_
  exact ke
theorem ye_readL {R : Option Value → z_H → Prop} {P0 : z_H} (fS : aS < z_far) (fT : aT < z_far) (hx : ye_tx T len 0 255 vs) (hbl : lim ≤ len ∧ len ≤ 80) (fG : aG < z_far) (fW : aW < z_far) (fI : aI < z_far) (fR : aR < z_far) (nWI : aW ≠ aI) (nWR : aW ≠ aR) (nIR : aI ≠ aR) (hd : 3 ≤ d) : ∀ (k : Nat) {p i gl gr : Int} {wv tv sv : List Value} {l : z_L} {P : z_H}, P[aS]? = some (1, [.ref aT, ye_v len, ye_v p, ye_v lim, ye_v mo]) → P[aT]? = some (102, vs) → P[aG]? = some (6, [.ref aW, .ref aI, .ref aR, ye_v gl, ye_v gr]) → P[aW]? = some (103, wv) → P[aI]? = some (103, tv) → P[aR]? = some (103, sv) → wv.length = 10 → tv.length = 10 → sv.length = 10 → 0 ≤ p → p ≤ lim → 0 ≤ i → i + k = 10 → z_get l 0 = some (.ref aG) → z_get l 1 = some (.ref aS) → z_get l 2 = some (ye_v i) → ye_oth [aS, aW, aI, aR, aG] P0 P →
    (∀ v gl gr P', P'[aS]? = some (1, [.ref aT, ye_v len, ye_v (yq_wr T lim k i p).2.2, ye_v lim, ye_v mo]) → P'[aG]? = some (6, [.ref aW, .ref aI, .ref aR, ye_v gl, ye_v gr]) → ye_oth [aS, aW, aI, aR, aG] P0 P' → (((yq_wr T lim k i p).1 = true ∧ v = (yq_wr T lim k i p).2.1 ∧ gl = v) ∨ ((yq_wr T lim k i p).1 = false ∧ v = -1)) → R (some (ye_v v)) P') → z_Rh (z_G xs) d 44 (ye_E xs d 44 R) (21, l, [], P, 0, 0) := by
  intro k
  induction k with
  | zero =>
    intro p i gl gr wv tv sv l P hS hT hG hW hI hR hw ht hv p0 p1 i0 i1 h0 h1 h2 ho kk
    exact ye_readE (by omega) h2 (kk (-1) gl gr P hS hG ho (Or.inr ⟨rfl, rfl⟩))
  | succ k ih =>
    intro p i gl gr wv tv sv l P hS hT hG hW hI hR hw ht hv p0 p1 i0 i1 h0 h1 h2 ho kk
    obtain ⟨wb1, wb2, -⟩ := yq_wl_bd (T := T) (lim := lim) (p := p) p1
    refine ye_readI hS fS hT fT hx (by omega) hG fG hW fW hI fI hR fR nWI nWR nIR hw ht hv (by omega) hd h0 h1 h2 ?_ ?_
    · intro l P' wv' tv' sv' gl' gr' c1 c2 c3 g0 g1 g2 hS' hG' hW' hI' hR' hw' ht' hv' ho'
      have e : yq_wr T lim (k + 1) i p = yq_wr T lim k (i + 1) ((yq_wl T lim p).2 + 1) := by
        show (if (yq_wl T lim p).1 = true then (if lim ≤ (yq_wl T lim p).2 then (true, i + 1, (yq_wl T lim p).2) else if T (yq_wl T lim p).2 = 59 then yq_wr T lim k (i + 1) ((yq_wl T lim p).2 + 1) else (false, i + 1, (yq_wl T lim p).2)) else (false, i, (yq_wl T lim p).2)) = _
        rw [if_pos c1, if_neg (by omega), if_pos c3]
      rw [e] at kk
      exact ih hS' (ye_kp ho' (by simp only [List.mem_cons, List.not_mem_nil, or_false, not_or]; exact ⟨ye_ne hT hS (by decide), ye_ne hT hW (by decide), ye_ne hT hI (by decide), ye_ne hT hR (by decide), ye_ne hT hG (by decide)⟩) hT) hG' hW' hI' hR' hw' ht' hv' (by omega) (by omega) (by omega) (by omega) g0 g1 g2 (ye_oth_tr ho ho' (fun _ h => h)) kk
    · intro P' v gl' gr' hS' hG' ho' hc
      have hu : yq_wr T lim (k + 1) i p = (if (yq_wl T lim p).1 = true then (if lim ≤ (yq_wl T lim p).2 then (true, i + 1, (yq_wl T lim p).2) else if T (yq_wl T lim p).2 = 59 then yq_wr T lim k (i + 1) ((yq_wl T lim p).2 + 1) else (false, i + 1, (yq_wl T lim p).2)) else (false, i, (yq_wl T lim p).2)) := rfl
      rcases hc with ⟨c1, c2, c3, c4⟩ | ⟨c1, c2, c3, c4⟩ | ⟨c1, c4⟩
      · rw [if_pos c1, if_pos c2] at hu
        rw [hu] at kk
        exact kk v gl' gr' P' hS' hG' (ye_oth_tr ho ho' (fun _ h => h)) (Or.inl ⟨rfl, c3, c4⟩)
      · rw [if_pos c1, if_neg (by omega), if_neg c3] at hu
        rw [hu] at kk
        exact kk v gl' gr' P' hS' hG' (ye_oth_tr ho ho' (fun _ h => h)) (Or.inr ⟨rfl, c4⟩)
      · rw [if_neg (by rw [c1]; decide)] at hu
        rw [hu] at kk
        exact kk v gl' gr' P' hS' hG' (ye_oth_tr ho ho' (fun _ h => h)) (Or.inr ⟨rfl, c4⟩)
/-- how THE WIND's text is read: whether, how many LINES, the place then -/
def yq_rd (T : Int → Int) (lim : Int) : Bool × Int × Int := if lim ≤ 0 then (true, 0, 0) else yq_wr T lim 10 0 0
theorem ye_wread (hS : P[aS]? = some (1, [.ref aT, ye_v len, ye_v 0, ye_v lim, ye_v mo])) (fS : aS < z_far) (hT : P[aT]? = some (102, vs)) (fT : aT < z_far) (hx : ye_tx T len 0 255 vs) (hb : 0 ≤ lim ∧ lim ≤ len ∧ len ≤ 80)
    (hG : P[aG]? = some (6, [.ref aW, .ref aI, .ref aR, ye_v gl, ye_v gr])) (fG : aG < z_far) (hW : P[aW]? = some (103, wv)) (fW : aW < z_far) (hI : P[aI]? = some (103, tv)) (fI : aI < z_far) (hR : P[aR]? = some (103, sv)) (fR : aR < z_far) (nWI : aW ≠ aI) (nWR : aW ≠ aR) (nIR : aI ≠ aR)
    (hw : wv.length = 10) (ht : tv.length = 10) (hv : sv.length = 10) (hd : 3 ≤ d) : ye_X xs d 44 [.ref aG, .ref aS] P (fun r P' => ∃ v gl gr, r = some (ye_v v) ∧ P'[aS]? = some (1, [.ref aT, ye_v len, ye_v (yq_rd T lim).2.2, ye_v lim, ye_v mo]) ∧ P'[aG]? = some (6, [.ref aW, .ref aI, .ref aR, ye_v gl, ye_v gr]) ∧ ye_oth [aS, aW, aI, aR, aG] P P' ∧ (((yq_rd T lim).1 = true ∧ v = (yq_rd T lim).2.1 ∧ gl = v) ∨ ((yq_rd T lim).1 = false ∧ v = -1))) := by
  refine ye_go ?_
  have a0 : z_get (lv_args 0 [.ref aG, .ref aS]) 0 = some (.ref aG) := rfl
  have a1 : z_get (lv_args 0 [.ref aG, .ref aS]) 1 = some (.ref aS) := rfl
  have ho0 : ye_oth [aS, aW, aI, aR, aG] P P := ye_oth_rf
  refine z_r_ld (kk := z_isA) (ins := (.aload_n 0)) (len := 1) (t := 1) (i := 0) rfl rfl rfl rfl rfl (fun _ => rfl) a0 rfl ?_
  refine z_r_pu (ins := (.iconst 0)) (len := 1) (t := 2) (st' := [ye_v 0, .ref aG]) rfl rfl rfl rfl rfl ?_
  refine ye_r_wr (ins := (.putfield 21)) (len := 3) (t := 5) (a := aG) (q := (6, [.ref aW, .ref aI, .ref aR, ye_v 0, ye_v gr])) rfl rfl rfl rfl rfl hG (z_pfv (ci := 6) (k := 3) rfl hG (by decide) (Nat.le_of_ble_eq_true rfl) rfl rfl rfl) (fun P_1 c_2 o_3 => ?_)
  have c_4 := ye_kp o_3 (ye_n1 (ye_ne hI hG (by decide))) hI
  have c_5 := ye_kp o_3 (ye_n1 (ye_ne hR hG (by decide))) hR
  have c_6 := ye_kp o_3 (ye_n1 (ye_ne hS hG (by decide))) hS
  have c_7 := ye_kp o_3 (ye_n1 (ye_ne hT hG (by decide))) hT
  have c_8 := ye_kp o_3 (ye_n1 (ye_ne hW hG (by decide))) hW
  have o_9 := ye_oth_tr ho0 o_3 (ye_s1 (List.mem_cons_of_mem _ (List.mem_cons_of_mem _ (List.mem_cons_of_mem _ (List.mem_cons_of_mem _ (List.mem_cons_self))))))
  refine z_r_ld (kk := z_isA) (ins := (.aload_n 0)) (len := 1) (t := 6) (i := 0) rfl rfl rfl rfl rfl (fun _ => rfl) a0 rfl ?_
  refine z_r_pu (ins := (.iconst 0)) (len := 1) (t := 7) (st' := [ye_v 0, .ref aG]) rfl rfl rfl rfl rfl ?_
  refine ye_r_wr (ins := (.putfield 25)) (len := 3) (t := 10) (a := aG) (q := (6, [.ref aW, .ref aI, .ref aR, ye_v 0, ye_v 0])) rfl rfl rfl rfl rfl c_2 (z_pfv (ci := 6) (k := 4) rfl c_2 (by decide) (Nat.le_of_ble_eq_true rfl) rfl rfl rfl) (fun P_10 c_11 o_12 => ?_)
  have c_13 := ye_kp o_12 (ye_n1 (ye_ne c_4 c_2 (by decide))) c_4
  have c_14 := ye_kp o_12 (ye_n1 (ye_ne c_5 c_2 (by decide))) c_5
  have c_15 := ye_kp o_12 (ye_n1 (ye_ne c_6 c_2 (by decide))) c_6
  have c_16 := ye_kp o_12 (ye_n1 (ye_ne c_7 c_2 (by decide))) c_7
  have c_17 := ye_kp o_12 (ye_n1 (ye_ne c_8 c_2 (by decide))) c_8
  have o_18 := ye_oth_tr o_9 o_12 (ye_s1 (List.mem_cons_of_mem _ (List.mem_cons_of_mem _ (List.mem_cons_of_mem _ (List.mem_cons_of_mem _ (List.mem_cons_self))))))
  refine z_r_ld (kk := z_isA) (ins := (.aload_n 1)) (len := 1) (t := 11) (i := 1) rfl rfl rfl rfl rfl (fun _ => rfl) a1 rfl ?_
  refine ye_ca (ins := (.invokevirtual 28)) (kd := 1) (t := 14) rfl rfl (by decide) (z_argsv rfl rfl rfl (by omega) (Nat.le_of_ble_eq_true rfl) rfl (Nat.le_of_ble_eq_true rfl) (Nat.le_refl _) (Nat.le_refl _) (Or.inr (Nat.le_of_ble_eq_true rfl)) (Or.inr (z_atv (z_lkn fS c_15) rfl))) rfl rfl rfl (ye_isDone c_15 fS c_16 fT hx (by omega)) ?_
  rintro _ _ ⟨rfl, b_19, rfl, h_20⟩
  by_cases b_21 : b_19 = 0
  · skip
    refine z_r_jm (ins := (.ifCond .eq 5)) (len := 3) (t := 19) rfl rfl rfl rfl (ye_iy (t := 19) rfl (by omega) (by omega) b_21) ?_
    refine z_r_pu (ins := (.iconst 0)) (len := 1) (t := 20) (st' := [ye_v 0]) rfl rfl rfl rfl rfl ?_
    refine z_r_is (kk := z_isI) (ins := (.istore_n 2)) (len := 1) (t := 21) (i := 2) rfl rfl rfl rfl rfl rfl rfl rfl (fun l l_22 k_23 => ?_)
    have l_24 := k_23 _ _ a0 (by decide) (Or.inl (by decide))
    have l_25 := k_23 _ _ a1 (by decide) (Or.inr (by show (1 : Nat) ≠ 2; decide))
    have eR : yq_rd T lim = yq_wr T lim 10 0 0 := if_neg (by omega)
    rw [eR]
    refine ye_readL fS fT hx (by omega) fG fW fI fR nWI nWR nIR (by omega) 10 c_15 c_16 c_11 c_17 c_13 c_14 hw ht hv (by decide) (by omega) (by decide) (by decide) l_24 l_25 l_22 o_18 ?_
    exact fun v gl gr P' q1 q2 q3 q4 => ⟨v, gl, gr, rfl, q1, q2, q3, q4⟩
  · skip
    refine z_r_jm (ins := (.ifCond .eq 5)) (len := 3) (t := 17) rfl rfl rfl rfl (ye_in (t := 19) rfl (by omega) (by omega) b_21) ?_
    refine z_r_pu (ins := (.iconst 0)) (len := 1) (t := 18) (st' := [ye_v 0]) rfl rfl rfl rfl rfl ?_
    refine ye_ret (ins := .ireturn) rfl rfl rfl (ye_reti rfl) ?_
    have eR : yq_rd T lim = (true, 0, 0) := if_pos (by omega)
    rw [eR]
    exact ⟨0, _, _, rfl, c_15, c_11, o_18, Or.inl ⟨rfl, rfl, rfl⟩⟩
end YWRD
