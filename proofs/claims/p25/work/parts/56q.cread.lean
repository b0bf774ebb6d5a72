/-! A barn's text read, the class, exactly: LINES. -/
section YCRD
/-- LINES of a barn, at most k more: whether, how many, the place then, what is told -/
def yb_r (T : Int → Int) (lim : Int) : Nat → Int → Int → yb_S → Bool × Int × Int × yb_S
  | 0, n, p, S => (false, n, p, S)
  | k + 1, n, p, S => if (yb_l T lim p S.1).1 = true then (if lim ≤ (yb_l T lim p S.1).2 then (true, n + 1, (yb_l T lim p S.1).2, yb_nx T lim p S) else if T (yb_l T lim p S.1).2 = 59 then yb_r T lim k (n + 1) ((yb_l T lim p S.1).2 + 1) (yb_nx T lim p S) else (false, n + 1, (yb_l T lim p S.1).2, yb_nx T lim p S)) else (false, n, (yb_l T lim p S.1).2, S)
theorem yb_r_u {T : Int → Int} {lim : Int} {k : Nat} {n p : Int} {S : yb_S} : yb_r T lim (k + 1) n p S = (if (yb_l T lim p S.1).1 = true then (if lim ≤ (yb_l T lim p S.1).2 then (true, n + 1, (yb_l T lim p S.1).2, yb_nx T lim p S) else if T (yb_l T lim p S.1).2 = 59 then yb_r T lim k (n + 1) ((yb_l T lim p S.1).2 + 1) (yb_nx T lim p S) else (false, n + 1, (yb_l T lim p S.1).2, yb_nx T lim p S)) else (false, n, (yb_l T lim p S.1).2, S)) := rfl
/-- how many SORTS stay in bounds -/
theorem yb_nx_bd {T : Int → Int} {lim p : Int} {S : yb_S} (h : (yb_l T lim p S.1).1 = true) (h0 : 0 ≤ S.1) (h1 : S.1 ≤ 10) : 0 ≤ (yb_nx T lim p S).1 ∧ (yb_nx T lim p S).1 ≤ 10 ∧ S.1 ≤ (yb_nx T lim p S).1 := by
  unfold yb_nx
  split
  · exact ⟨h0, h1, Int.le_refl _⟩
  · rename_i hc
    have : S.1 < 10 := by
      refine Int.not_le.mp fun q => ?_
      unfold yb_l at h
      rw [if_neg hc, if_pos q] at h
      cases h
    exact ⟨by show 0 ≤ S.1 + 1; omega, by show S.1 + 1 ≤ 10; omega, by show S.1 ≤ S.1 + 1; omega⟩
variable {xs : List Int32} {d aS aT aN aK aW aZ aD aM aE aF aC : Nat} {P : z_H} {vs : List Value} {T : Int → Int} {len p lim mo so ya i : Int} {S : yb_S} {l : z_L} {Ψ : z_S → Prop}
theorem ye_brI {R : Option Value → z_H → Prop} (hS : P[aS]? = some (1, [.ref aT, ye_v len, ye_v p, ye_v lim, ye_v mo])) (fS : aS < z_far) (hT : P[aT]? = some (102, vs)) (fT : aT < z_far) (hx : ye_tx T len 0 255 vs) (hb : 0 ≤ p ∧ p ≤ lim ∧ lim ≤ len ∧ len ≤ 80)
    (hCB : ye_CB aN aK aW aZ aD aM aE aF aC so ya S P) (fN : aN < z_far) (fK : aK < z_far) (fW : aW < z_far) (fZ : aZ < z_far) (fD : aD < z_far) (fM : aM < z_far) (n01 : aK ≠ aW) (n02 : aK ≠ aZ) (n03 : aK ≠ aD) (n04 : aK ≠ aM) (n12 : aW ≠ aZ) (n13 : aW ≠ aD) (n14 : aW ≠ aM) (n23 : aZ ≠ aD) (n24 : aZ ≠ aM) (n34 : aD ≠ aM) (hs : 0 ≤ S.1 ∧ S.1 ≤ 10) (hi : 1 ≤ i ∧ i ≤ 76) (hd : 7 ≤ d)
    (h0 : z_get l 0 = some (.ref aN)) (h1 : z_get l 1 = some (.ref aS)) (h2 : z_get l 2 = some (ye_v i))
    (kk : ∀ l P', (yb_l T lim p S.1).1 = true → (yb_l T lim p S.1).2 < lim → T (yb_l T lim p S.1).2 = 59 → z_get l 0 = some (.ref aN) → z_get l 1 = some (.ref aS) → z_get l 2 = some (ye_v (i + 1)) → P'[aS]? = some (1, [.ref aT, ye_v len, ye_v ((yb_l T lim p S.1).2 + 1), ye_v lim, ye_v mo]) → ye_CB aN aK aW aZ aD aM aE aF aC so ya (yb_nx T lim p S) P' → ye_oth [aS, aN, aK, aW, aZ, aD, aM] P P' → z_Rh (z_G xs) d 16 (ye_E xs d 16 R) (34, l, [], P', 0, 0))
    (ke : ∀ P' v S', P'[aS]? = some (1, [.ref aT, ye_v len, ye_v (yb_l T lim p S.1).2, ye_v lim, ye_v mo]) → ye_CB aN aK aW aZ aD aM aE aF aC so ya S' P' → ye_oth [aS, aN, aK, aW, aZ, aD, aM] P P' → (((yb_l T lim p S.1).1 = true ∧ lim ≤ (yb_l T lim p S.1).2 ∧ v = i ∧ S' = yb_nx T lim p S) ∨ ((yb_l T lim p S.1).1 = true ∧ (yb_l T lim p S.1).2 < lim ∧ T (yb_l T lim p S.1).2 ≠ 59 ∧ v = -1 ∧ S' = yb_nx T lim p S) ∨ ((yb_l T lim p S.1).1 = false ∧ v = -1 ∧ S' = S)) → R (some (ye_v v)) P') : z_Rh (z_G xs) d 16 (ye_E xs d 16 R) (34, l, [], P, 0, 0) := by
  obtain ⟨kv, wv, zv, dv, mv, sdb, hN, hK, hW, hZ, hD, hM, yK, yW, yZ, yD, yM, sd1, sd2⟩ := hCB
  have ho0 : ye_oth [aS, aN, aK, aW, aZ, aD, aM] P P := ye_oth_rf
  refine z_r_ld (kk := z_isI) (ins := (.iload_n 2)) (len := 1) (t := 35) (i := 2) rfl rfl rfl rfl rfl (fun _ => rfl) h2 rfl ?_
  refine z_r_pu (ins := (.bipush 76)) (len := 2) (t := 37) rfl rfl rfl rfl (ye_bi (by decide) (by decide)) ?_
  refine z_r_jm (ins := (.if_icmp .gt 39)) (len := 3) (t := 40) rfl rfl rfl rfl (ye_jn (t := 76) rfl (by omega) (by omega) (by omega) (by omega) (by show ¬ (76 < i); omega)) ?_
  refine z_r_ld (kk := z_isA) (ins := (.aload_n 0)) (len := 1) (t := 41) (i := 0) rfl rfl rfl rfl rfl (fun _ => rfl) h0 rfl ?_
  refine z_r_ld (kk := z_isA) (ins := (.aload_n 1)) (len := 1) (t := 42) (i := 1) rfl rfl rfl rfl rfl (fun _ => rfl) h1 rfl ?_
  refine ye_ca (ins := (.invokevirtual 64)) (kd := 1) (t := 45) rfl rfl (by decide) (z_argsv rfl rfl rfl (by omega) (Nat.le_of_ble_eq_true rfl) rfl (Nat.le_of_ble_eq_true rfl) (Nat.le_refl _) (Nat.le_refl _) (Or.inr (Nat.le_of_ble_eq_true rfl)) (Or.inr (z_atv (z_lkn fN hN) rfl))) rfl rfl rfl (ye_rline (S := S) hS fS hT fT hx (by omega) hN fN hK fK hW fW hZ fZ hD fD hM fM n01 n02 n03 n04 n12 n13 n14 n23 n24 n34 yK yW yZ yD yM (by omega) (by omega) rfl (by omega)) ?_
  rintro _ P_1 ⟨b_2, S_3, rfl, c_4, c_5, o_6, h_7⟩
  obtain ⟨lb1, lb2, lb3⟩ := yb_l_bd (T := T) (lim := lim) (p := p) (s := S.1) (by omega)
  have hcb0 := c_5
  obtain ⟨w_8, w_9, w_10, w_11, w_12, y_13, c_14, c_15, c_16, c_17, c_18, c_19, y_20, y_21, y_22, y_23, y_24, h_25, h_26⟩ := c_5
  have c_27 := ye_kp o_6 (ye_nc (ye_ne hT hS (by decide)) (ye_nc (ye_ne hT hN (by decide)) (ye_nc (ye_ne hT hK (by decide)) (ye_nc (ye_ne hT hW (by decide)) (ye_nc (ye_ne hT hZ (by decide)) (ye_nc (ye_ne hT hD (by decide)) (ye_n1 (ye_ne hT hM (by decide))))))))) hT
  have o_28 := ye_oth_tr ho0 o_6 ((fun b hb => by simp at hb ⊢; omega))
  by_cases b_29 : b_2 ≠ 0
  · skip
    refine z_r_jm (ins := (.ifCond .ne 5)) (len := 3) (t := 50) rfl rfl rfl rfl (ye_iy (t := 50) rfl (by omega) (by omega) b_29) ?_
    refine z_r_ld (kk := z_isA) (ins := (.aload_n 1)) (len := 1) (t := 51) (i := 1) rfl rfl rfl rfl rfl (fun _ => rfl) h1 rfl ?_
    refine ye_ca (ins := (.invokevirtual 58)) (kd := 1) (t := 54) rfl rfl (by decide) (z_argsv rfl rfl rfl (by omega) (Nat.le_of_ble_eq_true rfl) rfl (Nat.le_of_ble_eq_true rfl) (Nat.le_refl _) (Nat.le_refl _) (Or.inr (Nat.le_of_ble_eq_true rfl)) (Or.inr (z_atv (z_lkn fS c_4) rfl))) rfl rfl rfl (ye_isDone c_4 fS c_27 fT hx (by omega)) ?_
    rintro _ _ ⟨rfl, b_30, rfl, h_31⟩
    by_cases b_32 : b_30 = 0
    · skip
      refine z_r_jm (ins := (.ifCond .eq 5)) (len := 3) (t := 59) rfl rfl rfl rfl (ye_iy (t := 59) rfl (by omega) (by omega) b_32) ?_
      refine z_r_ld (kk := z_isA) (ins := (.aload_n 1)) (len := 1) (t := 60) (i := 1) rfl rfl rfl rfl rfl (fun _ => rfl) h1 rfl ?_
      refine z_r_pu (ins := (.bipush 59)) (len := 2) (t := 62) rfl rfl rfl rfl (ye_bi (by decide) (by decide)) ?_
      refine ye_ca (ins := (.invokevirtual 68)) (kd := 1) (t := 65) rfl rfl (by decide) (z_argsv rfl rfl rfl (by omega) (Nat.le_of_ble_eq_true rfl) rfl (Nat.le_of_ble_eq_true rfl) (Nat.le_refl _) (Nat.le_refl _) (Or.inr (Nat.le_of_ble_eq_true rfl)) (Or.inr (z_atv (z_lkn fS c_4) rfl))) rfl rfl rfl (ye_take c_4 fS c_27 fT hx (by omega) (by omega) (by omega)) ?_
      rintro _ P_37 ⟨bt_33, p_34, rfl, c_35, o_36, ht_33⟩
      unfold ye_tk at ht_33
      have c_38 := ye_kp o_36 (ye_n1 (ye_ne c_18 c_4 (by decide))) c_18
      have c_39 := ye_kp o_36 (ye_n1 (ye_ne c_15 c_4 (by decide))) c_15
      have c_40 := ye_kp o_36 (ye_n1 (ye_ne c_19 c_4 (by decide))) c_19
      have c_41 := ye_kp o_36 (ye_n1 (ye_ne c_14 c_4 (by decide))) c_14
      have c_42 := ye_kp o_36 (ye_n1 (ye_ne c_27 c_4 (by decide))) c_27
      have c_43 := ye_kp o_36 (ye_n1 (ye_ne c_16 c_4 (by decide))) c_16
      have c_44 := ye_kp o_36 (ye_n1 (ye_ne c_17 c_4 (by decide))) c_17
      have o_45 := ye_oth_tr o_28 o_36 (ye_s1 (List.mem_cons_self))
      by_cases b_46 : bt_33 ≠ 0
      · skip
        refine z_r_jm (ins := (.ifCond .ne 5)) (len := 3) (t := 70) rfl rfl rfl rfl (ye_iy (t := 70) rfl (by omega) (by omega) b_46) ?_
        refine ye_ic (ins := (.iinc 2 1)) (len := 3) (t := 73) (i := 2) (a := i) (kk := 1) rfl rfl rfl rfl rfl rfl h2 (fun l l_47 k_48 => ?_)
        have l_49 := k_48 _ _ h0 (by decide) (Or.inl (by decide))
        have l_50 := k_48 _ _ h1 (by decide) (Or.inr (by show (1 : Nat) ≠ 2; decide))
        refine z_r_jm (ins := (.goto (-39))) (len := 3) (t := 34) rfl rfl rfl rfl (z_gty rfl) ?_
        have kl : (yb_l T lim p S.1).1 = true ∧ S_3 = yb_nx T lim p S := by
          rcases h_7 with ⟨g1, g2, g3⟩ | ⟨g1, g2, g3⟩
          · exact ⟨g2, g3⟩
          · exact absurd g1 (by omega)
        have ep : p_34 = (yb_l T lim p S.1).2 + 1 := by omega
        rw [ep] at c_35
        exact kk _ _ kl.1 (by omega) (by omega) l_49 l_50 l_47 c_35 (by rw [← kl.2]; exact ⟨_, _, _, _, _, _, c_41, c_39, c_43, c_44, c_38, c_40, y_20, y_21, y_22, y_23, y_24, h_25, h_26⟩) o_45
      · skip
        refine z_r_jm (ins := (.ifCond .ne 5)) (len := 3) (t := 68) rfl rfl rfl rfl (ye_in (t := 70) rfl (by omega) (by omega) b_46) ?_
        refine z_r_pu (ins := (.iconst (-1))) (len := 1) (t := 69) (st' := [ye_v ((-1))]) rfl rfl rfl rfl rfl ?_
        refine ye_ret (ins := .ireturn) rfl rfl rfl (ye_reti rfl) ?_
        have kl : (yb_l T lim p S.1).1 = true ∧ S_3 = yb_nx T lim p S := by
          rcases h_7 with ⟨g1, g2, g3⟩ | ⟨g1, g2, g3⟩
          · exact ⟨g2, g3⟩
          · exact absurd g1 (by omega)
        have ep : p_34 = (yb_l T lim p S.1).2 := by omega
        rw [ep] at c_35
        exact ke _ ((-1)) S_3 c_35 ⟨_, _, _, _, _, _, c_41, c_39, c_43, c_44, c_38, c_40, y_20, y_21, y_22, y_23, y_24, h_25, h_26⟩ o_45 (Or.inr (Or.inl ⟨kl.1, by omega, by omega, rfl, kl.2⟩))
    · skip
      refine z_r_jm (ins := (.ifCond .eq 5)) (len := 3) (t := 57) rfl rfl rfl rfl (ye_in (t := 59) rfl (by omega) (by omega) b_32) ?_
      refine z_r_ld (kk := z_isI) (ins := (.iload_n 2)) (len := 1) (t := 58) (i := 2) rfl rfl rfl rfl rfl (fun _ => rfl) h2 rfl ?_
      refine ye_ret (ins := .ireturn) rfl rfl rfl (ye_reti rfl) ?_
      have kl : (yb_l T lim p S.1).1 = true ∧ S_3 = yb_nx T lim p S := by
        rcases h_7 with ⟨g1, g2, g3⟩ | ⟨g1, g2, g3⟩
        · exact ⟨g2, g3⟩
        · exact absurd g1 (by omega)
      exact ke _ (i) S_3 c_4 ⟨_, _, _, _, _, _, c_14, c_15, c_16, c_17, c_18, c_19, y_20, y_21, y_22, y_23, y_24, h_25, h_26⟩ o_28 (Or.inl ⟨kl.1, by omega, rfl, kl.2⟩)
  · skip
    refine z_r_jm (ins := (.ifCond .ne 5)) (len := 3) (t := 48) rfl rfl rfl rfl (ye_in (t := 50) rfl (by omega) (by omega) b_29) ?_
    refine z_r_pu (ins := (.iconst (-1))) (len := 1) (t := 49) (st' := [ye_v ((-1))]) rfl rfl rfl rfl rfl ?_
    refine ye_ret (ins := .ireturn) rfl rfl rfl (ye_reti rfl) ?_
    have kl : (yb_l T lim p S.1).1 = false ∧ S_3 = S := by
      rcases h_7 with ⟨g1, g2, g3⟩ | ⟨g1, g2, g3⟩
      · exact absurd g1 (by omega)
      · exact ⟨g2, g3⟩
    exact ke _ ((-1)) S_3 c_4 ⟨_, _, _, _, _, _, c_14, c_15, c_16, c_17, c_18, c_19, y_20, y_21, y_22, y_23, y_24, h_25, h_26⟩ o_28 (Or.inr (Or.inr ⟨kl.1, rfl, kl.2⟩))
theorem ye_brE {R : Option Value → z_H → Prop} (hi : i = 77) (h2 : z_get l 2 = some (ye_v i)) (ke : R (some (ye_v (-1))) P) : z_Rh (z_G xs) d 16 (ye_E xs d 16 R) (34, l, [], P, 0, 0) := by
  refine z_r_ld (kk := z_isI) (ins := (.iload_n 2)) (len := 1) (t := 35) (i := 2) rfl rfl rfl rfl rfl (fun _ => rfl) h2 rfl ?_
  refine z_r_pu (ins := (.bipush 76)) (len := 2) (t := 37) rfl rfl rfl rfl (ye_bi (by decide) (by decide)) ?_
  refine z_r_jm (ins := (.if_icmp .gt 39)) (len := 3) (t := 76) rfl rfl rfl rfl (ye_jy (t := 76) rfl (by omega) (by omega) (by omega) (by omega) (by show 76 < i; omega)) ?_
  refine z_r_pu (ins := (.iconst (-1))) (len := 1) (t := 77) (st' := [ye_v ((-1))]) rfl rfl rfl rfl rfl ?_
  refine ye_ret (ins := .ireturn) rfl rfl rfl (ye_reti rfl) ?_
  exact ke
theorem ye_brL {R : Option Value → z_H → Prop} {P0 : z_H} (fS : aS < z_far) (fT : aT < z_far) (hx : ye_tx T len 0 255 vs) (hbl : lim ≤ len ∧ len ≤ 80) (fN : aN < z_far) (fK : aK < z_far) (fW : aW < z_far) (fZ : aZ < z_far) (fD : aD < z_far) (fM : aM < z_far) (n01 : aK ≠ aW) (n02 : aK ≠ aZ) (n03 : aK ≠ aD) (n04 : aK ≠ aM) (n12 : aW ≠ aZ) (n13 : aW ≠ aD) (n14 : aW ≠ aM) (n23 : aZ ≠ aD) (n24 : aZ ≠ aM) (n34 : aD ≠ aM) (hd : 7 ≤ d) : ∀ (k : Nat) {p i : Int} {S : yb_S} {l : z_L} {P : z_H}, P[aS]? = some (1, [.ref aT, ye_v len, ye_v p, ye_v lim, ye_v mo]) → P[aT]? = some (102, vs) → ye_CB aN aK aW aZ aD aM aE aF aC so ya S P → 0 ≤ S.1 → S.1 ≤ 10 → 0 ≤ p → p ≤ lim → 1 ≤ i → i + k = 77 → z_get l 0 = some (.ref aN) → z_get l 1 = some (.ref aS) → z_get l 2 = some (ye_v i) → ye_oth [aS, aN, aK, aW, aZ, aD, aM] P0 P →
    (∀ v P', P'[aS]? = some (1, [.ref aT, ye_v len, ye_v (yb_r T lim k (i - 1) p S).2.2.1, ye_v lim, ye_v mo]) → ye_CB aN aK aW aZ aD aM aE aF aC so ya (yb_r T lim k (i - 1) p S).2.2.2 P' → ye_oth [aS, aN, aK, aW, aZ, aD, aM] P0 P' → (((yb_r T lim k (i - 1) p S).1 = true ∧ v = (yb_r T lim k (i - 1) p S).2.1) ∨ ((yb_r T lim k (i - 1) p S).1 = false ∧ v = -1)) → R (some (ye_v v)) P') → z_Rh (z_G xs) d 16 (ye_E xs d 16 R) (34, l, [], P, 0, 0) := by
  intro k
  induction k with
  | zero =>
    intro p i S l P hS hT hCB s0 s1 p0 p1 i0 i1 h0 h1 h2 ho kk
    exact ye_brE (by omega) h2 (kk (-1) P hS hCB ho (Or.inr ⟨rfl, rfl⟩))
  | succ k ih =>
    intro p i S l P hS hT hCB s0 s1 p0 p1 i0 i1 h0 h1 h2 ho kk
    obtain ⟨wb1, wb2, -⟩ := yb_l_bd (T := T) (lim := lim) (p := p) (s := S.1) p1
    have hT' : ∀ P', ye_oth [aS, aN, aK, aW, aZ, aD, aM] P P' → P'[aT]? = some (102, vs) := fun P' ho' => by
      obtain ⟨kv, wv, zv, dv, mv, sdb, hN, hK, hW, hZ, hD, hM, -⟩ := hCB
      exact ye_kp ho' (by simp only [List.mem_cons, List.not_mem_nil, or_false, not_or]; exact ⟨ye_ne hT hS (by decide), ye_ne hT hN (by decide), ye_ne hT hK (by decide), ye_ne hT hW (by decide), ye_ne hT hZ (by decide), ye_ne hT hD (by decide), ye_ne hT hM (by decide)⟩) hT
    refine ye_brI hS fS hT fT hx (by omega) hCB fN fK fW fZ fD fM n01 n02 n03 n04 n12 n13 n14 n23 n24 n34 ⟨s0, s1⟩ (by omega) hd h0 h1 h2 ?_ ?_
    · intro l P' c1 c2 c3 g0 g1 g2 hS' hCB' ho'
      have e : yb_r T lim (k + 1) (i - 1) p S = yb_r T lim k (i + 1 - 1) ((yb_l T lim p S.1).2 + 1) (yb_nx T lim p S) := by
        rw [yb_r_u, if_pos c1, if_neg (by omega), if_pos c3, show i - 1 + 1 = i + 1 - 1 by omega]
      rw [e] at kk
      have hb := yb_nx_bd c1 s0 s1
      exact ih hS' (hT' P' ho') hCB' hb.1 hb.2.1 (by omega) (by omega) (by omega) (by omega) g0 g1 g2 (ye_oth_tr ho ho' (fun _ h => h)) kk
    · intro P' v S' hS' hCB' ho' hc
      have hu := yb_r_u (T := T) (lim := lim) (k := k) (n := i - 1) (p := p) (S := S)
      rcases hc with ⟨c1, c2, c3, c4⟩ | ⟨c1, c2, c3, c4, c5⟩ | ⟨c1, c4, c5⟩
      · rw [if_pos c1, if_pos c2] at hu
        rw [hu] at kk
        rw [c4] at hCB'
        exact kk v P' hS' hCB' (ye_oth_tr ho ho' (fun _ h => h)) (Or.inl ⟨rfl, by show v = i - 1 + 1; omega⟩)
      · rw [if_pos c1, if_neg (by omega), if_neg c3] at hu
        rw [hu] at kk
        rw [c5] at hCB'
        exact kk v P' hS' hCB' (ye_oth_tr ho ho' (fun _ h => h)) (Or.inr ⟨rfl, c4⟩)
      · rw [if_neg (by rw [c1]; decide)] at hu
        rw [hu] at kk
        rw [c5] at hCB'
        exact kk v P' hS' hCB' (ye_oth_tr ho ho' (fun _ h => h)) (Or.inr ⟨rfl, c4⟩)
end YCRD
