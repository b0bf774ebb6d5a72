/-! Sums, products and what they are held against, the class, exactly. -/
section YGCS
variable {xs : List Int32} {d aS aT aF aC aK sA sB k K : Nat} {P : z_H} {vs cv : List Value} {T : Int → Int} {L : List Int} {len lim mo p n dp c neg i q : Int} {l : z_L} {Ψ : z_S → Prop}
theorem yg_PN {P0 : z_H} (fS : aS < z_far) (fT : aT < z_far) (fF : aF < z_far) (fC : aC < z_far) (hx : ye_tx T len 0 255 vs) (hbl : lim ≤ len ∧ len ≤ 80 ∧ lim ≤ 40) (hA : ∀ P, z_lk (z_strs (z_G xs)) P sA = some (98, [.ref sB, ye_v 0])) (hB : ∀ P, z_lk (z_strs (z_G xs)) P sB = some (101, L.map ye_v)) (hL : ∀ a ∈ L, 0 ≤ a ∧ a < 128) (hLl : L.length ≤ 100) (hLp : 1 ≤ L.length) (hL4 : yi_fr L 40 0 = -1)
    (hS : P[aS]? = some (1, [.ref aT, ye_v len, ye_v q, ye_v lim, ye_v mo])) (hT : P[aT]? = some (102, vs)) (hF : P[aF]? = some (8, [.ref aC, .ref aK, ye_v n])) (hC : P[aC]? = some (103, cv)) (hcl : cv.length = 40) (hp : 0 ≤ q ∧ q ≤ lim)
    (h0 : z_get l 0 = some (.ref aF)) (h1 : z_get l 1 = some (.ref aS)) (h2 : z_get l 2 = some (.ref sA)) (h3 : z_get l 3 = some (ye_v dp)) (h4 : z_get l 4 = some (ye_v i)) (hi : 0 ≤ i ∧ i + 1 ≤ q) (hq : yl T lim [42, 47] q = -1) (hd : 5 ≤ d) (hP0 : ye_oth [aS, aF, aC] P0 P) : z_Rh (z_G xs) d 51 (ye_E xs d 51 (fun r P' => ∃ b n' cv', r = some (ye_v b) ∧ P'[aS]? = some (1, [.ref aT, ye_v len, ye_v (yg_r T lim L [42, 47] 2 k dp q).2, ye_v lim, ye_v mo]) ∧ P'[aF]? = some (8, [.ref aC, .ref aK, ye_v n']) ∧ P'[aC]? = some (103, cv') ∧ cv'.length = 40 ∧ ye_oth [aS, aF, aC] P0 P' ∧ n ≤ n' ∧ n' - n ≤ (yg_r T lim L [42, 47] 2 k dp q).2 - q ∧ ((b = 1 ∧ (yg_r T lim L [42, 47] 2 k dp q).1 = true) ∨ (b = 0 ∧ (yg_r T lim L [42, 47] 2 k dp q).1 = false)))) (15, l, [], P, 0, 0) := by
  have ho0 : ye_oth [aS, aF, aC] P P := ye_oth_rf
  refine z_r_ld (kk := z_isI) (ins := (.iload 4)) (len := 2) (t := 17) (i := 4) rfl rfl rfl rfl rfl (fun _ => rfl) h4 rfl ?_
  refine z_r_pu (ins := (.bipush 40)) (len := 2) (t := 19) rfl rfl rfl rfl (ye_bi (by decide) (by decide)) ?_
  refine z_r_jm (ins := (.if_icmp .ge 50)) (len := 3) (t := 22) rfl rfl rfl rfl (ye_jn (t := 69) rfl (by omega) (by omega) (by omega) (by omega) (by show ¬ (40 ≤ i); omega)) ?_
  refine z_r_ld (kk := z_isA) (ins := (.aload_n 1)) (len := 1) (t := 23) (i := 1) rfl rfl rfl rfl rfl (fun _ => rfl) h1 rfl ?_
  refine z_r_cs (ins := (.ldc 53)) (len := 2) (t := 25) (v := .ref (z_far + 6)) rfl rfl rfl rfl rfl rfl ?_
  refine ye_ca (ins := (.invokevirtual 37)) (kd := 1) (t := 28) rfl rfl (by decide) (z_argsv rfl rfl rfl (by omega) (Nat.le_of_ble_eq_true rfl) rfl (Nat.le_of_ble_eq_true rfl) (Nat.le_refl _) (Nat.le_refl _) (Or.inr (Nat.le_of_ble_eq_true rfl)) (Or.inr (z_atv (z_lkn fS hS) rfl))) rfl rfl rfl (ye_take1 (L := [42, 47]) hS fS hT fT hx (by omega) yg_lk6 yg_lk7 (by decide) (by decide) (by decide) (by omega)) ?_
  rintro _ P_3 ⟨k_1, p_2, rfl, c_4, o_5, h_6, h_7⟩
  change k_1 = yl T lim [42, 47] q at h_6
  have yb_k_1 := yl_bd (T := T) (lim := lim) (LL := [42, 47]) (r := q)
  rw [show ([42, 47] : List Int).length = 2 from rfl] at h_7
  have c_8 := ye_kp o_5 (ye_n1 (ye_ne hC hS (by decide))) hC
  have c_9 := ye_kp o_5 (ye_n1 (ye_ne hF hS (by decide))) hF
  have c_10 := ye_kp o_5 (ye_n1 (ye_ne hT hS (by decide))) hT
  have o_11 := ye_oth_tr ho0 o_5 (ye_s1 (List.mem_cons_self))
  refine z_r_is (kk := z_isI) (ins := (.istore 5)) (len := 2) (t := 30) (i := 5) rfl rfl rfl rfl rfl rfl rfl rfl (fun l l_12 k_13 => ?_)
  have l_14 := k_13 _ _ h0 (by decide) (Or.inl (by decide))
  have l_15 := k_13 _ _ h1 (by decide) (Or.inl (by decide))
  have l_16 := k_13 _ _ h2 (by decide) (Or.inl (by decide))
  have l_17 := k_13 _ _ h3 (by decide) (Or.inl (by decide))
  have l_18 := k_13 _ _ h4 (by decide) (Or.inr (by show (1 : Nat) ≠ 2; decide))
  refine z_r_ld (kk := z_isI) (ins := (.iload 5)) (len := 2) (t := 32) (i := 5) rfl rfl rfl rfl rfl (fun _ => rfl) l_12 rfl ?_
  refine z_r_pu (ins := (.iconst (-1))) (len := 1) (t := 33) (st' := [ye_v ((-1)), ye_v k_1]) rfl rfl rfl rfl rfl ?_
  refine z_r_jm (ins := (.if_icmp .ne 5)) (len := 3) (t := 36) rfl rfl rfl rfl (ye_jn (t := 38) rfl (by omega) (by omega) (by omega) (by omega) (by show ¬ (k_1 ≠ (-1)); omega)) ?_
  refine z_r_pu (ins := (.iconst 1)) (len := 1) (t := 37) (st' := [ye_v 1]) rfl rfl rfl rfl rfl ?_
  refine ye_ret (ins := .ireturn) rfl rfl rfl (ye_retz rfl (by omega)) ?_
  have eL : yg_r T lim L [42, 47] 2 k dp q = (true, q) := if_neg (by omega)
  rw [eL]
  have ep : p_2 = q := by omega
  rw [ep] at c_4
  exact ⟨1, n, _, rfl, c_4, c_9, c_8, hcl, ye_oth_tr hP0 o_11 (fun _ q => q), Int.le_refl _, by show n - n ≤ q - q; omega, Or.inl ⟨rfl, rfl⟩⟩
theorem yg_PI {R : Option Value → z_H → Prop} (fS : aS < z_far) (fT : aT < z_far) (fF : aF < z_far) (fC : aC < z_far) (hx : ye_tx T len 0 255 vs) (hbl : lim ≤ len ∧ len ≤ 80 ∧ lim ≤ 40) (hA : ∀ P, z_lk (z_strs (z_G xs)) P sA = some (98, [.ref sB, ye_v 0])) (hB : ∀ P, z_lk (z_strs (z_G xs)) P sB = some (101, L.map ye_v)) (hL : ∀ a ∈ L, 0 ≤ a ∧ a < 128) (hLl : L.length ≤ 100) (hLp : 1 ≤ L.length) (hL4 : yi_fr L 40 0 = -1)
    (H1 : yg_C xs aS aT aF aC aK sA T len lim mo L vs 52 3 k)
    (hS : P[aS]? = some (1, [.ref aT, ye_v len, ye_v q, ye_v lim, ye_v mo])) (hT : P[aT]? = some (102, vs)) (hF : P[aF]? = some (8, [.ref aC, .ref aK, ye_v n])) (hC : P[aC]? = some (103, cv)) (hcl : cv.length = 40) (hp : 0 ≤ q ∧ q ≤ lim)
    (h0 : z_get l 0 = some (.ref aF)) (h1 : z_get l 1 = some (.ref aS)) (h2 : z_get l 2 = some (.ref sA)) (h3 : z_get l 3 = some (ye_v dp)) (h4 : z_get l 4 = some (ye_v i)) (hi : 0 ≤ i ∧ i + 1 ≤ q) (hn : 0 ≤ n ∧ n ≤ q) (hdp : 0 ≤ dp ∧ dp ≤ 4) (hq : yl T lim [42, 47] q ≠ -1) (hk : 4 * (lim - q) - 2 ≤ (k : Int) + 1) (hd : 2 * k + 13 ≤ d)
    (kg : ∀ l P' n' cv', (yf T lim L k 3 dp (q + 1)).1 = true → z_get l 0 = some (.ref aF) → z_get l 1 = some (.ref aS) → z_get l 2 = some (.ref sA) → z_get l 3 = some (ye_v dp) → z_get l 4 = some (ye_v (i + 1)) → P'[aS]? = some (1, [.ref aT, ye_v len, ye_v (yf T lim L k 3 dp (q + 1)).2, ye_v lim, ye_v mo]) → P'[aT]? = some (102, vs) → P'[aF]? = some (8, [.ref aC, .ref aK, ye_v n']) → P'[aC]? = some (103, cv') → cv'.length = 40 → ye_oth [aS, aF, aC] P P' → n ≤ n' → n' - n ≤ (yf T lim L k 3 dp (q + 1)).2 - q → z_Rh (z_G xs) d 51 (ye_E xs d 51 R) (15, l, [], P', 0, 0))
    (kw : ∀ P' n' cv', (yf T lim L k 3 dp (q + 1)).1 = false → P'[aS]? = some (1, [.ref aT, ye_v len, ye_v (yf T lim L k 3 dp (q + 1)).2, ye_v lim, ye_v mo]) → P'[aF]? = some (8, [.ref aC, .ref aK, ye_v n']) → P'[aC]? = some (103, cv') → cv'.length = 40 → ye_oth [aS, aF, aC] P P' → n ≤ n' → n' - n ≤ (yf T lim L k 3 dp (q + 1)).2 - q → R (some (ye_v 0)) P') : z_Rh (z_G xs) d 51 (ye_E xs d 51 R) (15, l, [], P, 0, 0) := by
  have ho0 : ye_oth [aS, aF, aC] P P := ye_oth_rf
  have ylb := yl_bd (T := T) (lim := lim) (LL := [42, 47]) (r := q)
  refine z_r_ld (kk := z_isI) (ins := (.iload 4)) (len := 2) (t := 17) (i := 4) rfl rfl rfl rfl rfl (fun _ => rfl) h4 rfl ?_
  refine z_r_pu (ins := (.bipush 40)) (len := 2) (t := 19) rfl rfl rfl rfl (ye_bi (by decide) (by decide)) ?_
  refine z_r_jm (ins := (.if_icmp .ge 50)) (len := 3) (t := 22) rfl rfl rfl rfl (ye_jn (t := 69) rfl (by omega) (by omega) (by omega) (by omega) (by show ¬ (40 ≤ i); omega)) ?_
  refine z_r_ld (kk := z_isA) (ins := (.aload_n 1)) (len := 1) (t := 23) (i := 1) rfl rfl rfl rfl rfl (fun _ => rfl) h1 rfl ?_
  refine z_r_cs (ins := (.ldc 53)) (len := 2) (t := 25) (v := .ref (z_far + 6)) rfl rfl rfl rfl rfl rfl ?_
  refine ye_ca (ins := (.invokevirtual 37)) (kd := 1) (t := 28) rfl rfl (by decide) (z_argsv rfl rfl rfl (by omega) (Nat.le_of_ble_eq_true rfl) rfl (Nat.le_of_ble_eq_true rfl) (Nat.le_refl _) (Nat.le_refl _) (Or.inr (Nat.le_of_ble_eq_true rfl)) (Or.inr (z_atv (z_lkn fS hS) rfl))) rfl rfl rfl (ye_take1 (L := [42, 47]) hS fS hT fT hx (by omega) yg_lk6 yg_lk7 (by decide) (by decide) (by decide) (by omega)) ?_
  rintro _ P_3 ⟨k_1, p_2, rfl, c_4, o_5, h_6, h_7⟩
  change k_1 = yl T lim [42, 47] q at h_6
  have yb_k_1 := yl_bd (T := T) (lim := lim) (LL := [42, 47]) (r := q)
  rw [show ([42, 47] : List Int).length = 2 from rfl] at h_7
  have c_8 := ye_kp o_5 (ye_n1 (ye_ne hC hS (by decide))) hC
  have c_9 := ye_kp o_5 (ye_n1 (ye_ne hF hS (by decide))) hF
  have c_10 := ye_kp o_5 (ye_n1 (ye_ne hT hS (by decide))) hT
  have o_11 := ye_oth_tr ho0 o_5 (ye_s1 (List.mem_cons_self))
  refine z_r_is (kk := z_isI) (ins := (.istore 5)) (len := 2) (t := 30) (i := 5) rfl rfl rfl rfl rfl rfl rfl rfl (fun l l_12 k_13 => ?_)
  have l_14 := k_13 _ _ h0 (by decide) (Or.inl (by decide))
  have l_15 := k_13 _ _ h1 (by decide) (Or.inl (by decide))
  have l_16 := k_13 _ _ h2 (by decide) (Or.inl (by decide))
  have l_17 := k_13 _ _ h3 (by decide) (Or.inl (by decide))
  have l_18 := k_13 _ _ h4 (by decide) (Or.inr (by show (1 : Nat) ≠ 2; decide))
  refine z_r_ld (kk := z_isI) (ins := (.iload 5)) (len := 2) (t := 32) (i := 5) rfl rfl rfl rfl rfl (fun _ => rfl) l_12 rfl ?_
  refine z_r_pu (ins := (.iconst (-1))) (len := 1) (t := 33) (st' := [ye_v ((-1)), ye_v k_1]) rfl rfl rfl rfl rfl ?_
  refine z_r_jm (ins := (.if_icmp .ne 5)) (len := 3) (t := 38) rfl rfl rfl rfl (ye_jy (t := 38) rfl (by omega) (by omega) (by omega) (by omega) (by show k_1 ≠ (-1); omega)) ?_
  refine z_r_ld (kk := z_isA) (ins := (.aload_n 0)) (len := 1) (t := 39) (i := 0) rfl rfl rfl rfl rfl (fun _ => rfl) l_14 rfl ?_
  refine z_r_ld (kk := z_isA) (ins := (.aload_n 1)) (len := 1) (t := 40) (i := 1) rfl rfl rfl rfl rfl (fun _ => rfl) l_15 rfl ?_
  refine z_r_ld (kk := z_isA) (ins := (.aload_n 2)) (len := 1) (t := 41) (i := 2) rfl rfl rfl rfl rfl (fun _ => rfl) l_16 rfl ?_
  refine z_r_ld (kk := z_isI) (ins := (.iload_n 3)) (len := 1) (t := 42) (i := 3) rfl rfl rfl rfl rfl (fun _ => rfl) l_17 rfl ?_
  refine ye_ca (ins := (.invokevirtual 50)) (kd := 1) (t := 45) rfl rfl (by decide) (z_argsv rfl rfl rfl (by omega) (Nat.le_of_ble_eq_true rfl) rfl (Nat.le_of_ble_eq_true rfl) (Nat.le_refl _) (Nat.le_refl _) (Or.inr (Nat.le_of_ble_eq_true rfl)) (Or.inr (z_atv (z_lkn fF c_9) rfl))) rfl rfl rfl (H1 _ _ _ _ _ _ c_4 c_10 c_9 c_8 hcl (by omega) (by omega) (by omega) (by omega) (by omega)) ?_
  rintro _ P_19 ⟨b_20, n_21, w_22, rfl, c_23, c_24, c_25, h_26, o_27, i_28, i_29, h_30⟩
  have d_31 := yf_bd (T := T) (L := L) (lim := lim) k 3 dp p_2 (by omega)
  generalize er_32 : yf T lim L k 3 dp p_2 = r_32 at c_23 i_29 h_30 d_31
  have c_33 := ye_kp o_27 (ye_nc (ye_ne c_10 c_4 (by decide)) (ye_nc (ye_ne c_10 c_9 (by decide)) (ye_n1 (ye_ne c_10 c_8 (by decide))))) c_10
  have o_34 := ye_oth_tr o_11 o_27 ((fun b hb => by simp only [List.mem_cons, List.not_mem_nil, or_false] at hb ⊢; (repeat (rcases hb with h | hb; · simp [h])); simp [hb]))
  by_cases b_35 : b_20 = 0
  · skip
    refine z_r_jm (ins := (.ifCond .eq 16)) (len := 3) (t := 61) rfl rfl rfl rfl (ye_iy (t := 61) rfl (by omega) (by omega) b_35) ?_
    refine z_r_pu (ins := (.iconst 0)) (len := 1) (t := 62) (st' := [ye_v 0]) rfl rfl rfl rfl rfl ?_
    refine ye_ret (ins := .ireturn) rfl rfl rfl (ye_retz rfl (by omega)) ?_
    have eq0 : yf T lim L k 3 dp (q + 1) = r_32 := by rw [← er_32, show q + 1 = p_2 by omega]
    have q1 : r_32.1 = false := by
      rcases h_30 with ⟨g1, g2⟩ | ⟨g1, g2⟩
      · exact absurd g1 (by omega)
      · exact g2
    exact kw _ _ _ (by rw [eq0]; exact q1) (by rw [eq0]; exact c_23) c_24 c_25 h_26 o_34 i_28 (by rw [eq0]; omega)
  · skip
    refine z_r_jm (ins := (.ifCond .eq 16)) (len := 3) (t := 48) rfl rfl rfl rfl (ye_in (t := 61) rfl (by omega) (by omega) b_35) ?_
    refine z_r_ld (kk := z_isA) (ins := (.aload_n 0)) (len := 1) (t := 49) (i := 0) rfl rfl rfl rfl rfl (fun _ => rfl) l_14 rfl ?_
    refine z_r_pu (ins := (.sipush 2005)) (len := 3) (t := 52) rfl rfl rfl rfl (ye_si (by decide) (by decide)) ?_
    refine z_r_ld (kk := z_isI) (ins := (.iload 5)) (len := 2) (t := 54) (i := 5) rfl rfl rfl rfl rfl (fun _ => rfl) l_12 rfl ?_
    refine z_r_pu (ins := .iadd) (len := 1) (t := 55) rfl rfl rfl rfl ye_add ?_
    refine ye_ca (ins := (.invokevirtual 41)) (kd := 1) (t := 58) rfl rfl (by decide) (z_argsv rfl rfl rfl (by omega) (Nat.le_of_ble_eq_true rfl) rfl (Nat.le_of_ble_eq_true rfl) (Nat.le_refl _) (Nat.le_refl _) (Or.inr (Nat.le_of_ble_eq_true rfl)) (Or.inr (z_atv (z_lkn fF c_24) rfl))) rfl rfl rfl (yg_app c_24 fF c_25 fC h_26 (by omega) (by omega)) ?_
    rintro _ P_36 ⟨rfl, c_37, ⟨w_38, c_39, h_40⟩, o_41⟩
    have c_42 := ye_kp o_41 (ye_nc (ye_ne c_23 c_24 (by decide)) (ye_n1 (ye_ne c_23 c_25 (by decide)))) c_23
    have c_43 := ye_kp o_41 (ye_nc (ye_ne c_33 c_24 (by decide)) (ye_n1 (ye_ne c_33 c_25 (by decide)))) c_33
    have o_44 := ye_oth_tr o_34 o_41 (ye_s2 (List.mem_cons_of_mem _ (List.mem_cons_self)) (List.mem_cons_of_mem _ (List.mem_cons_of_mem _ (List.mem_cons_self))))
    refine z_r_jm (ins := (.ifCond .ne 5)) (len := 3) (t := 63) rfl rfl rfl rfl (ye_iy (t := 63) rfl (by omega) (by omega) (by show (1 : Int) ≠ 0; decide)) ?_
    refine ye_ic (ins := (.iinc 4 1)) (len := 3) (t := 66) (i := 4) (a := i) (kk := 1) rfl rfl rfl rfl rfl rfl l_18 (fun l l_45 k_46 => ?_)
    have l_47 := k_46 _ _ l_14 (by decide) (Or.inl (by decide))
    have l_48 := k_46 _ _ l_15 (by decide) (Or.inl (by decide))
    have l_49 := k_46 _ _ l_16 (by decide) (Or.inl (by decide))
    have l_50 := k_46 _ _ l_17 (by decide) (Or.inr (by show (1 : Nat) ≠ 2; decide))
    have l_51 := k_46 _ _ l_12 (by decide) (Or.inl (by decide))
    refine z_r_jm (ins := (.goto (-51))) (len := 3) (t := 15) rfl rfl rfl rfl (z_gty rfl) ?_
    have eq0 : yf T lim L k 3 dp (q + 1) = r_32 := by rw [← er_32, show q + 1 = p_2 by omega]
    have q1 : r_32.1 = true := by
      rcases h_30 with ⟨g1, g2⟩ | ⟨g1, g2⟩
      · exact g2
      · exact absurd g1 (by omega)
    exact kg _ _ (n_21 + 1) _ (by rw [eq0]; exact q1) l_47 l_48 l_49 l_50 l_45 (by rw [eq0]; exact c_42) c_43 c_37 c_39 h_40 o_44 (by omega) (by rw [eq0]; omega)
theorem yg_PL {P0 : z_H} (fS : aS < z_far) (fT : aT < z_far) (fF : aF < z_far) (fC : aC < z_far) (hx : ye_tx T len 0 255 vs) (hbl : lim ≤ len ∧ len ≤ 80 ∧ lim ≤ 40) (hA : ∀ P, z_lk (z_strs (z_G xs)) P sA = some (98, [.ref sB, ye_v 0])) (hB : ∀ P, z_lk (z_strs (z_G xs)) P sB = some (101, L.map ye_v)) (hL : ∀ a ∈ L, 0 ≤ a ∧ a < 128) (hLl : L.length ≤ 100) (hLp : 1 ≤ L.length) (hL4 : yi_fr L 40 0 = -1) (HH : ∀ j, j < K → yg_C xs aS aT aF aC aK sA T len lim mo L vs 52 3 j) (hdp : 0 ≤ dp ∧ dp ≤ 4) : ∀ (k : Nat), k ≤ K → ∀ {i q n : Int} {l : z_L} {P : z_H} {cv : List Value}, P[aS]? = some (1, [.ref aT, ye_v len, ye_v q, ye_v lim, ye_v mo]) → P[aT]? = some (102, vs) → P[aF]? = some (8, [.ref aC, .ref aK, ye_v n]) → P[aC]? = some (103, cv) → cv.length = 40 → 0 ≤ q ∧ q ≤ lim → z_get l 0 = some (.ref aF) → z_get l 1 = some (.ref aS) → z_get l 2 = some (.ref sA) → z_get l 3 = some (ye_v dp) → z_get l 4 = some (ye_v i) → 0 ≤ i ∧ i + 1 ≤ q → 0 ≤ n ∧ n ≤ q → 4 * (lim - q) - 2 ≤ (k : Int) → 2 * k + 12 ≤ d → ye_oth [aS, aF, aC] P0 P → z_Rh (z_G xs) d 51 (ye_E xs d 51 (fun r P' => ∃ b n' cv', r = some (ye_v b) ∧ P'[aS]? = some (1, [.ref aT, ye_v len, ye_v (yg_r T lim L [42, 47] 2 k dp q).2, ye_v lim, ye_v mo]) ∧ P'[aF]? = some (8, [.ref aC, .ref aK, ye_v n']) ∧ P'[aC]? = some (103, cv') ∧ cv'.length = 40 ∧ ye_oth [aS, aF, aC] P0 P' ∧ n ≤ n' ∧ n' - n ≤ (yg_r T lim L [42, 47] 2 k dp q).2 - q ∧ ((b = 1 ∧ (yg_r T lim L [42, 47] 2 k dp q).1 = true) ∨ (b = 0 ∧ (yg_r T lim L [42, 47] 2 k dp q).1 = false)))) (15, l, [], P, 0, 0) := by
  intro k
  induction k with
  | zero =>
    intro hK i q n l P cv hS hT hF hC hcl hp h0 h1 h2 h3 h4 hi hn hk hd hP0
    have ylb := yl_bd (T := T) (lim := lim) (LL := [42, 47]) (r := q)
    exact yg_PN fS fT fF fC hx hbl hA hB hL hLl hLp hL4 hS hT hF hC hcl hp h0 h1 h2 h3 h4 hi (by omega) (by omega) hP0
  | succ k ih =>
    intro hK i q n l P cv hS hT hF hC hcl hp h0 h1 h2 h3 h4 hi hn hk hd hP0
    have ylb := yl_bd (T := T) (lim := lim) (LL := [42, 47]) (r := q)
    by_cases hq : yl T lim [42, 47] q = -1
    · exact yg_PN fS fT fF fC hx hbl hA hB hL hLl hLp hL4 hS hT hF hC hcl hp h0 h1 h2 h3 h4 hi hq (by omega) hP0
    · have eL : yg_r T lim L [42, 47] 2 (k + 1) dp q = (if (yf T lim L k 3 dp (q + 1)).1 = true then yg_r T lim L [42, 47] 2 k dp (yf T lim L k 3 dp (q + 1)).2 else (false, (yf T lim L k 3 dp (q + 1)).2)) := (if_pos hq).trans yf_2
      have bd := yf_bd (T := T) (L := L) (lim := lim) k 3 dp (q + 1) (by omega)
      rw [eL]
      refine yg_PI fS fT fF fC hx hbl hA hB hL hLl hLp hL4 (HH k (by omega)) hS hT hF hC hcl hp h0 h1 h2 h3 h4 hi hn hdp hq (by omega) (by omega) ?_ ?_
      · intro l P' n' cv' e1 g0 g1 g2 g3 g4 hS' hT' hF' hC' hl' ho' i1 i2
        rw [if_pos e1]
        have b3 := bd.2.2 e1
        refine yg_rh_mono (ih (by omega) hS' hT' hF' hC' hl' ⟨by omega, by omega⟩ g0 g1 g2 g3 g4 ⟨by omega, by omega⟩ ⟨by omega, by omega⟩ (by omega) (by omega) (ye_oth_tr hP0 ho' (fun _ q => q))) ?_
        rintro q' ⟨r, P2, k1, b, n2, cv2, k2, k3, k4, k5, k6, k7, k8, k9, k10⟩
        exact ⟨r, P2, k1, b, n2, cv2, k2, k3, k4, k5, k6, k7, by omega, by omega, k10⟩
      · intro P' n' cv' e1 hS' hF' hC' hl' ho' i1 i2
        rw [if_neg (by rw [e1]; decide)]
        exact ⟨0, n', cv', rfl, hS', hF', hC', hl', ye_oth_tr hP0 ho' (fun _ q => q), i1, i2, Or.inr ⟨rfl, rfl⟩⟩
theorem yg_prod (fS : aS < z_far) (fT : aT < z_far) (fF : aF < z_far) (fC : aC < z_far) (hx : ye_tx T len 0 255 vs) (hbl : lim ≤ len ∧ len ≤ 80 ∧ lim ≤ 40) (hA : ∀ P, z_lk (z_strs (z_G xs)) P sA = some (98, [.ref sB, ye_v 0])) (hB : ∀ P, z_lk (z_strs (z_G xs)) P sB = some (101, L.map ye_v)) (hL : ∀ a ∈ L, 0 ≤ a ∧ a < 128) (hLl : L.length ≤ 100) (hLp : 1 ≤ L.length) (hL4 : yi_fr L 40 0 = -1) (HH : ∀ j, j < K → yg_C xs aS aT aF aC aK sA T len lim mo L vs 52 3 j) : yg_C xs aS aT aF aC aK sA T len lim mo L vs 51 2 K := by
  intro d P p n dp cv hS hT hF hC hcl hp hn hdp hk hd
  obtain ⟨k, rfl⟩ : ∃ k, K = k + 1 := ⟨K - 1, by omega⟩
  have H1 := HH k (by omega)
  refine ye_go ?_
  have a0 : z_get (lv_args 0 [.ref aF, .ref aS, .ref sA, ye_v dp]) 0 = some (.ref aF) := rfl
  have a1 : z_get (lv_args 0 [.ref aF, .ref aS, .ref sA, ye_v dp]) 1 = some (.ref aS) := rfl
  have a2 : z_get (lv_args 0 [.ref aF, .ref aS, .ref sA, ye_v dp]) 2 = some (.ref sA) := rfl
  have a3 : z_get (lv_args 0 [.ref aF, .ref aS, .ref sA, ye_v dp]) 3 = some (ye_v dp) := rfl
  have ho0 : ye_oth [aS, aF, aC] P P := ye_oth_rf
  refine z_r_ld (kk := z_isA) (ins := (.aload_n 0)) (len := 1) (t := 1) (i := 0) rfl rfl rfl rfl rfl (fun _ => rfl) a0 rfl ?_
  refine z_r_ld (kk := z_isA) (ins := (.aload_n 1)) (len := 1) (t := 2) (i := 1) rfl rfl rfl rfl rfl (fun _ => rfl) a1 rfl ?_
  refine z_r_ld (kk := z_isA) (ins := (.aload_n 2)) (len := 1) (t := 3) (i := 2) rfl rfl rfl rfl rfl (fun _ => rfl) a2 rfl ?_
  refine z_r_ld (kk := z_isI) (ins := (.iload_n 3)) (len := 1) (t := 4) (i := 3) rfl rfl rfl rfl rfl (fun _ => rfl) a3 rfl ?_
  refine ye_ca (ins := (.invokevirtual 50)) (kd := 1) (t := 7) rfl rfl (by decide) (z_argsv rfl rfl rfl (by omega) (Nat.le_of_ble_eq_true rfl) rfl (Nat.le_of_ble_eq_true rfl) (Nat.le_refl _) (Nat.le_refl _) (Or.inr (Nat.le_of_ble_eq_true rfl)) (Or.inr (z_atv (z_lkn fF hF) rfl))) rfl rfl rfl (H1 _ _ _ _ _ _ hS hT hF hC hcl (by omega) (by omega) (by omega) (by omega) (by omega)) ?_
  rintro _ P_1 ⟨b_2, n_3, w_4, rfl, c_5, c_6, c_7, h_8, o_9, i_10, i_11, h_12⟩
  have d_13 := yf_bd (T := T) (L := L) (lim := lim) k 3 dp p (by omega)
  generalize er_14 : yf T lim L k 3 dp p = r_14 at c_5 i_11 h_12 d_13
  have c_15 := ye_kp o_9 (ye_nc (ye_ne hT hS (by decide)) (ye_nc (ye_ne hT hF (by decide)) (ye_n1 (ye_ne hT hC (by decide))))) hT
  have o_16 := ye_oth_tr ho0 o_9 ((fun b hb => by simp only [List.mem_cons, List.not_mem_nil, or_false] at hb ⊢; (repeat (rcases hb with h | hb; · simp [h])); simp [hb]))
  by_cases b_17 : b_2 ≠ 0
  · skip
    refine z_r_jm (ins := (.ifCond .ne 5)) (len := 3) (t := 12) rfl rfl rfl rfl (ye_iy (t := 12) rfl (by omega) (by omega) b_17) ?_
    refine z_r_pu (ins := (.iconst 0)) (len := 1) (t := 13) (st' := [ye_v 0]) rfl rfl rfl rfl rfl ?_
    refine z_r_is (kk := z_isI) (ins := (.istore 4)) (len := 2) (t := 15) (i := 4) rfl rfl rfl rfl rfl rfl rfl rfl (fun l l_18 k_19 => ?_)
    have l_20 := k_19 _ _ a0 (by decide) (Or.inl (by decide))
    have l_21 := k_19 _ _ a1 (by decide) (Or.inl (by decide))
    have l_22 := k_19 _ _ a2 (by decide) (Or.inl (by decide))
    have l_23 := k_19 _ _ a3 (by decide) (Or.inr (by show (1 : Nat) ≠ 2; decide))
    have q1 : r_14.1 = true := by
      rcases h_12 with ⟨g1, g2⟩ | ⟨g1, g2⟩
      · exact g2
      · exact absurd g1 (by omega)
    rw [yf_2, er_14, if_pos q1]
    have b3 := d_13.2.2 q1
    refine yg_rh_mono (yg_PL (P0 := P) fS fT fF fC hx hbl hA hB hL hLl hLp hL4 (K := k) (fun j hj => HH j (by omega)) hdp k (Nat.le_refl _) c_5 c_15 c_6 c_7 h_8 ⟨by omega, by omega⟩ l_20 l_21 l_22 l_23 l_18 ⟨Int.le_refl _, by omega⟩ ⟨by omega, by omega⟩ (by omega) (by omega) o_16) ?_
    rintro q' ⟨r, P2, k1, b, n2, cv2, k2, k3, k4, k5, k6, k7, k8, k9, k10⟩
    exact ⟨r, P2, k1, b, n2, cv2, k2, k3, k4, k5, k6, k7, by omega, by omega, k10⟩
  · skip
    refine z_r_jm (ins := (.ifCond .ne 5)) (len := 3) (t := 10) rfl rfl rfl rfl (ye_in (t := 12) rfl (by omega) (by omega) b_17) ?_
    refine z_r_pu (ins := (.iconst 0)) (len := 1) (t := 11) (st' := [ye_v 0]) rfl rfl rfl rfl rfl ?_
    refine ye_ret (ins := .ireturn) rfl rfl rfl (ye_retz rfl (by omega)) ?_
    have q1 : r_14.1 = false := by
      rcases h_12 with ⟨g1, g2⟩ | ⟨g1, g2⟩
      · exact absurd g1 (by omega)
      · exact g2
    rw [yf_2, er_14, if_neg (by rw [q1]; decide)]
    exact ⟨0, n_3, _, rfl, c_5, c_6, c_7, h_8, o_16, i_10, i_11, Or.inr ⟨rfl, rfl⟩⟩
theorem yg_SN {P0 : z_H} (fS : aS < z_far) (fT : aT < z_far) (fF : aF < z_far) (fC : aC < z_far) (hx : ye_tx T len 0 255 vs) (hbl : lim ≤ len ∧ len ≤ 80 ∧ lim ≤ 40) (hA : ∀ P, z_lk (z_strs (z_G xs)) P sA = some (98, [.ref sB, ye_v 0])) (hB : ∀ P, z_lk (z_strs (z_G xs)) P sB = some (101, L.map ye_v)) (hL : ∀ a ∈ L, 0 ≤ a ∧ a < 128) (hLl : L.length ≤ 100) (hLp : 1 ≤ L.length) (hL4 : yi_fr L 40 0 = -1)
    (hS : P[aS]? = some (1, [.ref aT, ye_v len, ye_v q, ye_v lim, ye_v mo])) (hT : P[aT]? = some (102, vs)) (hF : P[aF]? = some (8, [.ref aC, .ref aK, ye_v n])) (hC : P[aC]? = some (103, cv)) (hcl : cv.length = 40) (hp : 0 ≤ q ∧ q ≤ lim)
    (h0 : z_get l 0 = some (.ref aF)) (h1 : z_get l 1 = some (.ref aS)) (h2 : z_get l 2 = some (.ref sA)) (h3 : z_get l 3 = some (ye_v dp)) (h4 : z_get l 4 = some (ye_v i)) (hi : 0 ≤ i ∧ i + 1 ≤ q) (hq : yl T lim [43, 45] q = -1) (hd : 5 ≤ d) (hP0 : ye_oth [aS, aF, aC] P0 P) : z_Rh (z_G xs) d 50 (ye_E xs d 50 (fun r P' => ∃ b n' cv', r = some (ye_v b) ∧ P'[aS]? = some (1, [.ref aT, ye_v len, ye_v (yg_r T lim L [43, 45] 1 k dp q).2, ye_v lim, ye_v mo]) ∧ P'[aF]? = some (8, [.ref aC, .ref aK, ye_v n']) ∧ P'[aC]? = some (103, cv') ∧ cv'.length = 40 ∧ ye_oth [aS, aF, aC] P0 P' ∧ n ≤ n' ∧ n' - n ≤ (yg_r T lim L [43, 45] 1 k dp q).2 - q ∧ ((b = 1 ∧ (yg_r T lim L [43, 45] 1 k dp q).1 = true) ∨ (b = 0 ∧ (yg_r T lim L [43, 45] 1 k dp q).1 = false)))) (15, l, [], P, 0, 0) := by
  have ho0 : ye_oth [aS, aF, aC] P P := ye_oth_rf
  refine z_r_ld (kk := z_isI) (ins := (.iload 4)) (len := 2) (t := 17) (i := 4) rfl rfl rfl rfl rfl (fun _ => rfl) h4 rfl ?_
  refine z_r_pu (ins := (.bipush 40)) (len := 2) (t := 19) rfl rfl rfl rfl (ye_bi (by decide) (by decide)) ?_
  refine z_r_jm (ins := (.if_icmp .ge 50)) (len := 3) (t := 22) rfl rfl rfl rfl (ye_jn (t := 69) rfl (by omega) (by omega) (by omega) (by omega) (by show ¬ (40 ≤ i); omega)) ?_
  refine z_r_ld (kk := z_isA) (ins := (.aload_n 1)) (len := 1) (t := 23) (i := 1) rfl rfl rfl rfl rfl (fun _ => rfl) h1 rfl ?_
  refine z_r_cs (ins := (.ldc 48)) (len := 2) (t := 25) (v := .ref (z_far + 8)) rfl rfl rfl rfl rfl rfl ?_
  refine ye_ca (ins := (.invokevirtual 37)) (kd := 1) (t := 28) rfl rfl (by decide) (z_argsv rfl rfl rfl (by omega) (Nat.le_of_ble_eq_true rfl) rfl (Nat.le_of_ble_eq_true rfl) (Nat.le_refl _) (Nat.le_refl _) (Or.inr (Nat.le_of_ble_eq_true rfl)) (Or.inr (z_atv (z_lkn fS hS) rfl))) rfl rfl rfl (ye_take1 (L := [43, 45]) hS fS hT fT hx (by omega) yg_lk8 yg_lk9 (by decide) (by decide) (by decide) (by omega)) ?_
  rintro _ P_3 ⟨k_1, p_2, rfl, c_4, o_5, h_6, h_7⟩
  change k_1 = yl T lim [43, 45] q at h_6
  have yb_k_1 := yl_bd (T := T) (lim := lim) (LL := [43, 45]) (r := q)
  rw [show ([43, 45] : List Int).length = 2 from rfl] at h_7
  have c_8 := ye_kp o_5 (ye_n1 (ye_ne hC hS (by decide))) hC
  have c_9 := ye_kp o_5 (ye_n1 (ye_ne hF hS (by decide))) hF
  have c_10 := ye_kp o_5 (ye_n1 (ye_ne hT hS (by decide))) hT
  have o_11 := ye_oth_tr ho0 o_5 (ye_s1 (List.mem_cons_self))
  refine z_r_is (kk := z_isI) (ins := (.istore 5)) (len := 2) (t := 30) (i := 5) rfl rfl rfl rfl rfl rfl rfl rfl (fun l l_12 k_13 => ?_)
  have l_14 := k_13 _ _ h0 (by decide) (Or.inl (by decide))
  have l_15 := k_13 _ _ h1 (by decide) (Or.inl (by decide))
  have l_16 := k_13 _ _ h2 (by decide) (Or.inl (by decide))
  have l_17 := k_13 _ _ h3 (by decide) (Or.inl (by decide))
  have l_18 := k_13 _ _ h4 (by decide) (Or.inr (by show (1 : Nat) ≠ 2; decide))
  refine z_r_ld (kk := z_isI) (ins := (.iload 5)) (len := 2) (t := 32) (i := 5) rfl rfl rfl rfl rfl (fun _ => rfl) l_12 rfl ?_
  refine z_r_pu (ins := (.iconst (-1))) (len := 1) (t := 33) (st' := [ye_v ((-1)), ye_v k_1]) rfl rfl rfl rfl rfl ?_
  refine z_r_jm (ins := (.if_icmp .ne 5)) (len := 3) (t := 36) rfl rfl rfl rfl (ye_jn (t := 38) rfl (by omega) (by omega) (by omega) (by omega) (by show ¬ (k_1 ≠ (-1)); omega)) ?_
  refine z_r_pu (ins := (.iconst 1)) (len := 1) (t := 37) (st' := [ye_v 1]) rfl rfl rfl rfl rfl ?_
  refine ye_ret (ins := .ireturn) rfl rfl rfl (ye_retz rfl (by omega)) ?_
  have eL : yg_r T lim L [43, 45] 1 k dp q = (true, q) := if_neg (by omega)
  rw [eL]
  have ep : p_2 = q := by omega
  rw [ep] at c_4
  exact ⟨1, n, _, rfl, c_4, c_9, c_8, hcl, ye_oth_tr hP0 o_11 (fun _ q => q), Int.le_refl _, by show n - n ≤ q - q; omega, Or.inl ⟨rfl, rfl⟩⟩
theorem yg_SI {R : Option Value → z_H → Prop} (fS : aS < z_far) (fT : aT < z_far) (fF : aF < z_far) (fC : aC < z_far) (hx : ye_tx T len 0 255 vs) (hbl : lim ≤ len ∧ len ≤ 80 ∧ lim ≤ 40) (hA : ∀ P, z_lk (z_strs (z_G xs)) P sA = some (98, [.ref sB, ye_v 0])) (hB : ∀ P, z_lk (z_strs (z_G xs)) P sB = some (101, L.map ye_v)) (hL : ∀ a ∈ L, 0 ≤ a ∧ a < 128) (hLl : L.length ≤ 100) (hLp : 1 ≤ L.length) (hL4 : yi_fr L 40 0 = -1)
    (H1 : yg_C xs aS aT aF aC aK sA T len lim mo L vs 51 2 k)
    (hS : P[aS]? = some (1, [.ref aT, ye_v len, ye_v q, ye_v lim, ye_v mo])) (hT : P[aT]? = some (102, vs)) (hF : P[aF]? = some (8, [.ref aC, .ref aK, ye_v n])) (hC : P[aC]? = some (103, cv)) (hcl : cv.length = 40) (hp : 0 ≤ q ∧ q ≤ lim)
    (h0 : z_get l 0 = some (.ref aF)) (h1 : z_get l 1 = some (.ref aS)) (h2 : z_get l 2 = some (.ref sA)) (h3 : z_get l 3 = some (ye_v dp)) (h4 : z_get l 4 = some (ye_v i)) (hi : 0 ≤ i ∧ i + 1 ≤ q) (hn : 0 ≤ n ∧ n ≤ q) (hdp : 0 ≤ dp ∧ dp ≤ 4) (hq : yl T lim [43, 45] q ≠ -1) (hk : 4 * (lim - q) - 1 ≤ (k : Int) + 1) (hd : 2 * k + 13 ≤ d)
    (kg : ∀ l P' n' cv', (yf T lim L k 2 dp (q + 1)).1 = true → z_get l 0 = some (.ref aF) → z_get l 1 = some (.ref aS) → z_get l 2 = some (.ref sA) → z_get l 3 = some (ye_v dp) → z_get l 4 = some (ye_v (i + 1)) → P'[aS]? = some (1, [.ref aT, ye_v len, ye_v (yf T lim L k 2 dp (q + 1)).2, ye_v lim, ye_v mo]) → P'[aT]? = some (102, vs) → P'[aF]? = some (8, [.ref aC, .ref aK, ye_v n']) → P'[aC]? = some (103, cv') → cv'.length = 40 → ye_oth [aS, aF, aC] P P' → n ≤ n' → n' - n ≤ (yf T lim L k 2 dp (q + 1)).2 - q → z_Rh (z_G xs) d 50 (ye_E xs d 50 R) (15, l, [], P', 0, 0))
    (kw : ∀ P' n' cv', (yf T lim L k 2 dp (q + 1)).1 = false → P'[aS]? = some (1, [.ref aT, ye_v len, ye_v (yf T lim L k 2 dp (q + 1)).2, ye_v lim, ye_v mo]) → P'[aF]? = some (8, [.ref aC, .ref aK, ye_v n']) → P'[aC]? = some (103, cv') → cv'.length = 40 → ye_oth [aS, aF, aC] P P' → n ≤ n' → n' - n ≤ (yf T lim L k 2 dp (q + 1)).2 - q → R (some (ye_v 0)) P') : z_Rh (z_G xs) d 50 (ye_E xs d 50 R) (15, l, [], P, 0, 0) := by
  have ho0 : ye_oth [aS, aF, aC] P P := ye_oth_rf
  have ylb := yl_bd (T := T) (lim := lim) (LL := [43, 45]) (r := q)
  refine z_r_ld (kk := z_isI) (ins := (.iload 4)) (len := 2) (t := 17) (i := 4) rfl rfl rfl rfl rfl (fun _ => rfl) h4 rfl ?_
  refine z_r_pu (ins := (.bipush 40)) (len := 2) (t := 19) rfl rfl rfl rfl (ye_bi (by decide) (by decide)) ?_
  refine z_r_jm (ins := (.if_icmp .ge 50)) (len := 3) (t := 22) rfl rfl rfl rfl (ye_jn (t := 69) rfl (by omega) (by omega) (by omega) (by omega) (by show ¬ (40 ≤ i); omega)) ?_
  refine z_r_ld (kk := z_isA) (ins := (.aload_n 1)) (len := 1) (t := 23) (i := 1) rfl rfl rfl rfl rfl (fun _ => rfl) h1 rfl ?_
  refine z_r_cs (ins := (.ldc 48)) (len := 2) (t := 25) (v := .ref (z_far + 8)) rfl rfl rfl rfl rfl rfl ?_
  refine ye_ca (ins := (.invokevirtual 37)) (kd := 1) (t := 28) rfl rfl (by decide) (z_argsv rfl rfl rfl (by omega) (Nat.le_of_ble_eq_true rfl) rfl (Nat.le_of_ble_eq_true rfl) (Nat.le_refl _) (Nat.le_refl _) (Or.inr (Nat.le_of_ble_eq_true rfl)) (Or.inr (z_atv (z_lkn fS hS) rfl))) rfl rfl rfl (ye_take1 (L := [43, 45]) hS fS hT fT hx (by omega) yg_lk8 yg_lk9 (by decide) (by decide) (by decide) (by omega)) ?_
  rintro _ P_3 ⟨k_1, p_2, rfl, c_4, o_5, h_6, h_7⟩
  change k_1 = yl T lim [43, 45] q at h_6
  have yb_k_1 := yl_bd (T := T) (lim := lim) (LL := [43, 45]) (r := q)
  rw [show ([43, 45] : List Int).length = 2 from rfl] at h_7
  have c_8 := ye_kp o_5 (ye_n1 (ye_ne hC hS (by decide))) hC
  have c_9 := ye_kp o_5 (ye_n1 (ye_ne hF hS (by decide))) hF
  have c_10 := ye_kp o_5 (ye_n1 (ye_ne hT hS (by decide))) hT
  have o_11 := ye_oth_tr ho0 o_5 (ye_s1 (List.mem_cons_self))
  refine z_r_is (kk := z_isI) (ins := (.istore 5)) (len := 2) (t := 30) (i := 5) rfl rfl rfl rfl rfl rfl rfl rfl (fun l l_12 k_13 => ?_)
  have l_14 := k_13 _ _ h0 (by decide) (Or.inl (by decide))
  have l_15 := k_13 _ _ h1 (by decide) (Or.inl (by decide))
  have l_16 := k_13 _ _ h2 (by decide) (Or.inl (by decide))
  have l_17 := k_13 _ _ h3 (by decide) (Or.inl (by decide))
  have l_18 := k_13 _ _ h4 (by decide) (Or.inr (by show (1 : Nat) ≠ 2; decide))
  refine z_r_ld (kk := z_isI) (ins := (.iload 5)) (len := 2) (t := 32) (i := 5) rfl rfl rfl rfl rfl (fun _ => rfl) l_12 rfl ?_
  refine z_r_pu (ins := (.iconst (-1))) (len := 1) (t := 33) (st' := [ye_v ((-1)), ye_v k_1]) rfl rfl rfl rfl rfl ?_
  refine z_r_jm (ins := (.if_icmp .ne 5)) (len := 3) (t := 38) rfl rfl rfl rfl (ye_jy (t := 38) rfl (by omega) (by omega) (by omega) (by omega) (by show k_1 ≠ (-1); omega)) ?_
  refine z_r_ld (kk := z_isA) (ins := (.aload_n 0)) (len := 1) (t := 39) (i := 0) rfl rfl rfl rfl rfl (fun _ => rfl) l_14 rfl ?_
  refine z_r_ld (kk := z_isA) (ins := (.aload_n 1)) (len := 1) (t := 40) (i := 1) rfl rfl rfl rfl rfl (fun _ => rfl) l_15 rfl ?_
  refine z_r_ld (kk := z_isA) (ins := (.aload_n 2)) (len := 1) (t := 41) (i := 2) rfl rfl rfl rfl rfl (fun _ => rfl) l_16 rfl ?_
  refine z_r_ld (kk := z_isI) (ins := (.iload_n 3)) (len := 1) (t := 42) (i := 3) rfl rfl rfl rfl rfl (fun _ => rfl) l_17 rfl ?_
  refine ye_ca (ins := (.invokevirtual 45)) (kd := 1) (t := 45) rfl rfl (by decide) (z_argsv rfl rfl rfl (by omega) (Nat.le_of_ble_eq_true rfl) rfl (Nat.le_of_ble_eq_true rfl) (Nat.le_refl _) (Nat.le_refl _) (Or.inr (Nat.le_of_ble_eq_true rfl)) (Or.inr (z_atv (z_lkn fF c_9) rfl))) rfl rfl rfl (H1 _ _ _ _ _ _ c_4 c_10 c_9 c_8 hcl (by omega) (by omega) (by omega) (by omega) (by omega)) ?_
  rintro _ P_19 ⟨b_20, n_21, w_22, rfl, c_23, c_24, c_25, h_26, o_27, i_28, i_29, h_30⟩
  have d_31 := yf_bd (T := T) (L := L) (lim := lim) k 2 dp p_2 (by omega)
  generalize er_32 : yf T lim L k 2 dp p_2 = r_32 at c_23 i_29 h_30 d_31
  have c_33 := ye_kp o_27 (ye_nc (ye_ne c_10 c_4 (by decide)) (ye_nc (ye_ne c_10 c_9 (by decide)) (ye_n1 (ye_ne c_10 c_8 (by decide))))) c_10
  have o_34 := ye_oth_tr o_11 o_27 ((fun b hb => by simp only [List.mem_cons, List.not_mem_nil, or_false] at hb ⊢; (repeat (rcases hb with h | hb; · simp [h])); simp [hb]))
  by_cases b_35 : b_20 = 0
  · skip
    refine z_r_jm (ins := (.ifCond .eq 16)) (len := 3) (t := 61) rfl rfl rfl rfl (ye_iy (t := 61) rfl (by omega) (by omega) b_35) ?_
    refine z_r_pu (ins := (.iconst 0)) (len := 1) (t := 62) (st' := [ye_v 0]) rfl rfl rfl rfl rfl ?_
    refine ye_ret (ins := .ireturn) rfl rfl rfl (ye_retz rfl (by omega)) ?_
    have eq0 : yf T lim L k 2 dp (q + 1) = r_32 := by rw [← er_32, show q + 1 = p_2 by omega]
    have q1 : r_32.1 = false := by
      rcases h_30 with ⟨g1, g2⟩ | ⟨g1, g2⟩
      · exact absurd g1 (by omega)
      · exact g2
    exact kw _ _ _ (by rw [eq0]; exact q1) (by rw [eq0]; exact c_23) c_24 c_25 h_26 o_34 i_28 (by rw [eq0]; omega)
  · skip
    refine z_r_jm (ins := (.ifCond .eq 16)) (len := 3) (t := 48) rfl rfl rfl rfl (ye_in (t := 61) rfl (by omega) (by omega) b_35) ?_
    refine z_r_ld (kk := z_isA) (ins := (.aload_n 0)) (len := 1) (t := 49) (i := 0) rfl rfl rfl rfl rfl (fun _ => rfl) l_14 rfl ?_
    refine z_r_pu (ins := (.sipush 2003)) (len := 3) (t := 52) rfl rfl rfl rfl (ye_si (by decide) (by decide)) ?_
    refine z_r_ld (kk := z_isI) (ins := (.iload 5)) (len := 2) (t := 54) (i := 5) rfl rfl rfl rfl rfl (fun _ => rfl) l_12 rfl ?_
    refine z_r_pu (ins := .iadd) (len := 1) (t := 55) rfl rfl rfl rfl ye_add ?_
    refine ye_ca (ins := (.invokevirtual 41)) (kd := 1) (t := 58) rfl rfl (by decide) (z_argsv rfl rfl rfl (by omega) (Nat.le_of_ble_eq_true rfl) rfl (Nat.le_of_ble_eq_true rfl) (Nat.le_refl _) (Nat.le_refl _) (Or.inr (Nat.le_of_ble_eq_true rfl)) (Or.inr (z_atv (z_lkn fF c_24) rfl))) rfl rfl rfl (yg_app c_24 fF c_25 fC h_26 (by omega) (by omega)) ?_
    rintro _ P_36 ⟨rfl, c_37, ⟨w_38, c_39, h_40⟩, o_41⟩
    have c_42 := ye_kp o_41 (ye_nc (ye_ne c_23 c_24 (by decide)) (ye_n1 (ye_ne c_23 c_25 (by decide)))) c_23
    have c_43 := ye_kp o_41 (ye_nc (ye_ne c_33 c_24 (by decide)) (ye_n1 (ye_ne c_33 c_25 (by decide)))) c_33
    have o_44 := ye_oth_tr o_34 o_41 (ye_s2 (List.mem_cons_of_mem _ (List.mem_cons_self)) (List.mem_cons_of_mem _ (List.mem_cons_of_mem _ (List.mem_cons_self))))
    refine z_r_jm (ins := (.ifCond .ne 5)) (len := 3) (t := 63) rfl rfl rfl rfl (ye_iy (t := 63) rfl (by omega) (by omega) (by show (1 : Int) ≠ 0; decide)) ?_
    refine ye_ic (ins := (.iinc 4 1)) (len := 3) (t := 66) (i := 4) (a := i) (kk := 1) rfl rfl rfl rfl rfl rfl l_18 (fun l l_45 k_46 => ?_)
    have l_47 := k_46 _ _ l_14 (by decide) (Or.inl (by decide))
    have l_48 := k_46 _ _ l_15 (by decide) (Or.inl (by decide))
    have l_49 := k_46 _ _ l_16 (by decide) (Or.inl (by decide))
    have l_50 := k_46 _ _ l_17 (by decide) (Or.inr (by show (1 : Nat) ≠ 2; decide))
    have l_51 := k_46 _ _ l_12 (by decide) (Or.inl (by decide))
    refine z_r_jm (ins := (.goto (-51))) (len := 3) (t := 15) rfl rfl rfl rfl (z_gty rfl) ?_
    have eq0 : yf T lim L k 2 dp (q + 1) = r_32 := by rw [← er_32, show q + 1 = p_2 by omega]
    have q1 : r_32.1 = true := by
      rcases h_30 with ⟨g1, g2⟩ | ⟨g1, g2⟩
      · exact g2
      · exact absurd g1 (by omega)
    exact kg _ _ (n_21 + 1) _ (by rw [eq0]; exact q1) l_47 l_48 l_49 l_50 l_45 (by rw [eq0]; exact c_42) c_43 c_37 c_39 h_40 o_44 (by omega) (by rw [eq0]; omega)
theorem yg_SL {P0 : z_H} (fS : aS < z_far) (fT : aT < z_far) (fF : aF < z_far) (fC : aC < z_far) (hx : ye_tx T len 0 255 vs) (hbl : lim ≤ len ∧ len ≤ 80 ∧ lim ≤ 40) (hA : ∀ P, z_lk (z_strs (z_G xs)) P sA = some (98, [.ref sB, ye_v 0])) (hB : ∀ P, z_lk (z_strs (z_G xs)) P sB = some (101, L.map ye_v)) (hL : ∀ a ∈ L, 0 ≤ a ∧ a < 128) (hLl : L.length ≤ 100) (hLp : 1 ≤ L.length) (hL4 : yi_fr L 40 0 = -1) (HH : ∀ j, j < K → yg_C xs aS aT aF aC aK sA T len lim mo L vs 51 2 j) (hdp : 0 ≤ dp ∧ dp ≤ 4) : ∀ (k : Nat), k ≤ K → ∀ {i q n : Int} {l : z_L} {P : z_H} {cv : List Value}, P[aS]? = some (1, [.ref aT, ye_v len, ye_v q, ye_v lim, ye_v mo]) → P[aT]? = some (102, vs) → P[aF]? = some (8, [.ref aC, .ref aK, ye_v n]) → P[aC]? = some (103, cv) → cv.length = 40 → 0 ≤ q ∧ q ≤ lim → z_get l 0 = some (.ref aF) → z_get l 1 = some (.ref aS) → z_get l 2 = some (.ref sA) → z_get l 3 = some (ye_v dp) → z_get l 4 = some (ye_v i) → 0 ≤ i ∧ i + 1 ≤ q → 0 ≤ n ∧ n ≤ q → 4 * (lim - q) - 1 ≤ (k : Int) → 2 * k + 12 ≤ d → ye_oth [aS, aF, aC] P0 P → z_Rh (z_G xs) d 50 (ye_E xs d 50 (fun r P' => ∃ b n' cv', r = some (ye_v b) ∧ P'[aS]? = some (1, [.ref aT, ye_v len, ye_v (yg_r T lim L [43, 45] 1 k dp q).2, ye_v lim, ye_v mo]) ∧ P'[aF]? = some (8, [.ref aC, .ref aK, ye_v n']) ∧ P'[aC]? = some (103, cv') ∧ cv'.length = 40 ∧ ye_oth [aS, aF, aC] P0 P' ∧ n ≤ n' ∧ n' - n ≤ (yg_r T lim L [43, 45] 1 k dp q).2 - q ∧ ((b = 1 ∧ (yg_r T lim L [43, 45] 1 k dp q).1 = true) ∨ (b = 0 ∧ (yg_r T lim L [43, 45] 1 k dp q).1 = false)))) (15, l, [], P, 0, 0) := by
  intro k
  induction k with
  | zero =>
    intro hK i q n l P cv hS hT hF hC hcl hp h0 h1 h2 h3 h4 hi hn hk hd hP0
    have ylb := yl_bd (T := T) (lim := lim) (LL := [43, 45]) (r := q)
    exact yg_SN fS fT fF fC hx hbl hA hB hL hLl hLp hL4 hS hT hF hC hcl hp h0 h1 h2 h3 h4 hi (by omega) (by omega) hP0
  | succ k ih =>
    intro hK i q n l P cv hS hT hF hC hcl hp h0 h1 h2 h3 h4 hi hn hk hd hP0
    have ylb := yl_bd (T := T) (lim := lim) (LL := [43, 45]) (r := q)
    by_cases hq : yl T lim [43, 45] q = -1
    · exact yg_SN fS fT fF fC hx hbl hA hB hL hLl hLp hL4 hS hT hF hC hcl hp h0 h1 h2 h3 h4 hi hq (by omega) hP0
    · have eL : yg_r T lim L [43, 45] 1 (k + 1) dp q = (if (yf T lim L k 2 dp (q + 1)).1 = true then yg_r T lim L [43, 45] 1 k dp (yf T lim L k 2 dp (q + 1)).2 else (false, (yf T lim L k 2 dp (q + 1)).2)) := (if_pos hq).trans yf_1
      have bd := yf_bd (T := T) (L := L) (lim := lim) k 2 dp (q + 1) (by omega)
      rw [eL]
      refine yg_SI fS fT fF fC hx hbl hA hB hL hLl hLp hL4 (HH k (by omega)) hS hT hF hC hcl hp h0 h1 h2 h3 h4 hi hn hdp hq (by omega) (by omega) ?_ ?_
      · intro l P' n' cv' e1 g0 g1 g2 g3 g4 hS' hT' hF' hC' hl' ho' i1 i2
        rw [if_pos e1]
        have b3 := bd.2.2 e1
        refine yg_rh_mono (ih (by omega) hS' hT' hF' hC' hl' ⟨by omega, by omega⟩ g0 g1 g2 g3 g4 ⟨by omega, by omega⟩ ⟨by omega, by omega⟩ (by omega) (by omega) (ye_oth_tr hP0 ho' (fun _ q => q))) ?_
        rintro q' ⟨r, P2, k1, b, n2, cv2, k2, k3, k4, k5, k6, k7, k8, k9, k10⟩
        exact ⟨r, P2, k1, b, n2, cv2, k2, k3, k4, k5, k6, k7, by omega, by omega, k10⟩
      · intro P' n' cv' e1 hS' hF' hC' hl' ho' i1 i2
        rw [if_neg (by rw [e1]; decide)]
        exact ⟨0, n', cv', rfl, hS', hF', hC', hl', ye_oth_tr hP0 ho' (fun _ q => q), i1, i2, Or.inr ⟨rfl, rfl⟩⟩
theorem yg_sum (fS : aS < z_far) (fT : aT < z_far) (fF : aF < z_far) (fC : aC < z_far) (hx : ye_tx T len 0 255 vs) (hbl : lim ≤ len ∧ len ≤ 80 ∧ lim ≤ 40) (hA : ∀ P, z_lk (z_strs (z_G xs)) P sA = some (98, [.ref sB, ye_v 0])) (hB : ∀ P, z_lk (z_strs (z_G xs)) P sB = some (101, L.map ye_v)) (hL : ∀ a ∈ L, 0 ≤ a ∧ a < 128) (hLl : L.length ≤ 100) (hLp : 1 ≤ L.length) (hL4 : yi_fr L 40 0 = -1) (HH : ∀ j, j < K → yg_C xs aS aT aF aC aK sA T len lim mo L vs 51 2 j) : yg_C xs aS aT aF aC aK sA T len lim mo L vs 50 1 K := by
  intro d P p n dp cv hS hT hF hC hcl hp hn hdp hk hd
  obtain ⟨k, rfl⟩ : ∃ k, K = k + 1 := ⟨K - 1, by omega⟩
  have H1 := HH k (by omega)
  refine ye_go ?_
  have a0 : z_get (lv_args 0 [.ref aF, .ref aS, .ref sA, ye_v dp]) 0 = some (.ref aF) := rfl
  have a1 : z_get (lv_args 0 [.ref aF, .ref aS, .ref sA, ye_v dp]) 1 = some (.ref aS) := rfl
  have a2 : z_get (lv_args 0 [.ref aF, .ref aS, .ref sA, ye_v dp]) 2 = some (.ref sA) := rfl
  have a3 : z_get (lv_args 0 [.ref aF, .ref aS, .ref sA, ye_v dp]) 3 = some (ye_v dp) := rfl
  have ho0 : ye_oth [aS, aF, aC] P P := ye_oth_rf
  refine z_r_ld (kk := z_isA) (ins := (.aload_n 0)) (len := 1) (t := 1) (i := 0) rfl rfl rfl rfl rfl (fun _ => rfl) a0 rfl ?_
  refine z_r_ld (kk := z_isA) (ins := (.aload_n 1)) (len := 1) (t := 2) (i := 1) rfl rfl rfl rfl rfl (fun _ => rfl) a1 rfl ?_
  refine z_r_ld (kk := z_isA) (ins := (.aload_n 2)) (len := 1) (t := 3) (i := 2) rfl rfl rfl rfl rfl (fun _ => rfl) a2 rfl ?_
  refine z_r_ld (kk := z_isI) (ins := (.iload_n 3)) (len := 1) (t := 4) (i := 3) rfl rfl rfl rfl rfl (fun _ => rfl) a3 rfl ?_
  refine ye_ca (ins := (.invokevirtual 45)) (kd := 1) (t := 7) rfl rfl (by decide) (z_argsv rfl rfl rfl (by omega) (Nat.le_of_ble_eq_true rfl) rfl (Nat.le_of_ble_eq_true rfl) (Nat.le_refl _) (Nat.le_refl _) (Or.inr (Nat.le_of_ble_eq_true rfl)) (Or.inr (z_atv (z_lkn fF hF) rfl))) rfl rfl rfl (H1 _ _ _ _ _ _ hS hT hF hC hcl (by omega) (by omega) (by omega) (by omega) (by omega)) ?_
  rintro _ P_1 ⟨b_2, n_3, w_4, rfl, c_5, c_6, c_7, h_8, o_9, i_10, i_11, h_12⟩
  have d_13 := yf_bd (T := T) (L := L) (lim := lim) k 2 dp p (by omega)
  generalize er_14 : yf T lim L k 2 dp p = r_14 at c_5 i_11 h_12 d_13
  have c_15 := ye_kp o_9 (ye_nc (ye_ne hT hS (by decide)) (ye_nc (ye_ne hT hF (by decide)) (ye_n1 (ye_ne hT hC (by decide))))) hT
  have o_16 := ye_oth_tr ho0 o_9 ((fun b hb => by simp only [List.mem_cons, List.not_mem_nil, or_false] at hb ⊢; (repeat (rcases hb with h | hb; · simp [h])); simp [hb]))
  by_cases b_17 : b_2 ≠ 0
  · skip
    refine z_r_jm (ins := (.ifCond .ne 5)) (len := 3) (t := 12) rfl rfl rfl rfl (ye_iy (t := 12) rfl (by omega) (by omega) b_17) ?_
    refine z_r_pu (ins := (.iconst 0)) (len := 1) (t := 13) (st' := [ye_v 0]) rfl rfl rfl rfl rfl ?_
    refine z_r_is (kk := z_isI) (ins := (.istore 4)) (len := 2) (t := 15) (i := 4) rfl rfl rfl rfl rfl rfl rfl rfl (fun l l_18 k_19 => ?_)
    have l_20 := k_19 _ _ a0 (by decide) (Or.inl (by decide))
    have l_21 := k_19 _ _ a1 (by decide) (Or.inl (by decide))
    have l_22 := k_19 _ _ a2 (by decide) (Or.inl (by decide))
    have l_23 := k_19 _ _ a3 (by decide) (Or.inr (by show (1 : Nat) ≠ 2; decide))
    have q1 : r_14.1 = true := by
      rcases h_12 with ⟨g1, g2⟩ | ⟨g1, g2⟩
      · exact g2
      · exact absurd g1 (by omega)
    rw [yf_1, er_14, if_pos q1]
    have b3 := d_13.2.2 q1
    refine yg_rh_mono (yg_SL (P0 := P) fS fT fF fC hx hbl hA hB hL hLl hLp hL4 (K := k) (fun j hj => HH j (by omega)) hdp k (Nat.le_refl _) c_5 c_15 c_6 c_7 h_8 ⟨by omega, by omega⟩ l_20 l_21 l_22 l_23 l_18 ⟨Int.le_refl _, by omega⟩ ⟨by omega, by omega⟩ (by omega) (by omega) o_16) ?_
    rintro q' ⟨r, P2, k1, b, n2, cv2, k2, k3, k4, k5, k6, k7, k8, k9, k10⟩
    exact ⟨r, P2, k1, b, n2, cv2, k2, k3, k4, k5, k6, k7, by omega, by omega, k10⟩
  · skip
    refine z_r_jm (ins := (.ifCond .ne 5)) (len := 3) (t := 10) rfl rfl rfl rfl (ye_in (t := 12) rfl (by omega) (by omega) b_17) ?_
    refine z_r_pu (ins := (.iconst 0)) (len := 1) (t := 11) (st' := [ye_v 0]) rfl rfl rfl rfl rfl ?_
    refine ye_ret (ins := .ireturn) rfl rfl rfl (ye_retz rfl (by omega)) ?_
    have q1 : r_14.1 = false := by
      rcases h_12 with ⟨g1, g2⟩ | ⟨g1, g2⟩
      · exact absurd g1 (by omega)
      · exact g2
    rw [yf_1, er_14, if_neg (by rw [q1]; decide)]
    exact ⟨0, n_3, _, rfl, c_5, c_6, c_7, h_8, o_16, i_10, i_11, Or.inr ⟨rfl, rfl⟩⟩
theorem yg_cmp (fS : aS < z_far) (fT : aT < z_far) (fF : aF < z_far) (fC : aC < z_far) (hx : ye_tx T len 0 255 vs) (hbl : lim ≤ len ∧ len ≤ 80 ∧ lim ≤ 40) (hA : ∀ P, z_lk (z_strs (z_G xs)) P sA = some (98, [.ref sB, ye_v 0])) (hB : ∀ P, z_lk (z_strs (z_G xs)) P sB = some (101, L.map ye_v)) (hL : ∀ a ∈ L, 0 ≤ a ∧ a < 128) (hLl : L.length ≤ 100) (hLp : 1 ≤ L.length) (hL4 : yi_fr L 40 0 = -1) (HH : ∀ j, j < K → yg_C xs aS aT aF aC aK sA T len lim mo L vs 50 1 j) : yg_C xs aS aT aF aC aK sA T len lim mo L vs 49 0 K := by
  intro d P p n dp cv hS hT hF hC hcl hp hn hdp hk hd
  obtain ⟨k, rfl⟩ : ∃ k, K = k + 1 := ⟨K - 1, by omega⟩
  have H1 := HH k (by omega)
  refine ye_go ?_
  have a0 : z_get (lv_args 0 [.ref aF, .ref aS, .ref sA, ye_v dp]) 0 = some (.ref aF) := rfl
  have a1 : z_get (lv_args 0 [.ref aF, .ref aS, .ref sA, ye_v dp]) 1 = some (.ref aS) := rfl
  have a2 : z_get (lv_args 0 [.ref aF, .ref aS, .ref sA, ye_v dp]) 2 = some (.ref sA) := rfl
  have a3 : z_get (lv_args 0 [.ref aF, .ref aS, .ref sA, ye_v dp]) 3 = some (ye_v dp) := rfl
  have ho0 : ye_oth [aS, aF, aC] P P := ye_oth_rf
  refine z_r_ld (kk := z_isA) (ins := (.aload_n 0)) (len := 1) (t := 1) (i := 0) rfl rfl rfl rfl rfl (fun _ => rfl) a0 rfl ?_
  refine z_r_ld (kk := z_isA) (ins := (.aload_n 1)) (len := 1) (t := 2) (i := 1) rfl rfl rfl rfl rfl (fun _ => rfl) a1 rfl ?_
  refine z_r_ld (kk := z_isA) (ins := (.aload_n 2)) (len := 1) (t := 3) (i := 2) rfl rfl rfl rfl rfl (fun _ => rfl) a2 rfl ?_
  refine z_r_ld (kk := z_isI) (ins := (.iload_n 3)) (len := 1) (t := 4) (i := 3) rfl rfl rfl rfl rfl (fun _ => rfl) a3 rfl ?_
  refine ye_ca (ins := (.invokevirtual 32)) (kd := 1) (t := 7) rfl rfl (by decide) (z_argsv rfl rfl rfl (by omega) (Nat.le_of_ble_eq_true rfl) rfl (Nat.le_of_ble_eq_true rfl) (Nat.le_refl _) (Nat.le_refl _) (Or.inr (Nat.le_of_ble_eq_true rfl)) (Or.inr (z_atv (z_lkn fF hF) rfl))) rfl rfl rfl (H1 _ _ _ _ _ _ hS hT hF hC hcl (by omega) (by omega) (by omega) (by omega) (by omega)) ?_
  rintro _ P_1 ⟨b_2, n_3, w_4, rfl, c_5, c_6, c_7, h_8, o_9, i_10, i_11, h_12⟩
  have d_13 := yf_bd (T := T) (L := L) (lim := lim) k 1 dp p (by omega)
  generalize er_14 : yf T lim L k 1 dp p = r_14 at c_5 i_11 h_12 d_13
  have c_15 := ye_kp o_9 (ye_nc (ye_ne hT hS (by decide)) (ye_nc (ye_ne hT hF (by decide)) (ye_n1 (ye_ne hT hC (by decide))))) hT
  have o_16 := ye_oth_tr ho0 o_9 ((fun b hb => by simp only [List.mem_cons, List.not_mem_nil, or_false] at hb ⊢; (repeat (rcases hb with h | hb; · simp [h])); simp [hb]))
  by_cases b_17 : b_2 ≠ 0
  · skip
    refine z_r_jm (ins := (.ifCond .ne 5)) (len := 3) (t := 12) rfl rfl rfl rfl (ye_iy (t := 12) rfl (by omega) (by omega) b_17) ?_
    refine z_r_ld (kk := z_isA) (ins := (.aload_n 1)) (len := 1) (t := 13) (i := 1) rfl rfl rfl rfl rfl (fun _ => rfl) a1 rfl ?_
    refine z_r_cs (ins := (.ldc 35)) (len := 2) (t := 15) (v := .ref (z_far + 10)) rfl rfl rfl rfl rfl rfl ?_
    refine ye_ca (ins := (.invokevirtual 37)) (kd := 1) (t := 18) rfl rfl (by decide) (z_argsv rfl rfl rfl (by omega) (Nat.le_of_ble_eq_true rfl) rfl (Nat.le_of_ble_eq_true rfl) (Nat.le_refl _) (Nat.le_refl _) (Or.inr (Nat.le_of_ble_eq_true rfl)) (Or.inr (z_atv (z_lkn fS c_5) rfl))) rfl rfl rfl (ye_take1 (L := [60, 62, 61]) c_5 fS c_15 fT hx (by omega) yg_lk10 yg_lk11 (by decide) (by decide) (by decide) (by omega)) ?_
    rintro _ P_20 ⟨k_18, p_19, rfl, c_21, o_22, h_23, h_24⟩
    change k_18 = yl T lim [60, 62, 61] (r_14.2) at h_23
    have yb_k_18 := yl_bd (T := T) (lim := lim) (LL := [60, 62, 61]) (r := (r_14.2))
    rw [show ([60, 62, 61] : List Int).length = 3 from rfl] at h_24
    have c_25 := ye_kp o_22 (ye_n1 (ye_ne c_7 c_5 (by decide))) c_7
    have c_26 := ye_kp o_22 (ye_n1 (ye_ne c_6 c_5 (by decide))) c_6
    have c_27 := ye_kp o_22 (ye_n1 (ye_ne c_15 c_5 (by decide))) c_15
    have o_28 := ye_oth_tr o_16 o_22 (ye_s1 (List.mem_cons_self))
    refine z_r_is (kk := z_isI) (ins := (.istore 4)) (len := 2) (t := 20) (i := 4) rfl rfl rfl rfl rfl rfl rfl rfl (fun l l_29 k_30 => ?_)
    have l_31 := k_30 _ _ a0 (by decide) (Or.inl (by decide))
    have l_32 := k_30 _ _ a1 (by decide) (Or.inl (by decide))
    have l_33 := k_30 _ _ a2 (by decide) (Or.inl (by decide))
    have l_34 := k_30 _ _ a3 (by decide) (Or.inr (by show (1 : Nat) ≠ 2; decide))
    refine z_r_ld (kk := z_isI) (ins := (.iload 4)) (len := 2) (t := 22) (i := 4) rfl rfl rfl rfl rfl (fun _ => rfl) l_29 rfl ?_
    refine z_r_pu (ins := (.iconst (-1))) (len := 1) (t := 23) (st' := [ye_v ((-1)), ye_v k_18]) rfl rfl rfl rfl rfl ?_
    by_cases b_35 : k_18 = (-1)
    · skip
      refine z_r_jm (ins := (.if_icmp .eq 26)) (len := 3) (t := 49) rfl rfl rfl rfl (ye_jy (t := 49) rfl (by omega) (by omega) (by omega) (by omega) b_35) ?_
      refine z_r_pu (ins := (.iconst 1)) (len := 1) (t := 50) (st' := [ye_v 1]) rfl rfl rfl rfl rfl ?_
      refine z_r_jm (ins := (.goto 4)) (len := 3) (t := 54) rfl rfl rfl rfl (z_gty rfl) ?_
      refine ye_ret (ins := .ireturn) rfl rfl rfl (ye_retz rfl (by omega)) ?_
      have q1 : r_14.1 = true := by
        rcases h_12 with ⟨g1, g2⟩ | ⟨g1, g2⟩
        · exact g2
        · exact absurd g1 (by omega)
      have eL : yf T lim L (k + 1) 0 dp p = (true, r_14.2) := by
        rw [yf_0, er_14, if_pos q1]
        exact if_neg (by omega)
      have ep : p_19 = r_14.2 := by omega
      rw [ep] at c_21
      rw [eL]
      exact ⟨1, n_3, _, rfl, c_21, c_26, c_25, h_8, o_28, by omega, by show n_3 - n ≤ r_14.2 - p; omega, Or.inl ⟨rfl, rfl⟩⟩
    · skip
      refine z_r_jm (ins := (.if_icmp .eq 26)) (len := 3) (t := 26) rfl rfl rfl rfl (ye_jn (t := 49) rfl (by omega) (by omega) (by omega) (by omega) b_35) ?_
      refine z_r_ld (kk := z_isA) (ins := (.aload_n 0)) (len := 1) (t := 27) (i := 0) rfl rfl rfl rfl rfl (fun _ => rfl) l_31 rfl ?_
      refine z_r_ld (kk := z_isA) (ins := (.aload_n 1)) (len := 1) (t := 28) (i := 1) rfl rfl rfl rfl rfl (fun _ => rfl) l_32 rfl ?_
      refine z_r_ld (kk := z_isA) (ins := (.aload_n 2)) (len := 1) (t := 29) (i := 2) rfl rfl rfl rfl rfl (fun _ => rfl) l_33 rfl ?_
      refine z_r_ld (kk := z_isI) (ins := (.iload_n 3)) (len := 1) (t := 30) (i := 3) rfl rfl rfl rfl rfl (fun _ => rfl) l_34 rfl ?_
      refine ye_ca (ins := (.invokevirtual 32)) (kd := 1) (t := 33) rfl rfl (by decide) (z_argsv rfl rfl rfl (by omega) (Nat.le_of_ble_eq_true rfl) rfl (Nat.le_of_ble_eq_true rfl) (Nat.le_refl _) (Nat.le_refl _) (Or.inr (Nat.le_of_ble_eq_true rfl)) (Or.inr (z_atv (z_lkn fF c_26) rfl))) rfl rfl rfl (H1 _ _ _ _ _ _ c_21 c_27 c_26 c_25 h_8 (by omega) (by omega) (by omega) (by omega) (by omega)) ?_
      rintro _ P_36 ⟨b_37, n_38, w_39, rfl, c_40, c_41, c_42, h_43, o_44, i_45, i_46, h_47⟩
      have d_48 := yf_bd (T := T) (L := L) (lim := lim) k 1 dp p_19 (by omega)
      generalize er_49 : yf T lim L k 1 dp p_19 = r_49 at c_40 i_46 h_47 d_48
      have c_50 := ye_kp o_44 (ye_nc (ye_ne c_27 c_21 (by decide)) (ye_nc (ye_ne c_27 c_26 (by decide)) (ye_n1 (ye_ne c_27 c_25 (by decide))))) c_27
      have o_51 := ye_oth_tr o_28 o_44 ((fun b hb => by simp only [List.mem_cons, List.not_mem_nil, or_false] at hb ⊢; (repeat (rcases hb with h | hb; · simp [h])); simp [hb]))
      by_cases b_52 : b_37 = 0
      · skip
        refine z_r_jm (ins := (.ifCond .eq 20)) (len := 3) (t := 53) rfl rfl rfl rfl (ye_iy (t := 53) rfl (by omega) (by omega) b_52) ?_
        refine z_r_pu (ins := (.iconst 0)) (len := 1) (t := 54) (st' := [ye_v 0]) rfl rfl rfl rfl rfl ?_
        refine ye_ret (ins := .ireturn) rfl rfl rfl (ye_retz rfl (by omega)) ?_
        have q1 : r_14.1 = true := by
          rcases h_12 with ⟨g1, g2⟩ | ⟨g1, g2⟩
          · exact g2
          · exact absurd g1 (by omega)
        have q2 : r_49.1 = false := by
          rcases h_47 with ⟨g1, g2⟩ | ⟨g1, g2⟩
          · exact absurd g1 (by omega)
          · exact g2
        have eL : yf T lim L (k + 1) 0 dp p = (false, r_49.2) := by
          rw [yf_0, er_14, if_pos q1]
          refine (if_pos (by omega)).trans ?_
          rw [show r_14.2 + 1 = p_19 by omega, er_49, ← q2]
        rw [eL]
        exact ⟨0, n_38, _, rfl, c_40, c_41, c_42, h_43, o_51, by omega, by show n_38 - n ≤ r_49.2 - p; omega, Or.inr ⟨rfl, rfl⟩⟩
      · skip
        refine z_r_jm (ins := (.ifCond .eq 20)) (len := 3) (t := 36) rfl rfl rfl rfl (ye_in (t := 53) rfl (by omega) (by omega) b_52) ?_
        refine z_r_ld (kk := z_isA) (ins := (.aload_n 0)) (len := 1) (t := 37) (i := 0) rfl rfl rfl rfl rfl (fun _ => rfl) l_31 rfl ?_
        refine z_r_pu (ins := (.sipush 2000)) (len := 3) (t := 40) rfl rfl rfl rfl (ye_si (by decide) (by decide)) ?_
        refine z_r_ld (kk := z_isI) (ins := (.iload 4)) (len := 2) (t := 42) (i := 4) rfl rfl rfl rfl rfl (fun _ => rfl) l_29 rfl ?_
        refine z_r_pu (ins := .iadd) (len := 1) (t := 43) rfl rfl rfl rfl ye_add ?_
        refine ye_ca (ins := (.invokevirtual 41)) (kd := 1) (t := 46) rfl rfl (by decide) (z_argsv rfl rfl rfl (by omega) (Nat.le_of_ble_eq_true rfl) rfl (Nat.le_of_ble_eq_true rfl) (Nat.le_refl _) (Nat.le_refl _) (Or.inr (Nat.le_of_ble_eq_true rfl)) (Or.inr (z_atv (z_lkn fF c_41) rfl))) rfl rfl rfl (yg_app c_41 fF c_42 fC h_43 (by omega) (by omega)) ?_
        rintro _ P_53 ⟨rfl, c_54, ⟨w_55, c_56, h_57⟩, o_58⟩
        have c_59 := ye_kp o_58 (ye_nc (ye_ne c_40 c_41 (by decide)) (ye_n1 (ye_ne c_40 c_42 (by decide)))) c_40
        have c_60 := ye_kp o_58 (ye_nc (ye_ne c_50 c_41 (by decide)) (ye_n1 (ye_ne c_50 c_42 (by decide)))) c_50
        have o_61 := ye_oth_tr o_51 o_58 (ye_s2 (List.mem_cons_of_mem _ (List.mem_cons_self)) (List.mem_cons_of_mem _ (List.mem_cons_of_mem _ (List.mem_cons_self))))
        refine z_r_jm (ins := (.ifCond .eq 7)) (len := 3) (t := 49) rfl rfl rfl rfl (ye_in (t := 53) rfl (by omega) (by omega) (by show ¬ ((1 : Int) = 0); decide)) ?_
        refine z_r_pu (ins := (.iconst 1)) (len := 1) (t := 50) (st' := [ye_v 1]) rfl rfl rfl rfl rfl ?_
        refine z_r_jm (ins := (.goto 4)) (len := 3) (t := 54) rfl rfl rfl rfl (z_gty rfl) ?_
        refine ye_ret (ins := .ireturn) rfl rfl rfl (ye_retz rfl (by omega)) ?_
        have q1 : r_14.1 = true := by
          rcases h_12 with ⟨g1, g2⟩ | ⟨g1, g2⟩
          · exact g2
          · exact absurd g1 (by omega)
        have q2 : r_49.1 = true := by
          rcases h_47 with ⟨g1, g2⟩ | ⟨g1, g2⟩
          · exact g2
          · exact absurd g1 (by omega)
        have eL : yf T lim L (k + 1) 0 dp p = (true, r_49.2) := by
          rw [yf_0, er_14, if_pos q1]
          refine (if_pos (by omega)).trans ?_
          rw [show r_14.2 + 1 = p_19 by omega, er_49, ← q2]
        rw [eL]
        exact ⟨1, n_38 + 1, _, rfl, c_59, c_54, c_56, h_57, o_61, by omega, by show n_38 + 1 - n ≤ r_49.2 - p; omega, Or.inl ⟨rfl, rfl⟩⟩
  · skip
    refine z_r_jm (ins := (.ifCond .ne 5)) (len := 3) (t := 10) rfl rfl rfl rfl (ye_in (t := 12) rfl (by omega) (by omega) b_17) ?_
    refine z_r_pu (ins := (.iconst 0)) (len := 1) (t := 11) (st' := [ye_v 0]) rfl rfl rfl rfl rfl ?_
    refine ye_ret (ins := .ireturn) rfl rfl rfl (ye_retz rfl (by omega)) ?_
    have q1 : r_14.1 = false := by
      rcases h_12 with ⟨g1, g2⟩ | ⟨g1, g2⟩
      · exact absurd g1 (by omega)
      · exact g2
    have eL : yf T lim L (k + 1) 0 dp p = (false, r_14.2) := by rw [yf_0, er_14, if_neg (by rw [q1]; decide)]
    rw [eL]
    exact ⟨0, n_3, _, rfl, c_5, c_6, c_7, h_8, o_16, by omega, by show n_3 - n ≤ r_14.2 - p; omega, Or.inr ⟨rfl, rfl⟩⟩
theorem yg_all (fS : aS < z_far) (fT : aT < z_far) (fF : aF < z_far) (fC : aC < z_far) (hx : ye_tx T len 0 255 vs) (hbl : lim ≤ len ∧ len ≤ 80 ∧ lim ≤ 40) (hA : ∀ P, z_lk (z_strs (z_G xs)) P sA = some (98, [.ref sB, ye_v 0])) (hB : ∀ P, z_lk (z_strs (z_G xs)) P sB = some (101, L.map ye_v)) (hL : ∀ a ∈ L, 0 ≤ a ∧ a < 128) (hLl : L.length ≤ 100) (hLp : 1 ≤ L.length) (hL4 : yi_fr L 40 0 = -1) : ∀ K : Nat, yg_C xs aS aT aF aC aK sA T len lim mo L vs 49 0 K ∧ yg_C xs aS aT aF aC aK sA T len lim mo L vs 50 1 K ∧ yg_C xs aS aT aF aC aK sA T len lim mo L vs 51 2 K ∧ yg_C xs aS aT aF aC aK sA T len lim mo L vs 52 3 K := by
  intro K
  induction K using Nat.strongRecOn with
  | ind K ih => exact ⟨yg_cmp fS fT fF fC hx hbl hA hB hL hLl hLp hL4 (fun j hj => (ih j hj).2.1), yg_sum fS fT fF fC hx hbl hA hB hL hLl hLp hL4 (fun j hj => (ih j hj).2.2.1), yg_prod fS fT fF fC hx hbl hA hB hL hLl hLp hL4 (fun j hj => (ih j hj).2.2.2), yg_thing fS fT fF fC hx hbl hA hB hL hLl hLp hL4 (fun j hj => (ih j hj).1)⟩
end YGCS
