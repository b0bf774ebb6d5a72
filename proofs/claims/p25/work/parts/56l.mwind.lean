/-! wind, the reference, exactly. -/
section YMWI
variable {xs : List Int32} {d aM aB aN aO aU aV : Nat} {P : z_H} {F : Nat → Value} {bs nl ov uv vv : List Value} {T : Int → Int} {sz tp h w lim i n k typed : Int} {l : z_L} {Ψ : z_S → Prop}
theorem ye_mwE {b : Int} (h2 : z_get l 2 = some (ye_v b)) (h0 : z_get l 0 = some (.ref aM)) (hM : P[aM]? = some (10, ye_fl F)) (fM : aM < z_far) (k19 : F 19 = ye_v w) (hw : -1 ≤ w ∧ w ≤ 80) (hd : 1 ≤ d) (hb : b = 0 ∨ (b = 1 ∧ w ≠ -1))
    (kk : z_Rh (z_G xs) d 201 Ψ (163, l, [], P, 0, 0)) : z_Rh (z_G xs) d 201 Ψ (39, l, [], P, 0, 0) := by
  refine z_r_ld (kk := z_isI) (ins := (.iload_n 2)) (len := 1) (t := 40) (i := 2) rfl rfl rfl rfl rfl (fun _ => rfl) h2 rfl ?_
  by_cases b_1 : b = 0
  · skip
    refine z_r_jm (ins := (.ifCond .eq 123)) (len := 3) (t := 163) rfl rfl rfl rfl (ye_iy (t := 163) rfl (by omega) (by omega) b_1) ?_
    exact kk
  · skip
    refine z_r_jm (ins := (.ifCond .eq 123)) (len := 3) (t := 43) rfl rfl rfl rfl (ye_in (t := 163) rfl (by omega) (by omega) b_1) ?_
    refine z_r_ld (kk := z_isA) (ins := (.aload_n 0)) (len := 1) (t := 44) (i := 0) rfl rfl rfl rfl rfl (fun _ => rfl) h0 rfl ?_
    refine ye_ca (ins := (.invokevirtual 159)) (kd := 1) (t := 47) rfl rfl (by decide) (z_argsv rfl rfl rfl (by omega) (Nat.le_of_ble_eq_true rfl) rfl (Nat.le_of_ble_eq_true rfl) (Nat.le_refl _) (Nat.le_refl _) (Or.inr (Nat.le_of_ble_eq_true rfl)) (Or.inr (z_atv (z_lkn fM hM) rfl))) rfl rfl rfl (ye_fine hM fM k19 (by omega)) ?_
    rintro _ _ ⟨rfl, b_2, rfl, h_3⟩
    refine z_r_jm (ins := (.ifCond .eq 116)) (len := 3) (t := 163) rfl rfl rfl rfl (ye_iy (t := 163) rfl (by omega) (by omega) (by show b_2 = 0; omega)) ?_
    exact kk
theorem ye_mwL {P0 : z_H} {F0 : Nat → Value} (fM : aM < z_far) (fB : aB < z_far) (fN : aN < z_far) (hx : ye_tx T sz (-128) 127 bs) (hl : (lim = sz ∧ sz ≤ tp) ∨ (lim = tp ∧ tp < sz)) (hbl : lim ≤ 40 ∧ 0 ≤ sz ∧ sz ≤ 80 ∧ 0 ≤ tp ∧ tp ≤ 80) (hd : 4 ≤ d) : ∀ (k : Nat) {i p : Int} {l : z_L} {P : z_H} {F : Nat → Value} {nl : List Value}, i + k = 10 → 0 ≤ i → 4 * i ≤ p → p ≤ lim → z_get l 0 = some (.ref aM) → z_get l 1 = some (ye_v i) → z_get l 2 = some (ye_v 1) → P[aM]? = some (10, ye_fl F) → F 15 = .ref aB → F 16 = ye_v sz → F 17 = ye_v tp → F 18 = ye_v p → F 19 = ye_v (-1) → F 25 = .ref aN → P[aB]? = some (101, bs) → P[aN]? = some (103, nl) → nl.length = 36 → ye_ints nl → ye_fk [18, 19] F0 F → ye_oth [aM, aN] P0 P →
    (∀ l P' F' nl' (n' h' w' : Int), z_get l 0 = some (.ref aM) → z_get l 1 = some (ye_v n') → P'[aM]? = some (10, ye_fl F') → ye_fk [18, 19] F0 F' → F' 18 = ye_v h' → F' 19 = ye_v w' → P'[aN]? = some (103, nl') → nl'.length = 36 → ye_ints nl' → ye_oth [aM, aN] P0 P' → 0 ≤ h' ∧ h' ≤ lim ∧ -1 ≤ w' ∧ w' ≤ 80 → (((yq_wr T lim k i p).1 = true ∧ w' = -1 ∧ lim ≤ h' ∧ h' = (yq_wr T lim k i p).2.2 ∧ n' = (yq_wr T lim k i p).2.1) ∨ ((yq_wr T lim k i p).1 = false ∧ w' = -1 ∧ h' < lim ∧ h' = (yq_wr T lim k i p).2.2) ∨ ((yq_wr T lim k i p).1 = false ∧ 0 ≤ w' ∧ w' = (yq_wr T lim k i p).2.2)) → z_Rh (z_G xs) d 201 Ψ (163, l, [], P', 0, 0)) → z_Rh (z_G xs) d 201 Ψ (39, l, [], P, 0, 0) := by
  intro k
  induction k with
  | zero =>
    intro i p l P F nl i1 i0 pp pl h0 h1 h2 hM k15 k16 k17 k18 k19 k25 hB hN hnl hni hf ho kk
    refine ye_mwI hM fM k15 k16 k17 k18 k19 k25 hN fN hnl hni hB fB hx hl (by omega) h0 h1 h2 rfl (by omega) hd ?_
    intro l P' F' nl' b h' w' g0 g1 g2 hM' hf' m18 m19 hN' hnl' hni' ho' hh hw' hc
    have e : yq_wl T lim p = (false, p) := yq_wl_end (by omega)
    rw [e] at hc
    rcases hc with ⟨c, -⟩ | ⟨-, c1, c2⟩
    · cases c
    · have c1 : w' = p := c1
      exact ye_mwE g2 g0 hM' fM m19 hw' (by omega) (Or.inl c2) (kk l P' F' nl' (i + 1) h' w' g0 g1 hM' (ye_fk_tr hf hf' (fun _ q => q)) m18 m19 hN' hnl' hni' (ye_oth_tr ho ho' (fun _ q => q)) ⟨hh.1, hh.2, hw'.1, hw'.2⟩ (Or.inr (Or.inr ⟨rfl, by omega, c1⟩)))
  | succ k ih =>
    intro i p l P F nl i1 i0 pp pl h0 h1 h2 hM k15 k16 k17 k18 k19 k25 hB hN hnl hni hf ho kk
    obtain ⟨wb1, wb2, wb3⟩ := yq_wl_bd (T := T) pl
    refine ye_mwI hM fM k15 k16 k17 k18 k19 k25 hN fN hnl hni hB fB hx hl (by omega) h0 h1 h2 rfl (by omega) hd ?_
    intro l P' F' nl' b h' w' g0 g1 g2 hM' hf' m18 m19 hN' hnl' hni' ho' hh hw' hc
    have hu : yq_wr T lim (k + 1) i p = (if (yq_wl T lim p).1 = true then (if lim ≤ (yq_wl T lim p).2 then (true, i + 1, (yq_wl T lim p).2) else if T (yq_wl T lim p).2 = 59 then yq_wr T lim k (i + 1) ((yq_wl T lim p).2 + 1) else (false, i + 1, (yq_wl T lim p).2)) else (false, i, (yq_wl T lim p).2)) := rfl
    have hf2 := ye_fk_tr hf hf' (fun _ q => q)
    have ho2 := ye_oth_tr ho ho' (fun _ q => q)
    rcases hc with ⟨c1, c2, hc⟩ | ⟨c1, c2, c3⟩
    · rcases hc with ⟨d1, d2, d3, d4⟩ | ⟨d1, d2, d3⟩
      · rw [if_pos c1, if_neg (by omega), if_pos d3] at hu
        rw [hu] at kk
        rw [d1] at g2
        rw [c2] at m19
        have := wb3 c1
        exact ih (by omega) (by omega) (by omega) (by omega) g0 g1 g2 hM' ((hf' 15 (by decide)).trans k15) ((hf' 16 (by decide)).trans k16) ((hf' 17 (by decide)).trans k17) (by rw [m18, d4]) m19 ((hf' 25 (by decide)).trans k25) (ye_kp ho' (ye_nc (ye_ne hB hM (by decide)) (ye_n1 (ye_ne hB hN (by decide)))) hB) hN' hnl' hni' hf2 ho2 kk
      · by_cases he : lim ≤ (yq_wl T lim p).2
        · rw [if_pos c1, if_pos he] at hu
          rw [hu] at kk
          exact ye_mwE g2 g0 hM' fM m19 hw' (by omega) (Or.inl d1) (kk l P' F' nl' (i + 1) h' w' g0 g1 hM' hf2 m18 m19 hN' hnl' hni' ho2 ⟨hh.1, hh.2, hw'.1, hw'.2⟩ (Or.inl ⟨rfl, c2, by omega, d3, rfl⟩))
        · rw [if_pos c1, if_neg he, if_neg (by omega)] at hu
          rw [hu] at kk
          exact ye_mwE g2 g0 hM' fM m19 hw' (by omega) (Or.inl d1) (kk l P' F' nl' (i + 1) h' w' g0 g1 hM' hf2 m18 m19 hN' hnl' hni' ho2 ⟨hh.1, hh.2, hw'.1, hw'.2⟩ (Or.inr (Or.inl ⟨rfl, c2, by omega, d3⟩)))
    · rw [if_neg (by rw [c1]; decide)] at hu
      rw [hu] at kk
      exact ye_mwE g2 g0 hM' fM m19 hw' (by omega) (Or.inl c3) (kk l P' F' nl' (i + 1) h' w' g0 g1 hM' hf2 m18 m19 hN' hnl' hni' ho2 ⟨hh.1, hh.2, hw'.1, hw'.2⟩ (Or.inr (Or.inr ⟨rfl, by omega, c2⟩)))
theorem ye_mcI (hM : P[aM]? = some (10, ye_fl F)) (fM : aM < z_far) (k22 : F 22 = .ref aO) (k23 : F 23 = .ref aU) (k24 : F 24 = .ref aV) (k25 : F 25 = .ref aN) (hN : P[aN]? = some (103, nl)) (fN : aN < z_far) (hO : P[aO]? = some (103, ov)) (fO : aO < z_far) (hU : P[aU]? = some (103, uv)) (fU : aU < z_far) (hV : P[aV]? = some (103, vv)) (fV : aV < z_far) (n01 : aN ≠ aO) (n02 : aN ≠ aU) (n03 : aN ≠ aV) (n12 : aO ≠ aU) (n13 : aO ≠ aV) (n23 : aU ≠ aV) (hnl : nl.length = 36) (hni : ye_ints nl) (hol : ov.length = 12) (hul : uv.length = 12) (hvl : vv.length = 12)
    (h0 : z_get l 0 = some (.ref aM)) (h1 : z_get l 1 = some (ye_v n)) (h3 : z_get l 3 = some (ye_v k)) (hk : 0 ≤ k ∧ k < n ∧ n ≤ 10)
    (kk : ∀ l P' ov' uv' vv', z_get l 0 = some (.ref aM) → z_get l 1 = some (ye_v n) → z_get l 3 = some (ye_v (k + 1)) → P'[aM]? = some (10, ye_fl F) → P'[aO]? = some (103, ov') → P'[aU]? = some (103, uv') → P'[aV]? = some (103, vv') → ov'.length = 12 → uv'.length = 12 → vv'.length = 12 → P'[aN]? = some (103, nl) → ye_oth [aO, aU, aV] P P' → z_Rh (z_G xs) d 201 Ψ (198, l, [], P', 0, 0)) : z_Rh (z_G xs) d 201 Ψ (198, l, [], P, 0, 0) := by
  have ho0 : ye_oth [aO, aU, aV] P P := ye_oth_rf
  refine z_r_ld (kk := z_isI) (ins := (.iload_n 3)) (len := 1) (t := 199) (i := 3) rfl rfl rfl rfl rfl (fun _ => rfl) h3 rfl ?_
  refine z_r_ld (kk := z_isI) (ins := (.iload_n 1)) (len := 1) (t := 200) (i := 1) rfl rfl rfl rfl rfl (fun _ => rfl) h1 rfl ?_
  refine z_r_jm (ins := (.if_icmp .ge 55)) (len := 3) (t := 203) rfl rfl rfl rfl (ye_jn (t := 255) rfl (by omega) (by omega) (by omega) (by omega) (by show ¬ (n ≤ k); omega)) ?_
  refine z_r_ld (kk := z_isA) (ins := (.aload_n 0)) (len := 1) (t := 204) (i := 0) rfl rfl rfl rfl rfl (fun _ => rfl) h0 rfl ?_
  refine z_r_rd (ins := (.getfield 46)) (len := 3) (t := 207) rfl rfl rfl rfl rfl (z_gfv (ci := 10) (k := 22) (v := .ref aO) rfl (z_lkn fM hM) (by decide) (ye_flg rfl k22)) ?_
  refine z_r_ld (kk := z_isI) (ins := (.iload_n 3)) (len := 1) (t := 208) (i := 3) rfl rfl rfl rfl rfl (fun _ => rfl) h3 rfl ?_
  refine z_r_ld (kk := z_isA) (ins := (.aload_n 0)) (len := 1) (t := 209) (i := 0) rfl rfl rfl rfl rfl (fun _ => rfl) h0 rfl ?_
  refine z_r_rd (ins := (.getfield 55)) (len := 3) (t := 212) rfl rfl rfl rfl rfl (z_gfv (ci := 10) (k := 25) (v := .ref aN) rfl (z_lkn fM hM) (by decide) (ye_flg rfl k25)) ?_
  refine z_r_pu (ins := (.iconst 3)) (len := 1) (t := 213) (st' := [ye_v 3, .ref aN, ye_v k, .ref aO]) rfl rfl rfl rfl rfl ?_
  refine z_r_ld (kk := z_isI) (ins := (.iload_n 3)) (len := 1) (t := 214) (i := 3) rfl rfl rfl rfl rfl (fun _ => rfl) h3 rfl ?_
  refine z_r_pu (ins := .imul) (len := 1) (t := 215) rfl rfl rfl rfl ye_mul ?_
  obtain ⟨e_1, v_2⟩ := hni (3 * k).toNat (by omega)
  refine z_r_rd (ins := .iaload) (len := 1) (t := 216) rfl rfl rfl rfl rfl (ye_al (t := 103) (p := 3 * k) (e := e_1) (z_lkn fN hN) (by omega) (by omega) v_2) ?_
  refine ye_r_wr (ins := .iastore) (len := 1) (t := 217) (a := aO) (q := (103, ov.set (k).toNat (ye_v e_1))) rfl rfl rfl rfl rfl hO (ye_as (t := 103) (nf := fun x => x) (p := k) (e := e_1) (e' := e_1) hO (by omega) (by omega) (by omega) rfl) (fun P_3 c_4 o_5 => ?_)
  have c_6 := ye_kp o_5 (ye_n1 (ye_ne hM hO (by decide))) hM
  have c_7 := ye_kp o_5 (ye_n1 n01) hN
  have c_8 := ye_kp o_5 (ye_n1 (Ne.symm n12)) hU
  have c_9 := ye_kp o_5 (ye_n1 (Ne.symm n13)) hV
  have o_10 := ye_oth_tr ho0 o_5 (ye_s1 (List.mem_cons_self))
  refine z_r_ld (kk := z_isA) (ins := (.aload_n 0)) (len := 1) (t := 218) (i := 0) rfl rfl rfl rfl rfl (fun _ => rfl) h0 rfl ?_
  refine z_r_rd (ins := (.getfield 49)) (len := 3) (t := 221) rfl rfl rfl rfl rfl (z_gfv (ci := 10) (k := 23) (v := .ref aU) rfl (z_lkn fM c_6) (by decide) (ye_flg rfl k23)) ?_
  refine z_r_ld (kk := z_isI) (ins := (.iload_n 3)) (len := 1) (t := 222) (i := 3) rfl rfl rfl rfl rfl (fun _ => rfl) h3 rfl ?_
  refine z_r_ld (kk := z_isA) (ins := (.aload_n 0)) (len := 1) (t := 223) (i := 0) rfl rfl rfl rfl rfl (fun _ => rfl) h0 rfl ?_
  refine z_r_rd (ins := (.getfield 55)) (len := 3) (t := 226) rfl rfl rfl rfl rfl (z_gfv (ci := 10) (k := 25) (v := .ref aN) rfl (z_lkn fM c_6) (by decide) (ye_flg rfl k25)) ?_
  refine z_r_pu (ins := (.iconst 3)) (len := 1) (t := 227) (st' := [ye_v 3, .ref aN, ye_v k, .ref aU]) rfl rfl rfl rfl rfl ?_
  refine z_r_ld (kk := z_isI) (ins := (.iload_n 3)) (len := 1) (t := 228) (i := 3) rfl rfl rfl rfl rfl (fun _ => rfl) h3 rfl ?_
  refine z_r_pu (ins := .imul) (len := 1) (t := 229) rfl rfl rfl rfl ye_mul ?_
  refine z_r_pu (ins := (.iconst 1)) (len := 1) (t := 230) (st' := [ye_v 1, ye_v (3 * k), .ref aN, ye_v k, .ref aU]) rfl rfl rfl rfl rfl ?_
  refine z_r_pu (ins := .iadd) (len := 1) (t := 231) rfl rfl rfl rfl ye_add ?_
  obtain ⟨e_11, v_12⟩ := hni (3 * k + 1).toNat (by omega)
  refine z_r_rd (ins := .iaload) (len := 1) (t := 232) rfl rfl rfl rfl rfl (ye_al (t := 103) (p := 3 * k + 1) (e := e_11) (z_lkn fN c_7) (by omega) (by omega) v_12) ?_
  refine ye_r_wr (ins := .iastore) (len := 1) (t := 233) (a := aU) (q := (103, uv.set (k).toNat (ye_v e_11))) rfl rfl rfl rfl rfl c_8 (ye_as (t := 103) (nf := fun x => x) (p := k) (e := e_11) (e' := e_11) c_8 (by omega) (by omega) (by omega) rfl) (fun P_13 c_14 o_15 => ?_)
  have c_16 := ye_kp o_15 (ye_n1 (ye_ne c_6 c_8 (by decide))) c_6
  have c_17 := ye_kp o_15 (ye_n1 n02) c_7
  have c_18 := ye_kp o_15 (ye_n1 n12) c_4
  have c_19 := ye_kp o_15 (ye_n1 (Ne.symm n23)) c_9
  have o_20 := ye_oth_tr o_10 o_15 (ye_s1 (List.mem_cons_of_mem _ (List.mem_cons_self)))
  refine z_r_ld (kk := z_isA) (ins := (.aload_n 0)) (len := 1) (t := 234) (i := 0) rfl rfl rfl rfl rfl (fun _ => rfl) h0 rfl ?_
  refine z_r_rd (ins := (.getfield 52)) (len := 3) (t := 237) rfl rfl rfl rfl rfl (z_gfv (ci := 10) (k := 24) (v := .ref aV) rfl (z_lkn fM c_16) (by decide) (ye_flg rfl k24)) ?_
  refine z_r_ld (kk := z_isI) (ins := (.iload_n 3)) (len := 1) (t := 238) (i := 3) rfl rfl rfl rfl rfl (fun _ => rfl) h3 rfl ?_
  refine z_r_ld (kk := z_isA) (ins := (.aload_n 0)) (len := 1) (t := 239) (i := 0) rfl rfl rfl rfl rfl (fun _ => rfl) h0 rfl ?_
  refine z_r_rd (ins := (.getfield 55)) (len := 3) (t := 242) rfl rfl rfl rfl rfl (z_gfv (ci := 10) (k := 25) (v := .ref aN) rfl (z_lkn fM c_16) (by decide) (ye_flg rfl k25)) ?_
  refine z_r_pu (ins := (.iconst 3)) (len := 1) (t := 243) (st' := [ye_v 3, .ref aN, ye_v k, .ref aV]) rfl rfl rfl rfl rfl ?_
  refine z_r_ld (kk := z_isI) (ins := (.iload_n 3)) (len := 1) (t := 244) (i := 3) rfl rfl rfl rfl rfl (fun _ => rfl) h3 rfl ?_
  refine z_r_pu (ins := .imul) (len := 1) (t := 245) rfl rfl rfl rfl ye_mul ?_
  refine z_r_pu (ins := (.iconst 2)) (len := 1) (t := 246) (st' := [ye_v 2, ye_v (3 * k), .ref aN, ye_v k, .ref aV]) rfl rfl rfl rfl rfl ?_
  refine z_r_pu (ins := .iadd) (len := 1) (t := 247) rfl rfl rfl rfl ye_add ?_
  obtain ⟨e_21, v_22⟩ := hni (3 * k + 2).toNat (by omega)
  refine z_r_rd (ins := .iaload) (len := 1) (t := 248) rfl rfl rfl rfl rfl (ye_al (t := 103) (p := 3 * k + 2) (e := e_21) (z_lkn fN c_17) (by omega) (by omega) v_22) ?_
  refine ye_r_wr (ins := .iastore) (len := 1) (t := 249) (a := aV) (q := (103, vv.set (k).toNat (ye_v e_21))) rfl rfl rfl rfl rfl c_19 (ye_as (t := 103) (nf := fun x => x) (p := k) (e := e_21) (e' := e_21) c_19 (by omega) (by omega) (by omega) rfl) (fun P_23 c_24 o_25 => ?_)
  have c_26 := ye_kp o_25 (ye_n1 (ye_ne c_16 c_19 (by decide))) c_16
  have c_27 := ye_kp o_25 (ye_n1 n03) c_17
  have c_28 := ye_kp o_25 (ye_n1 n13) c_18
  have c_29 := ye_kp o_25 (ye_n1 n23) c_14
  have o_30 := ye_oth_tr o_20 o_25 (ye_s1 (List.mem_cons_of_mem _ (List.mem_cons_of_mem _ (List.mem_cons_self))))
  refine ye_ic (ins := (.iinc 3 1)) (len := 3) (t := 252) (i := 3) (a := k) (kk := 1) rfl rfl rfl rfl rfl rfl h3 (fun l l_31 k_32 => ?_)
  have l_33 := k_32 _ _ h0 (by decide) (Or.inl (by decide))
  have l_34 := k_32 _ _ h1 (by decide) (Or.inl (by decide))
  refine z_r_jm (ins := (.goto (-54))) (len := 3) (t := 198) rfl rfl rfl rfl (z_gty rfl) ?_
  exact kk _ _ _ _ _ l_33 l_34 l_31 c_26 c_28 c_29 c_24 (by simp only [List.length_set]; exact hol) (by simp only [List.length_set]; exact hul) (by simp only [List.length_set]; exact hvl) c_27 o_30
theorem ye_mcE (h0 : z_get l 0 = some (.ref aM)) (h1 : z_get l 1 = some (ye_v n)) (h3 : z_get l 3 = some (ye_v k)) (hk : 0 ≤ k ∧ n ≤ k ∧ 0 ≤ n ∧ k ≤ 10)
    (kk : z_Rh (z_G xs) d 201 Ψ (255, l, [], P, 0, 0)) : z_Rh (z_G xs) d 201 Ψ (198, l, [], P, 0, 0) := by
  refine z_r_ld (kk := z_isI) (ins := (.iload_n 3)) (len := 1) (t := 199) (i := 3) rfl rfl rfl rfl rfl (fun _ => rfl) h3 rfl ?_
  refine z_r_ld (kk := z_isI) (ins := (.iload_n 1)) (len := 1) (t := 200) (i := 1) rfl rfl rfl rfl rfl (fun _ => rfl) h1 rfl ?_
  refine z_r_jm (ins := (.if_icmp .ge 55)) (len := 3) (t := 255) rfl rfl rfl rfl (ye_jy (t := 255) rfl (by omega) (by omega) (by omega) (by omega) (by show n ≤ k; omega)) ?_
  exact kk
theorem ye_mcL {P0 : z_H} (fM : aM < z_far) (fN : aN < z_far) (fO : aO < z_far) (fU : aU < z_far) (fV : aV < z_far) (n01 : aN ≠ aO) (n02 : aN ≠ aU) (n03 : aN ≠ aV) (n12 : aO ≠ aU) (n13 : aO ≠ aV) (n23 : aU ≠ aV) (hnl : nl.length = 36) (hni : ye_ints nl) (k22 : F 22 = .ref aO) (k23 : F 23 = .ref aU) (k24 : F 24 = .ref aV) (k25 : F 25 = .ref aN) (hn : 0 ≤ n ∧ n ≤ 10) : ∀ (r : Nat) {k : Int} {l : z_L} {P : z_H} {ov uv vv : List Value}, k + r = n → 0 ≤ k → z_get l 0 = some (.ref aM) → z_get l 1 = some (ye_v n) → z_get l 3 = some (ye_v k) → P[aM]? = some (10, ye_fl F) → P[aN]? = some (103, nl) → P[aO]? = some (103, ov) → P[aU]? = some (103, uv) → P[aV]? = some (103, vv) → ov.length = 12 → uv.length = 12 → vv.length = 12 → ye_oth [aO, aU, aV] P0 P →
    (∀ l P', z_get l 0 = some (.ref aM) → z_get l 1 = some (ye_v n) → P'[aM]? = some (10, ye_fl F) → ye_oth [aO, aU, aV] P0 P' → z_Rh (z_G xs) d 201 Ψ (255, l, [], P', 0, 0)) → z_Rh (z_G xs) d 201 Ψ (198, l, [], P, 0, 0) := by
  intro r
  induction r with
  | zero =>
    intro k l P ov uv vv hk k0 h0 h1 h3 hM hN hO hU hV hol hul hvl ho kk
    exact ye_mcE h0 h1 h3 (by omega) (kk l P h0 h1 hM ho)
  | succ r ih =>
    intro k l P ov uv vv hk k0 h0 h1 h3 hM hN hO hU hV hol hul hvl ho kk
    refine ye_mcI hM fM k22 k23 k24 k25 hN fN hO fO hU fU hV fV n01 n02 n03 n12 n13 n23 hnl hni hol hul hvl h0 h1 h3 (by omega) ?_
    intro l P' ov' uv' vv' g0 g1 g3 hM' hO' hU' hV' hol' hul' hvl' hN' ho'
    exact ih (by omega) (by omega) g0 g1 g3 hM' hN' hO' hU' hV' hol' hul' hvl' (ye_oth_tr ho ho' (fun _ q => q)) kk
theorem ye_mwT {R : Option Value → z_H → Prop} (hM : P[aM]? = some (10, ye_fl F)) (fM : aM < z_far) (k16 : F 16 = ye_v sz) (k18 : F 18 = ye_v h) (k19 : F 19 = ye_v w) (k22 : F 22 = .ref aO) (k23 : F 23 = .ref aU) (k24 : F 24 = .ref aV) (k25 : F 25 = .ref aN) (hN : P[aN]? = some (103, nl)) (fN : aN < z_far) (hO : P[aO]? = some (103, ov)) (fO : aO < z_far) (hU : P[aU]? = some (103, uv)) (fU : aU < z_far) (hV : P[aV]? = some (103, vv)) (fV : aV < z_far) (n01 : aN ≠ aO) (n02 : aN ≠ aU) (n03 : aN ≠ aV) (n12 : aO ≠ aU) (n13 : aO ≠ aV) (n23 : aU ≠ aV) (hnl : nl.length = 36) (hni : ye_ints nl) (hol : ov.length = 12) (hul : uv.length = 12) (hvl : vv.length = 12) (hz : 0 ≤ sz ∧ sz ≤ 80 ∧ 0 ≤ h ∧ h ≤ 80 ∧ -1 ≤ w ∧ w ≤ 80) (hd : 2 ≤ d)
    (h0 : z_get l 0 = some (.ref aM)) (h1 : z_get l 1 = some (ye_v n)) (hn : w = -1 → sz ≤ h → 0 ≤ n ∧ n ≤ 10)
    (kg : w = -1 → sz ≤ h → ∀ P' F', P'[aM]? = some (10, ye_fl F') → ye_fk [8, 19, 21] F F' → F' 21 = ye_v n → ye_oth [aM, aO, aU, aV] P P' → R (some (ye_v n)) P') (kb : ∀ a P' F', (w = -1 ∧ h < sz ∧ a = -1 - h) ∨ (w ≠ -1 ∧ a = -1 - w) → P'[aM]? = some (10, ye_fl F') → ye_fk [19] F F' → ye_oth [aM, aO, aU, aV] P P' → R (some (ye_v a)) P') : z_Rh (z_G xs) d 201 (ye_E xs d 201 R) (163, l, [], P, 0, 0) := by
  have ho0 : ye_oth [aM, aO, aU, aV] P P := ye_oth_rf
  have hf0 : ye_fk [8, 19, 21] F F := ye_fk_rf
  refine z_r_ld (kk := z_isA) (ins := (.aload_n 0)) (len := 1) (t := 164) (i := 0) rfl rfl rfl rfl rfl (fun _ => rfl) h0 rfl ?_
  refine z_r_rd (ins := (.getfield 153)) (len := 3) (t := 167) rfl rfl rfl rfl rfl (z_gfv (ci := 10) (k := 18) (v := ye_v h) rfl (z_lkn fM hM) (by decide) (ye_flg rfl k18)) ?_
  refine z_r_ld (kk := z_isA) (ins := (.aload_n 0)) (len := 1) (t := 168) (i := 0) rfl rfl rfl rfl rfl (fun _ => rfl) h0 rfl ?_
  refine z_r_rd (ins := (.getfield 147)) (len := 3) (t := 171) rfl rfl rfl rfl rfl (z_gfv (ci := 10) (k := 16) (v := ye_v sz) rfl (z_lkn fM hM) (by decide) (ye_flg rfl k16)) ?_
  by_cases b_1 : sz ≤ h
  · skip
    refine z_r_jm (ins := (.if_icmp .ge 11)) (len := 3) (t := 182) rfl rfl rfl rfl (ye_jy (t := 182) rfl (by omega) (by omega) (by omega) (by omega) b_1) ?_
    refine z_r_ld (kk := z_isA) (ins := (.aload_n 0)) (len := 1) (t := 183) (i := 0) rfl rfl rfl rfl rfl (fun _ => rfl) h0 rfl ?_
    refine ye_ca (ins := (.invokevirtual 159)) (kd := 1) (t := 186) rfl rfl (by decide) (z_argsv rfl rfl rfl (by omega) (Nat.le_of_ble_eq_true rfl) rfl (Nat.le_of_ble_eq_true rfl) (Nat.le_refl _) (Nat.le_refl _) (Or.inr (Nat.le_of_ble_eq_true rfl)) (Or.inr (z_atv (z_lkn fM hM) rfl))) rfl rfl rfl (ye_fine hM fM k19 (by omega)) ?_
    rintro _ _ ⟨rfl, b_2, rfl, h_3⟩
    by_cases b_4 : b_2 ≠ 0
    · skip
      refine z_r_jm (ins := (.ifCond .ne 10)) (len := 3) (t := 196) rfl rfl rfl rfl (ye_iy (t := 196) rfl (by omega) (by omega) b_4) ?_
      refine z_r_pu (ins := (.iconst 0)) (len := 1) (t := 197) (st' := [ye_v 0]) rfl rfl rfl rfl rfl ?_
      refine z_r_is (kk := z_isI) (ins := (.istore_n 3)) (len := 1) (t := 198) (i := 3) rfl rfl rfl rfl rfl rfl rfl rfl (fun l l_5 k_6 => ?_)
      have l_7 := k_6 _ _ h0 (by decide) (Or.inl (by decide))
      have l_8 := k_6 _ _ h1 (by decide) (Or.inl (by decide))
      have hn1 := hn (by omega) (by omega)
      refine ye_mcL (P0 := _) (n := n) fM fN fO fU fV n01 n02 n03 n12 n13 n23 hnl hni k22 k23 k24 k25 (by omega) n.toNat (k := 0) (by omega) (by decide) l_7 l_8 l_5 hM hN hO hU hV hol hul hvl ye_oth_rf ?_
      intro l P9 z0 z1 hM9 ho9
      have o99 := ye_oth_tr ho0 ho9 (fun b hb => by simp at hb ⊢; omega)
      refine z_r_ld (kk := z_isA) (ins := (.aload_n 0)) (len := 1) (t := 256) (i := 0) rfl rfl rfl rfl rfl (fun _ => rfl) z0 rfl ?_
      refine z_r_ld (kk := z_isI) (ins := (.iload_n 1)) (len := 1) (t := 257) (i := 1) rfl rfl rfl rfl rfl (fun _ => rfl) z1 rfl ?_
      refine ye_r_wr (ins := (.putfield 195)) (len := 3) (t := 260) (a := aM) (q := (10, ye_fl (ye_up F 21 (ye_v n)))) rfl rfl rfl rfl rfl hM9 (ye_pfm (k := 21) rfl hM9 rfl rfl rfl rfl) (fun P_9 c_10 o_11 => ?_)
      have o_12 := ye_oth_tr o99 o_11 (ye_s1 (List.mem_cons_self))
      have f_13 := ye_fk_up (j := 21) (v := ye_v n) hf0 (List.mem_cons_of_mem _ (List.mem_cons_of_mem _ (List.mem_cons_self)))
      refine z_r_ld (kk := z_isA) (ins := (.aload_n 0)) (len := 1) (t := 261) (i := 0) rfl rfl rfl rfl rfl (fun _ => rfl) z0 rfl ?_
      refine z_r_pu (ins := (.iconst 0)) (len := 1) (t := 262) (st' := [ye_v 0, .ref aM]) rfl rfl rfl rfl rfl ?_
      refine ye_r_wr (ins := (.putfield 198)) (len := 3) (t := 265) (a := aM) (q := (10, ye_fl (ye_up (ye_up F 21 (ye_v n)) 8 (ye_v 0)))) rfl rfl rfl rfl rfl c_10 (ye_pfm (k := 8) rfl c_10 rfl rfl rfl rfl) (fun P_14 c_15 o_16 => ?_)
      have o_17 := ye_oth_tr o_12 o_16 (ye_s1 (List.mem_cons_self))
      have f_18 := ye_fk_up (j := 8) (v := ye_v 0) f_13 (List.mem_cons_self)
      refine z_r_ld (kk := z_isI) (ins := (.iload_n 1)) (len := 1) (t := 266) (i := 1) rfl rfl rfl rfl rfl (fun _ => rfl) z1 rfl ?_
      refine ye_ret (ins := .ireturn) rfl rfl rfl (ye_reti rfl) ?_
      exact kg (by omega) (by omega) _ _ c_15 f_18 rfl o_17
    · skip
      refine z_r_jm (ins := (.ifCond .ne 10)) (len := 3) (t := 189) rfl rfl rfl rfl (ye_in (t := 196) rfl (by omega) (by omega) b_4) ?_
      refine z_r_pu (ins := (.iconst (-1))) (len := 1) (t := 190) (st' := [ye_v ((-1))]) rfl rfl rfl rfl rfl ?_
      refine z_r_ld (kk := z_isA) (ins := (.aload_n 0)) (len := 1) (t := 191) (i := 0) rfl rfl rfl rfl rfl (fun _ => rfl) h0 rfl ?_
      refine z_r_rd (ins := (.getfield 156)) (len := 3) (t := 194) rfl rfl rfl rfl rfl (z_gfv (ci := 10) (k := 19) (v := ye_v w) rfl (z_lkn fM hM) (by decide) (ye_flg rfl k19)) ?_
      refine z_r_pu (ins := .isub) (len := 1) (t := 195) rfl rfl rfl rfl ye_sub ?_
      refine ye_ret (ins := .ireturn) rfl rfl rfl (ye_reti rfl) ?_
      exact kb _ _ _ (by omega) hM ye_fk_rf ho0
  · skip
    refine z_r_jm (ins := (.if_icmp .ge 11)) (len := 3) (t := 174) rfl rfl rfl rfl (ye_jn (t := 182) rfl (by omega) (by omega) (by omega) (by omega) b_1) ?_
    refine z_r_ld (kk := z_isA) (ins := (.aload_n 0)) (len := 1) (t := 175) (i := 0) rfl rfl rfl rfl rfl (fun _ => rfl) h0 rfl ?_
    refine z_r_ld (kk := z_isA) (ins := (.aload_n 0)) (len := 1) (t := 176) (i := 0) rfl rfl rfl rfl rfl (fun _ => rfl) h0 rfl ?_
    refine z_r_rd (ins := (.getfield 153)) (len := 3) (t := 179) rfl rfl rfl rfl rfl (z_gfv (ci := 10) (k := 18) (v := ye_v h) rfl (z_lkn fM hM) (by decide) (ye_flg rfl k18)) ?_
    refine ye_cav (ins := (.invokevirtual 171)) (kd := 1) (t := 182) rfl rfl (by decide) (z_argsv rfl rfl rfl (by omega) (Nat.le_of_ble_eq_true rfl) rfl (Nat.le_of_ble_eq_true rfl) (Nat.le_refl _) (Nat.le_refl _) (Or.inr (Nat.le_of_ble_eq_true rfl)) (Or.inr (z_atv (z_lkn fM hM) rfl))) rfl rfl rfl rfl (ye_flt hM fM k19 (by omega) (by omega)) ?_
    rintro _ P_21 ⟨F_19, w_20, c_22, f_23, k_24, o_25, h_26⟩
    have c_27 := ye_kp o_25 (ye_n1 (ye_ne hN hM (by decide))) hN
    have c_28 := ye_kp o_25 (ye_n1 (ye_ne hO hM (by decide))) hO
    have c_29 := ye_kp o_25 (ye_n1 (ye_ne hU hM (by decide))) hU
    have c_30 := ye_kp o_25 (ye_n1 (ye_ne hV hM (by decide))) hV
    have o_31 := ye_oth_tr ho0 o_25 (ye_s1 (List.mem_cons_self))
    have f_32 : F_19 16 = ye_v sz := (f_23 16 (by decide)).trans k16
    have f_33 : F_19 18 = ye_v h := (f_23 18 (by decide)).trans k18
    have f_34 : F_19 22 = .ref aO := (f_23 22 (by decide)).trans k22
    have f_35 : F_19 23 = .ref aU := (f_23 23 (by decide)).trans k23
    have f_36 : F_19 24 = .ref aV := (f_23 24 (by decide)).trans k24
    have f_37 : F_19 25 = .ref aN := (f_23 25 (by decide)).trans k25
    have f_38 := ye_fk_tr hf0 f_23 (by decide)
    refine z_r_ld (kk := z_isA) (ins := (.aload_n 0)) (len := 1) (t := 183) (i := 0) rfl rfl rfl rfl rfl (fun _ => rfl) h0 rfl ?_
    refine ye_ca (ins := (.invokevirtual 159)) (kd := 1) (t := 186) rfl rfl (by decide) (z_argsv rfl rfl rfl (by omega) (Nat.le_of_ble_eq_true rfl) rfl (Nat.le_of_ble_eq_true rfl) (Nat.le_refl _) (Nat.le_refl _) (Or.inr (Nat.le_of_ble_eq_true rfl)) (Or.inr (z_atv (z_lkn fM c_22) rfl))) rfl rfl rfl (ye_fine c_22 fM k_24 (by omega)) ?_
    rintro _ _ ⟨rfl, b_39, rfl, h_40⟩
    by_cases b_41 : b_39 ≠ 0
    · skip
      refine z_r_jm (ins := (.ifCond .ne 10)) (len := 3) (t := 196) rfl rfl rfl rfl (ye_iy (t := 196) rfl (by omega) (by omega) b_41) ?_
      refine z_r_pu (ins := (.iconst 0)) (len := 1) (t := 197) (st' := [ye_v 0]) rfl rfl rfl rfl rfl ?_
      refine z_r_is (kk := z_isI) (ins := (.istore_n 3)) (len := 1) (t := 198) (i := 3) rfl rfl rfl rfl rfl rfl rfl rfl (fun l l_42 k_43 => ?_)
      have l_44 := k_43 _ _ h0 (by decide) (Or.inl (by decide))
      have l_45 := k_43 _ _ h1 (by decide) (Or.inl (by decide))
      have hn1 := hn (by omega) (by omega)
      refine ye_mcL (P0 := _) (n := n) fM fN fO fU fV n01 n02 n03 n12 n13 n23 hnl hni f_34 f_35 f_36 f_37 (by omega) n.toNat (k := 0) (by omega) (by decide) l_44 l_45 l_42 c_22 c_27 c_28 c_29 c_30 hol hul hvl ye_oth_rf ?_
      intro l P9 z0 z1 hM9 ho9
      have o99 := ye_oth_tr o_31 ho9 (fun b hb => by simp at hb ⊢; omega)
      refine z_r_ld (kk := z_isA) (ins := (.aload_n 0)) (len := 1) (t := 256) (i := 0) rfl rfl rfl rfl rfl (fun _ => rfl) z0 rfl ?_
      refine z_r_ld (kk := z_isI) (ins := (.iload_n 1)) (len := 1) (t := 257) (i := 1) rfl rfl rfl rfl rfl (fun _ => rfl) z1 rfl ?_
      refine ye_r_wr (ins := (.putfield 195)) (len := 3) (t := 260) (a := aM) (q := (10, ye_fl (ye_up F_19 21 (ye_v n)))) rfl rfl rfl rfl rfl hM9 (ye_pfm (k := 21) rfl hM9 rfl rfl rfl rfl) (fun P_46 c_47 o_48 => ?_)
      have o_49 := ye_oth_tr o99 o_48 (ye_s1 (List.mem_cons_self))
      have f_50 := ye_fk_up (j := 21) (v := ye_v n) f_38 (List.mem_cons_of_mem _ (List.mem_cons_of_mem _ (List.mem_cons_self)))
      refine z_r_ld (kk := z_isA) (ins := (.aload_n 0)) (len := 1) (t := 261) (i := 0) rfl rfl rfl rfl rfl (fun _ => rfl) z0 rfl ?_
      refine z_r_pu (ins := (.iconst 0)) (len := 1) (t := 262) (st' := [ye_v 0, .ref aM]) rfl rfl rfl rfl rfl ?_
      refine ye_r_wr (ins := (.putfield 198)) (len := 3) (t := 265) (a := aM) (q := (10, ye_fl (ye_up (ye_up F_19 21 (ye_v n)) 8 (ye_v 0)))) rfl rfl rfl rfl rfl c_47 (ye_pfm (k := 8) rfl c_47 rfl rfl rfl rfl) (fun P_51 c_52 o_53 => ?_)
      have o_54 := ye_oth_tr o_49 o_53 (ye_s1 (List.mem_cons_self))
      have f_55 := ye_fk_up (j := 8) (v := ye_v 0) f_50 (List.mem_cons_self)
      refine z_r_ld (kk := z_isI) (ins := (.iload_n 1)) (len := 1) (t := 266) (i := 1) rfl rfl rfl rfl rfl (fun _ => rfl) z1 rfl ?_
      refine ye_ret (ins := .ireturn) rfl rfl rfl (ye_reti rfl) ?_
      exact kg (by omega) (by omega) _ _ c_52 f_55 rfl o_54
    · skip
      refine z_r_jm (ins := (.ifCond .ne 10)) (len := 3) (t := 189) rfl rfl rfl rfl (ye_in (t := 196) rfl (by omega) (by omega) b_41) ?_
      refine z_r_pu (ins := (.iconst (-1))) (len := 1) (t := 190) (st' := [ye_v ((-1))]) rfl rfl rfl rfl rfl ?_
      refine z_r_ld (kk := z_isA) (ins := (.aload_n 0)) (len := 1) (t := 191) (i := 0) rfl rfl rfl rfl rfl (fun _ => rfl) h0 rfl ?_
      refine z_r_rd (ins := (.getfield 156)) (len := 3) (t := 194) rfl rfl rfl rfl rfl (z_gfv (ci := 10) (k := 19) (v := ye_v w_20) rfl (z_lkn fM c_22) (by decide) (ye_flg rfl k_24)) ?_
      refine z_r_pu (ins := .isub) (len := 1) (t := 195) rfl rfl rfl rfl ye_sub ?_
      refine ye_ret (ins := .ireturn) rfl rfl rfl (ye_reti rfl) ?_
      exact kb _ _ _ (by omega) c_22 (ye_fk_tr ye_fk_rf f_23 (by decide)) o_31
set_option maxHeartbeats 8000000 in
theorem ye_Mwind (hM : P[aM]? = some (10, ye_fl F)) (fM : aM < z_far) (k10 : F 10 = .ref aB) (k11 : F 11 = ye_v sz) (k22 : F 22 = .ref aO) (k23 : F 23 = .ref aU) (k24 : F 24 = .ref aV) (k25 : F 25 = .ref aN) (hN : P[aN]? = some (103, nl)) (fN : aN < z_far) (hO : P[aO]? = some (103, ov)) (fO : aO < z_far) (hU : P[aU]? = some (103, uv)) (fU : aU < z_far) (hV : P[aV]? = some (103, vv)) (fV : aV < z_far) (n01 : aN ≠ aO) (n02 : aN ≠ aU) (n03 : aN ≠ aV) (n12 : aO ≠ aU) (n13 : aO ≠ aV) (n23 : aU ≠ aV) (hnl : nl.length = 36) (hni : ye_ints nl) (hol : ov.length = 12) (hul : uv.length = 12) (hvl : vv.length = 12) (hB : P[aB]? = some (101, bs)) (fB : aB < z_far) (hx : ye_tx T sz (-128) 127 bs) (hz : 0 ≤ sz ∧ sz ≤ 80)
    (hlm : lim = if sz ≤ 40 then sz else 40) (hd : 5 ≤ d) : ye_X xs d 201 [.ref aM] P (fun r P' => r = some (ye_v (yq_wd T sz)) ∧ ∃ F', P'[aM]? = some (10, ye_fl F') ∧ ye_fk [8, 11, 14, 15, 16, 17, 18, 19, 21] F F' ∧ F' 11 = ye_v 0 ∧ ye_oth [aM, aN, aO, aU, aV] P P' ∧ (0 ≤ yq_wd T sz → F' 21 = ye_v (yq_wd T sz)) ∧ (yq_wd T sz < 0 → F' 21 = F 21)) := by
  have hlm2 : (lim = sz ∧ sz ≤ 40) ∨ (lim = 40 ∧ 40 < sz) := by
    rw [hlm]
    split <;> omega
  refine ye_go ?_
  have a0 : z_get (lv_args 0 [.ref aM]) 0 = some (.ref aM) := rfl
  have ho0 : ye_oth [aM, aN, aO, aU, aV] P P := ye_oth_rf
  have hf0 : ye_fk [8, 11, 14, 15, 16, 17, 18, 19, 21] F F := ye_fk_rf
  refine z_r_ld (kk := z_isA) (ins := (.aload_n 0)) (len := 1) (t := 1) (i := 0) rfl rfl rfl rfl rfl (fun _ => rfl) a0 rfl ?_
  refine z_r_pu (ins := (.iconst 0)) (len := 1) (t := 2) (st' := [ye_v 0, .ref aM]) rfl rfl rfl rfl rfl ?_
  refine ye_r_wr (ins := (.putfield 124)) (len := 3) (t := 5) (a := aM) (q := (10, ye_fl (ye_up F 14 (ye_v 0)))) rfl rfl rfl rfl rfl hM (ye_pfm (k := 14) rfl hM rfl rfl rfl rfl) (fun P_1 c_2 o_3 => ?_)
  have c_4 := ye_kp o_3 (ye_n1 (ye_ne hB hM (by decide))) hB
  have c_5 := ye_kp o_3 (ye_n1 (ye_ne hN hM (by decide))) hN
  have c_6 := ye_kp o_3 (ye_n1 (ye_ne hO hM (by decide))) hO
  have c_7 := ye_kp o_3 (ye_n1 (ye_ne hU hM (by decide))) hU
  have c_8 := ye_kp o_3 (ye_n1 (ye_ne hV hM (by decide))) hV
  have o_9 := ye_oth_tr ho0 o_3 (ye_s1 (List.mem_cons_self))
  have f_10 := ye_fk_up (j := 14) (v := ye_v 0) hf0 (List.mem_cons_of_mem _ (List.mem_cons_of_mem _ (List.mem_cons_self)))
  refine z_r_ld (kk := z_isA) (ins := (.aload_n 0)) (len := 1) (t := 6) (i := 0) rfl rfl rfl rfl rfl (fun _ => rfl) a0 rfl ?_
  refine z_r_ld (kk := z_isA) (ins := (.aload_n 0)) (len := 1) (t := 7) (i := 0) rfl rfl rfl rfl rfl (fun _ => rfl) a0 rfl ?_
  refine z_r_rd (ins := (.getfield 35)) (len := 3) (t := 10) rfl rfl rfl rfl rfl (z_gfv (ci := 10) (k := 10) (v := .ref aB) rfl (z_lkn fM c_2) (by decide) (ye_flg rfl k10)) ?_
  refine z_r_ld (kk := z_isA) (ins := (.aload_n 0)) (len := 1) (t := 11) (i := 0) rfl rfl rfl rfl rfl (fun _ => rfl) a0 rfl ?_
  refine z_r_rd (ins := (.getfield 141)) (len := 3) (t := 14) rfl rfl rfl rfl rfl (z_gfv (ci := 10) (k := 11) (v := ye_v sz) rfl (z_lkn fM c_2) (by decide) (ye_flg rfl k11)) ?_
  refine z_r_pu (ins := (.bipush 40)) (len := 2) (t := 16) rfl rfl rfl rfl (ye_bi (by decide) (by decide)) ?_
  refine ye_cav (ins := (.invokevirtual 175)) (kd := 1) (t := 19) rfl rfl (by decide) (z_argsv rfl rfl rfl (by omega) (Nat.le_of_ble_eq_true rfl) rfl (Nat.le_of_ble_eq_true rfl) (Nat.le_refl _) (Nat.le_refl _) (Or.inr (Nat.le_of_ble_eq_true rfl)) (Or.inr (z_atv (z_lkn fM c_2) rfl))) rfl rfl rfl rfl (ye_begin c_2 fM) ?_
  rintro _ P_12 ⟨F_11, c_13, f_14, k_16, k_17, k_18, k_19, k_20, o_15⟩
  have c_21 := ye_kp o_15 (ye_n1 (ye_ne c_4 c_2 (by decide))) c_4
  have c_22 := ye_kp o_15 (ye_n1 (ye_ne c_5 c_2 (by decide))) c_5
  have c_23 := ye_kp o_15 (ye_n1 (ye_ne c_6 c_2 (by decide))) c_6
  have c_24 := ye_kp o_15 (ye_n1 (ye_ne c_7 c_2 (by decide))) c_7
  have c_25 := ye_kp o_15 (ye_n1 (ye_ne c_8 c_2 (by decide))) c_8
  have o_26 := ye_oth_tr o_9 o_15 (ye_s1 (List.mem_cons_self))
  have f_27 : F_11 10 = .ref aB := (f_14 10 (by decide)).trans k10
  have f_28 : F_11 11 = ye_v sz := (f_14 11 (by decide)).trans k11
  have f_29 : F_11 14 = ye_v 0 := (f_14 14 (by decide)).trans rfl
  have f_30 : F_11 21 = F 21 := (f_14 21 (by decide)).trans rfl
  have f_31 : F_11 22 = .ref aO := (f_14 22 (by decide)).trans k22
  have f_32 : F_11 23 = .ref aU := (f_14 23 (by decide)).trans k23
  have f_33 : F_11 24 = .ref aV := (f_14 24 (by decide)).trans k24
  have f_34 : F_11 25 = .ref aN := (f_14 25 (by decide)).trans k25
  have f_35 := ye_fk_tr f_10 f_14 (by decide)
  refine z_r_ld (kk := z_isA) (ins := (.aload_n 0)) (len := 1) (t := 20) (i := 0) rfl rfl rfl rfl rfl (fun _ => rfl) a0 rfl ?_
  refine z_r_pu (ins := (.iconst 0)) (len := 1) (t := 21) (st' := [ye_v 0, .ref aM]) rfl rfl rfl rfl rfl ?_
  refine ye_r_wr (ins := (.putfield 141)) (len := 3) (t := 24) (a := aM) (q := (10, ye_fl (ye_up F_11 11 (ye_v 0)))) rfl rfl rfl rfl rfl c_13 (ye_pfm (k := 11) rfl c_13 rfl rfl rfl rfl) (fun P_36 c_37 o_38 => ?_)
  have c_39 := ye_kp o_38 (ye_n1 (ye_ne c_21 c_13 (by decide))) c_21
  have c_40 := ye_kp o_38 (ye_n1 (ye_ne c_22 c_13 (by decide))) c_22
  have c_41 := ye_kp o_38 (ye_n1 (ye_ne c_23 c_13 (by decide))) c_23
  have c_42 := ye_kp o_38 (ye_n1 (ye_ne c_24 c_13 (by decide))) c_24
  have c_43 := ye_kp o_38 (ye_n1 (ye_ne c_25 c_13 (by decide))) c_25
  have o_44 := ye_oth_tr o_26 o_38 (ye_s1 (List.mem_cons_self))
  have f_45 := ye_fk_up (j := 11) (v := ye_v 0) f_35 (List.mem_cons_of_mem _ (List.mem_cons_self))
  refine z_r_pu (ins := (.iconst 0)) (len := 1) (t := 25) (st' := [ye_v 0]) rfl rfl rfl rfl rfl ?_
  refine z_r_is (kk := z_isI) (ins := (.istore_n 1)) (len := 1) (t := 26) (i := 1) rfl rfl rfl rfl rfl rfl rfl rfl (fun l l_46 k_47 => ?_)
  have l_48 := k_47 _ _ a0 (by decide) (Or.inr (by show (1 : Nat) ≠ 2; decide))
  refine z_r_ld (kk := z_isA) (ins := (.aload_n 0)) (len := 1) (t := 27) (i := 0) rfl rfl rfl rfl rfl (fun _ => rfl) l_48 rfl ?_
  refine z_r_rd (ins := (.getfield 147)) (len := 3) (t := 30) rfl rfl rfl rfl rfl (z_gfv (ci := 10) (k := 16) (v := ye_v sz) rfl (z_lkn fM c_37) (by decide) (ye_flg rfl k_17)) ?_
  by_cases b_49 : sz ≤ 0
  · skip
    refine z_r_jm (ins := (.ifCond .le 7)) (len := 3) (t := 37) rfl rfl rfl rfl (ye_iy (t := 37) rfl (by omega) (by omega) b_49) ?_
    refine z_r_pu (ins := (.iconst 0)) (len := 1) (t := 38) (st' := [ye_v 0]) rfl rfl rfl rfl rfl ?_
    refine z_r_is (kk := z_isI) (ins := (.istore_n 2)) (len := 1) (t := 39) (i := 2) rfl rfl rfl rfl rfl rfl rfl rfl (fun l l_50 k_51 => ?_)
    have l_52 := k_51 _ _ l_48 (by decide) (Or.inl (by decide))
    have l_53 := k_51 _ _ l_46 (by decide) (Or.inr (by show (1 : Nat) ≠ 2; decide))
    have el : yq_lim sz 40 = lim := by
      unfold yq_lim
      split <;> omega
    have ew : yq_wd T sz = (if (yq_rd T lim).1 = true ∧ sz ≤ 40 then (yq_rd T lim).2.1 else -1 - (yq_rd T lim).2.2) := by
      unfold yq_wd
      rw [el]
    have eR : yq_rd T lim = (true, 0, 0) := if_pos (by omega)
    rw [eR, if_pos ⟨rfl, by omega⟩] at ew
    have ew : yq_wd T sz = 0 := ew
    refine ye_mwE l_50 l_52 c_37 fM k_20 (by decide) (by omega) (Or.inl rfl) ?_
    refine ye_mwT (n := 0) c_37 fM k_17 k_19 k_20 f_31 f_32 f_33 f_34 c_40 fN c_41 fO c_42 fU c_43 fV n01 n02 n03 n12 n13 n23 hnl hni hol hul hvl (by omega) (by omega) l_52 l_53 (fun _ _ => ⟨by decide, by decide⟩) ?_ ?_
    · intro _ _ P' F' r1 r2 r3 r4
      rw [ew]
      exact ⟨rfl, F', r1, ye_fk_tr f_45 r2 (by decide), (r2 11 (by decide)).trans rfl, ye_oth_tr o_44 r4 (fun b hb => by simp at hb ⊢; omega), fun _ => r3, fun q => absurd q (by decide)⟩
    · intro a P' F' hc
      omega
  · skip
    refine z_r_jm (ins := (.ifCond .le 7)) (len := 3) (t := 33) rfl rfl rfl rfl (ye_in (t := 37) rfl (by omega) (by omega) b_49) ?_
    refine z_r_pu (ins := (.iconst 1)) (len := 1) (t := 34) (st' := [ye_v 1]) rfl rfl rfl rfl rfl ?_
    refine z_r_jm (ins := (.goto 4)) (len := 3) (t := 38) rfl rfl rfl rfl (z_gty rfl) ?_
    refine z_r_is (kk := z_isI) (ins := (.istore_n 2)) (len := 1) (t := 39) (i := 2) rfl rfl rfl rfl rfl rfl rfl rfl (fun l l_54 k_55 => ?_)
    have l_56 := k_55 _ _ l_48 (by decide) (Or.inl (by decide))
    have l_57 := k_55 _ _ l_46 (by decide) (Or.inr (by show (1 : Nat) ≠ 2; decide))
    have el : yq_lim sz 40 = lim := by
      unfold yq_lim
      split <;> omega
    have ew : yq_wd T sz = (if (yq_rd T lim).1 = true ∧ sz ≤ 40 then (yq_rd T lim).2.1 else -1 - (yq_rd T lim).2.2) := by
      unfold yq_wd
      rw [el]
    have eR : yq_rd T lim = yq_wr T lim 10 0 0 := if_neg (by omega)
    rw [eR] at ew
    have rb := yq_rd_bd (T := T) (lim := lim) (by omega)
    rw [eR] at rb
    refine ye_mwL (P0 := _) (F0 := ye_up F_11 11 (ye_v 0)) (lim := lim) (sz := sz) (tp := 40) fM fB fN hx (by omega) (by omega) (by omega) 10 (i := 0) (p := 0) (by decide) (by decide) (by decide) (by omega) l_56 l_57 l_54 c_37 k_16 k_17 k_18 k_19 k_20 f_34 c_39 c_40 hnl hni ye_fk_rf ye_oth_rf ?_
    intro l P8 F8 nl8 n8 h8 w8 z0 z1 hM8 hf8 m18 m19 hN8 hnl8 hni8 ho8 hb8 hc8
    have m11 := (hf8 11 (by decide)).trans rfl
    have m16 := (hf8 16 (by decide)).trans k_17
    have m22 := (hf8 22 (by decide)).trans f_31
    have m23 := (hf8 23 (by decide)).trans f_32
    have m24 := (hf8 24 (by decide)).trans f_33
    have m25 := (hf8 25 (by decide)).trans f_34
    have hO8 := ye_kp ho8 (ye_nc (ye_ne c_41 c_37 (by decide)) (ye_n1 (Ne.symm n01))) c_41
    have hU8 := ye_kp ho8 (ye_nc (ye_ne c_42 c_37 (by decide)) (ye_n1 (Ne.symm n02))) c_42
    have hV8 := ye_kp ho8 (ye_nc (ye_ne c_43 c_37 (by decide)) (ye_n1 (Ne.symm n03))) c_43
    generalize ewr : yq_wr T lim 10 0 0 = wr at ew rb hc8
    refine ye_mwT (n := n8) (h := h8) (w := w8) hM8 fM m16 m18 m19 m22 m23 m24 m25 hN8 fN hO8 fO hU8 fU hV8 fV n01 n02 n03 n12 n13 n23 hnl8 hni8 hol hul hvl (by omega) (by omega) z0 z1 ?_ ?_ ?_
    · intro q1 q2
      rcases hc8 with ⟨-, -, -, -, g⟩ | ⟨-, -, g, -⟩ | ⟨-, g, -⟩ <;> omega
    · intro q1 q2 P' F' r1 r2 r3 r4
      have ea : yq_wd T sz = n8 := by
        rcases hc8 with ⟨g1, g2, g3, g4, g5⟩ | ⟨g1, g2, g3, g4⟩ | ⟨g1, g2, g3⟩
        · rw [if_pos ⟨g1, by omega⟩] at ew
          rw [ew, g5]
        · omega
        · omega
      rw [ea]
      exact ⟨rfl, F', r1, ye_fk_tr (ye_fk_tr f_45 hf8 (by decide)) r2 (by decide), (r2 11 (by decide)).trans m11, ye_oth_tr (ye_oth_tr o_44 ho8 (fun b hb => by simp at hb ⊢; omega)) r4 (fun b hb => by simp at hb ⊢; omega), fun _ => r3, fun q => absurd q (by omega)⟩
    · intro a P' F' hca r1 r2 r4
      have ea : yq_wd T sz = a := by
        rcases hc8 with ⟨g1, g2, g3, g4, g5⟩ | ⟨g1, g2, g3, g4⟩ | ⟨g1, g2, g3⟩
        · rw [if_neg (by rintro ⟨-, u⟩; omega)] at ew
          omega
        · rw [if_neg (by rw [g1]; rintro ⟨u, -⟩; cases u)] at ew
          omega
        · rw [if_neg (by rw [g1]; rintro ⟨u, -⟩; cases u)] at ew
          omega
      rw [ea]
      have hm : -1 - 80 ≤ a ∧ a < 0 := by omega
      exact ⟨rfl, F', r1, ye_fk_tr (ye_fk_tr f_45 hf8 (by decide)) r2 (by decide), (r2 11 (by decide)).trans m11, ye_oth_tr (ye_oth_tr o_44 ho8 (fun b hb => by simp at hb ⊢; omega)) r4 (fun b hb => by simp at hb ⊢; omega), fun q => absurd q (by omega), fun _ => (r2 21 (by decide)).trans ((hf8 21 (by decide)).trans f_30)⟩
end YMWI
