/-! wind, the class, exactly. -/
section YCWN
variable {xs : List Int32} {d aS aT aG aW aI aR aX aSt aO : Nat} {P : z_H} {vs wv tv sv xv st : List Value} {T : Int → Int} {len p lim mo gl gr : Int} {l : z_L} {Ψ : z_S → Prop}
theorem yq_rd_bd {T : Int → Int} {lim : Int} (hl : 0 ≤ lim) : 0 ≤ (yq_rd T lim).2.2 ∧ (yq_rd T lim).2.2 ≤ lim ∧ 0 ≤ (yq_rd T lim).2.1 ∧ (yq_rd T lim).2.1 ≤ 10 := by
  have main : ∀ (k : Nat) (n p : Int), 0 ≤ n → n + k ≤ 10 → 0 ≤ p → p ≤ lim → 0 ≤ (yq_wr T lim k n p).2.2 ∧ (yq_wr T lim k n p).2.2 ≤ lim ∧ 0 ≤ (yq_wr T lim k n p).2.1 ∧ (yq_wr T lim k n p).2.1 ≤ 10 := by
    intro k
    induction k with
    | zero => intro n p n0 n1 p0 p1; exact ⟨p0, p1, n0, by show n ≤ 10; omega⟩
    | succ k ih =>
      intro n p n0 n1 p0 p1
      obtain ⟨b1, b2, b3⟩ := yq_wl_bd (T := T) p1
      unfold yq_wr
      split
      · split
        · exact ⟨by show 0 ≤ (yq_wl T lim p).2; omega, b2, by show 0 ≤ n + 1; omega, by show n + 1 ≤ 10; omega⟩
        · split
          · exact ih (n + 1) ((yq_wl T lim p).2 + 1) (by omega) (by omega) (by omega) (by omega)
          · exact ⟨by show 0 ≤ (yq_wl T lim p).2; omega, b2, by show 0 ≤ n + 1; omega, by show n + 1 ≤ 10; omega⟩
      · exact ⟨by show 0 ≤ (yq_wl T lim p).2; omega, b2, n0, by show n ≤ 10; omega⟩
  unfold yq_rd
  split
  · exact ⟨Int.le_refl _, hl, Int.le_refl _, by decide⟩
  · exact main 10 0 0 (Int.le_refl _) (by decide) (Int.le_refl _) hl
/-- what wind() answers to a text of len signs -/
def yq_wd (T : Int → Int) (len : Int) : Int := if (yq_rd T (yq_lim len 40)).1 = true ∧ len ≤ 40 then (yq_rd T (yq_lim len 40)).2.1 else -1 - (yq_rd T (yq_lim len 40)).2.2
theorem ye_fault0 (hS : P[aS]? = some (1, [.ref aT, ye_v len, ye_v p, ye_v lim, ye_v mo])) (fS : aS < z_far) (hb : 0 ≤ p ∧ p ≤ 80) : ye_X xs d 37 [.ref aS] P (fun r P' => P' = P ∧ r = some (ye_v (-1 - p))) := by
  refine ye_go ?_
  have a0 : z_get (lv_args 0 [.ref aS]) 0 = some (.ref aS) := rfl
  have ho0 : ye_oth [aS] P P := ye_oth_rf
  refine z_r_pu (ins := (.iconst (-1))) (len := 1) (t := 1) (st' := [ye_v ((-1))]) rfl rfl rfl rfl rfl ?_
  refine z_r_ld (kk := z_isA) (ins := (.aload_n 0)) (len := 1) (t := 2) (i := 0) rfl rfl rfl rfl rfl (fun _ => rfl) a0 rfl ?_
  refine z_r_rd (ins := (.getfield 19)) (len := 3) (t := 5) rfl rfl rfl rfl rfl (z_gfv (ci := 1) (k := 2) (v := ye_v p) rfl (z_lkn fS hS) (by decide) rfl) ?_
  refine z_r_pu (ins := .isub) (len := 1) (t := 6) rfl rfl rfl rfl ye_sub ?_
  refine ye_ret (ins := .ireturn) rfl rfl rfl (ye_reti rfl) ?_
  exact ⟨rfl, rfl⟩
theorem ye_Cwind (hS : P[aS]? = some (1, [.ref aT, ye_v len, ye_v p, ye_v lim, ye_v mo])) (fS : aS < z_far) (hT : P[aT]? = some (102, vs)) (fT : aT < z_far) (hx : ye_tx T len 0 255 vs) (hb : 0 ≤ len ∧ len ≤ 80)
    (hG : P[aG]? = some (6, [.ref aW, .ref aI, .ref aR, ye_v gl, ye_v gr])) (fG : aG < z_far) (hW : P[aW]? = some (103, wv)) (fW : aW < z_far) (hI : P[aI]? = some (103, tv)) (fI : aI < z_far) (hR : P[aR]? = some (103, sv)) (fR : aR < z_far) (nWI : aW ≠ aI) (nWR : aW ≠ aR) (nIR : aI ≠ aR)
    (hX : P[aX]? = some (0, xv)) (fX : aX < z_far) (hxl : xv.length = 18) (x0 : xv[0]? = some (.ref aS)) (x3 : xv[3]? = some (.ref aSt)) (x5 : xv[5]? = some (.ref aO)) (x6 : xv[6]? = some (.ref aG)) (hSt : P[aSt]? = some (5, st)) (fSt : aSt < z_far) (hst : st.length = 6)
    (hw : wv.length = 10) (ht : tv.length = 10) (hv : sv.length = 10) (hd : 4 ≤ d) : ye_X xs d 43 [.ref aX] P (fun r P' => ∃ a, r = some (ye_v (yq_wd T len)) ∧ ∃ lim mo xv', P'[aS]? = some (1, [.ref aT, ye_v 0, ye_v a, ye_v lim, ye_v mo]) ∧ P'[aX]? = some (0, xv') ∧ xv'.length = 18 ∧ ye_oth [aS, aW, aI, aR, aG, aX, aSt] P P' ∧ (0 ≤ yq_wd T len → xv'[5]? = some (.ref aG) ∧ xv'[6]? = some (.ref aO) ∧ ∃ gr, P'[aG]? = some (6, [.ref aW, .ref aI, .ref aR, ye_v (yq_wd T len), ye_v gr])) ∧ (yq_wd T len < 0 → xv' = xv ∧ True)) := by
  refine ye_go ?_
  have a0 : z_get (lv_args 0 [.ref aX]) 0 = some (.ref aX) := rfl
  have ho0 : ye_oth [aS, aW, aI, aR, aG, aX, aSt] P P := ye_oth_rf
  refine z_r_ld (kk := z_isA) (ins := (.aload_n 0)) (len := 1) (t := 1) (i := 0) rfl rfl rfl rfl rfl (fun _ => rfl) a0 rfl ?_
  refine z_r_rd (ins := (.getfield 12)) (len := 3) (t := 4) rfl rfl rfl rfl rfl (z_gfv (ci := 0) (k := 0) (v := .ref aS) rfl (z_lkn fX hX) (by decide) x0) ?_
  refine z_r_pu (ins := (.bipush 40)) (len := 2) (t := 6) rfl rfl rfl rfl (ye_bi (by decide) (by decide)) ?_
  refine ye_cav (ins := (.invokevirtual 103)) (kd := 1) (t := 9) rfl rfl (by decide) (z_argsv rfl rfl rfl (by omega) (Nat.le_of_ble_eq_true rfl) rfl (Nat.le_of_ble_eq_true rfl) (Nat.le_refl _) (Nat.le_refl _) (Or.inr (Nat.le_of_ble_eq_true rfl)) (Or.inr (z_atv (z_lkn fS hS) rfl))) rfl rfl rfl rfl (ye_open (most := 40) hS fS (by omega) (by decide) (by omega)) ?_
  rintro _ P_1 ⟨lim, mo, c_2, o_3, h_4, h_5⟩
  have c_6 := ye_kp o_3 (ye_n1 (ye_ne hG hS (by decide))) hG
  have c_7 := ye_kp o_3 (ye_n1 (ye_ne hI hS (by decide))) hI
  have c_8 := ye_kp o_3 (ye_n1 (ye_ne hR hS (by decide))) hR
  have c_9 := ye_kp o_3 (ye_n1 (ye_ne hSt hS (by decide))) hSt
  have c_10 := ye_kp o_3 (ye_n1 (ye_ne hT hS (by decide))) hT
  have c_11 := ye_kp o_3 (ye_n1 (ye_ne hW hS (by decide))) hW
  have c_12 := ye_kp o_3 (ye_n1 (ye_ne hX hS (by decide))) hX
  have o_13 := ye_oth_tr ho0 o_3 (ye_s1 (List.mem_cons_self))
  refine z_r_ld (kk := z_isA) (ins := (.aload_n 0)) (len := 1) (t := 10) (i := 0) rfl rfl rfl rfl rfl (fun _ => rfl) a0 rfl ?_
  refine z_r_rd (ins := (.getfield 48)) (len := 3) (t := 13) rfl rfl rfl rfl rfl (z_gfv (ci := 0) (k := 6) (v := .ref aG) rfl (z_lkn fX c_12) (by decide) x6) ?_
  refine z_r_ld (kk := z_isA) (ins := (.aload_n 0)) (len := 1) (t := 14) (i := 0) rfl rfl rfl rfl rfl (fun _ => rfl) a0 rfl ?_
  refine z_r_rd (ins := (.getfield 12)) (len := 3) (t := 17) rfl rfl rfl rfl rfl (z_gfv (ci := 0) (k := 0) (v := .ref aS) rfl (z_lkn fX c_12) (by decide) x0) ?_
  refine ye_ca (ins := (.invokevirtual 143)) (kd := 1) (t := 20) rfl rfl (by decide) (z_argsv rfl rfl rfl (by omega) (Nat.le_of_ble_eq_true rfl) rfl (Nat.le_of_ble_eq_true rfl) (Nat.le_refl _) (Nat.le_refl _) (Or.inr (Nat.le_of_ble_eq_true rfl)) (Or.inr (z_atv (z_lkn fG c_6) rfl))) rfl rfl rfl (ye_wread c_2 fS c_10 fT hx (by omega) c_6 fG c_11 fW c_7 fI c_8 fR nWI nWR nIR hw ht hv (by omega)) ?_
  rintro _ P_14 ⟨v_19, gl2, gr2, rfl, c_15, c_16, o_17, h_18⟩
  have rb := yq_rd_bd (T := T) (lim := lim) (by omega)
  generalize er : yq_rd T lim = rd at rb c_15 h_18
  have c_20 := ye_kp o_17 (ye_nc (ye_ne c_9 c_2 (by decide)) (ye_nc (ye_ne c_9 c_11 (by decide)) (ye_nc (ye_ne c_9 c_7 (by decide)) (ye_nc (ye_ne c_9 c_8 (by decide)) (ye_n1 (ye_ne c_9 c_6 (by decide))))))) c_9
  have c_21 := ye_kp o_17 (ye_nc (ye_ne c_10 c_2 (by decide)) (ye_nc (ye_ne c_10 c_11 (by decide)) (ye_nc (ye_ne c_10 c_7 (by decide)) (ye_nc (ye_ne c_10 c_8 (by decide)) (ye_n1 (ye_ne c_10 c_6 (by decide))))))) c_10
  have c_22 := ye_kp o_17 (ye_nc (ye_ne c_12 c_2 (by decide)) (ye_nc (ye_ne c_12 c_11 (by decide)) (ye_nc (ye_ne c_12 c_7 (by decide)) (ye_nc (ye_ne c_12 c_8 (by decide)) (ye_n1 (ye_ne c_12 c_6 (by decide))))))) c_12
  have o_23 := ye_oth_tr o_13 o_17 ((fun b hb => by simp at hb ⊢; omega))
  refine z_r_is (kk := z_isI) (ins := (.istore_n 1)) (len := 1) (t := 21) (i := 1) rfl rfl rfl rfl rfl rfl rfl rfl (fun l l_24 k_25 => ?_)
  have l_26 := k_25 _ _ a0 (by decide) (Or.inr (by show (1 : Nat) ≠ 2; decide))
  refine z_r_ld (kk := z_isI) (ins := (.iload_n 1)) (len := 1) (t := 22) (i := 1) rfl rfl rfl rfl rfl (fun _ => rfl) l_24 rfl ?_
  refine z_r_pu (ins := (.iconst (-1))) (len := 1) (t := 23) (st' := [ye_v ((-1)), ye_v v_19]) rfl rfl rfl rfl rfl ?_
  by_cases b_27 : v_19 = (-1)
  · skip
    refine z_r_jm (ins := (.if_icmp .eq 17)) (len := 3) (t := 40) rfl rfl rfl rfl (ye_jy (t := 40) rfl (by omega) (by omega) (by omega) (by omega) b_27) ?_
    refine z_r_pu (ins := (.iconst 0)) (len := 1) (t := 41) (st' := [ye_v 0]) rfl rfl rfl rfl rfl ?_
    refine z_r_is (kk := z_isI) (ins := (.istore_n 2)) (len := 1) (t := 42) (i := 2) rfl rfl rfl rfl rfl rfl rfl rfl (fun l l_28 k_29 => ?_)
    have l_30 := k_29 _ _ l_26 (by decide) (Or.inl (by decide))
    have l_31 := k_29 _ _ l_24 (by decide) (Or.inr (by show (1 : Nat) ≠ 2; decide))
    refine z_r_ld (kk := z_isA) (ins := (.aload_n 0)) (len := 1) (t := 43) (i := 0) rfl rfl rfl rfl rfl (fun _ => rfl) l_30 rfl ?_
    refine z_r_rd (ins := (.getfield 12)) (len := 3) (t := 46) rfl rfl rfl rfl rfl (z_gfv (ci := 0) (k := 0) (v := .ref aS) rfl (z_lkn fX c_22) (by decide) x0) ?_
    refine ye_cav (ins := (.invokevirtual 115)) (kd := 1) (t := 49) rfl rfl (by decide) (z_argsv rfl rfl rfl (by omega) (Nat.le_of_ble_eq_true rfl) rfl (Nat.le_of_ble_eq_true rfl) (Nat.le_refl _) (Nat.le_refl _) (Or.inr (Nat.le_of_ble_eq_true rfl)) (Or.inr (z_atv (z_lkn fS c_15) rfl))) rfl rfl rfl rfl (ye_clear c_15 fS) ?_
    rintro _ P_32 ⟨c_33, o_34⟩
    have c_35 := ye_kp o_34 (ye_n1 (ye_ne c_16 c_15 (by decide))) c_16
    have c_36 := ye_kp o_34 (ye_n1 (ye_ne c_20 c_15 (by decide))) c_20
    have c_37 := ye_kp o_34 (ye_n1 (ye_ne c_21 c_15 (by decide))) c_21
    have c_38 := ye_kp o_34 (ye_n1 (ye_ne c_22 c_15 (by decide))) c_22
    have o_39 := ye_oth_tr o_23 o_34 (ye_s1 (List.mem_cons_self))
    refine z_r_ld (kk := z_isI) (ins := (.iload_n 2)) (len := 1) (t := 50) (i := 2) rfl rfl rfl rfl rfl (fun _ => rfl) l_28 rfl ?_
    refine z_r_jm (ins := (.ifCond .ne 11)) (len := 3) (t := 53) rfl rfl rfl rfl (ye_in (t := 61) rfl (by omega) (by omega) (by show ¬ ((0 : Int) ≠ 0); decide)) ?_
    refine z_r_ld (kk := z_isA) (ins := (.aload_n 0)) (len := 1) (t := 54) (i := 0) rfl rfl rfl rfl rfl (fun _ => rfl) l_30 rfl ?_
    refine z_r_rd (ins := (.getfield 12)) (len := 3) (t := 57) rfl rfl rfl rfl rfl (z_gfv (ci := 0) (k := 0) (v := .ref aS) rfl (z_lkn fX c_38) (by decide) x0) ?_
    refine ye_ca (ins := (.invokevirtual 118)) (kd := 1) (t := 60) rfl rfl (by decide) (z_argsv rfl rfl rfl (by omega) (Nat.le_of_ble_eq_true rfl) rfl (Nat.le_of_ble_eq_true rfl) (Nat.le_refl _) (Nat.le_refl _) (Or.inr (Nat.le_of_ble_eq_true rfl)) (Or.inr (z_atv (z_lkn fS c_33) rfl))) rfl rfl rfl (ye_fault0 c_33 fS (by omega)) ?_
    rintro _ _ ⟨rfl, rfl⟩
    refine ye_ret (ins := .ireturn) rfl rfl rfl (ye_reti rfl) ?_
    have el : yq_lim len 40 = lim := by
      unfold yq_lim
      split <;> omega
    have ea : yq_wd T len = -1 - rd.2.2 := by
      unfold yq_wd
      rw [el, er]
      have kw : ¬ (rd.1 = true ∧ len ≤ 40) := by
        rintro ⟨g1, g2⟩
        rcases h_18 with ⟨g3, g4, g5⟩ | ⟨g3, g4⟩
        · omega
        · rw [g1] at g3; cases g3
      rw [if_neg kw]
    rw [ea]
    exact ⟨_, rfl, lim, mo, _, c_33, c_38, hxl, o_39, fun q => absurd q (by omega), fun _ => ⟨rfl, trivial⟩⟩
  · skip
    refine z_r_jm (ins := (.if_icmp .eq 17)) (len := 3) (t := 26) rfl rfl rfl rfl (ye_jn (t := 40) rfl (by omega) (by omega) (by omega) (by omega) b_27) ?_
    refine z_r_ld (kk := z_isA) (ins := (.aload_n 0)) (len := 1) (t := 27) (i := 0) rfl rfl rfl rfl rfl (fun _ => rfl) l_26 rfl ?_
    refine z_r_rd (ins := (.getfield 12)) (len := 3) (t := 30) rfl rfl rfl rfl rfl (z_gfv (ci := 0) (k := 0) (v := .ref aS) rfl (z_lkn fX c_22) (by decide) x0) ?_
    refine ye_ca (ins := (.invokevirtual 111)) (kd := 1) (t := 33) rfl rfl (by decide) (z_argsv rfl rfl rfl (by omega) (Nat.le_of_ble_eq_true rfl) rfl (Nat.le_of_ble_eq_true rfl) (Nat.le_refl _) (Nat.le_refl _) (Or.inr (Nat.le_of_ble_eq_true rfl)) (Or.inr (z_atv (z_lkn fS c_15) rfl))) rfl rfl rfl (ye_hasMore c_15 fS c_21 fT hx (by omega) (by omega)) ?_
    rintro _ _ ⟨rfl, rfl⟩
    by_cases b_40 : mo ≠ 0
    · skip
      refine z_r_jm (ins := (.ifCond .ne 7)) (len := 3) (t := 40) rfl rfl rfl rfl (ye_iy (t := 40) rfl (by omega) (by omega) b_40) ?_
      refine z_r_pu (ins := (.iconst 0)) (len := 1) (t := 41) (st' := [ye_v 0]) rfl rfl rfl rfl rfl ?_
      refine z_r_is (kk := z_isI) (ins := (.istore_n 2)) (len := 1) (t := 42) (i := 2) rfl rfl rfl rfl rfl rfl rfl rfl (fun l l_41 k_42 => ?_)
      have l_43 := k_42 _ _ l_26 (by decide) (Or.inl (by decide))
      have l_44 := k_42 _ _ l_24 (by decide) (Or.inr (by show (1 : Nat) ≠ 2; decide))
      refine z_r_ld (kk := z_isA) (ins := (.aload_n 0)) (len := 1) (t := 43) (i := 0) rfl rfl rfl rfl rfl (fun _ => rfl) l_43 rfl ?_
      refine z_r_rd (ins := (.getfield 12)) (len := 3) (t := 46) rfl rfl rfl rfl rfl (z_gfv (ci := 0) (k := 0) (v := .ref aS) rfl (z_lkn fX c_22) (by decide) x0) ?_
      refine ye_cav (ins := (.invokevirtual 115)) (kd := 1) (t := 49) rfl rfl (by decide) (z_argsv rfl rfl rfl (by omega) (Nat.le_of_ble_eq_true rfl) rfl (Nat.le_of_ble_eq_true rfl) (Nat.le_refl _) (Nat.le_refl _) (Or.inr (Nat.le_of_ble_eq_true rfl)) (Or.inr (z_atv (z_lkn fS c_15) rfl))) rfl rfl rfl rfl (ye_clear c_15 fS) ?_
      rintro _ P_45 ⟨c_46, o_47⟩
      have c_48 := ye_kp o_47 (ye_n1 (ye_ne c_16 c_15 (by decide))) c_16
      have c_49 := ye_kp o_47 (ye_n1 (ye_ne c_20 c_15 (by decide))) c_20
      have c_50 := ye_kp o_47 (ye_n1 (ye_ne c_21 c_15 (by decide))) c_21
      have c_51 := ye_kp o_47 (ye_n1 (ye_ne c_22 c_15 (by decide))) c_22
      have o_52 := ye_oth_tr o_23 o_47 (ye_s1 (List.mem_cons_self))
      refine z_r_ld (kk := z_isI) (ins := (.iload_n 2)) (len := 1) (t := 50) (i := 2) rfl rfl rfl rfl rfl (fun _ => rfl) l_41 rfl ?_
      refine z_r_jm (ins := (.ifCond .ne 11)) (len := 3) (t := 53) rfl rfl rfl rfl (ye_in (t := 61) rfl (by omega) (by omega) (by show ¬ ((0 : Int) ≠ 0); decide)) ?_
      refine z_r_ld (kk := z_isA) (ins := (.aload_n 0)) (len := 1) (t := 54) (i := 0) rfl rfl rfl rfl rfl (fun _ => rfl) l_43 rfl ?_
      refine z_r_rd (ins := (.getfield 12)) (len := 3) (t := 57) rfl rfl rfl rfl rfl (z_gfv (ci := 0) (k := 0) (v := .ref aS) rfl (z_lkn fX c_51) (by decide) x0) ?_
      refine ye_ca (ins := (.invokevirtual 118)) (kd := 1) (t := 60) rfl rfl (by decide) (z_argsv rfl rfl rfl (by omega) (Nat.le_of_ble_eq_true rfl) rfl (Nat.le_of_ble_eq_true rfl) (Nat.le_refl _) (Nat.le_refl _) (Or.inr (Nat.le_of_ble_eq_true rfl)) (Or.inr (z_atv (z_lkn fS c_46) rfl))) rfl rfl rfl (ye_fault0 c_46 fS (by omega)) ?_
      rintro _ _ ⟨rfl, rfl⟩
      refine ye_ret (ins := .ireturn) rfl rfl rfl (ye_reti rfl) ?_
      have el : yq_lim len 40 = lim := by
        unfold yq_lim
        split <;> omega
      have ea : yq_wd T len = -1 - rd.2.2 := by
        unfold yq_wd
        rw [el, er]
        have kw : ¬ (rd.1 = true ∧ len ≤ 40) := by
          rintro ⟨g1, g2⟩
          rcases h_18 with ⟨g3, g4, g5⟩ | ⟨g3, g4⟩
          · omega
          · rw [g1] at g3; cases g3
        rw [if_neg kw]
      rw [ea]
      exact ⟨_, rfl, lim, mo, _, c_46, c_51, hxl, o_52, fun q => absurd q (by omega), fun _ => ⟨rfl, trivial⟩⟩
    · skip
      refine z_r_jm (ins := (.ifCond .ne 7)) (len := 3) (t := 36) rfl rfl rfl rfl (ye_in (t := 40) rfl (by omega) (by omega) b_40) ?_
      refine z_r_pu (ins := (.iconst 1)) (len := 1) (t := 37) (st' := [ye_v 1]) rfl rfl rfl rfl rfl ?_
      refine z_r_jm (ins := (.goto 4)) (len := 3) (t := 41) rfl rfl rfl rfl (z_gty rfl) ?_
      refine z_r_is (kk := z_isI) (ins := (.istore_n 2)) (len := 1) (t := 42) (i := 2) rfl rfl rfl rfl rfl rfl rfl rfl (fun l l_53 k_54 => ?_)
      have l_55 := k_54 _ _ l_26 (by decide) (Or.inl (by decide))
      have l_56 := k_54 _ _ l_24 (by decide) (Or.inr (by show (1 : Nat) ≠ 2; decide))
      refine z_r_ld (kk := z_isA) (ins := (.aload_n 0)) (len := 1) (t := 43) (i := 0) rfl rfl rfl rfl rfl (fun _ => rfl) l_55 rfl ?_
      refine z_r_rd (ins := (.getfield 12)) (len := 3) (t := 46) rfl rfl rfl rfl rfl (z_gfv (ci := 0) (k := 0) (v := .ref aS) rfl (z_lkn fX c_22) (by decide) x0) ?_
      refine ye_cav (ins := (.invokevirtual 115)) (kd := 1) (t := 49) rfl rfl (by decide) (z_argsv rfl rfl rfl (by omega) (Nat.le_of_ble_eq_true rfl) rfl (Nat.le_of_ble_eq_true rfl) (Nat.le_refl _) (Nat.le_refl _) (Or.inr (Nat.le_of_ble_eq_true rfl)) (Or.inr (z_atv (z_lkn fS c_15) rfl))) rfl rfl rfl rfl (ye_clear c_15 fS) ?_
      rintro _ P_57 ⟨c_58, o_59⟩
      have c_60 := ye_kp o_59 (ye_n1 (ye_ne c_16 c_15 (by decide))) c_16
      have c_61 := ye_kp o_59 (ye_n1 (ye_ne c_20 c_15 (by decide))) c_20
      have c_62 := ye_kp o_59 (ye_n1 (ye_ne c_21 c_15 (by decide))) c_21
      have c_63 := ye_kp o_59 (ye_n1 (ye_ne c_22 c_15 (by decide))) c_22
      have o_64 := ye_oth_tr o_23 o_59 (ye_s1 (List.mem_cons_self))
      refine z_r_ld (kk := z_isI) (ins := (.iload_n 2)) (len := 1) (t := 50) (i := 2) rfl rfl rfl rfl rfl (fun _ => rfl) l_53 rfl ?_
      refine z_r_jm (ins := (.ifCond .ne 11)) (len := 3) (t := 61) rfl rfl rfl rfl (ye_iy (t := 61) rfl (by omega) (by omega) (by show (1 : Int) ≠ 0; decide)) ?_
      refine z_r_ld (kk := z_isA) (ins := (.aload_n 0)) (len := 1) (t := 62) (i := 0) rfl rfl rfl rfl rfl (fun _ => rfl) l_55 rfl ?_
      refine z_r_rd (ins := (.getfield 44)) (len := 3) (t := 65) rfl rfl rfl rfl rfl (z_gfv (ci := 0) (k := 5) (v := .ref aO) rfl (z_lkn fX c_63) (by decide) x5) ?_
      refine z_r_is (kk := z_isA) (ins := (.astore_n 3)) (len := 1) (t := 66) (i := 3) rfl rfl rfl rfl rfl rfl rfl rfl (fun l l_65 k_66 => ?_)
      have l_67 := k_66 _ _ l_55 (by decide) (Or.inl (by decide))
      have l_68 := k_66 _ _ l_56 (by decide) (Or.inl (by decide))
      have l_69 := k_66 _ _ l_53 (by decide) (Or.inr (by show (1 : Nat) ≠ 2; decide))
      refine z_r_ld (kk := z_isA) (ins := (.aload_n 0)) (len := 1) (t := 67) (i := 0) rfl rfl rfl rfl rfl (fun _ => rfl) l_67 rfl ?_
      refine z_r_ld (kk := z_isA) (ins := (.aload_n 0)) (len := 1) (t := 68) (i := 0) rfl rfl rfl rfl rfl (fun _ => rfl) l_67 rfl ?_
      refine z_r_rd (ins := (.getfield 48)) (len := 3) (t := 71) rfl rfl rfl rfl rfl (z_gfv (ci := 0) (k := 6) (v := .ref aG) rfl (z_lkn fX c_63) (by decide) x6) ?_
      refine ye_r_wr (ins := (.putfield 44)) (len := 3) (t := 74) (a := aX) (q := (0, xv.set 5 (.ref aG))) rfl rfl rfl rfl rfl c_63 (z_pfv (ci := 0) (k := 5) rfl c_63 (by decide) (by omega) rfl rfl rfl) (fun P_70 c_71 o_72 => ?_)
      have q_73 : (xv.set 5 (.ref aG))[0]? = some (.ref aS) := (List.getElem?_set_ne (by decide)).trans x0
      have q_74 : (xv.set 5 (.ref aG))[3]? = some (.ref aSt) := (List.getElem?_set_ne (by decide)).trans x3
      have q_75 : (xv.set 5 (.ref aG))[6]? = some (.ref aG) := (List.getElem?_set_ne (by decide)).trans x6
      have q_76 : (xv.set 5 (.ref aG))[5]? = some (.ref aG) := List.getElem?_set_self (by omega)
      have c_77 := ye_kp o_72 (ye_n1 (ye_ne c_60 c_63 (by decide))) c_60
      have c_78 := ye_kp o_72 (ye_n1 (ye_ne c_58 c_63 (by decide))) c_58
      have c_79 := ye_kp o_72 (ye_n1 (ye_ne c_61 c_63 (by decide))) c_61
      have c_80 := ye_kp o_72 (ye_n1 (ye_ne c_62 c_63 (by decide))) c_62
      have o_81 := ye_oth_tr o_64 o_72 (ye_s1 (List.mem_cons_of_mem _ (List.mem_cons_of_mem _ (List.mem_cons_of_mem _ (List.mem_cons_of_mem _ (List.mem_cons_of_mem _ (List.mem_cons_self)))))))
      refine z_r_ld (kk := z_isA) (ins := (.aload_n 0)) (len := 1) (t := 75) (i := 0) rfl rfl rfl rfl rfl (fun _ => rfl) l_67 rfl ?_
      refine z_r_ld (kk := z_isA) (ins := (.aload_n 3)) (len := 1) (t := 76) (i := 3) rfl rfl rfl rfl rfl (fun _ => rfl) l_65 rfl ?_
      refine ye_r_wr (ins := (.putfield 48)) (len := 3) (t := 79) (a := aX) (q := (0, (xv.set 5 (.ref aG)).set 6 (.ref aO))) rfl rfl rfl rfl rfl c_71 (z_pfv (ci := 0) (k := 6) rfl c_71 (by decide) (by simp only [List.length_set]; omega) rfl rfl rfl) (fun P_82 c_83 o_84 => ?_)
      have q_85 : ((xv.set 5 (.ref aG)).set 6 (.ref aO))[0]? = some (.ref aS) := (List.getElem?_set_ne (by decide)).trans q_73
      have q_86 : ((xv.set 5 (.ref aG)).set 6 (.ref aO))[3]? = some (.ref aSt) := (List.getElem?_set_ne (by decide)).trans q_74
      have q_87 : ((xv.set 5 (.ref aG)).set 6 (.ref aO))[5]? = some (.ref aG) := (List.getElem?_set_ne (by decide)).trans q_76
      have q_88 : ((xv.set 5 (.ref aG)).set 6 (.ref aO))[6]? = some (.ref aO) := List.getElem?_set_self (by simp only [List.length_set]; omega)
      have c_89 := ye_kp o_84 (ye_n1 (ye_ne c_77 c_71 (by decide))) c_77
      have c_90 := ye_kp o_84 (ye_n1 (ye_ne c_78 c_71 (by decide))) c_78
      have c_91 := ye_kp o_84 (ye_n1 (ye_ne c_79 c_71 (by decide))) c_79
      have c_92 := ye_kp o_84 (ye_n1 (ye_ne c_80 c_71 (by decide))) c_80
      have o_93 := ye_oth_tr o_81 o_84 (ye_s1 (List.mem_cons_of_mem _ (List.mem_cons_of_mem _ (List.mem_cons_of_mem _ (List.mem_cons_of_mem _ (List.mem_cons_of_mem _ (List.mem_cons_self)))))))
      refine z_r_ld (kk := z_isA) (ins := (.aload_n 0)) (len := 1) (t := 80) (i := 0) rfl rfl rfl rfl rfl (fun _ => rfl) l_67 rfl ?_
      refine z_r_rd (ins := (.getfield 33)) (len := 3) (t := 83) rfl rfl rfl rfl rfl (z_gfv (ci := 0) (k := 3) (v := .ref aSt) rfl (z_lkn fX c_83) (by decide) q_86) ?_
      refine z_r_pu (ins := (.iconst 0)) (len := 1) (t := 84) (st' := [ye_v 0, .ref aSt]) rfl rfl rfl rfl rfl ?_
      refine ye_r_wr (ins := (.putfield 144)) (len := 3) (t := 87) (a := aSt) (q := (5, st.set 3 (ye_v 0))) rfl rfl rfl rfl rfl c_91 (z_pfv (ci := 5) (k := 3) rfl c_91 (by decide) (by omega) rfl rfl rfl) (fun P_94 c_95 o_96 => ?_)
      have q_97 : (st.set 3 (ye_v 0))[3]? = some (ye_v 0) := List.getElem?_set_self (by omega)
      have c_98 := ye_kp o_96 (ye_n1 (ye_ne c_89 c_91 (by decide))) c_89
      have c_99 := ye_kp o_96 (ye_n1 (ye_ne c_90 c_91 (by decide))) c_90
      have c_100 := ye_kp o_96 (ye_n1 (ye_ne c_92 c_91 (by decide))) c_92
      have c_101 := ye_kp o_96 (ye_n1 (ye_ne c_83 c_91 (by decide))) c_83
      have o_102 := ye_oth_tr o_93 o_96 (ye_s1 (List.mem_cons_of_mem _ (List.mem_cons_of_mem _ (List.mem_cons_of_mem _ (List.mem_cons_of_mem _ (List.mem_cons_of_mem _ (List.mem_cons_of_mem _ (List.mem_cons_self))))))))
      refine z_r_ld (kk := z_isI) (ins := (.iload_n 1)) (len := 1) (t := 88) (i := 1) rfl rfl rfl rfl rfl (fun _ => rfl) l_68 rfl ?_
      refine ye_ret (ins := .ireturn) rfl rfl rfl (ye_reti rfl) ?_
      have el : yq_lim len 40 = lim := by
        unfold yq_lim
        split <;> omega
      have ea : yq_wd T len = v_19 := by
        unfold yq_wd
        rw [el, er]
        have kw : rd.1 = true ∧ v_19 = rd.2.1 ∧ gl2 = v_19 := by
          rcases h_18 with g | ⟨g1, g2⟩
          · exact g
          · exact absurd g2 (by omega)
        rw [if_pos ⟨kw.1, by omega⟩]
        exact kw.2.1.symm
      have kg : gl2 = v_19 := by
        rcases h_18 with ⟨g1, g2, g3⟩ | ⟨g1, g2⟩
        · exact g3
        · exact absurd g2 (by omega)
      rw [ea]
      subst kg
      exact ⟨_, rfl, lim, mo, _, c_99, c_101, by simp only [List.length_set]; omega, o_102, fun _ => ⟨q_87, q_88, gr2, c_98⟩, fun q => absurd q (by omega)⟩
end YCWN
