/-! A LINE of the wind, the class, exactly. -/
section YWLN
theorem yq_num_bd {T : Int → Int} {lim p lo hi : Int} {k : Nat} (hk : 1 ≤ k ∧ k ≤ 3) (hp : p ≤ lim) : p ≤ (yq_num T lim k lo hi p).2.1 ∧ (yq_num T lim k lo hi p).2.1 ≤ lim ∧ (yq_num T lim k lo hi p).2.1 ≤ p + k ∧ ((yq_num T lim k lo hi p).1 = true → p < (yq_num T lim k lo hi p).2.1) ∧ 0 ≤ (yq_num T lim k lo hi p).2.2 ∧ (yq_num T lim k lo hi p).2.2 ≤ 999 := by
  have hcap : (0 : Int) ≤ yq_cap k := by
    have : k = 1 ∨ k = 2 ∨ k = 3 := by omega
    rcases this with rfl | rfl | rfl <;> decide
  obtain ⟨q1, q2, q3, q4, q5⟩ := yq_dg_bd (T := T) (lim := lim) (k := k) (p := p) (n := 0) (by omega) (by omega) hcap hp
  have eN : yq_num T lim k lo hi p = (if (yq_dg T lim k p 0).1 = p then (false, p, 0) else if (yq_dg T lim k p 0).2 < lo ∨ hi < (yq_dg T lim k p 0).2 then (false, (yq_dg T lim k p 0).1 - 1, 0) else (true, (yq_dg T lim k p 0).1, (yq_dg T lim k p 0).2)) := rfl
  generalize (yq_dg T lim k p 0).1 = p1 at q1 q2 q3 eN
  generalize (yq_dg T lim k p 0).2 = n1 at q4 q5 eN
  rw [eN]
  split
  · exact ⟨Int.le_refl _, hp, by show p ≤ p + (k : Int); omega, fun h => (by cases h), by show (0 : Int) ≤ 0; decide, by show (0 : Int) ≤ 999; decide⟩
  · split
    · exact ⟨by show p ≤ p1 - 1; omega, by show p1 - 1 ≤ lim; omega, by show p1 - 1 ≤ p + (k : Int); omega, fun h => (by cases h), by show (0 : Int) ≤ 0; decide, by show (0 : Int) ≤ 999; decide⟩
    · exact ⟨q1, q3, q2, fun _ => by show p < p1; omega, q4, q5⟩
/-- a LINE of THE WIND: whether, the place then -/
def yq_w0 (T : Int → Int) (lim p : Int) : Int := if p < lim ∧ T p = 45 then p + 1 else p
def yq_w3 (T : Int → Int) (lim q : Int) : Bool × Int := if q < lim ∧ T q = 126 then ((yq_num T lim 2 1 20 (q + 1)).1, (yq_num T lim 2 1 20 (q + 1)).2.1) else (true, q)
def yq_w2 (T : Int → Int) (lim q : Int) : Bool × Int := if (yq_num T lim 2 1 99 q).1 = true then yq_w3 T lim (yq_num T lim 2 1 99 q).2.1 else (false, (yq_num T lim 2 1 99 q).2.1)
def yq_w1 (T : Int → Int) (lim q : Int) : Bool × Int := if q < lim ∧ T q = 42 then yq_w2 T lim (q + 1) else (false, q)
def yq_wl (T : Int → Int) (lim p : Int) : Bool × Int := if (yq_num T lim 2 0 60 (yq_w0 T lim p)).1 = true then yq_w1 T lim (yq_num T lim 2 0 60 (yq_w0 T lim p)).2.1 else (false, (yq_num T lim 2 0 60 (yq_w0 T lim p)).2.1)
theorem yq_w0_bd {T : Int → Int} {lim p : Int} (hp : p ≤ lim) : p ≤ yq_w0 T lim p ∧ yq_w0 T lim p ≤ lim := by
  unfold yq_w0
  split <;> omega
theorem yq_w3_bd {T : Int → Int} {lim q : Int} (hq : q ≤ lim) : q ≤ (yq_w3 T lim q).2 ∧ (yq_w3 T lim q).2 ≤ lim := by
  unfold yq_w3
  split
  · obtain ⟨h1, h2, -⟩ := yq_num_bd (T := T) (lim := lim) (p := q + 1) (lo := 1) (hi := 20) (k := 2) (by decide) (by omega)
    exact ⟨by show q ≤ (yq_num T lim 2 1 20 (q + 1)).2.1; omega, h2⟩
  · exact ⟨Int.le_refl _, hq⟩
theorem yq_w2_bd {T : Int → Int} {lim q : Int} (hq : q ≤ lim) : q ≤ (yq_w2 T lim q).2 ∧ (yq_w2 T lim q).2 ≤ lim := by
  unfold yq_w2
  obtain ⟨h1, h2, -⟩ := yq_num_bd (T := T) (lim := lim) (p := q) (lo := 1) (hi := 99) (k := 2) (by decide) hq
  split
  · obtain ⟨g1, g2⟩ := yq_w3_bd (T := T) h2
    exact ⟨by omega, g2⟩
  · exact ⟨h1, h2⟩
theorem yq_w1_bd {T : Int → Int} {lim q : Int} (hq : q ≤ lim) : q ≤ (yq_w1 T lim q).2 ∧ (yq_w1 T lim q).2 ≤ lim := by
  unfold yq_w1
  split
  · obtain ⟨g1, g2⟩ := yq_w2_bd (T := T) (lim := lim) (q := q + 1) (by omega)
    exact ⟨by omega, g2⟩
  · exact ⟨Int.le_refl _, hq⟩
/-- a LINE has three signs at least -/
theorem yq_wl_bd {T : Int → Int} {lim p : Int} (hp : p ≤ lim) : p ≤ (yq_wl T lim p).2 ∧ (yq_wl T lim p).2 ≤ lim ∧ ((yq_wl T lim p).1 = true → p + 3 ≤ (yq_wl T lim p).2) := by
  obtain ⟨a1, a2⟩ := yq_w0_bd (T := T) hp
  unfold yq_wl
  obtain ⟨h1, h2, h3, h4, -⟩ := yq_num_bd (T := T) (lim := lim) (p := yq_w0 T lim p) (lo := 0) (hi := 60) (k := 2) (by decide) a2
  split
  · rename_i hok
    have h4 := h4 hok
    generalize (yq_num T lim 2 0 60 (yq_w0 T lim p)).2.1 = q at h1 h2 h3 h4 ⊢
    obtain ⟨g1, g2⟩ := yq_w1_bd (T := T) (lim := lim) (q := q) h2
    refine ⟨by omega, g2, fun hk => ?_⟩
    unfold yq_w1 at hk ⊢
    split at hk
    · rename_i hc
      rw [if_pos hc]
      unfold yq_w2 at hk ⊢
      obtain ⟨m1, m2, m3, m4, -⟩ := yq_num_bd (T := T) (lim := lim) (p := q + 1) (lo := 1) (hi := 99) (k := 2) (by decide) (by omega)
      split at hk
      · rename_i hn
        rw [if_pos hn]
        have m4 := m4 hn
        obtain ⟨f1, f2⟩ := yq_w3_bd (T := T) m2
        omega
      · cases hk
    · cases hk
  · exact ⟨by omega, h2, fun h => (by cases h)⟩
/-- LINES, at most k more: whether, how many, the place then -/
def yq_wr (T : Int → Int) (lim : Int) : Nat → Int → Int → Bool × Int × Int
  | 0, n, p => (false, n, p)
  | k + 1, n, p => if (yq_wl T lim p).1 = true then (if lim ≤ (yq_wl T lim p).2 then (true, n + 1, (yq_wl T lim p).2) else if T (yq_wl T lim p).2 = 59 then yq_wr T lim k (n + 1) ((yq_wl T lim p).2 + 1) else (false, n + 1, (yq_wl T lim p).2)) else (false, n, (yq_wl T lim p).2)
/-- what wind() answers to a text of len signs -/
def yq_lim (len most : Int) : Int := if len ≤ most then len else most
def yq_wa (T : Int → Int) (len : Int) : Int := if len ≤ 0 then 0 else if (yq_wr T (yq_lim len 40) 10 0 0).1 = true ∧ len ≤ 40 then (yq_wr T (yq_lim len 40) 10 0 0).2.1 else -1 - (yq_wr T (yq_lim len 40) 10 0 0).2.2
variable {xs : List Int32} {d aS aT aG aW aI aR : Nat} {P : z_H} {vs wv tv sv : List Value} {T : Int → Int} {len p lim mo i gl gr : Int} {l : z_L} {Ψ : z_S → Prop}
theorem ye_wline (hS : P[aS]? = some (1, [.ref aT, ye_v len, ye_v p, ye_v lim, ye_v mo])) (fS : aS < z_far) (hT : P[aT]? = some (102, vs)) (fT : aT < z_far) (hx : ye_tx T len 0 255 vs) (hb : 0 ≤ p ∧ p ≤ lim ∧ lim ≤ len ∧ len ≤ 80)
    (hG : P[aG]? = some (6, [.ref aW, .ref aI, .ref aR, ye_v gl, ye_v gr])) (fG : aG < z_far) (hW : P[aW]? = some (103, wv)) (fW : aW < z_far) (hI : P[aI]? = some (103, tv)) (fI : aI < z_far) (hR : P[aR]? = some (103, sv)) (fR : aR < z_far) (nWI : aW ≠ aI) (nWR : aW ≠ aR) (nIR : aI ≠ aR)
    (hw : wv.length = 10) (ht : tv.length = 10) (hv : sv.length = 10) (hi : 0 ≤ i ∧ i < 10) (hd : 2 ≤ d) : ye_X xs d 45 [.ref aG, .ref aS, ye_v i] P (fun r P' => ∃ b wv' tv' sv', r = some (ye_v b) ∧ P'[aS]? = some (1, [.ref aT, ye_v len, ye_v (yq_wl T lim p).2, ye_v lim, ye_v mo]) ∧ P'[aW]? = some (103, wv') ∧ P'[aI]? = some (103, tv') ∧ P'[aR]? = some (103, sv') ∧ wv'.length = 10 ∧ tv'.length = 10 ∧ sv'.length = 10 ∧ ye_oth [aS, aW, aI, aR] P P' ∧ ((b = 1 ∧ (yq_wl T lim p).1 = true ∧ ∃ t, tv'[i.toNat]? = some (ye_v t)) ∨ (b = 0 ∧ (yq_wl T lim p).1 = false))) := by
  refine ye_go ?_
  have a0 : z_get (lv_args 0 [.ref aG, .ref aS, ye_v i]) 0 = some (.ref aG) := rfl
  have a1 : z_get (lv_args 0 [.ref aG, .ref aS, ye_v i]) 1 = some (.ref aS) := rfl
  have a2 : z_get (lv_args 0 [.ref aG, .ref aS, ye_v i]) 2 = some (ye_v i) := rfl
  have ho0 : ye_oth [aS, aW, aI, aR] P P := ye_oth_rf
  refine z_r_ld (kk := z_isA) (ins := (.aload_n 1)) (len := 1) (t := 1) (i := 1) rfl rfl rfl rfl rfl (fun _ => rfl) a1 rfl ?_
  refine z_r_pu (ins := (.bipush 45)) (len := 2) (t := 3) rfl rfl rfl rfl (ye_bi (by decide) (by decide)) ?_
  refine ye_ca (ins := (.invokevirtual 38)) (kd := 1) (t := 6) rfl rfl (by decide) (z_argsv rfl rfl rfl (by omega) (Nat.le_of_ble_eq_true rfl) rfl (Nat.le_of_ble_eq_true rfl) (Nat.le_refl _) (Nat.le_refl _) (Or.inr (Nat.le_of_ble_eq_true rfl)) (Or.inr (z_atv (z_lkn fS hS) rfl))) rfl rfl rfl (ye_take hS fS hT fT hx (by omega) (by omega) (by omega)) ?_
  rintro _ P_5 ⟨bt_1, p_2, rfl, c_3, o_4, ht_1⟩
  unfold ye_tk at ht_1
  have c_6 := ye_kp o_4 (ye_n1 (ye_ne hG hS (by decide))) hG
  have c_7 := ye_kp o_4 (ye_n1 (ye_ne hI hS (by decide))) hI
  have c_8 := ye_kp o_4 (ye_n1 (ye_ne hR hS (by decide))) hR
  have c_9 := ye_kp o_4 (ye_n1 (ye_ne hT hS (by decide))) hT
  have c_10 := ye_kp o_4 (ye_n1 (ye_ne hW hS (by decide))) hW
  have o_11 := ye_oth_tr ho0 o_4 (ye_s1 (List.mem_cons_self))
  refine z_r_is (kk := z_isI) (ins := (.istore_n 3)) (len := 1) (t := 7) (i := 3) rfl rfl rfl rfl rfl rfl rfl rfl (fun l l_12 k_13 => ?_)
  have l_14 := k_13 _ _ a0 (by decide) (Or.inl (by decide))
  have l_15 := k_13 _ _ a1 (by decide) (Or.inl (by decide))
  have l_16 := k_13 _ _ a2 (by decide) (Or.inr (by show (1 : Nat) ≠ 2; decide))
  refine z_r_ld (kk := z_isA) (ins := (.aload_n 1)) (len := 1) (t := 8) (i := 1) rfl rfl rfl rfl rfl (fun _ => rfl) l_15 rfl ?_
  refine z_r_pu (ins := (.iconst 2)) (len := 1) (t := 9) (st' := [ye_v 2, .ref aS]) rfl rfl rfl rfl rfl ?_
  refine z_r_pu (ins := (.iconst 0)) (len := 1) (t := 10) (st' := [ye_v 0, ye_v 2, .ref aS]) rfl rfl rfl rfl rfl ?_
  refine z_r_pu (ins := (.bipush 60)) (len := 2) (t := 12) rfl rfl rfl rfl (ye_bi (by decide) (by decide)) ?_
  refine ye_ca (ins := (.invokevirtual 42)) (kd := 1) (t := 15) rfl rfl (by decide) (z_argsv rfl rfl rfl (by omega) (Nat.le_of_ble_eq_true rfl) rfl (Nat.le_of_ble_eq_true rfl) (Nat.le_refl _) (Nat.le_refl _) (Or.inr (Nat.le_of_ble_eq_true rfl)) (Or.inr (z_atv (z_lkn fS c_3) rfl))) rfl rfl rfl (ye_number (k := 2) c_3 fS c_9 fT hx (by omega) (by omega) (by decide) (by decide) (by decide) (by omega)) ?_
  rintro _ P_20 ⟨v_17, rfl, c_18, o_19, n_21⟩
  have bdn1 := yq_num_bd (T := T) (lim := lim) (p := p_2) (lo := 0) (hi := 60) (k := 2) (by decide) (by omega)
  generalize en1 : yq_num T lim 2 0 60 (p_2) = n1 at bdn1 n_21 c_18
  have c_22 := ye_kp o_19 (ye_n1 (ye_ne c_6 c_3 (by decide))) c_6
  have c_23 := ye_kp o_19 (ye_n1 (ye_ne c_7 c_3 (by decide))) c_7
  have c_24 := ye_kp o_19 (ye_n1 (ye_ne c_8 c_3 (by decide))) c_8
  have c_25 := ye_kp o_19 (ye_n1 (ye_ne c_9 c_3 (by decide))) c_9
  have c_26 := ye_kp o_19 (ye_n1 (ye_ne c_10 c_3 (by decide))) c_10
  have o_27 := ye_oth_tr o_11 o_19 (ye_s1 (List.mem_cons_self))
  refine z_r_is (kk := z_isI) (ins := (.istore 4)) (len := 2) (t := 17) (i := 4) rfl rfl rfl rfl rfl rfl rfl rfl (fun l l_28 k_29 => ?_)
  have l_30 := k_29 _ _ l_14 (by decide) (Or.inl (by decide))
  have l_31 := k_29 _ _ l_15 (by decide) (Or.inl (by decide))
  have l_32 := k_29 _ _ l_16 (by decide) (Or.inl (by decide))
  have l_33 := k_29 _ _ l_12 (by decide) (Or.inr (by show (1 : Nat) ≠ 2; decide))
  refine z_r_ld (kk := z_isI) (ins := (.iload 4)) (len := 2) (t := 19) (i := 4) rfl rfl rfl rfl rfl (fun _ => rfl) l_28 rfl ?_
  refine z_r_pu (ins := (.iconst (-1))) (len := 1) (t := 20) (st' := [ye_v ((-1)), ye_v v_17]) rfl rfl rfl rfl rfl ?_
  by_cases b_34 : v_17 = (-1)
  · skip
    refine z_r_jm (ins := (.if_icmp .eq 12)) (len := 3) (t := 32) rfl rfl rfl rfl (ye_jy (t := 32) rfl (by omega) (by omega) (by omega) (by omega) b_34) ?_
    refine z_r_pu (ins := (.iconst 0)) (len := 1) (t := 33) (st' := [ye_v 0]) rfl rfl rfl rfl rfl ?_
    refine ye_ret (ins := .ireturn) rfl rfl rfl (ye_retz rfl (by omega)) ?_
    have e0 : yq_w0 T lim p = p_2 := by
      unfold yq_w0
      split <;> omega
    have kn1 : n1.1 = false := by
      rcases n_21 with ⟨g1, g2, g3⟩ | ⟨g1, g2⟩
      · exact absurd g2 (by omega)
      · exact g1
    have eL : yq_wl T lim p = (false, n1.2.1) := by
      unfold yq_wl
      rw [e0, en1, if_neg (by rw [kn1]; decide)]
    rw [eL]
    exact ⟨0, _, _, _, rfl, c_18, c_26, c_23, c_24, (by omega), (by omega), (by omega), o_27, Or.inr ⟨rfl, rfl⟩⟩
  · skip
    refine z_r_jm (ins := (.if_icmp .eq 12)) (len := 3) (t := 23) rfl rfl rfl rfl (ye_jn (t := 32) rfl (by omega) (by omega) (by omega) (by omega) b_34) ?_
    refine z_r_ld (kk := z_isA) (ins := (.aload_n 1)) (len := 1) (t := 24) (i := 1) rfl rfl rfl rfl rfl (fun _ => rfl) l_31 rfl ?_
    refine z_r_pu (ins := (.bipush 42)) (len := 2) (t := 26) rfl rfl rfl rfl (ye_bi (by decide) (by decide)) ?_
    refine ye_ca (ins := (.invokevirtual 38)) (kd := 1) (t := 29) rfl rfl (by decide) (z_argsv rfl rfl rfl (by omega) (Nat.le_of_ble_eq_true rfl) rfl (Nat.le_of_ble_eq_true rfl) (Nat.le_refl _) (Nat.le_refl _) (Or.inr (Nat.le_of_ble_eq_true rfl)) (Or.inr (z_atv (z_lkn fS c_18) rfl))) rfl rfl rfl (ye_take c_18 fS c_25 fT hx (by omega) (by omega) (by omega)) ?_
    rintro _ P_39 ⟨bt_35, p_36, rfl, c_37, o_38, ht_35⟩
    unfold ye_tk at ht_35
    have c_40 := ye_kp o_38 (ye_n1 (ye_ne c_22 c_18 (by decide))) c_22
    have c_41 := ye_kp o_38 (ye_n1 (ye_ne c_23 c_18 (by decide))) c_23
    have c_42 := ye_kp o_38 (ye_n1 (ye_ne c_24 c_18 (by decide))) c_24
    have c_43 := ye_kp o_38 (ye_n1 (ye_ne c_25 c_18 (by decide))) c_25
    have c_44 := ye_kp o_38 (ye_n1 (ye_ne c_26 c_18 (by decide))) c_26
    have o_45 := ye_oth_tr o_27 o_38 (ye_s1 (List.mem_cons_self))
    by_cases b_46 : bt_35 ≠ 0
    · skip
      refine z_r_jm (ins := (.ifCond .ne 5)) (len := 3) (t := 34) rfl rfl rfl rfl (ye_iy (t := 34) rfl (by omega) (by omega) b_46) ?_
      refine z_r_ld (kk := z_isA) (ins := (.aload_n 0)) (len := 1) (t := 35) (i := 0) rfl rfl rfl rfl rfl (fun _ => rfl) l_30 rfl ?_
      refine z_r_rd (ins := (.getfield 11)) (len := 3) (t := 38) rfl rfl rfl rfl rfl (z_gfv (ci := 6) (k := 0) (v := .ref aW) rfl (z_lkn fG c_40) (by decide) rfl) ?_
      refine z_r_ld (kk := z_isI) (ins := (.iload_n 2)) (len := 1) (t := 39) (i := 2) rfl rfl rfl rfl rfl (fun _ => rfl) l_32 rfl ?_
      refine z_r_ld (kk := z_isI) (ins := (.iload_n 3)) (len := 1) (t := 40) (i := 3) rfl rfl rfl rfl rfl (fun _ => rfl) l_33 rfl ?_
      by_cases b_47 : bt_1 = 0
      · skip
        refine z_r_jm (ins := (.ifCond .eq 9)) (len := 3) (t := 49) rfl rfl rfl rfl (ye_iy (t := 49) rfl (by omega) (by omega) b_47) ?_
        refine z_r_ld (kk := z_isI) (ins := (.iload 4)) (len := 2) (t := 51) (i := 4) rfl rfl rfl rfl rfl (fun _ => rfl) l_28 rfl ?_
        refine ye_r_wr (ins := .iastore) (len := 1) (t := 52) (a := aW) (q := (103, wv.set (i).toNat (ye_v v_17))) rfl rfl rfl rfl rfl c_44 (ye_as (t := 103) (nf := fun x => x) (p := i) (e := v_17) (e' := v_17) c_44 (by omega) (by omega) (by omega) rfl) (fun P_48 c_49 o_50 => ?_)
        have c_51 := ye_kp o_50 (ye_n1 (ye_ne c_40 c_44 (by decide))) c_40
        have c_52 := ye_kp o_50 (ye_n1 (Ne.symm nWI)) c_41
        have c_53 := ye_kp o_50 (ye_n1 (Ne.symm nWR)) c_42
        have c_54 := ye_kp o_50 (ye_n1 (ye_ne c_37 c_44 (by decide))) c_37
        have c_55 := ye_kp o_50 (ye_n1 (ye_ne c_43 c_44 (by decide))) c_43
        have o_56 := ye_oth_tr o_45 o_50 (ye_s1 (List.mem_cons_of_mem _ (List.mem_cons_self)))
        refine z_r_ld (kk := z_isA) (ins := (.aload_n 0)) (len := 1) (t := 53) (i := 0) rfl rfl rfl rfl rfl (fun _ => rfl) l_30 rfl ?_
        refine z_r_rd (ins := (.getfield 15)) (len := 3) (t := 56) rfl rfl rfl rfl rfl (z_gfv (ci := 6) (k := 1) (v := .ref aI) rfl (z_lkn fG c_51) (by decide) rfl) ?_
        refine z_r_ld (kk := z_isI) (ins := (.iload_n 2)) (len := 1) (t := 57) (i := 2) rfl rfl rfl rfl rfl (fun _ => rfl) l_32 rfl ?_
        refine z_r_ld (kk := z_isA) (ins := (.aload_n 1)) (len := 1) (t := 58) (i := 1) rfl rfl rfl rfl rfl (fun _ => rfl) l_31 rfl ?_
        refine z_r_pu (ins := (.iconst 2)) (len := 1) (t := 59) (st' := [ye_v 2, .ref aS, ye_v i, .ref aI]) rfl rfl rfl rfl rfl ?_
        refine z_r_pu (ins := (.iconst 1)) (len := 1) (t := 60) (st' := [ye_v 1, ye_v 2, .ref aS, ye_v i, .ref aI]) rfl rfl rfl rfl rfl ?_
        refine z_r_pu (ins := (.bipush 99)) (len := 2) (t := 62) rfl rfl rfl rfl (ye_bi (by decide) (by decide)) ?_
        refine ye_ca (ins := (.invokevirtual 42)) (kd := 1) (t := 65) rfl rfl (by decide) (z_argsv rfl rfl rfl (by omega) (Nat.le_of_ble_eq_true rfl) rfl (Nat.le_of_ble_eq_true rfl) (Nat.le_refl _) (Nat.le_refl _) (Or.inr (Nat.le_of_ble_eq_true rfl)) (Or.inr (z_atv (z_lkn fS c_54) rfl))) rfl rfl rfl (ye_number (k := 2) c_54 fS c_55 fT hx (by omega) (by omega) (by decide) (by decide) (by decide) (by omega)) ?_
        rintro _ P_60 ⟨v_57, rfl, c_58, o_59, n_61⟩
        have bdn2 := yq_num_bd (T := T) (lim := lim) (p := p_36) (lo := 1) (hi := 99) (k := 2) (by decide) (by omega)
        generalize en2 : yq_num T lim 2 1 99 (p_36) = n2 at bdn2 n_61 c_58
        have c_62 := ye_kp o_59 (ye_n1 (ye_ne c_51 c_54 (by decide))) c_51
        have c_63 := ye_kp o_59 (ye_n1 (ye_ne c_52 c_54 (by decide))) c_52
        have c_64 := ye_kp o_59 (ye_n1 (ye_ne c_53 c_54 (by decide))) c_53
        have c_65 := ye_kp o_59 (ye_n1 (ye_ne c_55 c_54 (by decide))) c_55
        have c_66 := ye_kp o_59 (ye_n1 (ye_ne c_49 c_54 (by decide))) c_49
        have o_67 := ye_oth_tr o_56 o_59 (ye_s1 (List.mem_cons_self))
        refine ye_r_wr (ins := .iastore) (len := 1) (t := 66) (a := aI) (q := (103, tv.set (i).toNat (ye_v v_57))) rfl rfl rfl rfl rfl c_63 (ye_as (t := 103) (nf := fun x => x) (p := i) (e := v_57) (e' := v_57) c_63 (by omega) (by omega) (by omega) rfl) (fun P_68 c_69 o_70 => ?_)
        have c_71 := ye_kp o_70 (ye_n1 (ye_ne c_62 c_63 (by decide))) c_62
        have c_72 := ye_kp o_70 (ye_n1 (Ne.symm nIR)) c_64
        have c_73 := ye_kp o_70 (ye_n1 (ye_ne c_58 c_63 (by decide))) c_58
        have c_74 := ye_kp o_70 (ye_n1 (ye_ne c_65 c_63 (by decide))) c_65
        have c_75 := ye_kp o_70 (ye_n1 nWI) c_66
        have o_76 := ye_oth_tr o_67 o_70 (ye_s1 (List.mem_cons_of_mem _ (List.mem_cons_of_mem _ (List.mem_cons_self))))
        refine z_r_ld (kk := z_isA) (ins := (.aload_n 0)) (len := 1) (t := 67) (i := 0) rfl rfl rfl rfl rfl (fun _ => rfl) l_30 rfl ?_
        refine z_r_rd (ins := (.getfield 18)) (len := 3) (t := 70) rfl rfl rfl rfl rfl (z_gfv (ci := 6) (k := 2) (v := .ref aR) rfl (z_lkn fG c_71) (by decide) rfl) ?_
        refine z_r_ld (kk := z_isI) (ins := (.iload_n 2)) (len := 1) (t := 71) (i := 2) rfl rfl rfl rfl rfl (fun _ => rfl) l_32 rfl ?_
        refine z_r_pu (ins := (.iconst 0)) (len := 1) (t := 72) (st' := [ye_v 0, ye_v i, .ref aR]) rfl rfl rfl rfl rfl ?_
        refine ye_r_wr (ins := .iastore) (len := 1) (t := 73) (a := aR) (q := (103, sv.set (i).toNat (ye_v 0))) rfl rfl rfl rfl rfl c_72 (ye_as (t := 103) (nf := fun x => x) (p := i) (e := 0) (e' := 0) c_72 (by omega) (by omega) (by omega) rfl) (fun P_77 c_78 o_79 => ?_)
        have c_80 := ye_kp o_79 (ye_n1 (ye_ne c_71 c_72 (by decide))) c_71
        have c_81 := ye_kp o_79 (ye_n1 nIR) c_69
        have c_82 := ye_kp o_79 (ye_n1 (ye_ne c_73 c_72 (by decide))) c_73
        have c_83 := ye_kp o_79 (ye_n1 (ye_ne c_74 c_72 (by decide))) c_74
        have c_84 := ye_kp o_79 (ye_n1 nWR) c_75
        have o_85 := ye_oth_tr o_76 o_79 (ye_s1 (List.mem_cons_of_mem _ (List.mem_cons_of_mem _ (List.mem_cons_of_mem _ (List.mem_cons_self)))))
        refine z_r_ld (kk := z_isA) (ins := (.aload_n 0)) (len := 1) (t := 74) (i := 0) rfl rfl rfl rfl rfl (fun _ => rfl) l_30 rfl ?_
        refine z_r_rd (ins := (.getfield 15)) (len := 3) (t := 77) rfl rfl rfl rfl rfl (z_gfv (ci := 6) (k := 1) (v := .ref aI) rfl (z_lkn fG c_80) (by decide) rfl) ?_
        refine z_r_ld (kk := z_isI) (ins := (.iload_n 2)) (len := 1) (t := 78) (i := 2) rfl rfl rfl rfl rfl (fun _ => rfl) l_32 rfl ?_
        refine z_r_rd (ins := .iaload) (len := 1) (t := 79) rfl rfl rfl rfl rfl (ye_al (t := 103) (p := i) (e := v_57) (z_lkn fI c_81) (by omega) (by omega) (List.getElem?_set_self (by omega))) ?_
        refine z_r_pu (ins := (.iconst (-1))) (len := 1) (t := 80) (st' := [ye_v ((-1)), ye_v v_57]) rfl rfl rfl rfl rfl ?_
        by_cases b_86 : v_57 ≠ (-1)
        · skip
          refine z_r_jm (ins := (.if_icmp .ne 5)) (len := 3) (t := 85) rfl rfl rfl rfl (ye_jy (t := 85) rfl (by omega) (by omega) (by omega) (by omega) b_86) ?_
          refine z_r_ld (kk := z_isA) (ins := (.aload_n 1)) (len := 1) (t := 86) (i := 1) rfl rfl rfl rfl rfl (fun _ => rfl) l_31 rfl ?_
          refine z_r_pu (ins := (.bipush 126)) (len := 2) (t := 88) rfl rfl rfl rfl (ye_bi (by decide) (by decide)) ?_
          refine ye_ca (ins := (.invokevirtual 38)) (kd := 1) (t := 91) rfl rfl (by decide) (z_argsv rfl rfl rfl (by omega) (Nat.le_of_ble_eq_true rfl) rfl (Nat.le_of_ble_eq_true rfl) (Nat.le_refl _) (Nat.le_refl _) (Or.inr (Nat.le_of_ble_eq_true rfl)) (Or.inr (z_atv (z_lkn fS c_82) rfl))) rfl rfl rfl (ye_take c_82 fS c_83 fT hx (by omega) (by omega) (by omega)) ?_
          rintro _ P_91 ⟨bt_87, p_88, rfl, c_89, o_90, ht_87⟩
          unfold ye_tk at ht_87
          have c_92 := ye_kp o_90 (ye_n1 (ye_ne c_80 c_82 (by decide))) c_80
          have c_93 := ye_kp o_90 (ye_n1 (ye_ne c_81 c_82 (by decide))) c_81
          have c_94 := ye_kp o_90 (ye_n1 (ye_ne c_78 c_82 (by decide))) c_78
          have c_95 := ye_kp o_90 (ye_n1 (ye_ne c_83 c_82 (by decide))) c_83
          have c_96 := ye_kp o_90 (ye_n1 (ye_ne c_84 c_82 (by decide))) c_84
          have o_97 := ye_oth_tr o_85 o_90 (ye_s1 (List.mem_cons_self))
          by_cases b_98 : bt_87 = 0
          · skip
            refine z_r_jm (ins := (.ifCond .eq 17)) (len := 3) (t := 108) rfl rfl rfl rfl (ye_iy (t := 108) rfl (by omega) (by omega) b_98) ?_
            refine z_r_ld (kk := z_isA) (ins := (.aload_n 0)) (len := 1) (t := 109) (i := 0) rfl rfl rfl rfl rfl (fun _ => rfl) l_30 rfl ?_
            refine z_r_rd (ins := (.getfield 18)) (len := 3) (t := 112) rfl rfl rfl rfl rfl (z_gfv (ci := 6) (k := 2) (v := .ref aR) rfl (z_lkn fG c_92) (by decide) rfl) ?_
            refine z_r_ld (kk := z_isI) (ins := (.iload_n 2)) (len := 1) (t := 113) (i := 2) rfl rfl rfl rfl rfl (fun _ => rfl) l_32 rfl ?_
            refine z_r_rd (ins := .iaload) (len := 1) (t := 114) rfl rfl rfl rfl rfl (ye_al (t := 103) (p := i) (e := 0) (z_lkn fR c_94) (by omega) (by omega) (List.getElem?_set_self (by omega))) ?_
            refine z_r_pu (ins := (.iconst (-1))) (len := 1) (t := 115) (st' := [ye_v ((-1)), ye_v 0]) rfl rfl rfl rfl rfl ?_
            refine z_r_jm (ins := (.if_icmp .eq 7)) (len := 3) (t := 118) rfl rfl rfl rfl (ye_jn (t := 122) rfl (by omega) (by omega) (by omega) (by omega) (by show ¬ (0 = (-1)); omega)) ?_
            refine z_r_pu (ins := (.iconst 1)) (len := 1) (t := 119) (st' := [ye_v 1]) rfl rfl rfl rfl rfl ?_
            refine z_r_jm (ins := (.goto 4)) (len := 3) (t := 123) rfl rfl rfl rfl (z_gty rfl) ?_
            refine ye_ret (ins := .ireturn) rfl rfl rfl (ye_retz rfl (by omega)) ?_
            have e0 : yq_w0 T lim p = p_2 := by
              unfold yq_w0
              split <;> omega
            have kn1 : n1.1 = true := by
              rcases n_21 with ⟨g1, g2, g3⟩ | ⟨g1, g2⟩
              · exact g1
              · exact absurd g2 (by omega)
            have kn2 : n2.1 = true := by
              rcases n_61 with ⟨g1, g2, g3⟩ | ⟨g1, g2⟩
              · exact g1
              · exact absurd g2 (by omega)
            have eL : yq_wl T lim p = (true, n2.2.1) := by
              unfold yq_wl
              rw [e0, en1, if_pos kn1]
              unfold yq_w1
              rw [if_pos (by omega)]
              unfold yq_w2
              rw [show n1.2.1 + 1 = p_36 by omega, en2, if_pos kn2]
              unfold yq_w3
              rw [if_neg (by omega)]
            rw [eL]
            have ep : p_88 = n2.2.1 := by omega
            rw [ep] at c_89
            exact ⟨1, _, _, _, rfl, c_89, c_96, c_93, c_94, (by simp only [List.length_set]; omega), (by simp only [List.length_set]; omega), (by simp only [List.length_set]; omega), o_97, Or.inl ⟨rfl, rfl, _, List.getElem?_set_self (by omega)⟩⟩
          · skip
            refine z_r_jm (ins := (.ifCond .eq 17)) (len := 3) (t := 94) rfl rfl rfl rfl (ye_in (t := 108) rfl (by omega) (by omega) b_98) ?_
            refine z_r_ld (kk := z_isA) (ins := (.aload_n 0)) (len := 1) (t := 95) (i := 0) rfl rfl rfl rfl rfl (fun _ => rfl) l_30 rfl ?_
            refine z_r_rd (ins := (.getfield 18)) (len := 3) (t := 98) rfl rfl rfl rfl rfl (z_gfv (ci := 6) (k := 2) (v := .ref aR) rfl (z_lkn fG c_92) (by decide) rfl) ?_
            refine z_r_ld (kk := z_isI) (ins := (.iload_n 2)) (len := 1) (t := 99) (i := 2) rfl rfl rfl rfl rfl (fun _ => rfl) l_32 rfl ?_
            refine z_r_ld (kk := z_isA) (ins := (.aload_n 1)) (len := 1) (t := 100) (i := 1) rfl rfl rfl rfl rfl (fun _ => rfl) l_31 rfl ?_
            refine z_r_pu (ins := (.iconst 2)) (len := 1) (t := 101) (st' := [ye_v 2, .ref aS, ye_v i, .ref aR]) rfl rfl rfl rfl rfl ?_
            refine z_r_pu (ins := (.iconst 1)) (len := 1) (t := 102) (st' := [ye_v 1, ye_v 2, .ref aS, ye_v i, .ref aR]) rfl rfl rfl rfl rfl ?_
            refine z_r_pu (ins := (.bipush 20)) (len := 2) (t := 104) rfl rfl rfl rfl (ye_bi (by decide) (by decide)) ?_
            refine ye_ca (ins := (.invokevirtual 42)) (kd := 1) (t := 107) rfl rfl (by decide) (z_argsv rfl rfl rfl (by omega) (Nat.le_of_ble_eq_true rfl) rfl (Nat.le_of_ble_eq_true rfl) (Nat.le_refl _) (Nat.le_refl _) (Or.inr (Nat.le_of_ble_eq_true rfl)) (Or.inr (z_atv (z_lkn fS c_89) rfl))) rfl rfl rfl (ye_number (k := 2) c_89 fS c_95 fT hx (by omega) (by omega) (by decide) (by decide) (by decide) (by omega)) ?_
            rintro _ P_102 ⟨v_99, rfl, c_100, o_101, n_103⟩
            have bdn3 := yq_num_bd (T := T) (lim := lim) (p := p_88) (lo := 1) (hi := 20) (k := 2) (by decide) (by omega)
            generalize en3 : yq_num T lim 2 1 20 (p_88) = n3 at bdn3 n_103 c_100
            have c_104 := ye_kp o_101 (ye_n1 (ye_ne c_92 c_89 (by decide))) c_92
            have c_105 := ye_kp o_101 (ye_n1 (ye_ne c_93 c_89 (by decide))) c_93
            have c_106 := ye_kp o_101 (ye_n1 (ye_ne c_94 c_89 (by decide))) c_94
            have c_107 := ye_kp o_101 (ye_n1 (ye_ne c_95 c_89 (by decide))) c_95
            have c_108 := ye_kp o_101 (ye_n1 (ye_ne c_96 c_89 (by decide))) c_96
            have o_109 := ye_oth_tr o_97 o_101 (ye_s1 (List.mem_cons_self))
            refine ye_r_wr (ins := .iastore) (len := 1) (t := 108) (a := aR) (q := (103, (sv.set (i).toNat (ye_v 0)).set (i).toNat (ye_v v_99))) rfl rfl rfl rfl rfl c_106 (ye_as (t := 103) (nf := fun x => x) (p := i) (e := v_99) (e' := v_99) c_106 (by omega) (by simp only [List.length_set]; omega) (by omega) rfl) (fun P_110 c_111 o_112 => ?_)
            have c_113 := ye_kp o_112 (ye_n1 (ye_ne c_104 c_106 (by decide))) c_104
            have c_114 := ye_kp o_112 (ye_n1 nIR) c_105
            have c_115 := ye_kp o_112 (ye_n1 (ye_ne c_100 c_106 (by decide))) c_100
            have c_116 := ye_kp o_112 (ye_n1 (ye_ne c_107 c_106 (by decide))) c_107
            have c_117 := ye_kp o_112 (ye_n1 nWR) c_108
            have o_118 := ye_oth_tr o_109 o_112 (ye_s1 (List.mem_cons_of_mem _ (List.mem_cons_of_mem _ (List.mem_cons_of_mem _ (List.mem_cons_self)))))
            refine z_r_ld (kk := z_isA) (ins := (.aload_n 0)) (len := 1) (t := 109) (i := 0) rfl rfl rfl rfl rfl (fun _ => rfl) l_30 rfl ?_
            refine z_r_rd (ins := (.getfield 18)) (len := 3) (t := 112) rfl rfl rfl rfl rfl (z_gfv (ci := 6) (k := 2) (v := .ref aR) rfl (z_lkn fG c_113) (by decide) rfl) ?_
            refine z_r_ld (kk := z_isI) (ins := (.iload_n 2)) (len := 1) (t := 113) (i := 2) rfl rfl rfl rfl rfl (fun _ => rfl) l_32 rfl ?_
            refine z_r_rd (ins := .iaload) (len := 1) (t := 114) rfl rfl rfl rfl rfl (ye_al (t := 103) (p := i) (e := v_99) (z_lkn fR c_111) (by omega) (by omega) (List.getElem?_set_self (by simp only [List.length_set]; omega))) ?_
            refine z_r_pu (ins := (.iconst (-1))) (len := 1) (t := 115) (st' := [ye_v ((-1)), ye_v v_99]) rfl rfl rfl rfl rfl ?_
            by_cases b_119 : v_99 = (-1)
            · skip
              refine z_r_jm (ins := (.if_icmp .eq 7)) (len := 3) (t := 122) rfl rfl rfl rfl (ye_jy (t := 122) rfl (by omega) (by omega) (by omega) (by omega) b_119) ?_
              refine z_r_pu (ins := (.iconst 0)) (len := 1) (t := 123) (st' := [ye_v 0]) rfl rfl rfl rfl rfl ?_
              refine ye_ret (ins := .ireturn) rfl rfl rfl (ye_retz rfl (by omega)) ?_
              have e0 : yq_w0 T lim p = p_2 := by
                unfold yq_w0
                split <;> omega
              have kn1 : n1.1 = true := by
                rcases n_21 with ⟨g1, g2, g3⟩ | ⟨g1, g2⟩
                · exact g1
                · exact absurd g2 (by omega)
              have kn2 : n2.1 = true := by
                rcases n_61 with ⟨g1, g2, g3⟩ | ⟨g1, g2⟩
                · exact g1
                · exact absurd g2 (by omega)
              have kn3 : n3.1 = false := by
                rcases n_103 with ⟨g1, g2, g3⟩ | ⟨g1, g2⟩
                · exact absurd g2 (by omega)
                · exact g1
              have eL : yq_wl T lim p = (false, n3.2.1) := by
                unfold yq_wl
                rw [e0, en1, if_pos kn1]
                unfold yq_w1
                rw [if_pos (by omega)]
                unfold yq_w2
                rw [show n1.2.1 + 1 = p_36 by omega, en2, if_pos kn2]
                unfold yq_w3
                rw [if_pos (by omega), show n2.2.1 + 1 = p_88 by omega, en3]
                rw [kn3]
              rw [eL]
              exact ⟨0, _, _, _, rfl, c_115, c_117, c_114, c_111, (by simp only [List.length_set]; omega), (by simp only [List.length_set]; omega), (by simp only [List.length_set]; omega), o_118, Or.inr ⟨rfl, rfl⟩⟩
            · skip
              refine z_r_jm (ins := (.if_icmp .eq 7)) (len := 3) (t := 118) rfl rfl rfl rfl (ye_jn (t := 122) rfl (by omega) (by omega) (by omega) (by omega) b_119) ?_
              refine z_r_pu (ins := (.iconst 1)) (len := 1) (t := 119) (st' := [ye_v 1]) rfl rfl rfl rfl rfl ?_
              refine z_r_jm (ins := (.goto 4)) (len := 3) (t := 123) rfl rfl rfl rfl (z_gty rfl) ?_
              refine ye_ret (ins := .ireturn) rfl rfl rfl (ye_retz rfl (by omega)) ?_
              have e0 : yq_w0 T lim p = p_2 := by
                unfold yq_w0
                split <;> omega
              have kn1 : n1.1 = true := by
                rcases n_21 with ⟨g1, g2, g3⟩ | ⟨g1, g2⟩
                · exact g1
                · exact absurd g2 (by omega)
              have kn2 : n2.1 = true := by
                rcases n_61 with ⟨g1, g2, g3⟩ | ⟨g1, g2⟩
                · exact g1
                · exact absurd g2 (by omega)
              have kn3 : n3.1 = true := by
                rcases n_103 with ⟨g1, g2, g3⟩ | ⟨g1, g2⟩
                · exact g1
                · exact absurd g2 (by omega)
              have eL : yq_wl T lim p = (true, n3.2.1) := by
                unfold yq_wl
                rw [e0, en1, if_pos kn1]
                unfold yq_w1
                rw [if_pos (by omega)]
                unfold yq_w2
                rw [show n1.2.1 + 1 = p_36 by omega, en2, if_pos kn2]
                unfold yq_w3
                rw [if_pos (by omega), show n2.2.1 + 1 = p_88 by omega, en3]
                rw [kn3]
              rw [eL]
              exact ⟨1, _, _, _, rfl, c_115, c_117, c_114, c_111, (by simp only [List.length_set]; omega), (by simp only [List.length_set]; omega), (by simp only [List.length_set]; omega), o_118, Or.inl ⟨rfl, rfl, _, List.getElem?_set_self (by omega)⟩⟩
        · skip
          refine z_r_jm (ins := (.if_icmp .ne 5)) (len := 3) (t := 83) rfl rfl rfl rfl (ye_jn (t := 85) rfl (by omega) (by omega) (by omega) (by omega) b_86) ?_
          refine z_r_pu (ins := (.iconst 0)) (len := 1) (t := 84) (st' := [ye_v 0]) rfl rfl rfl rfl rfl ?_
          refine ye_ret (ins := .ireturn) rfl rfl rfl (ye_retz rfl (by omega)) ?_
          have e0 : yq_w0 T lim p = p_2 := by
            unfold yq_w0
            split <;> omega
          have kn1 : n1.1 = true := by
            rcases n_21 with ⟨g1, g2, g3⟩ | ⟨g1, g2⟩
            · exact g1
            · exact absurd g2 (by omega)
          have kn2 : n2.1 = false := by
            rcases n_61 with ⟨g1, g2, g3⟩ | ⟨g1, g2⟩
            · exact absurd g2 (by omega)
            · exact g1
          have eL : yq_wl T lim p = (false, n2.2.1) := by
            unfold yq_wl
            rw [e0, en1, if_pos kn1]
            unfold yq_w1
            rw [if_pos (by omega)]
            unfold yq_w2
            rw [show n1.2.1 + 1 = p_36 by omega, en2, if_neg (by rw [kn2]; decide)]
          rw [eL]
          exact ⟨0, _, _, _, rfl, c_82, c_84, c_81, c_78, (by simp only [List.length_set]; omega), (by simp only [List.length_set]; omega), (by simp only [List.length_set]; omega), o_85, Or.inr ⟨rfl, rfl⟩⟩
      · skip
        refine z_r_jm (ins := (.ifCond .eq 9)) (len := 3) (t := 43) rfl rfl rfl rfl (ye_in (t := 49) rfl (by omega) (by omega) b_47) ?_
        refine z_r_ld (kk := z_isI) (ins := (.iload 4)) (len := 2) (t := 45) (i := 4) rfl rfl rfl rfl rfl (fun _ => rfl) l_28 rfl ?_
        refine z_r_pu (ins := .ineg) (len := 1) (t := 46) rfl rfl rfl rfl ye_neg ?_
        refine z_r_jm (ins := (.goto 5)) (len := 3) (t := 51) rfl rfl rfl rfl (z_gty rfl) ?_
        refine ye_r_wr (ins := .iastore) (len := 1) (t := 52) (a := aW) (q := (103, wv.set (i).toNat (ye_v (-v_17)))) rfl rfl rfl rfl rfl c_44 (ye_as (t := 103) (nf := fun x => x) (p := i) (e := -v_17) (e' := -v_17) c_44 (by omega) (by omega) (by omega) rfl) (fun P_120 c_121 o_122 => ?_)
        have c_123 := ye_kp o_122 (ye_n1 (ye_ne c_40 c_44 (by decide))) c_40
        have c_124 := ye_kp o_122 (ye_n1 (Ne.symm nWI)) c_41
        have c_125 := ye_kp o_122 (ye_n1 (Ne.symm nWR)) c_42
        have c_126 := ye_kp o_122 (ye_n1 (ye_ne c_37 c_44 (by decide))) c_37
        have c_127 := ye_kp o_122 (ye_n1 (ye_ne c_43 c_44 (by decide))) c_43
        have o_128 := ye_oth_tr o_45 o_122 (ye_s1 (List.mem_cons_of_mem _ (List.mem_cons_self)))
        refine z_r_ld (kk := z_isA) (ins := (.aload_n 0)) (len := 1) (t := 53) (i := 0) rfl rfl rfl rfl rfl (fun _ => rfl) l_30 rfl ?_
        refine z_r_rd (ins := (.getfield 15)) (len := 3) (t := 56) rfl rfl rfl rfl rfl (z_gfv (ci := 6) (k := 1) (v := .ref aI) rfl (z_lkn fG c_123) (by decide) rfl) ?_
        refine z_r_ld (kk := z_isI) (ins := (.iload_n 2)) (len := 1) (t := 57) (i := 2) rfl rfl rfl rfl rfl (fun _ => rfl) l_32 rfl ?_
        refine z_r_ld (kk := z_isA) (ins := (.aload_n 1)) (len := 1) (t := 58) (i := 1) rfl rfl rfl rfl rfl (fun _ => rfl) l_31 rfl ?_
        refine z_r_pu (ins := (.iconst 2)) (len := 1) (t := 59) (st' := [ye_v 2, .ref aS, ye_v i, .ref aI]) rfl rfl rfl rfl rfl ?_
        refine z_r_pu (ins := (.iconst 1)) (len := 1) (t := 60) (st' := [ye_v 1, ye_v 2, .ref aS, ye_v i, .ref aI]) rfl rfl rfl rfl rfl ?_
        refine z_r_pu (ins := (.bipush 99)) (len := 2) (t := 62) rfl rfl rfl rfl (ye_bi (by decide) (by decide)) ?_
        refine ye_ca (ins := (.invokevirtual 42)) (kd := 1) (t := 65) rfl rfl (by decide) (z_argsv rfl rfl rfl (by omega) (Nat.le_of_ble_eq_true rfl) rfl (Nat.le_of_ble_eq_true rfl) (Nat.le_refl _) (Nat.le_refl _) (Or.inr (Nat.le_of_ble_eq_true rfl)) (Or.inr (z_atv (z_lkn fS c_126) rfl))) rfl rfl rfl (ye_number (k := 2) c_126 fS c_127 fT hx (by omega) (by omega) (by decide) (by decide) (by decide) (by omega)) ?_
        rintro _ P_132 ⟨v_129, rfl, c_130, o_131, n_133⟩
        have bdn2 := yq_num_bd (T := T) (lim := lim) (p := p_36) (lo := 1) (hi := 99) (k := 2) (by decide) (by omega)
        generalize en2 : yq_num T lim 2 1 99 (p_36) = n2 at bdn2 n_133 c_130
        have c_134 := ye_kp o_131 (ye_n1 (ye_ne c_123 c_126 (by decide))) c_123
        have c_135 := ye_kp o_131 (ye_n1 (ye_ne c_124 c_126 (by decide))) c_124
        have c_136 := ye_kp o_131 (ye_n1 (ye_ne c_125 c_126 (by decide))) c_125
        have c_137 := ye_kp o_131 (ye_n1 (ye_ne c_127 c_126 (by decide))) c_127
        have c_138 := ye_kp o_131 (ye_n1 (ye_ne c_121 c_126 (by decide))) c_121
        have o_139 := ye_oth_tr o_128 o_131 (ye_s1 (List.mem_cons_self))
        refine ye_r_wr (ins := .iastore) (len := 1) (t := 66) (a := aI) (q := (103, tv.set (i).toNat (ye_v v_129))) rfl rfl rfl rfl rfl c_135 (ye_as (t := 103) (nf := fun x => x) (p := i) (e := v_129) (e' := v_129) c_135 (by omega) (by omega) (by omega) rfl) (fun P_140 c_141 o_142 => ?_)
        have c_143 := ye_kp o_142 (ye_n1 (ye_ne c_134 c_135 (by decide))) c_134
        have c_144 := ye_kp o_142 (ye_n1 (Ne.symm nIR)) c_136
        have c_145 := ye_kp o_142 (ye_n1 (ye_ne c_130 c_135 (by decide))) c_130
        have c_146 := ye_kp o_142 (ye_n1 (ye_ne c_137 c_135 (by decide))) c_137
        have c_147 := ye_kp o_142 (ye_n1 nWI) c_138
        have o_148 := ye_oth_tr o_139 o_142 (ye_s1 (List.mem_cons_of_mem _ (List.mem_cons_of_mem _ (List.mem_cons_self))))
        refine z_r_ld (kk := z_isA) (ins := (.aload_n 0)) (len := 1) (t := 67) (i := 0) rfl rfl rfl rfl rfl (fun _ => rfl) l_30 rfl ?_
        refine z_r_rd (ins := (.getfield 18)) (len := 3) (t := 70) rfl rfl rfl rfl rfl (z_gfv (ci := 6) (k := 2) (v := .ref aR) rfl (z_lkn fG c_143) (by decide) rfl) ?_
        refine z_r_ld (kk := z_isI) (ins := (.iload_n 2)) (len := 1) (t := 71) (i := 2) rfl rfl rfl rfl rfl (fun _ => rfl) l_32 rfl ?_
        refine z_r_pu (ins := (.iconst 0)) (len := 1) (t := 72) (st' := [ye_v 0, ye_v i, .ref aR]) rfl rfl rfl rfl rfl ?_
        refine ye_r_wr (ins := .iastore) (len := 1) (t := 73) (a := aR) (q := (103, sv.set (i).toNat (ye_v 0))) rfl rfl rfl rfl rfl c_144 (ye_as (t := 103) (nf := fun x => x) (p := i) (e := 0) (e' := 0) c_144 (by omega) (by omega) (by omega) rfl) (fun P_149 c_150 o_151 => ?_)
        have c_152 := ye_kp o_151 (ye_n1 (ye_ne c_143 c_144 (by decide))) c_143
        have c_153 := ye_kp o_151 (ye_n1 nIR) c_141
        have c_154 := ye_kp o_151 (ye_n1 (ye_ne c_145 c_144 (by decide))) c_145
        have c_155 := ye_kp o_151 (ye_n1 (ye_ne c_146 c_144 (by decide))) c_146
        have c_156 := ye_kp o_151 (ye_n1 nWR) c_147
        have o_157 := ye_oth_tr o_148 o_151 (ye_s1 (List.mem_cons_of_mem _ (List.mem_cons_of_mem _ (List.mem_cons_of_mem _ (List.mem_cons_self)))))
        refine z_r_ld (kk := z_isA) (ins := (.aload_n 0)) (len := 1) (t := 74) (i := 0) rfl rfl rfl rfl rfl (fun _ => rfl) l_30 rfl ?_
        refine z_r_rd (ins := (.getfield 15)) (len := 3) (t := 77) rfl rfl rfl rfl rfl (z_gfv (ci := 6) (k := 1) (v := .ref aI) rfl (z_lkn fG c_152) (by decide) rfl) ?_
        refine z_r_ld (kk := z_isI) (ins := (.iload_n 2)) (len := 1) (t := 78) (i := 2) rfl rfl rfl rfl rfl (fun _ => rfl) l_32 rfl ?_
        refine z_r_rd (ins := .iaload) (len := 1) (t := 79) rfl rfl rfl rfl rfl (ye_al (t := 103) (p := i) (e := v_129) (z_lkn fI c_153) (by omega) (by omega) (List.getElem?_set_self (by omega))) ?_
        refine z_r_pu (ins := (.iconst (-1))) (len := 1) (t := 80) (st' := [ye_v ((-1)), ye_v v_129]) rfl rfl rfl rfl rfl ?_
        by_cases b_158 : v_129 ≠ (-1)
        · skip
          refine z_r_jm (ins := (.if_icmp .ne 5)) (len := 3) (t := 85) rfl rfl rfl rfl (ye_jy (t := 85) rfl (by omega) (by omega) (by omega) (by omega) b_158) ?_
          refine z_r_ld (kk := z_isA) (ins := (.aload_n 1)) (len := 1) (t := 86) (i := 1) rfl rfl rfl rfl rfl (fun _ => rfl) l_31 rfl ?_
          refine z_r_pu (ins := (.bipush 126)) (len := 2) (t := 88) rfl rfl rfl rfl (ye_bi (by decide) (by decide)) ?_
          refine ye_ca (ins := (.invokevirtual 38)) (kd := 1) (t := 91) rfl rfl (by decide) (z_argsv rfl rfl rfl (by omega) (Nat.le_of_ble_eq_true rfl) rfl (Nat.le_of_ble_eq_true rfl) (Nat.le_refl _) (Nat.le_refl _) (Or.inr (Nat.le_of_ble_eq_true rfl)) (Or.inr (z_atv (z_lkn fS c_154) rfl))) rfl rfl rfl (ye_take c_154 fS c_155 fT hx (by omega) (by omega) (by omega)) ?_
          rintro _ P_163 ⟨bt_159, p_160, rfl, c_161, o_162, ht_159⟩
          unfold ye_tk at ht_159
          have c_164 := ye_kp o_162 (ye_n1 (ye_ne c_152 c_154 (by decide))) c_152
          have c_165 := ye_kp o_162 (ye_n1 (ye_ne c_153 c_154 (by decide))) c_153
          have c_166 := ye_kp o_162 (ye_n1 (ye_ne c_150 c_154 (by decide))) c_150
          have c_167 := ye_kp o_162 (ye_n1 (ye_ne c_155 c_154 (by decide))) c_155
          have c_168 := ye_kp o_162 (ye_n1 (ye_ne c_156 c_154 (by decide))) c_156
          have o_169 := ye_oth_tr o_157 o_162 (ye_s1 (List.mem_cons_self))
          by_cases b_170 : bt_159 = 0
          · skip
            refine z_r_jm (ins := (.ifCond .eq 17)) (len := 3) (t := 108) rfl rfl rfl rfl (ye_iy (t := 108) rfl (by omega) (by omega) b_170) ?_
            refine z_r_ld (kk := z_isA) (ins := (.aload_n 0)) (len := 1) (t := 109) (i := 0) rfl rfl rfl rfl rfl (fun _ => rfl) l_30 rfl ?_
            refine z_r_rd (ins := (.getfield 18)) (len := 3) (t := 112) rfl rfl rfl rfl rfl (z_gfv (ci := 6) (k := 2) (v := .ref aR) rfl (z_lkn fG c_164) (by decide) rfl) ?_
            refine z_r_ld (kk := z_isI) (ins := (.iload_n 2)) (len := 1) (t := 113) (i := 2) rfl rfl rfl rfl rfl (fun _ => rfl) l_32 rfl ?_
            refine z_r_rd (ins := .iaload) (len := 1) (t := 114) rfl rfl rfl rfl rfl (ye_al (t := 103) (p := i) (e := 0) (z_lkn fR c_166) (by omega) (by omega) (List.getElem?_set_self (by omega))) ?_
            refine z_r_pu (ins := (.iconst (-1))) (len := 1) (t := 115) (st' := [ye_v ((-1)), ye_v 0]) rfl rfl rfl rfl rfl ?_
            refine z_r_jm (ins := (.if_icmp .eq 7)) (len := 3) (t := 118) rfl rfl rfl rfl (ye_jn (t := 122) rfl (by omega) (by omega) (by omega) (by omega) (by show ¬ (0 = (-1)); omega)) ?_
            refine z_r_pu (ins := (.iconst 1)) (len := 1) (t := 119) (st' := [ye_v 1]) rfl rfl rfl rfl rfl ?_
            refine z_r_jm (ins := (.goto 4)) (len := 3) (t := 123) rfl rfl rfl rfl (z_gty rfl) ?_
            refine ye_ret (ins := .ireturn) rfl rfl rfl (ye_retz rfl (by omega)) ?_
            have e0 : yq_w0 T lim p = p_2 := by
              unfold yq_w0
              split <;> omega
            have kn1 : n1.1 = true := by
              rcases n_21 with ⟨g1, g2, g3⟩ | ⟨g1, g2⟩
              · exact g1
              · exact absurd g2 (by omega)
            have kn2 : n2.1 = true := by
              rcases n_133 with ⟨g1, g2, g3⟩ | ⟨g1, g2⟩
              · exact g1
              · exact absurd g2 (by omega)
            have eL : yq_wl T lim p = (true, n2.2.1) := by
              unfold yq_wl
              rw [e0, en1, if_pos kn1]
              unfold yq_w1
              rw [if_pos (by omega)]
              unfold yq_w2
              rw [show n1.2.1 + 1 = p_36 by omega, en2, if_pos kn2]
              unfold yq_w3
              rw [if_neg (by omega)]
            rw [eL]
            have ep : p_160 = n2.2.1 := by omega
            rw [ep] at c_161
            exact ⟨1, _, _, _, rfl, c_161, c_168, c_165, c_166, (by simp only [List.length_set]; omega), (by simp only [List.length_set]; omega), (by simp only [List.length_set]; omega), o_169, Or.inl ⟨rfl, rfl, _, List.getElem?_set_self (by omega)⟩⟩
          · skip
            refine z_r_jm (ins := (.ifCond .eq 17)) (len := 3) (t := 94) rfl rfl rfl rfl (ye_in (t := 108) rfl (by omega) (by omega) b_170) ?_
            refine z_r_ld (kk := z_isA) (ins := (.aload_n 0)) (len := 1) (t := 95) (i := 0) rfl rfl rfl rfl rfl (fun _ => rfl) l_30 rfl ?_
            refine z_r_rd (ins := (.getfield 18)) (len := 3) (t := 98) rfl rfl rfl rfl rfl (z_gfv (ci := 6) (k := 2) (v := .ref aR) rfl (z_lkn fG c_164) (by decide) rfl) ?_
            refine z_r_ld (kk := z_isI) (ins := (.iload_n 2)) (len := 1) (t := 99) (i := 2) rfl rfl rfl rfl rfl (fun _ => rfl) l_32 rfl ?_
            refine z_r_ld (kk := z_isA) (ins := (.aload_n 1)) (len := 1) (t := 100) (i := 1) rfl rfl rfl rfl rfl (fun _ => rfl) l_31 rfl ?_
            refine z_r_pu (ins := (.iconst 2)) (len := 1) (t := 101) (st' := [ye_v 2, .ref aS, ye_v i, .ref aR]) rfl rfl rfl rfl rfl ?_
            refine z_r_pu (ins := (.iconst 1)) (len := 1) (t := 102) (st' := [ye_v 1, ye_v 2, .ref aS, ye_v i, .ref aR]) rfl rfl rfl rfl rfl ?_
            refine z_r_pu (ins := (.bipush 20)) (len := 2) (t := 104) rfl rfl rfl rfl (ye_bi (by decide) (by decide)) ?_
            refine ye_ca (ins := (.invokevirtual 42)) (kd := 1) (t := 107) rfl rfl (by decide) (z_argsv rfl rfl rfl (by omega) (Nat.le_of_ble_eq_true rfl) rfl (Nat.le_of_ble_eq_true rfl) (Nat.le_refl _) (Nat.le_refl _) (Or.inr (Nat.le_of_ble_eq_true rfl)) (Or.inr (z_atv (z_lkn fS c_161) rfl))) rfl rfl rfl (ye_number (k := 2) c_161 fS c_167 fT hx (by omega) (by omega) (by decide) (by decide) (by decide) (by omega)) ?_
            rintro _ P_174 ⟨v_171, rfl, c_172, o_173, n_175⟩
            have bdn3 := yq_num_bd (T := T) (lim := lim) (p := p_160) (lo := 1) (hi := 20) (k := 2) (by decide) (by omega)
            generalize en3 : yq_num T lim 2 1 20 (p_160) = n3 at bdn3 n_175 c_172
            have c_176 := ye_kp o_173 (ye_n1 (ye_ne c_164 c_161 (by decide))) c_164
            have c_177 := ye_kp o_173 (ye_n1 (ye_ne c_165 c_161 (by decide))) c_165
            have c_178 := ye_kp o_173 (ye_n1 (ye_ne c_166 c_161 (by decide))) c_166
            have c_179 := ye_kp o_173 (ye_n1 (ye_ne c_167 c_161 (by decide))) c_167
            have c_180 := ye_kp o_173 (ye_n1 (ye_ne c_168 c_161 (by decide))) c_168
            have o_181 := ye_oth_tr o_169 o_173 (ye_s1 (List.mem_cons_self))
            refine ye_r_wr (ins := .iastore) (len := 1) (t := 108) (a := aR) (q := (103, (sv.set (i).toNat (ye_v 0)).set (i).toNat (ye_v v_171))) rfl rfl rfl rfl rfl c_178 (ye_as (t := 103) (nf := fun x => x) (p := i) (e := v_171) (e' := v_171) c_178 (by omega) (by simp only [List.length_set]; omega) (by omega) rfl) (fun P_182 c_183 o_184 => ?_)
            have c_185 := ye_kp o_184 (ye_n1 (ye_ne c_176 c_178 (by decide))) c_176
            have c_186 := ye_kp o_184 (ye_n1 nIR) c_177
            have c_187 := ye_kp o_184 (ye_n1 (ye_ne c_172 c_178 (by decide))) c_172
            have c_188 := ye_kp o_184 (ye_n1 (ye_ne c_179 c_178 (by decide))) c_179
            have c_189 := ye_kp o_184 (ye_n1 nWR) c_180
            have o_190 := ye_oth_tr o_181 o_184 (ye_s1 (List.mem_cons_of_mem _ (List.mem_cons_of_mem _ (List.mem_cons_of_mem _ (List.mem_cons_self)))))
            refine z_r_ld (kk := z_isA) (ins := (.aload_n 0)) (len := 1) (t := 109) (i := 0) rfl rfl rfl rfl rfl (fun _ => rfl) l_30 rfl ?_
            refine z_r_rd (ins := (.getfield 18)) (len := 3) (t := 112) rfl rfl rfl rfl rfl (z_gfv (ci := 6) (k := 2) (v := .ref aR) rfl (z_lkn fG c_185) (by decide) rfl) ?_
            refine z_r_ld (kk := z_isI) (ins := (.iload_n 2)) (len := 1) (t := 113) (i := 2) rfl rfl rfl rfl rfl (fun _ => rfl) l_32 rfl ?_
            refine z_r_rd (ins := .iaload) (len := 1) (t := 114) rfl rfl rfl rfl rfl (ye_al (t := 103) (p := i) (e := v_171) (z_lkn fR c_183) (by omega) (by omega) (List.getElem?_set_self (by simp only [List.length_set]; omega))) ?_
            refine z_r_pu (ins := (.iconst (-1))) (len := 1) (t := 115) (st' := [ye_v ((-1)), ye_v v_171]) rfl rfl rfl rfl rfl ?_
            by_cases b_191 : v_171 = (-1)
            · skip
              refine z_r_jm (ins := (.if_icmp .eq 7)) (len := 3) (t := 122) rfl rfl rfl rfl (ye_jy (t := 122) rfl (by omega) (by omega) (by omega) (by omega) b_191) ?_
              refine z_r_pu (ins := (.iconst 0)) (len := 1) (t := 123) (st' := [ye_v 0]) rfl rfl rfl rfl rfl ?_
              refine ye_ret (ins := .ireturn) rfl rfl rfl (ye_retz rfl (by omega)) ?_
              have e0 : yq_w0 T lim p = p_2 := by
                unfold yq_w0
                split <;> omega
              have kn1 : n1.1 = true := by
                rcases n_21 with ⟨g1, g2, g3⟩ | ⟨g1, g2⟩
                · exact g1
                · exact absurd g2 (by omega)
              have kn2 : n2.1 = true := by
                rcases n_133 with ⟨g1, g2, g3⟩ | ⟨g1, g2⟩
                · exact g1
                · exact absurd g2 (by omega)
              have kn3 : n3.1 = false := by
                rcases n_175 with ⟨g1, g2, g3⟩ | ⟨g1, g2⟩
                · exact absurd g2 (by omega)
                · exact g1
              have eL : yq_wl T lim p = (false, n3.2.1) := by
                unfold yq_wl
                rw [e0, en1, if_pos kn1]
                unfold yq_w1
                rw [if_pos (by omega)]
                unfold yq_w2
                rw [show n1.2.1 + 1 = p_36 by omega, en2, if_pos kn2]
                unfold yq_w3
                rw [if_pos (by omega), show n2.2.1 + 1 = p_160 by omega, en3]
                rw [kn3]
              rw [eL]
              exact ⟨0, _, _, _, rfl, c_187, c_189, c_186, c_183, (by simp only [List.length_set]; omega), (by simp only [List.length_set]; omega), (by simp only [List.length_set]; omega), o_190, Or.inr ⟨rfl, rfl⟩⟩
            · skip
              refine z_r_jm (ins := (.if_icmp .eq 7)) (len := 3) (t := 118) rfl rfl rfl rfl (ye_jn (t := 122) rfl (by omega) (by omega) (by omega) (by omega) b_191) ?_
              refine z_r_pu (ins := (.iconst 1)) (len := 1) (t := 119) (st' := [ye_v 1]) rfl rfl rfl rfl rfl ?_
              refine z_r_jm (ins := (.goto 4)) (len := 3) (t := 123) rfl rfl rfl rfl (z_gty rfl) ?_
              refine ye_ret (ins := .ireturn) rfl rfl rfl (ye_retz rfl (by omega)) ?_
              have e0 : yq_w0 T lim p = p_2 := by
                unfold yq_w0
                split <;> omega
              have kn1 : n1.1 = true := by
                rcases n_21 with ⟨g1, g2, g3⟩ | ⟨g1, g2⟩
                · exact g1
                · exact absurd g2 (by omega)
              have kn2 : n2.1 = true := by
                rcases n_133 with ⟨g1, g2, g3⟩ | ⟨g1, g2⟩
                · exact g1
                · exact absurd g2 (by omega)
              have kn3 : n3.1 = true := by
                rcases n_175 with ⟨g1, g2, g3⟩ | ⟨g1, g2⟩
                · exact g1
                · exact absurd g2 (by omega)
              have eL : yq_wl T lim p = (true, n3.2.1) := by
                unfold yq_wl
                rw [e0, en1, if_pos kn1]
                unfold yq_w1
                rw [if_pos (by omega)]
                unfold yq_w2
                rw [show n1.2.1 + 1 = p_36 by omega, en2, if_pos kn2]
                unfold yq_w3
                rw [if_pos (by omega), show n2.2.1 + 1 = p_160 by omega, en3]
                rw [kn3]
              rw [eL]
              exact ⟨1, _, _, _, rfl, c_187, c_189, c_186, c_183, (by simp only [List.length_set]; omega), (by simp only [List.length_set]; omega), (by simp only [List.length_set]; omega), o_190, Or.inl ⟨rfl, rfl, _, List.getElem?_set_self (by omega)⟩⟩
        · skip
          refine z_r_jm (ins := (.if_icmp .ne 5)) (len := 3) (t := 83) rfl rfl rfl rfl (ye_jn (t := 85) rfl (by omega) (by omega) (by omega) (by omega) b_158) ?_
          refine z_r_pu (ins := (.iconst 0)) (len := 1) (t := 84) (st' := [ye_v 0]) rfl rfl rfl rfl rfl ?_
          refine ye_ret (ins := .ireturn) rfl rfl rfl (ye_retz rfl (by omega)) ?_
          have e0 : yq_w0 T lim p = p_2 := by
            unfold yq_w0
            split <;> omega
          have kn1 : n1.1 = true := by
            rcases n_21 with ⟨g1, g2, g3⟩ | ⟨g1, g2⟩
            · exact g1
            · exact absurd g2 (by omega)
          have kn2 : n2.1 = false := by
            rcases n_133 with ⟨g1, g2, g3⟩ | ⟨g1, g2⟩
            · exact absurd g2 (by omega)
            · exact g1
          have eL : yq_wl T lim p = (false, n2.2.1) := by
            unfold yq_wl
            rw [e0, en1, if_pos kn1]
            unfold yq_w1
            rw [if_pos (by omega)]
            unfold yq_w2
            rw [show n1.2.1 + 1 = p_36 by omega, en2, if_neg (by rw [kn2]; decide)]
          rw [eL]
          exact ⟨0, _, _, _, rfl, c_154, c_156, c_153, c_150, (by simp only [List.length_set]; omega), (by simp only [List.length_set]; omega), (by simp only [List.length_set]; omega), o_157, Or.inr ⟨rfl, rfl⟩⟩
    · skip
      refine z_r_jm (ins := (.ifCond .ne 5)) (len := 3) (t := 32) rfl rfl rfl rfl (ye_in (t := 34) rfl (by omega) (by omega) b_46) ?_
      refine z_r_pu (ins := (.iconst 0)) (len := 1) (t := 33) (st' := [ye_v 0]) rfl rfl rfl rfl rfl ?_
      refine ye_ret (ins := .ireturn) rfl rfl rfl (ye_retz rfl (by omega)) ?_
      have e0 : yq_w0 T lim p = p_2 := by
        unfold yq_w0
        split <;> omega
      have kn1 : n1.1 = true := by
        rcases n_21 with ⟨g1, g2, g3⟩ | ⟨g1, g2⟩
        · exact g1
        · exact absurd g2 (by omega)
      have eL : yq_wl T lim p = (false, n1.2.1) := by
        unfold yq_wl
        rw [e0, en1, if_pos kn1]
        unfold yq_w1
        rw [if_neg (by omega)]
      rw [eL]
      have ep : p_36 = n1.2.1 := by omega
      rw [ep] at c_37
      exact ⟨0, _, _, _, rfl, c_37, c_44, c_41, c_42, (by omega), (by omega), (by omega), o_45, Or.inr ⟨rfl, rfl⟩⟩
end YWLN
