/-! A LINE of the wind, the reference, exactly. -/
section YMWL
theorem yq_wl_end {T : Int → Int} {lim p : Int} (hp : lim ≤ p) : yq_wl T lim p = (false, p) := by
  have e0 : yq_w0 T lim p = p := if_neg (by omega)
  have e1 : yq_dg T lim 2 p 0 = (p, 0) := by
    show (if p < lim ∧ 48 ≤ T p ∧ T p ≤ 57 then yq_dg T lim 1 (p + 1) (10 * 0 + T p - 48) else (p, 0)) = _
    exact if_neg (by omega)
  have e2 : yq_num T lim 2 0 60 p = (false, p, 0) := by
    unfold yq_num
    rw [e1]
    exact if_pos rfl
  unfold yq_wl
  rw [e0, e2]
  rfl
def ye_ints (vs : List Value) : Prop := ∀ j, j < vs.length → ∃ e, vs[j]? = some (ye_v e)
theorem ye_ints_set {vs : List Value} {j : Nat} {e : Int} (h : ye_ints vs) : ye_ints (vs.set j (ye_v e)) := fun i hi => by
  rw [List.length_set] at hi
  by_cases hj : j = i
  · subst hj
    exact ⟨e, List.getElem?_set_self hi⟩
  · obtain ⟨e', he⟩ := h i hi
    exact ⟨e', (List.getElem?_set_ne hj).trans he⟩
variable {xs : List Int32} {d aM aB aN aO aU aV : Nat} {P : z_H} {F : Nat → Value} {bs nl bv tv vv : List Value} {T : Int → Int} {sz tp h w lim i n k mo typed : Int} {l : z_L} {Ψ : z_S → Prop}
theorem ye_mwF2 {T : Int → Int} {lim h w q0 v1 q1 w1 q2 w2 v2 q3 w3 bt q4 b5 q5 : Int} {n1 n2 : Bool × Int × Int} (hw : w = -1) (h0 : 0 ≤ q0) (e0 : yq_w0 T lim h = q0) (en1 : yq_num T lim 2 0 60 q0 = n1) (en2 : yq_num T lim 2 1 99 q2 = n2) (hb1 : 0 ≤ n1.2.1) (hb2 : 0 ≤ n2.2.1) (hn1 : ((w ≠ -1 ∧ v1 = 0 ∧ q1 = q0 ∧ w1 = w) ∨ (w = -1 ∧ n1.1 = true ∧ v1 = n1.2.2 ∧ q1 = n1.2.1 ∧ w1 = -1) ∨ (w = -1 ∧ n1.1 = false ∧ v1 = 0 ∧ w1 = n1.2.1))) (ht1 : ((w1 = -1 ∧ q1 < lim ∧ T q1 = 42 ∧ q2 = q1 + 1 ∧ w2 = -1) ∨ (w1 = -1 ∧ ¬ (q1 < lim ∧ T q1 = 42) ∧ q2 = q1 ∧ w2 = q1) ∨ (w1 ≠ -1 ∧ q2 = q1 ∧ w2 = w1))) (hn2 : ((w2 ≠ -1 ∧ v2 = 0 ∧ q3 = q2 ∧ w3 = w2) ∨ (w2 = -1 ∧ n2.1 = true ∧ v2 = n2.2.2 ∧ q3 = n2.2.1 ∧ w3 = -1) ∨ (w2 = -1 ∧ n2.1 = false ∧ v2 = 0 ∧ w3 = n2.2.1))) (ht2 : ((bt = 1 ∧ w3 = -1 ∧ q3 < lim ∧ T q3 = 126 ∧ q4 = q3 + 1) ∨ (bt = 0 ∧ ¬ (w3 = -1 ∧ q3 < lim ∧ T q3 = 126) ∧ q4 = q3))) (hbt : bt = 0) (ht3 : ((b5 = 1 ∧ w3 = -1 ∧ q4 < lim ∧ T q4 = 59 ∧ q5 = q4 + 1) ∨ (b5 = 0 ∧ ¬ (w3 = -1 ∧ q4 < lim ∧ T q4 = 59) ∧ q5 = q4))) : ((yq_wl T lim h).1 = true ∧ w3 = -1 ∧ ((b5 = 1 ∧ (yq_wl T lim h).2 < lim ∧ T (yq_wl T lim h).2 = 59 ∧ q5 = (yq_wl T lim h).2 + 1) ∨ (b5 = 0 ∧ ¬ ((yq_wl T lim h).2 < lim ∧ T (yq_wl T lim h).2 = 59) ∧ q5 = (yq_wl T lim h).2))) ∨ ((yq_wl T lim h).1 = false ∧ w3 = (yq_wl T lim h).2 ∧ b5 = 0) := by
  subst hw
  rcases hn1 with ⟨g, -⟩ | ⟨-, k1, -, rfl, rfl⟩ | ⟨-, k1, -, hw1⟩
  · exact absurd rfl g
  · rcases ht1 with ⟨-, c1, c2, rfl, rfl⟩ | ⟨-, c1, hq2, hw2⟩ | ⟨g, -⟩
    · rcases hn2 with ⟨g, -⟩ | ⟨-, k2, -, rfl, rfl⟩ | ⟨-, k2, -, hw3⟩
      · exact absurd rfl g
      · rcases ht2 with ⟨g, -⟩ | ⟨-, c3, rfl⟩
        · exact absurd (g.symm.trans hbt) (by decide)
        · skip
          have eL : yq_wl T lim h = (true, n2.2.1) := by
            unfold yq_wl
            rw [e0, en1, if_pos k1]
            unfold yq_w1
            rw [if_pos ⟨c1, c2⟩]
            unfold yq_w2
            rw [en2, if_pos k2]
            unfold yq_w3
            rw [if_neg (fun q => c3 ⟨rfl, q.1, q.2⟩)]
          rw [eL]
          exact Or.inl ⟨rfl, rfl, by rcases ht3 with ⟨g1, -, g3, g4, g5⟩ | ⟨g1, g2, g3⟩; exact Or.inl ⟨g1, g3, g4, g5⟩; exact Or.inr ⟨g1, fun q => g2 ⟨rfl, q.1, q.2⟩, g3⟩⟩
      · skip
        have eL : yq_wl T lim h = (false, n2.2.1) := by
          unfold yq_wl
          rw [e0, en1, if_pos k1]
          unfold yq_w1
          rw [if_pos ⟨c1, c2⟩]
          unfold yq_w2
          rw [en2, if_neg (by rw [k2]; decide)]
        rw [eL]
        exact Or.inr ⟨rfl, by show w3 = n2.2.1; omega, by omega⟩
    · skip
      have eL : yq_wl T lim h = (false, n1.2.1) := by
        unfold yq_wl
        rw [e0, en1, if_pos k1]
        unfold yq_w1
        rw [if_neg c1]
      rw [eL]
      exact Or.inr ⟨rfl, by show w3 = n1.2.1; omega, by omega⟩
    · exact absurd rfl g
  · skip
    have eL : yq_wl T lim h = (false, n1.2.1) := by
      unfold yq_wl
      rw [e0, en1, if_neg (by rw [k1]; decide)]
    rw [eL]
    exact Or.inr ⟨rfl, by show w3 = n1.2.1; omega, by omega⟩
theorem ye_mwF3 {T : Int → Int} {lim h w q0 v1 q1 w1 q2 w2 v2 q3 w3 bt q4 b5 q5 v3 q6 w4 : Int} {n1 n2 n3 : Bool × Int × Int} (hw : w = -1) (h0 : 0 ≤ q0) (e0 : yq_w0 T lim h = q0) (en1 : yq_num T lim 2 0 60 q0 = n1) (en2 : yq_num T lim 2 1 99 q2 = n2) (en3 : yq_num T lim 2 1 20 q4 = n3) (hb1 : 0 ≤ n1.2.1) (hb2 : 0 ≤ n2.2.1) (hb3 : 0 ≤ n3.2.1) (hn1 : ((w ≠ -1 ∧ v1 = 0 ∧ q1 = q0 ∧ w1 = w) ∨ (w = -1 ∧ n1.1 = true ∧ v1 = n1.2.2 ∧ q1 = n1.2.1 ∧ w1 = -1) ∨ (w = -1 ∧ n1.1 = false ∧ v1 = 0 ∧ w1 = n1.2.1))) (ht1 : ((w1 = -1 ∧ q1 < lim ∧ T q1 = 42 ∧ q2 = q1 + 1 ∧ w2 = -1) ∨ (w1 = -1 ∧ ¬ (q1 < lim ∧ T q1 = 42) ∧ q2 = q1 ∧ w2 = q1) ∨ (w1 ≠ -1 ∧ q2 = q1 ∧ w2 = w1))) (hn2 : ((w2 ≠ -1 ∧ v2 = 0 ∧ q3 = q2 ∧ w3 = w2) ∨ (w2 = -1 ∧ n2.1 = true ∧ v2 = n2.2.2 ∧ q3 = n2.2.1 ∧ w3 = -1) ∨ (w2 = -1 ∧ n2.1 = false ∧ v2 = 0 ∧ w3 = n2.2.1))) (ht2 : ((bt = 1 ∧ w3 = -1 ∧ q3 < lim ∧ T q3 = 126 ∧ q4 = q3 + 1) ∨ (bt = 0 ∧ ¬ (w3 = -1 ∧ q3 < lim ∧ T q3 = 126) ∧ q4 = q3))) (hbt : bt ≠ 0) (hn3 : ((w3 ≠ -1 ∧ v3 = 0 ∧ q6 = q4 ∧ w4 = w3) ∨ (w3 = -1 ∧ n3.1 = true ∧ v3 = n3.2.2 ∧ q6 = n3.2.1 ∧ w4 = -1) ∨ (w3 = -1 ∧ n3.1 = false ∧ v3 = 0 ∧ w4 = n3.2.1))) (ht3 : ((b5 = 1 ∧ w4 = -1 ∧ q6 < lim ∧ T q6 = 59 ∧ q5 = q6 + 1) ∨ (b5 = 0 ∧ ¬ (w4 = -1 ∧ q6 < lim ∧ T q6 = 59) ∧ q5 = q6))) : ((yq_wl T lim h).1 = true ∧ w4 = -1 ∧ ((b5 = 1 ∧ (yq_wl T lim h).2 < lim ∧ T (yq_wl T lim h).2 = 59 ∧ q5 = (yq_wl T lim h).2 + 1) ∨ (b5 = 0 ∧ ¬ ((yq_wl T lim h).2 < lim ∧ T (yq_wl T lim h).2 = 59) ∧ q5 = (yq_wl T lim h).2))) ∨ ((yq_wl T lim h).1 = false ∧ w4 = (yq_wl T lim h).2 ∧ b5 = 0) := by
  subst hw
  rcases hn1 with ⟨g, -⟩ | ⟨-, k1, -, rfl, rfl⟩ | ⟨-, k1, -, hw1⟩
  · exact absurd rfl g
  · rcases ht1 with ⟨-, c1, c2, rfl, rfl⟩ | ⟨-, c1, hq2, hw2⟩ | ⟨g, -⟩
    · rcases hn2 with ⟨g, -⟩ | ⟨-, k2, -, rfl, rfl⟩ | ⟨-, k2, -, hw3⟩
      · exact absurd rfl g
      · rcases ht2 with ⟨-, -, c3, c4, rfl⟩ | ⟨g, -⟩
        · rcases hn3 with ⟨g, -⟩ | ⟨-, k3, -, rfl, rfl⟩ | ⟨-, k3, -, hw4⟩
          · exact absurd rfl g
          · skip
            have eL : yq_wl T lim h = (true, n3.2.1) := by
              unfold yq_wl
              rw [e0, en1, if_pos k1]
              unfold yq_w1
              rw [if_pos ⟨c1, c2⟩]
              unfold yq_w2
              rw [en2, if_pos k2]
              unfold yq_w3
              rw [if_pos ⟨c3, c4⟩, en3, k3]
            rw [eL]
            exact Or.inl ⟨rfl, rfl, by rcases ht3 with ⟨g1, -, g3, g4, g5⟩ | ⟨g1, g2, g3⟩; exact Or.inl ⟨g1, g3, g4, g5⟩; exact Or.inr ⟨g1, fun q => g2 ⟨rfl, q.1, q.2⟩, g3⟩⟩
          · skip
            have eL : yq_wl T lim h = (false, n3.2.1) := by
              unfold yq_wl
              rw [e0, en1, if_pos k1]
              unfold yq_w1
              rw [if_pos ⟨c1, c2⟩]
              unfold yq_w2
              rw [en2, if_pos k2]
              unfold yq_w3
              rw [if_pos ⟨c3, c4⟩, en3, k3]
            rw [eL]
            exact Or.inr ⟨rfl, by show w4 = n3.2.1; omega, by omega⟩
        · exact absurd g hbt
      · skip
        have eL : yq_wl T lim h = (false, n2.2.1) := by
          unfold yq_wl
          rw [e0, en1, if_pos k1]
          unfold yq_w1
          rw [if_pos ⟨c1, c2⟩]
          unfold yq_w2
          rw [en2, if_neg (by rw [k2]; decide)]
        rw [eL]
        exact Or.inr ⟨rfl, by show w4 = n2.2.1; omega, by omega⟩
    · skip
      have eL : yq_wl T lim h = (false, n1.2.1) := by
        unfold yq_wl
        rw [e0, en1, if_pos k1]
        unfold yq_w1
        rw [if_neg c1]
      rw [eL]
      exact Or.inr ⟨rfl, by show w4 = n1.2.1; omega, by omega⟩
    · exact absurd rfl g
  · skip
    have eL : yq_wl T lim h = (false, n1.2.1) := by
      unfold yq_wl
      rw [e0, en1, if_neg (by rw [k1]; decide)]
    rw [eL]
    exact Or.inr ⟨rfl, by show w4 = n1.2.1; omega, by omega⟩
def ye_hd (p : Prop) : Prop := p
set_option maxHeartbeats 8000000 in
theorem ye_mwI (hM : P[aM]? = some (10, ye_fl F)) (fM : aM < z_far) (k15 : F 15 = .ref aB) (k16 : F 16 = ye_v sz) (k17 : F 17 = ye_v tp) (k18 : F 18 = ye_v h) (k19 : F 19 = ye_v w) (k25 : F 25 = .ref aN) (hN : P[aN]? = some (103, nl)) (fN : aN < z_far) (hnl : nl.length = 36) (hni : ye_ints nl) (hB : P[aB]? = some (101, bs)) (fB : aB < z_far) (hx : ye_tx T sz (-128) 127 bs) (hl : (lim = sz ∧ sz ≤ tp) ∨ (lim = tp ∧ tp < sz)) (hb : 0 ≤ h ∧ h ≤ lim ∧ 0 ≤ sz ∧ sz ≤ 80 ∧ 0 ≤ tp ∧ tp ≤ 80 ∧ -1 ≤ w ∧ w ≤ 80)
    (h0 : z_get l 0 = some (.ref aM)) (h1 : z_get l 1 = some (ye_v i)) (h2 : z_get l 2 = some (ye_v 1)) (hw : w = -1) (hi : 0 ≤ i ∧ i ≤ 10) (hd : 4 ≤ d)
    (kk : ∀ l P' F' nl' (b h' w' : Int), z_get l 0 = some (.ref aM) → z_get l 1 = some (ye_v (i + 1)) → z_get l 2 = some (ye_v b) → P'[aM]? = some (10, ye_fl F') → ye_fk [18, 19] F F' → F' 18 = ye_v h' → F' 19 = ye_v w' → P'[aN]? = some (103, nl') → nl'.length = 36 → ye_ints nl' → ye_oth [aM, aN] P P' → 0 ≤ h' ∧ h' ≤ lim → -1 ≤ w' ∧ w' ≤ 80 → (((yq_wl T lim h).1 = true ∧ w' = -1 ∧ ((b = 1 ∧ (yq_wl T lim h).2 < lim ∧ T (yq_wl T lim h).2 = 59 ∧ h' = (yq_wl T lim h).2 + 1) ∨ (b = 0 ∧ ¬ ((yq_wl T lim h).2 < lim ∧ T (yq_wl T lim h).2 = 59) ∧ h' = (yq_wl T lim h).2))) ∨ ((yq_wl T lim h).1 = false ∧ w' = (yq_wl T lim h).2 ∧ b = 0)) → z_Rh (z_G xs) d 201 Ψ (39, l, [], P', 0, 0)) : z_Rh (z_G xs) d 201 Ψ (39, l, [], P, 0, 0) := by
  have ho0 : ye_oth [aM, aN] P P := ye_oth_rf
  have hf0 : ye_fk [18, 19] F F := ye_fk_rf
  refine z_r_ld (kk := z_isI) (ins := (.iload_n 2)) (len := 1) (t := 40) (i := 2) rfl rfl rfl rfl rfl (fun _ => rfl) h2 rfl ?_
  refine z_r_jm (ins := (.ifCond .eq 123)) (len := 3) (t := 43) rfl rfl rfl rfl (ye_in (t := 163) rfl (by omega) (by omega) (by show ¬ ((1 : Int) = 0); decide)) ?_
  refine z_r_ld (kk := z_isA) (ins := (.aload_n 0)) (len := 1) (t := 44) (i := 0) rfl rfl rfl rfl rfl (fun _ => rfl) h0 rfl ?_
  refine ye_ca (ins := (.invokevirtual 159)) (kd := 1) (t := 47) rfl rfl (by decide) (z_argsv rfl rfl rfl (by omega) (Nat.le_of_ble_eq_true rfl) rfl (Nat.le_of_ble_eq_true rfl) (Nat.le_refl _) (Nat.le_refl _) (Or.inr (Nat.le_of_ble_eq_true rfl)) (Or.inr (z_atv (z_lkn fM hM) rfl))) rfl rfl rfl (ye_fine hM fM k19 (by omega)) ?_
  rintro _ _ ⟨rfl, b_1, rfl, h_2⟩
  refine z_r_jm (ins := (.ifCond .eq 116)) (len := 3) (t := 50) rfl rfl rfl rfl (ye_in (t := 163) rfl (by omega) (by omega) (by show ¬ (b_1 = 0); omega)) ?_
  refine z_r_ld (kk := z_isA) (ins := (.aload_n 0)) (len := 1) (t := 51) (i := 0) rfl rfl rfl rfl rfl (fun _ => rfl) h0 rfl ?_
  refine z_r_pu (ins := (.bipush 45)) (len := 2) (t := 53) rfl rfl rfl rfl (ye_bi (by decide) (by decide)) ?_
  refine ye_ca (ins := (.invokevirtual 167)) (kd := 1) (t := 56) rfl rfl (by decide) (z_argsv rfl rfl rfl (by omega) (Nat.le_of_ble_eq_true rfl) rfl (Nat.le_of_ble_eq_true rfl) (Nat.le_refl _) (Nat.le_refl _) (Or.inr (Nat.le_of_ble_eq_true rfl)) (Or.inr (z_atv (z_lkn fM hM) rfl))) rfl rfl rfl (ye_passes (lim := lim) hM fM k15 k16 k17 k18 k19 hB fB hx (by omega) (by omega) (by omega) (by omega)) ?_
  rintro _ P_6 ⟨bt_3, F_4, q_5, rfl, c_7, f_8, k_9, o_10, ht_3⟩
  have c_11 := ye_kp o_10 (ye_n1 (ye_ne hB hM (by decide))) hB
  have c_12 := ye_kp o_10 (ye_n1 (ye_ne hN hM (by decide))) hN
  have o_13 := ye_oth_tr ho0 o_10 (ye_s1 (List.mem_cons_self))
  have f_14 : F_4 15 = .ref aB := (f_8 15 (by decide)).trans k15
  have f_15 : F_4 16 = ye_v sz := (f_8 16 (by decide)).trans k16
  have f_16 : F_4 17 = ye_v tp := (f_8 17 (by decide)).trans k17
  have f_17 : F_4 19 = ye_v w := (f_8 19 (by decide)).trans k19
  have f_18 : F_4 25 = .ref aN := (f_8 25 (by decide)).trans k25
  have f_19 := ye_fk_tr hf0 f_8 (by decide)
  have bqt_3 : (h ≤ q_5 ∧ q_5 ≤ lim) ∧ 0 ≤ q_5 ∧ 0 ≤ bt_3 ∧ bt_3 ≤ 1 := by omega
  refine z_r_is (kk := z_isI) (ins := (.istore_n 3)) (len := 1) (t := 57) (i := 3) rfl rfl rfl rfl rfl rfl rfl rfl (fun l l_20 k_21 => ?_)
  have l_22 := k_21 _ _ h0 (by decide) (Or.inl (by decide))
  have l_23 := k_21 _ _ h1 (by decide) (Or.inl (by decide))
  have l_24 := k_21 _ _ h2 (by decide) (Or.inr (by show (1 : Nat) ≠ 2; decide))
  refine z_r_ld (kk := z_isA) (ins := (.aload_n 0)) (len := 1) (t := 58) (i := 0) rfl rfl rfl rfl rfl (fun _ => rfl) l_22 rfl ?_
  refine z_r_pu (ins := (.iconst 2)) (len := 1) (t := 59) (st' := [ye_v 2, .ref aM]) rfl rfl rfl rfl rfl ?_
  refine z_r_pu (ins := (.iconst 0)) (len := 1) (t := 60) (st' := [ye_v 0, ye_v 2, .ref aM]) rfl rfl rfl rfl rfl ?_
  refine z_r_pu (ins := (.bipush 60)) (len := 2) (t := 62) rfl rfl rfl rfl (ye_bi (by decide) (by decide)) ?_
  refine ye_ca (ins := (.invokevirtual 179)) (kd := 1) (t := 65) rfl rfl (by decide) (z_argsv rfl rfl rfl (by omega) (Nat.le_of_ble_eq_true rfl) rfl (Nat.le_of_ble_eq_true rfl) (Nat.le_refl _) (Nat.le_refl _) (Or.inr (Nat.le_of_ble_eq_true rfl)) (Or.inr (z_atv (z_lkn fM c_7) rfl))) rfl rfl rfl (ye_mnum (lim := lim) (k := 2) c_7 fM f_14 f_15 f_16 k_9 f_17 c_11 fB hx (by omega) (by omega) (by omega) (by omega) (by decide) (by decide) (by omega)) ?_
  rintro _ P_29 ⟨v_25, F_26, q_27, w_28, rfl, c_30, f_31, k_32, k_33, o_34, b_35, b_36, hn1⟩
  have bdn1 := yq_num_bd (T := T) (lim := lim) (p := q_5) (lo := 0) (hi := 60) (k := 2) (by decide) (by omega)
  generalize en1 : yq_num T lim 2 0 60 (q_5) = n1 at bdn1 hn1
  have c_37 := ye_kp o_34 (ye_n1 (ye_ne c_11 c_7 (by decide))) c_11
  have c_38 := ye_kp o_34 (ye_n1 (ye_ne c_12 c_7 (by decide))) c_12
  have o_39 := ye_oth_tr o_13 o_34 (ye_s1 (List.mem_cons_self))
  have f_40 : F_26 15 = .ref aB := (f_31 15 (by decide)).trans f_14
  have f_41 : F_26 16 = ye_v sz := (f_31 16 (by decide)).trans f_15
  have f_42 : F_26 17 = ye_v tp := (f_31 17 (by decide)).trans f_16
  have f_43 : F_26 25 = .ref aN := (f_31 25 (by decide)).trans f_18
  have f_44 := ye_fk_tr f_19 f_31 (by decide)
  have bwn1 : -1 ≤ w_28 ∧ w_28 ≤ 80 := by omega
  replace hn1 : ye_hd _ := hn1
  refine z_r_is (kk := z_isI) (ins := (.istore 4)) (len := 2) (t := 67) (i := 4) rfl rfl rfl rfl rfl rfl rfl rfl (fun l l_45 k_46 => ?_)
  have l_47 := k_46 _ _ l_22 (by decide) (Or.inl (by decide))
  have l_48 := k_46 _ _ l_23 (by decide) (Or.inl (by decide))
  have l_49 := k_46 _ _ l_24 (by decide) (Or.inl (by decide))
  have l_50 := k_46 _ _ l_20 (by decide) (Or.inr (by show (1 : Nat) ≠ 2; decide))
  refine z_r_ld (kk := z_isA) (ins := (.aload_n 0)) (len := 1) (t := 68) (i := 0) rfl rfl rfl rfl rfl (fun _ => rfl) l_47 rfl ?_
  refine z_r_pu (ins := (.bipush 42)) (len := 2) (t := 70) rfl rfl rfl rfl (ye_bi (by decide) (by decide)) ?_
  refine ye_cav (ins := (.invokevirtual 183)) (kd := 1) (t := 73) rfl rfl (by decide) (z_argsv rfl rfl rfl (by omega) (Nat.le_of_ble_eq_true rfl) rfl (Nat.le_of_ble_eq_true rfl) (Nat.le_refl _) (Nat.le_refl _) (Or.inr (Nat.le_of_ble_eq_true rfl)) (Or.inr (z_atv (z_lkn fM c_30) rfl))) rfl rfl rfl rfl (ye_need (lim := lim) c_30 fM f_40 f_41 f_42 k_32 k_33 c_37 fB hx (by omega) (by omega) (by omega) (by omega)) ?_
  rintro _ P_55 ⟨F_52, q_53, w_54, c_56, f_57, k_58, k_59, o_60, ht_51⟩
  have c_61 := ye_kp o_60 (ye_n1 (ye_ne c_37 c_30 (by decide))) c_37
  have c_62 := ye_kp o_60 (ye_n1 (ye_ne c_38 c_30 (by decide))) c_38
  have o_63 := ye_oth_tr o_39 o_60 (ye_s1 (List.mem_cons_self))
  have f_64 : F_52 15 = .ref aB := (f_57 15 (by decide)).trans f_40
  have f_65 : F_52 16 = ye_v sz := (f_57 16 (by decide)).trans f_41
  have f_66 : F_52 17 = ye_v tp := (f_57 17 (by decide)).trans f_42
  have f_67 : F_52 25 = .ref aN := (f_57 25 (by decide)).trans f_43
  have f_68 := ye_fk_tr f_44 f_57 (by decide)
  have bqt_51 : (q_27 ≤ q_53 ∧ q_53 ≤ lim ∧ 0 ≤ q_53) ∧ (-1 ≤ w_54 ∧ w_54 ≤ 80) := by omega
  replace ht_51 : ye_hd _ := ht_51
  refine z_r_ld (kk := z_isA) (ins := (.aload_n 0)) (len := 1) (t := 74) (i := 0) rfl rfl rfl rfl rfl (fun _ => rfl) l_47 rfl ?_
  refine z_r_pu (ins := (.iconst 2)) (len := 1) (t := 75) (st' := [ye_v 2, .ref aM]) rfl rfl rfl rfl rfl ?_
  refine z_r_pu (ins := (.iconst 1)) (len := 1) (t := 76) (st' := [ye_v 1, ye_v 2, .ref aM]) rfl rfl rfl rfl rfl ?_
  refine z_r_pu (ins := (.bipush 99)) (len := 2) (t := 78) rfl rfl rfl rfl (ye_bi (by decide) (by decide)) ?_
  refine ye_ca (ins := (.invokevirtual 179)) (kd := 1) (t := 81) rfl rfl (by decide) (z_argsv rfl rfl rfl (by omega) (Nat.le_of_ble_eq_true rfl) rfl (Nat.le_of_ble_eq_true rfl) (Nat.le_refl _) (Nat.le_refl _) (Or.inr (Nat.le_of_ble_eq_true rfl)) (Or.inr (z_atv (z_lkn fM c_56) rfl))) rfl rfl rfl (ye_mnum (lim := lim) (k := 2) c_56 fM f_64 f_65 f_66 k_58 k_59 c_61 fB hx (by omega) (by omega) (by omega) (by omega) (by decide) (by decide) (by omega)) ?_
  rintro _ P_73 ⟨v_69, F_70, q_71, w_72, rfl, c_74, f_75, k_76, k_77, o_78, b_79, b_80, hn2⟩
  have bdn2 := yq_num_bd (T := T) (lim := lim) (p := q_53) (lo := 1) (hi := 99) (k := 2) (by decide) (by omega)
  generalize en2 : yq_num T lim 2 1 99 (q_53) = n2 at bdn2 hn2
  have c_81 := ye_kp o_78 (ye_n1 (ye_ne c_61 c_56 (by decide))) c_61
  have c_82 := ye_kp o_78 (ye_n1 (ye_ne c_62 c_56 (by decide))) c_62
  have o_83 := ye_oth_tr o_63 o_78 (ye_s1 (List.mem_cons_self))
  have f_84 : F_70 15 = .ref aB := (f_75 15 (by decide)).trans f_64
  have f_85 : F_70 16 = ye_v sz := (f_75 16 (by decide)).trans f_65
  have f_86 : F_70 17 = ye_v tp := (f_75 17 (by decide)).trans f_66
  have f_87 : F_70 25 = .ref aN := (f_75 25 (by decide)).trans f_67
  have f_88 := ye_fk_tr f_68 f_75 (by decide)
  have bwn2 : -1 ≤ w_72 ∧ w_72 ≤ 80 := by omega
  replace hn2 : ye_hd _ := hn2
  refine z_r_is (kk := z_isI) (ins := (.istore 5)) (len := 2) (t := 83) (i := 5) rfl rfl rfl rfl rfl rfl rfl rfl (fun l l_89 k_90 => ?_)
  have l_91 := k_90 _ _ l_47 (by decide) (Or.inl (by decide))
  have l_92 := k_90 _ _ l_48 (by decide) (Or.inl (by decide))
  have l_93 := k_90 _ _ l_49 (by decide) (Or.inl (by decide))
  have l_94 := k_90 _ _ l_50 (by decide) (Or.inl (by decide))
  have l_95 := k_90 _ _ l_45 (by decide) (Or.inr (by show (1 : Nat) ≠ 2; decide))
  refine z_r_ld (kk := z_isA) (ins := (.aload_n 0)) (len := 1) (t := 84) (i := 0) rfl rfl rfl rfl rfl (fun _ => rfl) l_91 rfl ?_
  refine z_r_pu (ins := (.bipush 126)) (len := 2) (t := 86) rfl rfl rfl rfl (ye_bi (by decide) (by decide)) ?_
  refine ye_ca (ins := (.invokevirtual 167)) (kd := 1) (t := 89) rfl rfl (by decide) (z_argsv rfl rfl rfl (by omega) (Nat.le_of_ble_eq_true rfl) rfl (Nat.le_of_ble_eq_true rfl) (Nat.le_refl _) (Nat.le_refl _) (Or.inr (Nat.le_of_ble_eq_true rfl)) (Or.inr (z_atv (z_lkn fM c_74) rfl))) rfl rfl rfl (ye_passes (lim := lim) c_74 fM f_84 f_85 f_86 k_76 k_77 c_81 fB hx (by omega) (by omega) (by omega) (by omega)) ?_
  rintro _ P_99 ⟨bt_96, F_97, q_98, rfl, c_100, f_101, k_102, o_103, ht_96⟩
  have c_104 := ye_kp o_103 (ye_n1 (ye_ne c_81 c_74 (by decide))) c_81
  have c_105 := ye_kp o_103 (ye_n1 (ye_ne c_82 c_74 (by decide))) c_82
  have o_106 := ye_oth_tr o_83 o_103 (ye_s1 (List.mem_cons_self))
  have f_107 : F_97 15 = .ref aB := (f_101 15 (by decide)).trans f_84
  have f_108 : F_97 16 = ye_v sz := (f_101 16 (by decide)).trans f_85
  have f_109 : F_97 17 = ye_v tp := (f_101 17 (by decide)).trans f_86
  have f_110 : F_97 19 = ye_v w_72 := (f_101 19 (by decide)).trans k_77
  have f_111 : F_97 25 = .ref aN := (f_101 25 (by decide)).trans f_87
  have f_112 := ye_fk_tr f_88 f_101 (by decide)
  have bqt_96 : (q_71 ≤ q_98 ∧ q_98 ≤ lim) ∧ 0 ≤ q_98 ∧ 0 ≤ bt_96 ∧ bt_96 ≤ 1 := by omega
  replace ht_96 : ye_hd _ := ht_96
  by_cases b_113 : bt_96 = 0
  · skip
    refine z_r_jm (ins := (.ifCond .eq 14)) (len := 3) (t := 103) rfl rfl rfl rfl (ye_iy (t := 103) rfl (by omega) (by omega) b_113) ?_
    refine z_r_pu (ins := (.iconst 0)) (len := 1) (t := 104) (st' := [ye_v 0]) rfl rfl rfl rfl rfl ?_
    refine z_r_is (kk := z_isI) (ins := (.istore 6)) (len := 2) (t := 106) (i := 6) rfl rfl rfl rfl rfl rfl rfl rfl (fun l l_114 k_115 => ?_)
    have l_116 := k_115 _ _ l_91 (by decide) (Or.inl (by decide))
    have l_117 := k_115 _ _ l_92 (by decide) (Or.inl (by decide))
    have l_118 := k_115 _ _ l_93 (by decide) (Or.inl (by decide))
    have l_119 := k_115 _ _ l_94 (by decide) (Or.inl (by decide))
    have l_120 := k_115 _ _ l_95 (by decide) (Or.inl (by decide))
    have l_121 := k_115 _ _ l_89 (by decide) (Or.inr (by show (1 : Nat) ≠ 2; decide))
    refine z_r_ld (kk := z_isA) (ins := (.aload_n 0)) (len := 1) (t := 107) (i := 0) rfl rfl rfl rfl rfl (fun _ => rfl) l_116 rfl ?_
    refine z_r_rd (ins := (.getfield 55)) (len := 3) (t := 110) rfl rfl rfl rfl rfl (z_gfv (ci := 10) (k := 25) (v := .ref aN) rfl (z_lkn fM c_100) (by decide) (ye_flg rfl f_111)) ?_
    refine z_r_pu (ins := (.iconst 3)) (len := 1) (t := 111) (st' := [ye_v 3, .ref aN]) rfl rfl rfl rfl rfl ?_
    refine z_r_ld (kk := z_isI) (ins := (.iload_n 1)) (len := 1) (t := 112) (i := 1) rfl rfl rfl rfl rfl (fun _ => rfl) l_117 rfl ?_
    refine z_r_pu (ins := .imul) (len := 1) (t := 113) rfl rfl rfl rfl ye_mul ?_
    refine z_r_ld (kk := z_isI) (ins := (.iload_n 3)) (len := 1) (t := 114) (i := 3) rfl rfl rfl rfl rfl (fun _ => rfl) l_119 rfl ?_
    by_cases b_122 : bt_3 = 0
    · skip
      refine z_r_jm (ins := (.ifCond .eq 9)) (len := 3) (t := 123) rfl rfl rfl rfl (ye_iy (t := 123) rfl (by omega) (by omega) b_122) ?_
      refine z_r_ld (kk := z_isI) (ins := (.iload 4)) (len := 2) (t := 125) (i := 4) rfl rfl rfl rfl rfl (fun _ => rfl) l_120 rfl ?_
      refine ye_r_wr (ins := .iastore) (len := 1) (t := 126) (a := aN) (q := (103, nl.set (3 * i).toNat (ye_v v_25))) rfl rfl rfl rfl rfl c_105 (ye_as (t := 103) (nf := fun x => x) (p := 3 * i) (e := v_25) (e' := v_25) c_105 (by omega) (by omega) (by omega) rfl) (fun P_123 c_124 o_125 => ?_)
      have c_126 := ye_kp o_125 (ye_n1 (ye_ne c_104 c_105 (by decide))) c_104
      have c_127 := ye_kp o_125 (ye_n1 (ye_ne c_100 c_105 (by decide))) c_100
      have o_128 := ye_oth_tr o_106 o_125 (ye_s1 (List.mem_cons_of_mem _ (List.mem_cons_self)))
      refine z_r_ld (kk := z_isA) (ins := (.aload_n 0)) (len := 1) (t := 127) (i := 0) rfl rfl rfl rfl rfl (fun _ => rfl) l_116 rfl ?_
      refine z_r_rd (ins := (.getfield 55)) (len := 3) (t := 130) rfl rfl rfl rfl rfl (z_gfv (ci := 10) (k := 25) (v := .ref aN) rfl (z_lkn fM c_127) (by decide) (ye_flg rfl f_111)) ?_
      refine z_r_pu (ins := (.iconst 3)) (len := 1) (t := 131) (st' := [ye_v 3, .ref aN]) rfl rfl rfl rfl rfl ?_
      refine z_r_ld (kk := z_isI) (ins := (.iload_n 1)) (len := 1) (t := 132) (i := 1) rfl rfl rfl rfl rfl (fun _ => rfl) l_117 rfl ?_
      refine z_r_pu (ins := .imul) (len := 1) (t := 133) rfl rfl rfl rfl ye_mul ?_
      refine z_r_pu (ins := (.iconst 1)) (len := 1) (t := 134) (st' := [ye_v 1, ye_v (3 * i), .ref aN]) rfl rfl rfl rfl rfl ?_
      refine z_r_pu (ins := .iadd) (len := 1) (t := 135) rfl rfl rfl rfl ye_add ?_
      refine z_r_ld (kk := z_isI) (ins := (.iload 5)) (len := 2) (t := 137) (i := 5) rfl rfl rfl rfl rfl (fun _ => rfl) l_121 rfl ?_
      refine ye_r_wr (ins := .iastore) (len := 1) (t := 138) (a := aN) (q := (103, (nl.set (3 * i).toNat (ye_v v_25)).set (3 * i + 1).toNat (ye_v v_69))) rfl rfl rfl rfl rfl c_124 (ye_as (t := 103) (nf := fun x => x) (p := 3 * i + 1) (e := v_69) (e' := v_69) c_124 (by omega) (by simp only [List.length_set]; omega) (by omega) rfl) (fun P_129 c_130 o_131 => ?_)
      have c_132 := ye_kp o_131 (ye_n1 (ye_ne c_126 c_124 (by decide))) c_126
      have c_133 := ye_kp o_131 (ye_n1 (ye_ne c_127 c_124 (by decide))) c_127
      have o_134 := ye_oth_tr o_128 o_131 (ye_s1 (List.mem_cons_of_mem _ (List.mem_cons_self)))
      refine z_r_ld (kk := z_isA) (ins := (.aload_n 0)) (len := 1) (t := 139) (i := 0) rfl rfl rfl rfl rfl (fun _ => rfl) l_116 rfl ?_
      refine z_r_rd (ins := (.getfield 55)) (len := 3) (t := 142) rfl rfl rfl rfl rfl (z_gfv (ci := 10) (k := 25) (v := .ref aN) rfl (z_lkn fM c_133) (by decide) (ye_flg rfl f_111)) ?_
      refine z_r_pu (ins := (.iconst 3)) (len := 1) (t := 143) (st' := [ye_v 3, .ref aN]) rfl rfl rfl rfl rfl ?_
      refine z_r_ld (kk := z_isI) (ins := (.iload_n 1)) (len := 1) (t := 144) (i := 1) rfl rfl rfl rfl rfl (fun _ => rfl) l_117 rfl ?_
      refine z_r_pu (ins := .imul) (len := 1) (t := 145) rfl rfl rfl rfl ye_mul ?_
      refine z_r_pu (ins := (.iconst 2)) (len := 1) (t := 146) (st' := [ye_v 2, ye_v (3 * i), .ref aN]) rfl rfl rfl rfl rfl ?_
      refine z_r_pu (ins := .iadd) (len := 1) (t := 147) rfl rfl rfl rfl ye_add ?_
      refine z_r_ld (kk := z_isI) (ins := (.iload 6)) (len := 2) (t := 149) (i := 6) rfl rfl rfl rfl rfl (fun _ => rfl) l_114 rfl ?_
      refine ye_r_wr (ins := .iastore) (len := 1) (t := 150) (a := aN) (q := (103, ((nl.set (3 * i).toNat (ye_v v_25)).set (3 * i + 1).toNat (ye_v v_69)).set (3 * i + 2).toNat (ye_v 0))) rfl rfl rfl rfl rfl c_130 (ye_as (t := 103) (nf := fun x => x) (p := 3 * i + 2) (e := 0) (e' := 0) c_130 (by omega) (by simp only [List.length_set]; omega) (by omega) rfl) (fun P_135 c_136 o_137 => ?_)
      have c_138 := ye_kp o_137 (ye_n1 (ye_ne c_132 c_130 (by decide))) c_132
      have c_139 := ye_kp o_137 (ye_n1 (ye_ne c_133 c_130 (by decide))) c_133
      have o_140 := ye_oth_tr o_134 o_137 (ye_s1 (List.mem_cons_of_mem _ (List.mem_cons_self)))
      refine ye_ic (ins := (.iinc 1 1)) (len := 3) (t := 153) (i := 1) (a := i) (kk := 1) rfl rfl rfl rfl rfl rfl l_117 (fun l l_141 k_142 => ?_)
      have l_143 := k_142 _ _ l_116 (by decide) (Or.inr (by show (1 : Nat) ≠ 2; decide))
      have l_144 := k_142 _ _ l_118 (by decide) (Or.inl (by decide))
      have l_145 := k_142 _ _ l_119 (by decide) (Or.inl (by decide))
      have l_146 := k_142 _ _ l_120 (by decide) (Or.inl (by decide))
      have l_147 := k_142 _ _ l_121 (by decide) (Or.inl (by decide))
      have l_148 := k_142 _ _ l_114 (by decide) (Or.inl (by decide))
      refine z_r_ld (kk := z_isA) (ins := (.aload_n 0)) (len := 1) (t := 154) (i := 0) rfl rfl rfl rfl rfl (fun _ => rfl) l_143 rfl ?_
      refine z_r_pu (ins := (.bipush 59)) (len := 2) (t := 156) rfl rfl rfl rfl (ye_bi (by decide) (by decide)) ?_
      refine ye_ca (ins := (.invokevirtual 167)) (kd := 1) (t := 159) rfl rfl (by decide) (z_argsv rfl rfl rfl (by omega) (Nat.le_of_ble_eq_true rfl) rfl (Nat.le_of_ble_eq_true rfl) (Nat.le_refl _) (Nat.le_refl _) (Or.inr (Nat.le_of_ble_eq_true rfl)) (Or.inr (z_atv (z_lkn fM c_139) rfl))) rfl rfl rfl (ye_passes (lim := lim) c_139 fM f_107 f_108 f_109 k_102 f_110 c_138 fB hx (by omega) (by omega) (by omega) (by omega)) ?_
      rintro _ P_152 ⟨bt_149, F_150, q_151, rfl, c_153, f_154, k_155, o_156, ht_149⟩
      have c_157 := ye_kp o_156 (ye_n1 (ye_ne c_138 c_139 (by decide))) c_138
      have c_158 := ye_kp o_156 (ye_n1 (ye_ne c_136 c_139 (by decide))) c_136
      have o_159 := ye_oth_tr o_140 o_156 (ye_s1 (List.mem_cons_self))
      have f_160 : F_150 15 = .ref aB := (f_154 15 (by decide)).trans f_107
      have f_161 : F_150 16 = ye_v sz := (f_154 16 (by decide)).trans f_108
      have f_162 : F_150 17 = ye_v tp := (f_154 17 (by decide)).trans f_109
      have f_163 : F_150 19 = ye_v w_72 := (f_154 19 (by decide)).trans f_110
      have f_164 : F_150 25 = .ref aN := (f_154 25 (by decide)).trans f_111
      have f_165 := ye_fk_tr f_112 f_154 (by decide)
      have bqt_149 : (q_98 ≤ q_151 ∧ q_151 ≤ lim) ∧ 0 ≤ q_151 ∧ 0 ≤ bt_149 ∧ bt_149 ≤ 1 := by omega
      replace ht_149 : ye_hd _ := ht_149
      refine z_r_is (kk := z_isI) (ins := (.istore_n 2)) (len := 1) (t := 160) (i := 2) rfl rfl rfl rfl rfl rfl rfl rfl (fun l l_166 k_167 => ?_)
      have l_168 := k_167 _ _ l_143 (by decide) (Or.inl (by decide))
      have l_169 := k_167 _ _ l_141 (by decide) (Or.inr (by show (1 : Nat) ≠ 2; decide))
      have l_170 := k_167 _ _ l_145 (by decide) (Or.inl (by decide))
      have l_171 := k_167 _ _ l_146 (by decide) (Or.inl (by decide))
      have l_172 := k_167 _ _ l_147 (by decide) (Or.inl (by decide))
      have l_173 := k_167 _ _ l_148 (by decide) (Or.inl (by decide))
      refine z_r_jm (ins := (.goto (-121))) (len := 3) (t := 39) rfl rfl rfl rfl (z_gty rfl) ?_
      have e0 : yq_w0 T lim h = q_5 := by
        unfold yq_w0
        split <;> omega
      have fin := ye_mwF2 hw (by omega) e0 en1 en2 (by omega) (by omega) hn1 ht_51 hn2 ht_96 (by omega) ht_149
      exact kk _ _ _ _ (bt_149) (q_151) (w_72) l_168 l_169 l_166 c_153 f_165 k_155 f_163 c_158 (by simp only [List.length_set]; exact hnl) (ye_ints_set (ye_ints_set (ye_ints_set hni))) o_159 (by omega) (by omega) fin
    · skip
      refine z_r_jm (ins := (.ifCond .eq 9)) (len := 3) (t := 117) rfl rfl rfl rfl (ye_in (t := 123) rfl (by omega) (by omega) b_122) ?_
      refine z_r_ld (kk := z_isI) (ins := (.iload 4)) (len := 2) (t := 119) (i := 4) rfl rfl rfl rfl rfl (fun _ => rfl) l_120 rfl ?_
      refine z_r_pu (ins := .ineg) (len := 1) (t := 120) rfl rfl rfl rfl ye_neg ?_
      refine z_r_jm (ins := (.goto 5)) (len := 3) (t := 125) rfl rfl rfl rfl (z_gty rfl) ?_
      refine ye_r_wr (ins := .iastore) (len := 1) (t := 126) (a := aN) (q := (103, nl.set (3 * i).toNat (ye_v (-v_25)))) rfl rfl rfl rfl rfl c_105 (ye_as (t := 103) (nf := fun x => x) (p := 3 * i) (e := -v_25) (e' := -v_25) c_105 (by omega) (by omega) (by omega) rfl) (fun P_174 c_175 o_176 => ?_)
      have c_177 := ye_kp o_176 (ye_n1 (ye_ne c_104 c_105 (by decide))) c_104
      have c_178 := ye_kp o_176 (ye_n1 (ye_ne c_100 c_105 (by decide))) c_100
      have o_179 := ye_oth_tr o_106 o_176 (ye_s1 (List.mem_cons_of_mem _ (List.mem_cons_self)))
      refine z_r_ld (kk := z_isA) (ins := (.aload_n 0)) (len := 1) (t := 127) (i := 0) rfl rfl rfl rfl rfl (fun _ => rfl) l_116 rfl ?_
      refine z_r_rd (ins := (.getfield 55)) (len := 3) (t := 130) rfl rfl rfl rfl rfl (z_gfv (ci := 10) (k := 25) (v := .ref aN) rfl (z_lkn fM c_178) (by decide) (ye_flg rfl f_111)) ?_
      refine z_r_pu (ins := (.iconst 3)) (len := 1) (t := 131) (st' := [ye_v 3, .ref aN]) rfl rfl rfl rfl rfl ?_
      refine z_r_ld (kk := z_isI) (ins := (.iload_n 1)) (len := 1) (t := 132) (i := 1) rfl rfl rfl rfl rfl (fun _ => rfl) l_117 rfl ?_
      refine z_r_pu (ins := .imul) (len := 1) (t := 133) rfl rfl rfl rfl ye_mul ?_
      refine z_r_pu (ins := (.iconst 1)) (len := 1) (t := 134) (st' := [ye_v 1, ye_v (3 * i), .ref aN]) rfl rfl rfl rfl rfl ?_
      refine z_r_pu (ins := .iadd) (len := 1) (t := 135) rfl rfl rfl rfl ye_add ?_
      refine z_r_ld (kk := z_isI) (ins := (.iload 5)) (len := 2) (t := 137) (i := 5) rfl rfl rfl rfl rfl (fun _ => rfl) l_121 rfl ?_
      refine ye_r_wr (ins := .iastore) (len := 1) (t := 138) (a := aN) (q := (103, (nl.set (3 * i).toNat (ye_v (-v_25))).set (3 * i + 1).toNat (ye_v v_69))) rfl rfl rfl rfl rfl c_175 (ye_as (t := 103) (nf := fun x => x) (p := 3 * i + 1) (e := v_69) (e' := v_69) c_175 (by omega) (by simp only [List.length_set]; omega) (by omega) rfl) (fun P_180 c_181 o_182 => ?_)
      have c_183 := ye_kp o_182 (ye_n1 (ye_ne c_177 c_175 (by decide))) c_177
      have c_184 := ye_kp o_182 (ye_n1 (ye_ne c_178 c_175 (by decide))) c_178
      have o_185 := ye_oth_tr o_179 o_182 (ye_s1 (List.mem_cons_of_mem _ (List.mem_cons_self)))
      refine z_r_ld (kk := z_isA) (ins := (.aload_n 0)) (len := 1) (t := 139) (i := 0) rfl rfl rfl rfl rfl (fun _ => rfl) l_116 rfl ?_
      refine z_r_rd (ins := (.getfield 55)) (len := 3) (t := 142) rfl rfl rfl rfl rfl (z_gfv (ci := 10) (k := 25) (v := .ref aN) rfl (z_lkn fM c_184) (by decide) (ye_flg rfl f_111)) ?_
      refine z_r_pu (ins := (.iconst 3)) (len := 1) (t := 143) (st' := [ye_v 3, .ref aN]) rfl rfl rfl rfl rfl ?_
      refine z_r_ld (kk := z_isI) (ins := (.iload_n 1)) (len := 1) (t := 144) (i := 1) rfl rfl rfl rfl rfl (fun _ => rfl) l_117 rfl ?_
      refine z_r_pu (ins := .imul) (len := 1) (t := 145) rfl rfl rfl rfl ye_mul ?_
      refine z_r_pu (ins := (.iconst 2)) (len := 1) (t := 146) (st' := [ye_v 2, ye_v (3 * i), .ref aN]) rfl rfl rfl rfl rfl ?_
      refine z_r_pu (ins := .iadd) (len := 1) (t := 147) rfl rfl rfl rfl ye_add ?_
      refine z_r_ld (kk := z_isI) (ins := (.iload 6)) (len := 2) (t := 149) (i := 6) rfl rfl rfl rfl rfl (fun _ => rfl) l_114 rfl ?_
      refine ye_r_wr (ins := .iastore) (len := 1) (t := 150) (a := aN) (q := (103, ((nl.set (3 * i).toNat (ye_v (-v_25))).set (3 * i + 1).toNat (ye_v v_69)).set (3 * i + 2).toNat (ye_v 0))) rfl rfl rfl rfl rfl c_181 (ye_as (t := 103) (nf := fun x => x) (p := 3 * i + 2) (e := 0) (e' := 0) c_181 (by omega) (by simp only [List.length_set]; omega) (by omega) rfl) (fun P_186 c_187 o_188 => ?_)
      have c_189 := ye_kp o_188 (ye_n1 (ye_ne c_183 c_181 (by decide))) c_183
      have c_190 := ye_kp o_188 (ye_n1 (ye_ne c_184 c_181 (by decide))) c_184
      have o_191 := ye_oth_tr o_185 o_188 (ye_s1 (List.mem_cons_of_mem _ (List.mem_cons_self)))
      refine ye_ic (ins := (.iinc 1 1)) (len := 3) (t := 153) (i := 1) (a := i) (kk := 1) rfl rfl rfl rfl rfl rfl l_117 (fun l l_192 k_193 => ?_)
      have l_194 := k_193 _ _ l_116 (by decide) (Or.inr (by show (1 : Nat) ≠ 2; decide))
      have l_195 := k_193 _ _ l_118 (by decide) (Or.inl (by decide))
      have l_196 := k_193 _ _ l_119 (by decide) (Or.inl (by decide))
      have l_197 := k_193 _ _ l_120 (by decide) (Or.inl (by decide))
      have l_198 := k_193 _ _ l_121 (by decide) (Or.inl (by decide))
      have l_199 := k_193 _ _ l_114 (by decide) (Or.inl (by decide))
      refine z_r_ld (kk := z_isA) (ins := (.aload_n 0)) (len := 1) (t := 154) (i := 0) rfl rfl rfl rfl rfl (fun _ => rfl) l_194 rfl ?_
      refine z_r_pu (ins := (.bipush 59)) (len := 2) (t := 156) rfl rfl rfl rfl (ye_bi (by decide) (by decide)) ?_
      refine ye_ca (ins := (.invokevirtual 167)) (kd := 1) (t := 159) rfl rfl (by decide) (z_argsv rfl rfl rfl (by omega) (Nat.le_of_ble_eq_true rfl) rfl (Nat.le_of_ble_eq_true rfl) (Nat.le_refl _) (Nat.le_refl _) (Or.inr (Nat.le_of_ble_eq_true rfl)) (Or.inr (z_atv (z_lkn fM c_190) rfl))) rfl rfl rfl (ye_passes (lim := lim) c_190 fM f_107 f_108 f_109 k_102 f_110 c_189 fB hx (by omega) (by omega) (by omega) (by omega)) ?_
      rintro _ P_203 ⟨bt_200, F_201, q_202, rfl, c_204, f_205, k_206, o_207, ht_200⟩
      have c_208 := ye_kp o_207 (ye_n1 (ye_ne c_189 c_190 (by decide))) c_189
      have c_209 := ye_kp o_207 (ye_n1 (ye_ne c_187 c_190 (by decide))) c_187
      have o_210 := ye_oth_tr o_191 o_207 (ye_s1 (List.mem_cons_self))
      have f_211 : F_201 15 = .ref aB := (f_205 15 (by decide)).trans f_107
      have f_212 : F_201 16 = ye_v sz := (f_205 16 (by decide)).trans f_108
      have f_213 : F_201 17 = ye_v tp := (f_205 17 (by decide)).trans f_109
      have f_214 : F_201 19 = ye_v w_72 := (f_205 19 (by decide)).trans f_110
      have f_215 : F_201 25 = .ref aN := (f_205 25 (by decide)).trans f_111
      have f_216 := ye_fk_tr f_112 f_205 (by decide)
      have bqt_200 : (q_98 ≤ q_202 ∧ q_202 ≤ lim) ∧ 0 ≤ q_202 ∧ 0 ≤ bt_200 ∧ bt_200 ≤ 1 := by omega
      replace ht_200 : ye_hd _ := ht_200
      refine z_r_is (kk := z_isI) (ins := (.istore_n 2)) (len := 1) (t := 160) (i := 2) rfl rfl rfl rfl rfl rfl rfl rfl (fun l l_217 k_218 => ?_)
      have l_219 := k_218 _ _ l_194 (by decide) (Or.inl (by decide))
      have l_220 := k_218 _ _ l_192 (by decide) (Or.inr (by show (1 : Nat) ≠ 2; decide))
      have l_221 := k_218 _ _ l_196 (by decide) (Or.inl (by decide))
      have l_222 := k_218 _ _ l_197 (by decide) (Or.inl (by decide))
      have l_223 := k_218 _ _ l_198 (by decide) (Or.inl (by decide))
      have l_224 := k_218 _ _ l_199 (by decide) (Or.inl (by decide))
      refine z_r_jm (ins := (.goto (-121))) (len := 3) (t := 39) rfl rfl rfl rfl (z_gty rfl) ?_
      have e0 : yq_w0 T lim h = q_5 := by
        unfold yq_w0
        split <;> omega
      have fin := ye_mwF2 hw (by omega) e0 en1 en2 (by omega) (by omega) hn1 ht_51 hn2 ht_96 (by omega) ht_200
      exact kk _ _ _ _ (bt_200) (q_202) (w_72) l_219 l_220 l_217 c_204 f_216 k_206 f_214 c_209 (by simp only [List.length_set]; exact hnl) (ye_ints_set (ye_ints_set (ye_ints_set hni))) o_210 (by omega) (by omega) fin
  · skip
    refine z_r_jm (ins := (.ifCond .eq 14)) (len := 3) (t := 92) rfl rfl rfl rfl (ye_in (t := 103) rfl (by omega) (by omega) b_113) ?_
    refine z_r_ld (kk := z_isA) (ins := (.aload_n 0)) (len := 1) (t := 93) (i := 0) rfl rfl rfl rfl rfl (fun _ => rfl) l_91 rfl ?_
    refine z_r_pu (ins := (.iconst 2)) (len := 1) (t := 94) (st' := [ye_v 2, .ref aM]) rfl rfl rfl rfl rfl ?_
    refine z_r_pu (ins := (.iconst 1)) (len := 1) (t := 95) (st' := [ye_v 1, ye_v 2, .ref aM]) rfl rfl rfl rfl rfl ?_
    refine z_r_pu (ins := (.bipush 20)) (len := 2) (t := 97) rfl rfl rfl rfl (ye_bi (by decide) (by decide)) ?_
    refine ye_ca (ins := (.invokevirtual 179)) (kd := 1) (t := 100) rfl rfl (by decide) (z_argsv rfl rfl rfl (by omega) (Nat.le_of_ble_eq_true rfl) rfl (Nat.le_of_ble_eq_true rfl) (Nat.le_refl _) (Nat.le_refl _) (Or.inr (Nat.le_of_ble_eq_true rfl)) (Or.inr (z_atv (z_lkn fM c_100) rfl))) rfl rfl rfl (ye_mnum (lim := lim) (k := 2) c_100 fM f_107 f_108 f_109 k_102 f_110 c_104 fB hx (by omega) (by omega) (by omega) (by omega) (by decide) (by decide) (by omega)) ?_
    rintro _ P_229 ⟨v_225, F_226, q_227, w_228, rfl, c_230, f_231, k_232, k_233, o_234, b_235, b_236, hn3⟩
    have bdn3 := yq_num_bd (T := T) (lim := lim) (p := q_98) (lo := 1) (hi := 20) (k := 2) (by decide) (by omega)
    generalize en3 : yq_num T lim 2 1 20 (q_98) = n3 at bdn3 hn3
    have c_237 := ye_kp o_234 (ye_n1 (ye_ne c_104 c_100 (by decide))) c_104
    have c_238 := ye_kp o_234 (ye_n1 (ye_ne c_105 c_100 (by decide))) c_105
    have o_239 := ye_oth_tr o_106 o_234 (ye_s1 (List.mem_cons_self))
    have f_240 : F_226 15 = .ref aB := (f_231 15 (by decide)).trans f_107
    have f_241 : F_226 16 = ye_v sz := (f_231 16 (by decide)).trans f_108
    have f_242 : F_226 17 = ye_v tp := (f_231 17 (by decide)).trans f_109
    have f_243 : F_226 25 = .ref aN := (f_231 25 (by decide)).trans f_111
    have f_244 := ye_fk_tr f_112 f_231 (by decide)
    have bwn3 : -1 ≤ w_228 ∧ w_228 ≤ 80 := by omega
    replace hn3 : ye_hd _ := hn3
    refine z_r_jm (ins := (.goto 4)) (len := 3) (t := 104) rfl rfl rfl rfl (z_gty rfl) ?_
    refine z_r_is (kk := z_isI) (ins := (.istore 6)) (len := 2) (t := 106) (i := 6) rfl rfl rfl rfl rfl rfl rfl rfl (fun l l_245 k_246 => ?_)
    have l_247 := k_246 _ _ l_91 (by decide) (Or.inl (by decide))
    have l_248 := k_246 _ _ l_92 (by decide) (Or.inl (by decide))
    have l_249 := k_246 _ _ l_93 (by decide) (Or.inl (by decide))
    have l_250 := k_246 _ _ l_94 (by decide) (Or.inl (by decide))
    have l_251 := k_246 _ _ l_95 (by decide) (Or.inl (by decide))
    have l_252 := k_246 _ _ l_89 (by decide) (Or.inr (by show (1 : Nat) ≠ 2; decide))
    refine z_r_ld (kk := z_isA) (ins := (.aload_n 0)) (len := 1) (t := 107) (i := 0) rfl rfl rfl rfl rfl (fun _ => rfl) l_247 rfl ?_
    refine z_r_rd (ins := (.getfield 55)) (len := 3) (t := 110) rfl rfl rfl rfl rfl (z_gfv (ci := 10) (k := 25) (v := .ref aN) rfl (z_lkn fM c_230) (by decide) (ye_flg rfl f_243)) ?_
    refine z_r_pu (ins := (.iconst 3)) (len := 1) (t := 111) (st' := [ye_v 3, .ref aN]) rfl rfl rfl rfl rfl ?_
    refine z_r_ld (kk := z_isI) (ins := (.iload_n 1)) (len := 1) (t := 112) (i := 1) rfl rfl rfl rfl rfl (fun _ => rfl) l_248 rfl ?_
    refine z_r_pu (ins := .imul) (len := 1) (t := 113) rfl rfl rfl rfl ye_mul ?_
    refine z_r_ld (kk := z_isI) (ins := (.iload_n 3)) (len := 1) (t := 114) (i := 3) rfl rfl rfl rfl rfl (fun _ => rfl) l_250 rfl ?_
    by_cases b_253 : bt_3 = 0
    · skip
      refine z_r_jm (ins := (.ifCond .eq 9)) (len := 3) (t := 123) rfl rfl rfl rfl (ye_iy (t := 123) rfl (by omega) (by omega) b_253) ?_
      refine z_r_ld (kk := z_isI) (ins := (.iload 4)) (len := 2) (t := 125) (i := 4) rfl rfl rfl rfl rfl (fun _ => rfl) l_251 rfl ?_
      refine ye_r_wr (ins := .iastore) (len := 1) (t := 126) (a := aN) (q := (103, nl.set (3 * i).toNat (ye_v v_25))) rfl rfl rfl rfl rfl c_238 (ye_as (t := 103) (nf := fun x => x) (p := 3 * i) (e := v_25) (e' := v_25) c_238 (by omega) (by omega) (by omega) rfl) (fun P_254 c_255 o_256 => ?_)
      have c_257 := ye_kp o_256 (ye_n1 (ye_ne c_237 c_238 (by decide))) c_237
      have c_258 := ye_kp o_256 (ye_n1 (ye_ne c_230 c_238 (by decide))) c_230
      have o_259 := ye_oth_tr o_239 o_256 (ye_s1 (List.mem_cons_of_mem _ (List.mem_cons_self)))
      refine z_r_ld (kk := z_isA) (ins := (.aload_n 0)) (len := 1) (t := 127) (i := 0) rfl rfl rfl rfl rfl (fun _ => rfl) l_247 rfl ?_
      refine z_r_rd (ins := (.getfield 55)) (len := 3) (t := 130) rfl rfl rfl rfl rfl (z_gfv (ci := 10) (k := 25) (v := .ref aN) rfl (z_lkn fM c_258) (by decide) (ye_flg rfl f_243)) ?_
      refine z_r_pu (ins := (.iconst 3)) (len := 1) (t := 131) (st' := [ye_v 3, .ref aN]) rfl rfl rfl rfl rfl ?_
      refine z_r_ld (kk := z_isI) (ins := (.iload_n 1)) (len := 1) (t := 132) (i := 1) rfl rfl rfl rfl rfl (fun _ => rfl) l_248 rfl ?_
      refine z_r_pu (ins := .imul) (len := 1) (t := 133) rfl rfl rfl rfl ye_mul ?_
      refine z_r_pu (ins := (.iconst 1)) (len := 1) (t := 134) (st' := [ye_v 1, ye_v (3 * i), .ref aN]) rfl rfl rfl rfl rfl ?_
      refine z_r_pu (ins := .iadd) (len := 1) (t := 135) rfl rfl rfl rfl ye_add ?_
      refine z_r_ld (kk := z_isI) (ins := (.iload 5)) (len := 2) (t := 137) (i := 5) rfl rfl rfl rfl rfl (fun _ => rfl) l_252 rfl ?_
      refine ye_r_wr (ins := .iastore) (len := 1) (t := 138) (a := aN) (q := (103, (nl.set (3 * i).toNat (ye_v v_25)).set (3 * i + 1).toNat (ye_v v_69))) rfl rfl rfl rfl rfl c_255 (ye_as (t := 103) (nf := fun x => x) (p := 3 * i + 1) (e := v_69) (e' := v_69) c_255 (by omega) (by simp only [List.length_set]; omega) (by omega) rfl) (fun P_260 c_261 o_262 => ?_)
      have c_263 := ye_kp o_262 (ye_n1 (ye_ne c_257 c_255 (by decide))) c_257
      have c_264 := ye_kp o_262 (ye_n1 (ye_ne c_258 c_255 (by decide))) c_258
      have o_265 := ye_oth_tr o_259 o_262 (ye_s1 (List.mem_cons_of_mem _ (List.mem_cons_self)))
      refine z_r_ld (kk := z_isA) (ins := (.aload_n 0)) (len := 1) (t := 139) (i := 0) rfl rfl rfl rfl rfl (fun _ => rfl) l_247 rfl ?_
      refine z_r_rd (ins := (.getfield 55)) (len := 3) (t := 142) rfl rfl rfl rfl rfl (z_gfv (ci := 10) (k := 25) (v := .ref aN) rfl (z_lkn fM c_264) (by decide) (ye_flg rfl f_243)) ?_
      refine z_r_pu (ins := (.iconst 3)) (len := 1) (t := 143) (st' := [ye_v 3, .ref aN]) rfl rfl rfl rfl rfl ?_
      refine z_r_ld (kk := z_isI) (ins := (.iload_n 1)) (len := 1) (t := 144) (i := 1) rfl rfl rfl rfl rfl (fun _ => rfl) l_248 rfl ?_
      refine z_r_pu (ins := .imul) (len := 1) (t := 145) rfl rfl rfl rfl ye_mul ?_
      refine z_r_pu (ins := (.iconst 2)) (len := 1) (t := 146) (st' := [ye_v 2, ye_v (3 * i), .ref aN]) rfl rfl rfl rfl rfl ?_
      refine z_r_pu (ins := .iadd) (len := 1) (t := 147) rfl rfl rfl rfl ye_add ?_
      refine z_r_ld (kk := z_isI) (ins := (.iload 6)) (len := 2) (t := 149) (i := 6) rfl rfl rfl rfl rfl (fun _ => rfl) l_245 rfl ?_
      refine ye_r_wr (ins := .iastore) (len := 1) (t := 150) (a := aN) (q := (103, ((nl.set (3 * i).toNat (ye_v v_25)).set (3 * i + 1).toNat (ye_v v_69)).set (3 * i + 2).toNat (ye_v v_225))) rfl rfl rfl rfl rfl c_261 (ye_as (t := 103) (nf := fun x => x) (p := 3 * i + 2) (e := v_225) (e' := v_225) c_261 (by omega) (by simp only [List.length_set]; omega) (by omega) rfl) (fun P_266 c_267 o_268 => ?_)
      have c_269 := ye_kp o_268 (ye_n1 (ye_ne c_263 c_261 (by decide))) c_263
      have c_270 := ye_kp o_268 (ye_n1 (ye_ne c_264 c_261 (by decide))) c_264
      have o_271 := ye_oth_tr o_265 o_268 (ye_s1 (List.mem_cons_of_mem _ (List.mem_cons_self)))
      refine ye_ic (ins := (.iinc 1 1)) (len := 3) (t := 153) (i := 1) (a := i) (kk := 1) rfl rfl rfl rfl rfl rfl l_248 (fun l l_272 k_273 => ?_)
      have l_274 := k_273 _ _ l_247 (by decide) (Or.inr (by show (1 : Nat) ≠ 2; decide))
      have l_275 := k_273 _ _ l_249 (by decide) (Or.inl (by decide))
      have l_276 := k_273 _ _ l_250 (by decide) (Or.inl (by decide))
      have l_277 := k_273 _ _ l_251 (by decide) (Or.inl (by decide))
      have l_278 := k_273 _ _ l_252 (by decide) (Or.inl (by decide))
      have l_279 := k_273 _ _ l_245 (by decide) (Or.inl (by decide))
      refine z_r_ld (kk := z_isA) (ins := (.aload_n 0)) (len := 1) (t := 154) (i := 0) rfl rfl rfl rfl rfl (fun _ => rfl) l_274 rfl ?_
      refine z_r_pu (ins := (.bipush 59)) (len := 2) (t := 156) rfl rfl rfl rfl (ye_bi (by decide) (by decide)) ?_
      refine ye_ca (ins := (.invokevirtual 167)) (kd := 1) (t := 159) rfl rfl (by decide) (z_argsv rfl rfl rfl (by omega) (Nat.le_of_ble_eq_true rfl) rfl (Nat.le_of_ble_eq_true rfl) (Nat.le_refl _) (Nat.le_refl _) (Or.inr (Nat.le_of_ble_eq_true rfl)) (Or.inr (z_atv (z_lkn fM c_270) rfl))) rfl rfl rfl (ye_passes (lim := lim) c_270 fM f_240 f_241 f_242 k_232 k_233 c_269 fB hx (by omega) (by omega) (by omega) (by omega)) ?_
      rintro _ P_283 ⟨bt_280, F_281, q_282, rfl, c_284, f_285, k_286, o_287, ht_280⟩
      have c_288 := ye_kp o_287 (ye_n1 (ye_ne c_269 c_270 (by decide))) c_269
      have c_289 := ye_kp o_287 (ye_n1 (ye_ne c_267 c_270 (by decide))) c_267
      have o_290 := ye_oth_tr o_271 o_287 (ye_s1 (List.mem_cons_self))
      have f_291 : F_281 15 = .ref aB := (f_285 15 (by decide)).trans f_240
      have f_292 : F_281 16 = ye_v sz := (f_285 16 (by decide)).trans f_241
      have f_293 : F_281 17 = ye_v tp := (f_285 17 (by decide)).trans f_242
      have f_294 : F_281 19 = ye_v w_228 := (f_285 19 (by decide)).trans k_233
      have f_295 : F_281 25 = .ref aN := (f_285 25 (by decide)).trans f_243
      have f_296 := ye_fk_tr f_244 f_285 (by decide)
      have bqt_280 : (q_227 ≤ q_282 ∧ q_282 ≤ lim) ∧ 0 ≤ q_282 ∧ 0 ≤ bt_280 ∧ bt_280 ≤ 1 := by omega
      replace ht_280 : ye_hd _ := ht_280
      refine z_r_is (kk := z_isI) (ins := (.istore_n 2)) (len := 1) (t := 160) (i := 2) rfl rfl rfl rfl rfl rfl rfl rfl (fun l l_297 k_298 => ?_)
      have l_299 := k_298 _ _ l_274 (by decide) (Or.inl (by decide))
      have l_300 := k_298 _ _ l_272 (by decide) (Or.inr (by show (1 : Nat) ≠ 2; decide))
      have l_301 := k_298 _ _ l_276 (by decide) (Or.inl (by decide))
      have l_302 := k_298 _ _ l_277 (by decide) (Or.inl (by decide))
      have l_303 := k_298 _ _ l_278 (by decide) (Or.inl (by decide))
      have l_304 := k_298 _ _ l_279 (by decide) (Or.inl (by decide))
      refine z_r_jm (ins := (.goto (-121))) (len := 3) (t := 39) rfl rfl rfl rfl (z_gty rfl) ?_
      have e0 : yq_w0 T lim h = q_5 := by
        unfold yq_w0
        split <;> omega
      have fin := ye_mwF3 hw (by omega) e0 en1 en2 en3 (by omega) (by omega) (by omega) hn1 ht_51 hn2 ht_96 (by omega) hn3 ht_280
      exact kk _ _ _ _ (bt_280) (q_282) (w_228) l_299 l_300 l_297 c_284 f_296 k_286 f_294 c_289 (by simp only [List.length_set]; exact hnl) (ye_ints_set (ye_ints_set (ye_ints_set hni))) o_290 (by omega) (by omega) fin
    · skip
      refine z_r_jm (ins := (.ifCond .eq 9)) (len := 3) (t := 117) rfl rfl rfl rfl (ye_in (t := 123) rfl (by omega) (by omega) b_253) ?_
      refine z_r_ld (kk := z_isI) (ins := (.iload 4)) (len := 2) (t := 119) (i := 4) rfl rfl rfl rfl rfl (fun _ => rfl) l_251 rfl ?_
      refine z_r_pu (ins := .ineg) (len := 1) (t := 120) rfl rfl rfl rfl ye_neg ?_
      refine z_r_jm (ins := (.goto 5)) (len := 3) (t := 125) rfl rfl rfl rfl (z_gty rfl) ?_
      refine ye_r_wr (ins := .iastore) (len := 1) (t := 126) (a := aN) (q := (103, nl.set (3 * i).toNat (ye_v (-v_25)))) rfl rfl rfl rfl rfl c_238 (ye_as (t := 103) (nf := fun x => x) (p := 3 * i) (e := -v_25) (e' := -v_25) c_238 (by omega) (by omega) (by omega) rfl) (fun P_305 c_306 o_307 => ?_)
      have c_308 := ye_kp o_307 (ye_n1 (ye_ne c_237 c_238 (by decide))) c_237
      have c_309 := ye_kp o_307 (ye_n1 (ye_ne c_230 c_238 (by decide))) c_230
      have o_310 := ye_oth_tr o_239 o_307 (ye_s1 (List.mem_cons_of_mem _ (List.mem_cons_self)))
      refine z_r_ld (kk := z_isA) (ins := (.aload_n 0)) (len := 1) (t := 127) (i := 0) rfl rfl rfl rfl rfl (fun _ => rfl) l_247 rfl ?_
      refine z_r_rd (ins := (.getfield 55)) (len := 3) (t := 130) rfl rfl rfl rfl rfl (z_gfv (ci := 10) (k := 25) (v := .ref aN) rfl (z_lkn fM c_309) (by decide) (ye_flg rfl f_243)) ?_
      refine z_r_pu (ins := (.iconst 3)) (len := 1) (t := 131) (st' := [ye_v 3, .ref aN]) rfl rfl rfl rfl rfl ?_
      refine z_r_ld (kk := z_isI) (ins := (.iload_n 1)) (len := 1) (t := 132) (i := 1) rfl rfl rfl rfl rfl (fun _ => rfl) l_248 rfl ?_
      refine z_r_pu (ins := .imul) (len := 1) (t := 133) rfl rfl rfl rfl ye_mul ?_
      refine z_r_pu (ins := (.iconst 1)) (len := 1) (t := 134) (st' := [ye_v 1, ye_v (3 * i), .ref aN]) rfl rfl rfl rfl rfl ?_
      refine z_r_pu (ins := .iadd) (len := 1) (t := 135) rfl rfl rfl rfl ye_add ?_
      refine z_r_ld (kk := z_isI) (ins := (.iload 5)) (len := 2) (t := 137) (i := 5) rfl rfl rfl rfl rfl (fun _ => rfl) l_252 rfl ?_
      refine ye_r_wr (ins := .iastore) (len := 1) (t := 138) (a := aN) (q := (103, (nl.set (3 * i).toNat (ye_v (-v_25))).set (3 * i + 1).toNat (ye_v v_69))) rfl rfl rfl rfl rfl c_306 (ye_as (t := 103) (nf := fun x => x) (p := 3 * i + 1) (e := v_69) (e' := v_69) c_306 (by omega) (by simp only [List.length_set]; omega) (by omega) rfl) (fun P_311 c_312 o_313 => ?_)
      have c_314 := ye_kp o_313 (ye_n1 (ye_ne c_308 c_306 (by decide))) c_308
      have c_315 := ye_kp o_313 (ye_n1 (ye_ne c_309 c_306 (by decide))) c_309
      have o_316 := ye_oth_tr o_310 o_313 (ye_s1 (List.mem_cons_of_mem _ (List.mem_cons_self)))
      refine z_r_ld (kk := z_isA) (ins := (.aload_n 0)) (len := 1) (t := 139) (i := 0) rfl rfl rfl rfl rfl (fun _ => rfl) l_247 rfl ?_
      refine z_r_rd (ins := (.getfield 55)) (len := 3) (t := 142) rfl rfl rfl rfl rfl (z_gfv (ci := 10) (k := 25) (v := .ref aN) rfl (z_lkn fM c_315) (by decide) (ye_flg rfl f_243)) ?_
      refine z_r_pu (ins := (.iconst 3)) (len := 1) (t := 143) (st' := [ye_v 3, .ref aN]) rfl rfl rfl rfl rfl ?_
      refine z_r_ld (kk := z_isI) (ins := (.iload_n 1)) (len := 1) (t := 144) (i := 1) rfl rfl rfl rfl rfl (fun _ => rfl) l_248 rfl ?_
      refine z_r_pu (ins := .imul) (len := 1) (t := 145) rfl rfl rfl rfl ye_mul ?_
      refine z_r_pu (ins := (.iconst 2)) (len := 1) (t := 146) (st' := [ye_v 2, ye_v (3 * i), .ref aN]) rfl rfl rfl rfl rfl ?_
      refine z_r_pu (ins := .iadd) (len := 1) (t := 147) rfl rfl rfl rfl ye_add ?_
      refine z_r_ld (kk := z_isI) (ins := (.iload 6)) (len := 2) (t := 149) (i := 6) rfl rfl rfl rfl rfl (fun _ => rfl) l_245 rfl ?_
      refine ye_r_wr (ins := .iastore) (len := 1) (t := 150) (a := aN) (q := (103, ((nl.set (3 * i).toNat (ye_v (-v_25))).set (3 * i + 1).toNat (ye_v v_69)).set (3 * i + 2).toNat (ye_v v_225))) rfl rfl rfl rfl rfl c_312 (ye_as (t := 103) (nf := fun x => x) (p := 3 * i + 2) (e := v_225) (e' := v_225) c_312 (by omega) (by simp only [List.length_set]; omega) (by omega) rfl) (fun P_317 c_318 o_319 => ?_)
      have c_320 := ye_kp o_319 (ye_n1 (ye_ne c_314 c_312 (by decide))) c_314
      have c_321 := ye_kp o_319 (ye_n1 (ye_ne c_315 c_312 (by decide))) c_315
      have o_322 := ye_oth_tr o_316 o_319 (ye_s1 (List.mem_cons_of_mem _ (List.mem_cons_self)))
      refine ye_ic (ins := (.iinc 1 1)) (len := 3) (t := 153) (i := 1) (a := i) (kk := 1) rfl rfl rfl rfl rfl rfl l_248 (fun l l_323 k_324 => ?_)
      have l_325 := k_324 _ _ l_247 (by decide) (Or.inr (by show (1 : Nat) ≠ 2; decide))
      have l_326 := k_324 _ _ l_249 (by decide) (Or.inl (by decide))
      have l_327 := k_324 _ _ l_250 (by decide) (Or.inl (by decide))
      have l_328 := k_324 _ _ l_251 (by decide) (Or.inl (by decide))
      have l_329 := k_324 _ _ l_252 (by decide) (Or.inl (by decide))
      have l_330 := k_324 _ _ l_245 (by decide) (Or.inl (by decide))
      refine z_r_ld (kk := z_isA) (ins := (.aload_n 0)) (len := 1) (t := 154) (i := 0) rfl rfl rfl rfl rfl (fun _ => rfl) l_325 rfl ?_
      refine z_r_pu (ins := (.bipush 59)) (len := 2) (t := 156) rfl rfl rfl rfl (ye_bi (by decide) (by decide)) ?_
      refine ye_ca (ins := (.invokevirtual 167)) (kd := 1) (t := 159) rfl rfl (by decide) (z_argsv rfl rfl rfl (by omega) (Nat.le_of_ble_eq_true rfl) rfl (Nat.le_of_ble_eq_true rfl) (Nat.le_refl _) (Nat.le_refl _) (Or.inr (Nat.le_of_ble_eq_true rfl)) (Or.inr (z_atv (z_lkn fM c_321) rfl))) rfl rfl rfl (ye_passes (lim := lim) c_321 fM f_240 f_241 f_242 k_232 k_233 c_320 fB hx (by omega) (by omega) (by omega) (by omega)) ?_
      rintro _ P_334 ⟨bt_331, F_332, q_333, rfl, c_335, f_336, k_337, o_338, ht_331⟩
      have c_339 := ye_kp o_338 (ye_n1 (ye_ne c_320 c_321 (by decide))) c_320
      have c_340 := ye_kp o_338 (ye_n1 (ye_ne c_318 c_321 (by decide))) c_318
      have o_341 := ye_oth_tr o_322 o_338 (ye_s1 (List.mem_cons_self))
      have f_342 : F_332 15 = .ref aB := (f_336 15 (by decide)).trans f_240
      have f_343 : F_332 16 = ye_v sz := (f_336 16 (by decide)).trans f_241
      have f_344 : F_332 17 = ye_v tp := (f_336 17 (by decide)).trans f_242
      have f_345 : F_332 19 = ye_v w_228 := (f_336 19 (by decide)).trans k_233
      have f_346 : F_332 25 = .ref aN := (f_336 25 (by decide)).trans f_243
      have f_347 := ye_fk_tr f_244 f_336 (by decide)
      have bqt_331 : (q_227 ≤ q_333 ∧ q_333 ≤ lim) ∧ 0 ≤ q_333 ∧ 0 ≤ bt_331 ∧ bt_331 ≤ 1 := by omega
      replace ht_331 : ye_hd _ := ht_331
      refine z_r_is (kk := z_isI) (ins := (.istore_n 2)) (len := 1) (t := 160) (i := 2) rfl rfl rfl rfl rfl rfl rfl rfl (fun l l_348 k_349 => ?_)
      have l_350 := k_349 _ _ l_325 (by decide) (Or.inl (by decide))
      have l_351 := k_349 _ _ l_323 (by decide) (Or.inr (by show (1 : Nat) ≠ 2; decide))
      have l_352 := k_349 _ _ l_327 (by decide) (Or.inl (by decide))
      have l_353 := k_349 _ _ l_328 (by decide) (Or.inl (by decide))
      have l_354 := k_349 _ _ l_329 (by decide) (Or.inl (by decide))
      have l_355 := k_349 _ _ l_330 (by decide) (Or.inl (by decide))
      refine z_r_jm (ins := (.goto (-121))) (len := 3) (t := 39) rfl rfl rfl rfl (z_gty rfl) ?_
      have e0 : yq_w0 T lim h = q_5 := by
        unfold yq_w0
        split <;> omega
      have fin := ye_mwF3 hw (by omega) e0 en1 en2 en3 (by omega) (by omega) (by omega) hn1 ht_51 hn2 ht_96 (by omega) hn3 ht_331
      exact kk _ _ _ _ (bt_331) (q_333) (w_228) l_350 l_351 l_348 c_335 f_347 k_337 f_345 c_340 (by simp only [List.length_set]; exact hnl) (ye_ints_set (ye_ints_set (ye_ints_set hni))) o_341 (by omega) (by omega) fin
end YMWL
