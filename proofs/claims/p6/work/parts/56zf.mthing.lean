/-! A thing of an EXPRESSION, the reference, exactly. -/
section YGMT
theorem yl_c3 {T : Int → Int} {lim r : Int} : (r < lim ∧ (T r = 60 ∨ T r = 62 ∨ T r = 61) ∧ 0 ≤ yl T lim [60, 62, 61] r) ∨ ((lim ≤ r ∨ (T r ≠ 60 ∧ T r ≠ 62 ∧ T r ≠ 61)) ∧ yl T lim [60, 62, 61] r = -1) := by
  by_cases hp : r < lim
  · have e : yl T lim [60, 62, 61] r = (if 60 = T r then 0 else if 62 = T r then 0 + 1 else if 61 = T r then 0 + 1 + 1 else -1) := if_pos hp
    by_cases c0 : 60 = T r
    · rw [if_pos c0] at e
      exact Or.inl ⟨hp, by omega, by omega⟩
    rw [if_neg c0] at e
    by_cases c1 : 62 = T r
    · rw [if_pos c1] at e
      exact Or.inl ⟨hp, by omega, by omega⟩
    rw [if_neg c1] at e
    by_cases c2 : 61 = T r
    · rw [if_pos c2] at e
      exact Or.inl ⟨hp, by omega, by omega⟩
    rw [if_neg c2] at e
    exact Or.inr ⟨Or.inr (by omega), e⟩
  · exact Or.inr ⟨Or.inl (by omega), if_neg hp⟩
theorem yl_c2 {T : Int → Int} {lim r : Int} : (r < lim ∧ (T r = 43 ∨ T r = 45) ∧ 0 ≤ yl T lim [43, 45] r) ∨ ((lim ≤ r ∨ (T r ≠ 43 ∧ T r ≠ 45)) ∧ yl T lim [43, 45] r = -1) := by
  by_cases hp : r < lim
  · have e : yl T lim [43, 45] r = (if 43 = T r then 0 else if 45 = T r then 0 + 1 else -1) := if_pos hp
    by_cases c0 : 43 = T r
    · rw [if_pos c0] at e
      exact Or.inl ⟨hp, by omega, by omega⟩
    rw [if_neg c0] at e
    by_cases c1 : 45 = T r
    · rw [if_pos c1] at e
      exact Or.inl ⟨hp, by omega, by omega⟩
    rw [if_neg c1] at e
    exact Or.inr ⟨Or.inr (by omega), e⟩
  · exact Or.inr ⟨Or.inl (by omega), if_neg hp⟩
theorem yl_p2 {T : Int → Int} {lim r : Int} : (r < lim ∧ (T r = 42 ∨ T r = 47) ∧ 0 ≤ yl T lim [42, 47] r) ∨ ((lim ≤ r ∨ (T r ≠ 42 ∧ T r ≠ 47)) ∧ yl T lim [42, 47] r = -1) := by
  by_cases hp : r < lim
  · have e : yl T lim [42, 47] r = (if 42 = T r then 0 else if 47 = T r then 0 + 1 else -1) := if_pos hp
    by_cases c0 : 42 = T r
    · rw [if_pos c0] at e
      exact Or.inl ⟨hp, by omega, by omega⟩
    rw [if_neg c0] at e
    by_cases c1 : 47 = T r
    · rw [if_pos c1] at e
      exact Or.inl ⟨hp, by omega, by omega⟩
    rw [if_neg c1] at e
    exact Or.inr ⟨Or.inr (by omega), e⟩
  · exact Or.inr ⟨Or.inl (by omega), if_neg hp⟩
theorem yl_l5 {T : Int → Int} {lim r : Int} : (r < lim ∧ (T r = 119 ∨ T r = 122 ∨ T r = 100 ∨ T r = 105 ∨ T r = 107) ∧ 0 ≤ yl T lim [119, 122, 100, 105, 107] r) ∨ ((lim ≤ r ∨ (T r ≠ 119 ∧ T r ≠ 122 ∧ T r ≠ 100 ∧ T r ≠ 105 ∧ T r ≠ 107)) ∧ yl T lim [119, 122, 100, 105, 107] r = -1) := by
  by_cases hp : r < lim
  · have e : yl T lim [119, 122, 100, 105, 107] r = (if 119 = T r then 0 else if 122 = T r then 0 + 1 else if 100 = T r then 0 + 1 + 1 else if 105 = T r then 0 + 1 + 1 + 1 else if 107 = T r then 0 + 1 + 1 + 1 + 1 else -1) := if_pos hp
    by_cases c0 : 119 = T r
    · rw [if_pos c0] at e
      exact Or.inl ⟨hp, by omega, by omega⟩
    rw [if_neg c0] at e
    by_cases c1 : 122 = T r
    · rw [if_pos c1] at e
      exact Or.inl ⟨hp, by omega, by omega⟩
    rw [if_neg c1] at e
    by_cases c2 : 100 = T r
    · rw [if_pos c2] at e
      exact Or.inl ⟨hp, by omega, by omega⟩
    rw [if_neg c2] at e
    by_cases c3 : 105 = T r
    · rw [if_pos c3] at e
      exact Or.inl ⟨hp, by omega, by omega⟩
    rw [if_neg c3] at e
    by_cases c4 : 107 = T r
    · rw [if_pos c4] at e
      exact Or.inl ⟨hp, by omega, by omega⟩
    rw [if_neg c4] at e
    exact Or.inr ⟨Or.inr (by omega), e⟩
  · exact Or.inr ⟨Or.inl (by omega), if_neg hp⟩
theorem yl_l8 {T : Int → Int} {lim r : Int} : (r < lim ∧ (T r = 109 ∨ T r = 99 ∨ T r = 104 ∨ T r = 119 ∨ T r = 115 ∨ T r = 110 ∨ T r = 107 ∨ T r = 112) ∧ 0 ≤ yl T lim [109, 99, 104, 119, 115, 110, 107, 112] r) ∨ ((lim ≤ r ∨ (T r ≠ 109 ∧ T r ≠ 99 ∧ T r ≠ 104 ∧ T r ≠ 119 ∧ T r ≠ 115 ∧ T r ≠ 110 ∧ T r ≠ 107 ∧ T r ≠ 112)) ∧ yl T lim [109, 99, 104, 119, 115, 110, 107, 112] r = -1) := by
  by_cases hp : r < lim
  · have e : yl T lim [109, 99, 104, 119, 115, 110, 107, 112] r = (if 109 = T r then 0 else if 99 = T r then 0 + 1 else if 104 = T r then 0 + 1 + 1 else if 119 = T r then 0 + 1 + 1 + 1 else if 115 = T r then 0 + 1 + 1 + 1 + 1 else if 110 = T r then 0 + 1 + 1 + 1 + 1 + 1 else if 107 = T r then 0 + 1 + 1 + 1 + 1 + 1 + 1 else if 112 = T r then 0 + 1 + 1 + 1 + 1 + 1 + 1 + 1 else -1) := if_pos hp
    by_cases c0 : 109 = T r
    · rw [if_pos c0] at e
      exact Or.inl ⟨hp, by omega, by omega⟩
    rw [if_neg c0] at e
    by_cases c1 : 99 = T r
    · rw [if_pos c1] at e
      exact Or.inl ⟨hp, by omega, by omega⟩
    rw [if_neg c1] at e
    by_cases c2 : 104 = T r
    · rw [if_pos c2] at e
      exact Or.inl ⟨hp, by omega, by omega⟩
    rw [if_neg c2] at e
    by_cases c3 : 119 = T r
    · rw [if_pos c3] at e
      exact Or.inl ⟨hp, by omega, by omega⟩
    rw [if_neg c3] at e
    by_cases c4 : 115 = T r
    · rw [if_pos c4] at e
      exact Or.inl ⟨hp, by omega, by omega⟩
    rw [if_neg c4] at e
    by_cases c5 : 110 = T r
    · rw [if_pos c5] at e
      exact Or.inl ⟨hp, by omega, by omega⟩
    rw [if_neg c5] at e
    by_cases c6 : 107 = T r
    · rw [if_pos c6] at e
      exact Or.inl ⟨hp, by omega, by omega⟩
    rw [if_neg c6] at e
    by_cases c7 : 112 = T r
    · rw [if_pos c7] at e
      exact Or.inl ⟨hp, by omega, by omega⟩
    rw [if_neg c7] at e
    exact Or.inr ⟨Or.inr (by omega), e⟩
  · exact Or.inr ⟨Or.inl (by omega), if_neg hp⟩
/-- a method of the reference that reads a piece of an EXPRESSION -/
def yg_M (xs : List Int32) (aM aB : Nat) (T : Int → Int) (lim sz tp il : Int) (L : List Int) (bs : List Value) (y m k : Nat) : Prop := ∀ (d : Nat) (P : z_H) (F : Nat → Value) (h dp : Int), P[aM]? = some (10, ye_fl F) → F 15 = .ref aB → F 16 = ye_v sz → F 17 = ye_v tp → F 18 = ye_v h → F 19 = ye_v (-1) → F 29 = ye_v il → F 31 = ye_v (-1) → F 32 = ye_v (-1) → P[aB]? = some (101, bs) → 0 ≤ h ∧ h ≤ lim → 0 ≤ dp ∧ dp ≤ 4 → 4 * (lim - h) + (4 - (m : Int)) ≤ (k : Int) → 2 * k + 12 ≤ d → ye_X xs d y [.ref aM, ye_v dp] P (fun r P' => ∃ (v : Int32) (F' : Nat → Value) (h' w' : Int), r = some (.int v) ∧ P'[aM]? = some (10, ye_fl F') ∧ ye_fk [18, 19] F F' ∧ F' 18 = ye_v h' ∧ F' 19 = ye_v w' ∧ ye_oth [aM] P P' ∧ h ≤ h' ∧ h' ≤ lim ∧ ((w' = -1 ∧ (yf T lim L k m dp h).1 = true ∧ h' = (yf T lim L k m dp h).2) ∨ ((yf T lim L k m dp h).1 = false ∧ w' = (yf T lim L k m dp h).2)))
variable {xs : List Int32} {d aM aB k K : Nat} {P : z_H} {F : Nat → Value} {bs : List Value} {T : Int → Int} {L : List Int} {sz tp h w lim il dp q : Int} {v : Int32} {l : z_L} {Ψ : z_S → Prop}
theorem yg_t2 {P0 : z_H} {F0 : Nat → Value} {kn : Int} (hM : P[aM]? = some (10, ye_fl F)) (fM : aM < z_far) (k18 : F 18 = ye_v h) (k19 : F 19 = ye_v (-1)) (k29 : F 29 = ye_v il) (k31 : F 31 = ye_v (-1)) (k32 : F 32 = ye_v (-1)) (hP0 : ye_oth [aM] P0 P) (hF0 : ye_fk [18, 19] F0 F) (hh : 0 ≤ h ∧ h ≤ lim ∧ lim ≤ 40) (h0 : z_get l 0 = some (.ref aM)) (h3 : z_get l 3 = some (ye_v kn)) (hil : 0 ≤ il ∧ il ≤ 1) (hd : 2 ≤ d) (hno : ¬ (h < lim ∧ T h = 45) ∧ ¬ ((h < lim ∧ T h = 40) ∧ dp < 4) ∧ ¬ (h < lim ∧ 48 ≤ T h ∧ T h ≤ 57)) (hkn : (kn = 1 ∧ h < lim ∧ 0 ≤ yl T lim L h) ∨ (kn = 0 ∧ yl T lim L h = -1)) : z_Rh (z_G xs) d 206 (ye_E xs d 206 (fun r P' => ∃ (v : Int32) (F' : Nat → Value) (h' w' : Int), r = some (.int v) ∧ P'[aM]? = some (10, ye_fl F') ∧ ye_fk [18, 19] F0 F' ∧ F' 18 = ye_v h' ∧ F' 19 = ye_v w' ∧ ye_oth [aM] P0 P' ∧ h ≤ h' ∧ h' ≤ lim ∧ ((w' = -1 ∧ (yf T lim L (k + 1) 3 dp h).1 = true ∧ h' = (yf T lim L (k + 1) 3 dp h).2) ∨ ((yf T lim L (k + 1) 3 dp h).1 = false ∧ w' = (yf T lim L (k + 1) 3 dp h).2)))) (187, l, [], P, 0, 0) := by
  have ho0 : ye_oth [aM] P P := ye_oth_rf
  have hf0 : ye_fk [18, 19] F F := ye_fk_rf
  refine z_r_ld (kk := z_isI) (ins := (.iload_n 3)) (len := 1) (t := 188) (i := 3) rfl rfl rfl rfl rfl (fun _ => rfl) h3 rfl ?_
  by_cases b_1 : kn ≠ 0
  · skip
    refine z_r_jm (ins := (.ifCond .ne 13)) (len := 3) (t := 201) rfl rfl rfl rfl (ye_iy (t := 201) rfl (by omega) (by omega) b_1) ?_
    refine z_r_ld (kk := z_isA) (ins := (.aload_n 0)) (len := 1) (t := 202) (i := 0) rfl rfl rfl rfl rfl (fun _ => rfl) h0 rfl ?_
    refine z_r_pu (ins := .dup) (len := 1) (t := 203) rfl rfl rfl rfl rfl ?_
    refine z_r_rd (ins := (.getfield 153)) (len := 3) (t := 206) rfl rfl rfl rfl rfl (z_gfv (ci := 10) (k := 18) (v := ye_v h) rfl (z_lkn fM hM) (by decide) (ye_flg rfl k18)) ?_
    refine z_r_pu (ins := (.iconst 1)) (len := 1) (t := 207) (st' := [ye_v 1, ye_v h, .ref aM]) rfl rfl rfl rfl rfl ?_
    refine z_r_pu (ins := .iadd) (len := 1) (t := 208) rfl rfl rfl rfl ye_add ?_
    refine ye_r_wr (ins := (.putfield 153)) (len := 3) (t := 211) (a := aM) (q := (10, ye_fl (ye_up F 18 (ye_v (h + 1))))) rfl rfl rfl rfl rfl hM (ye_pfm (k := 18) rfl hM rfl rfl rfl rfl) (fun P_2 c_3 o_4 => ?_)
    have o_5 := ye_oth_tr ho0 o_4 (ye_s1 (List.mem_cons_self))
    have f_6 := ye_fk_up (j := 18) (v := ye_v (h + 1)) hf0 (List.mem_cons_self)
    refine z_r_ld (kk := z_isA) (ins := (.aload_n 0)) (len := 1) (t := 212) (i := 0) rfl rfl rfl rfl rfl (fun _ => rfl) h0 rfl ?_
    refine z_r_rd (ins := (.getfield 217)) (len := 3) (t := 215) rfl rfl rfl rfl rfl (z_gfv (ci := 10) (k := 29) (v := ye_v il) rfl (z_lkn fM c_3) (by decide) (ye_flg rfl k29)) ?_
    by_cases b_7 : il = 0
    · skip
      refine z_r_jm (ins := (.ifCond .eq 22)) (len := 3) (t := 237) rfl rfl rfl rfl (ye_iy (t := 237) rfl (by omega) (by omega) b_7) ?_
      refine z_r_ld (kk := z_isA) (ins := (.aload_n 0)) (len := 1) (t := 238) (i := 0) rfl rfl rfl rfl rfl (fun _ => rfl) h0 rfl ?_
      refine z_r_rd (ins := (.getfield 66)) (len := 3) (t := 241) rfl rfl rfl rfl rfl (z_gfv (ci := 10) (k := 31) (v := ye_v ((-1))) rfl (z_lkn fM c_3) (by decide) (ye_flg rfl k31)) ?_
      refine z_r_pu (ins := (.iconst (-1))) (len := 1) (t := 242) (st' := [ye_v ((-1)), ye_v ((-1))]) rfl rfl rfl rfl rfl ?_
      refine z_r_jm (ins := (.if_icmp .ne 7)) (len := 3) (t := 245) rfl rfl rfl rfl (ye_jn (t := 249) rfl (by omega) (by omega) (by omega) (by omega) (by show ¬ (((-1) : Int) ≠ (-1)); decide)) ?_
      refine z_r_pu (ins := (.iconst 0)) (len := 1) (t := 246) (st' := [ye_v 0]) rfl rfl rfl rfl rfl ?_
      refine z_r_jm (ins := (.goto 9)) (len := 3) (t := 255) rfl rfl rfl rfl (z_gty rfl) ?_
      refine ye_ret (ins := .ireturn) rfl rfl rfl (ye_reti rfl) ?_
      have eL : yf T lim L (k + 1) 3 dp h = (true, h + 1) := by
        rw [yf_3, if_neg (by omega)]
        unfold yg_b
        rw [if_neg (by omega), if_pos (by omega)]
      rw [eL]
      exact ⟨Int32.ofInt 0, _, h + 1, (-1), rfl, c_3, ye_fk_tr hF0 f_6 (fun _ q => q), rfl, k19, ye_oth_tr hP0 o_5 (fun _ q => q), by omega, by omega, Or.inl ⟨by omega, rfl, by show h + 1 = h + 1; omega⟩⟩
    · skip
      refine z_r_jm (ins := (.ifCond .eq 22)) (len := 3) (t := 218) rfl rfl rfl rfl (ye_in (t := 237) rfl (by omega) (by omega) b_7) ?_
      refine z_r_ld (kk := z_isA) (ins := (.aload_n 0)) (len := 1) (t := 219) (i := 0) rfl rfl rfl rfl rfl (fun _ => rfl) h0 rfl ?_
      refine z_r_rd (ins := (.getfield 69)) (len := 3) (t := 222) rfl rfl rfl rfl rfl (z_gfv (ci := 10) (k := 32) (v := ye_v ((-1))) rfl (z_lkn fM c_3) (by decide) (ye_flg rfl k32)) ?_
      refine z_r_pu (ins := (.iconst (-1))) (len := 1) (t := 223) (st' := [ye_v ((-1)), ye_v ((-1))]) rfl rfl rfl rfl rfl ?_
      refine z_r_jm (ins := (.if_icmp .ne 7)) (len := 3) (t := 226) rfl rfl rfl rfl (ye_jn (t := 230) rfl (by omega) (by omega) (by omega) (by omega) (by show ¬ (((-1) : Int) ≠ (-1)); decide)) ?_
      refine z_r_pu (ins := (.iconst 0)) (len := 1) (t := 227) (st' := [ye_v 0]) rfl rfl rfl rfl rfl ?_
      refine z_r_jm (ins := (.goto 9)) (len := 3) (t := 236) rfl rfl rfl rfl (z_gty rfl) ?_
      refine ye_ret (ins := .ireturn) rfl rfl rfl (ye_reti rfl) ?_
      have eL : yf T lim L (k + 1) 3 dp h = (true, h + 1) := by
        rw [yf_3, if_neg (by omega)]
        unfold yg_b
        rw [if_neg (by omega), if_pos (by omega)]
      rw [eL]
      exact ⟨Int32.ofInt 0, _, h + 1, (-1), rfl, c_3, ye_fk_tr hF0 f_6 (fun _ q => q), rfl, k19, ye_oth_tr hP0 o_5 (fun _ q => q), by omega, by omega, Or.inl ⟨by omega, rfl, by show h + 1 = h + 1; omega⟩⟩
  · skip
    refine z_r_jm (ins := (.ifCond .ne 13)) (len := 3) (t := 191) rfl rfl rfl rfl (ye_in (t := 201) rfl (by omega) (by omega) b_1) ?_
    refine z_r_ld (kk := z_isA) (ins := (.aload_n 0)) (len := 1) (t := 192) (i := 0) rfl rfl rfl rfl rfl (fun _ => rfl) h0 rfl ?_
    refine z_r_ld (kk := z_isA) (ins := (.aload_n 0)) (len := 1) (t := 193) (i := 0) rfl rfl rfl rfl rfl (fun _ => rfl) h0 rfl ?_
    refine z_r_rd (ins := (.getfield 153)) (len := 3) (t := 196) rfl rfl rfl rfl rfl (z_gfv (ci := 10) (k := 18) (v := ye_v h) rfl (z_lkn fM hM) (by decide) (ye_flg rfl k18)) ?_
    refine ye_cav (ins := (.invokevirtual 171)) (kd := 1) (t := 199) rfl rfl (by decide) (z_argsv rfl rfl rfl (by omega) (Nat.le_of_ble_eq_true rfl) rfl (Nat.le_of_ble_eq_true rfl) (Nat.le_refl _) (Nat.le_refl _) (Or.inr (Nat.le_of_ble_eq_true rfl)) (Or.inr (z_atv (z_lkn fM hM) rfl))) rfl rfl rfl rfl (ye_flt hM fM k19 (by omega) (by omega)) ?_
    rintro _ P_10 ⟨F_8, w_9, c_11, f_12, k_13, o_14, h_15⟩
    have o_16 := ye_oth_tr ho0 o_14 (ye_s1 (List.mem_cons_self))
    have f_17 : F_8 18 = ye_v h := (f_12 18 (by decide)).trans k18
    have f_18 : F_8 29 = ye_v il := (f_12 29 (by decide)).trans k29
    have f_19 : F_8 31 = ye_v ((-1)) := (f_12 31 (by decide)).trans k31
    have f_20 : F_8 32 = ye_v ((-1)) := (f_12 32 (by decide)).trans k32
    have f_21 := ye_fk_tr hf0 f_12 (by decide)
    refine z_r_pu (ins := (.iconst 0)) (len := 1) (t := 200) (st' := [ye_v 0]) rfl rfl rfl rfl rfl ?_
    refine ye_ret (ins := .ireturn) rfl rfl rfl (ye_reti rfl) ?_
    have eN : yq_num T lim 3 0 999 h = (false, h, 0) := yq_num_nd (by omega)
    have eL : yf T lim L (k + 1) 3 dp h = (false, h) := by
      rw [yf_3, if_neg (by omega)]
      unfold yg_b
      rw [if_neg (by omega), if_neg (by omega), eN]
    rw [eL]
    exact ⟨Int32.ofInt 0, _, h, w_9, rfl, c_11, ye_fk_tr hF0 f_21 (fun _ q => q), f_17, k_13, ye_oth_tr hP0 o_16 (fun _ q => q), by omega, by omega, Or.inr ⟨rfl, by show w_9 = h; omega⟩⟩
set_option maxHeartbeats 8000000 in
theorem yg_mthing (fM : aM < z_far) (fB : aB < z_far) (hx : ye_tx T sz (-128) 127 bs) (hl : (lim = sz ∧ sz ≤ tp) ∨ (lim = tp ∧ tp < sz)) (hbl : 0 ≤ sz ∧ sz ≤ 80 ∧ 0 ≤ tp ∧ tp ≤ 40) (hil : (il = 1 ∧ L = [119, 122, 100, 105, 107]) ∨ (il = 0 ∧ L = [109, 99, 104, 119, 115, 110, 107, 112])) (HH : ∀ j, j < K → yg_M xs aM aB T lim sz tp il L bs 203 0 j ∧ yg_M xs aM aB T lim sz tp il L bs 206 3 j) : yg_M xs aM aB T lim sz tp il L bs 206 3 K := by
  intro d P F h dp hM k15 k16 k17 k18 k19 k29 k31 k32 hB hh hdp hk hd
  obtain ⟨k, rfl⟩ : ∃ k, K = k + 1 := ⟨K - 1, by omega⟩
  obtain ⟨H0, H3⟩ := HH k (by omega)
  have yLf : (il = 1 ∧ ((h < lim ∧ (T h = 119 ∨ T h = 122 ∨ T h = 100 ∨ T h = 105 ∨ T h = 107) ∧ 0 ≤ yl T lim L h) ∨ ((lim ≤ h ∨ (T h ≠ 119 ∧ T h ≠ 122 ∧ T h ≠ 100 ∧ T h ≠ 105 ∧ T h ≠ 107)) ∧ yl T lim L h = -1))) ∨ (il = 0 ∧ ((h < lim ∧ (T h = 109 ∨ T h = 99 ∨ T h = 104 ∨ T h = 119 ∨ T h = 115 ∨ T h = 110 ∨ T h = 107 ∨ T h = 112) ∧ 0 ≤ yl T lim L h) ∨ ((lim ≤ h ∨ (T h ≠ 109 ∧ T h ≠ 99 ∧ T h ≠ 104 ∧ T h ≠ 119 ∧ T h ≠ 115 ∧ T h ≠ 110 ∧ T h ≠ 107 ∧ T h ≠ 112)) ∧ yl T lim L h = -1))) := by
    rcases hil with ⟨i1, i2⟩ | ⟨i1, i2⟩
    · rw [i2]
      exact Or.inl ⟨i1, yl_l5⟩
    · rw [i2]
      exact Or.inr ⟨i1, yl_l8⟩
  refine ye_go ?_
  have a0 : z_get (lv_args 0 [.ref aM, ye_v dp]) 0 = some (.ref aM) := rfl
  have a1 : z_get (lv_args 0 [.ref aM, ye_v dp]) 1 = some (ye_v dp) := rfl
  have ho0 : ye_oth [aM] P P := ye_oth_rf
  have hf0 : ye_fk [18, 19] F F := ye_fk_rf
  refine z_r_ld (kk := z_isA) (ins := (.aload_n 0)) (len := 1) (t := 1) (i := 0) rfl rfl rfl rfl rfl (fun _ => rfl) a0 rfl ?_
  refine z_r_pu (ins := (.bipush 45)) (len := 2) (t := 3) rfl rfl rfl rfl (ye_bi (by decide) (by decide)) ?_
  refine ye_ca (ins := (.invokevirtual 167)) (kd := 1) (t := 6) rfl rfl (by decide) (z_argsv rfl rfl rfl (by omega) (Nat.le_of_ble_eq_true rfl) rfl (Nat.le_of_ble_eq_true rfl) (Nat.le_refl _) (Nat.le_refl _) (Or.inr (Nat.le_of_ble_eq_true rfl)) (Or.inr (z_atv (z_lkn fM hM) rfl))) rfl rfl rfl (ye_passes (lim := lim) hM fM k15 k16 k17 k18 k19 hB fB hx (by omega) (by omega) (by omega) (by omega)) ?_
  rintro _ P_4 ⟨bt_1, F_2, q_3, rfl, c_5, f_6, k_7, o_8, ht_1⟩
  have c_9 := ye_kp o_8 (ye_n1 (ye_ne hB hM (by decide))) hB
  have o_10 := ye_oth_tr ho0 o_8 (ye_s1 (List.mem_cons_self))
  have f_11 : F_2 15 = .ref aB := (f_6 15 (by decide)).trans k15
  have f_12 : F_2 16 = ye_v sz := (f_6 16 (by decide)).trans k16
  have f_13 : F_2 17 = ye_v tp := (f_6 17 (by decide)).trans k17
  have f_14 : F_2 19 = ye_v ((-1)) := (f_6 19 (by decide)).trans k19
  have f_15 : F_2 29 = ye_v il := (f_6 29 (by decide)).trans k29
  have f_16 : F_2 31 = ye_v ((-1)) := (f_6 31 (by decide)).trans k31
  have f_17 : F_2 32 = ye_v ((-1)) := (f_6 32 (by decide)).trans k32
  have f_18 := ye_fk_tr hf0 f_6 (by decide)
  by_cases b_19 : bt_1 = 0
  · skip
    refine z_r_jm (ins := (.ifCond .eq 10)) (len := 3) (t := 16) rfl rfl rfl rfl (ye_iy (t := 16) rfl (by omega) (by omega) b_19) ?_
    refine z_r_ld (kk := z_isA) (ins := (.aload_n 0)) (len := 1) (t := 17) (i := 0) rfl rfl rfl rfl rfl (fun _ => rfl) a0 rfl ?_
    refine ye_ca (ins := (.invokevirtual 159)) (kd := 1) (t := 20) rfl rfl (by decide) (z_argsv rfl rfl rfl (by omega) (Nat.le_of_ble_eq_true rfl) rfl (Nat.le_of_ble_eq_true rfl) (Nat.le_refl _) (Nat.le_refl _) (Or.inr (Nat.le_of_ble_eq_true rfl)) (Or.inr (z_atv (z_lkn fM c_5) rfl))) rfl rfl rfl (ye_fine c_5 fM f_14 (by omega)) ?_
    rintro _ _ ⟨rfl, b_20, rfl, h_21⟩
    refine z_r_jm (ins := (.ifCond .ne 5)) (len := 3) (t := 25) rfl rfl rfl rfl (ye_iy (t := 25) rfl (by omega) (by omega) (by show b_20 ≠ 0; omega)) ?_
    refine z_r_ld (kk := z_isA) (ins := (.aload_n 0)) (len := 1) (t := 26) (i := 0) rfl rfl rfl rfl rfl (fun _ => rfl) a0 rfl ?_
    refine ye_ca (ins := (.invokevirtual 163)) (kd := 1) (t := 29) rfl rfl (by decide) (z_argsv rfl rfl rfl (by omega) (Nat.le_of_ble_eq_true rfl) rfl (Nat.le_of_ble_eq_true rfl) (Nat.le_refl _) (Nat.le_refl _) (Or.inr (Nat.le_of_ble_eq_true rfl)) (Or.inr (z_atv (z_lkn fM c_5) rfl))) rfl rfl rfl (ye_here (lim := lim) c_5 fM f_11 f_12 f_13 k_7 f_14 c_9 fB hx (by omega) (by omega)) ?_
    rintro _ _ ⟨rfl, e_22, rfl, h_23⟩
    unfold ye_sig at h_23
    have tq : T q_3 = T h := by rw [show q_3 = h by omega]
    refine z_r_is (kk := z_isI) (ins := (.istore_n 2)) (len := 1) (t := 30) (i := 2) rfl rfl rfl rfl rfl rfl rfl rfl (fun l l_24 k_25 => ?_)
    have l_26 := k_25 _ _ a0 (by decide) (Or.inl (by decide))
    have l_27 := k_25 _ _ a1 (by decide) (Or.inr (by show (1 : Nat) ≠ 2; decide))
    refine z_r_ld (kk := z_isI) (ins := (.iload_n 2)) (len := 1) (t := 31) (i := 2) rfl rfl rfl rfl rfl (fun _ => rfl) l_24 rfl ?_
    refine z_r_pu (ins := (.bipush 40)) (len := 2) (t := 33) rfl rfl rfl rfl (ye_bi (by decide) (by decide)) ?_
    by_cases b_28 : e_22 ≠ 40
    · skip
      refine z_r_jm (ins := (.if_icmp .ne 34)) (len := 3) (t := 67) rfl rfl rfl rfl (ye_jy (t := 67) rfl (by omega) (by omega) (by omega) (by omega) b_28) ?_
      refine z_r_ld (kk := z_isI) (ins := (.iload_n 2)) (len := 1) (t := 68) (i := 2) rfl rfl rfl rfl rfl (fun _ => rfl) l_24 rfl ?_
      refine z_r_pu (ins := (.bipush 48)) (len := 2) (t := 70) rfl rfl rfl rfl (ye_bi (by decide) (by decide)) ?_
      refine z_r_pu (ins := (.bipush 57)) (len := 2) (t := 72) rfl rfl rfl rfl (ye_bi (by decide) (by decide)) ?_
      refine ye_ca (ins := (.invokestatic 133)) (kd := 0) (t := 75) rfl rfl (by decide) (z_argsv rfl rfl rfl (by omega) (Nat.le_of_ble_eq_true rfl) rfl (Nat.le_of_ble_eq_true rfl) (Nat.le_refl _) (Nat.le_refl _) (Or.inl rfl) (Or.inl rfl)) rfl rfl rfl (ye_inr (by omega) (by omega) (by omega)) ?_
      rintro _ _ ⟨rfl, b_29, rfl, h_30⟩
      by_cases b_31 : b_29 = 0
      · skip
        refine z_r_jm (ins := (.ifCond .eq 13)) (len := 3) (t := 88) rfl rfl rfl rfl (ye_iy (t := 88) rfl (by omega) (by omega) b_31) ?_
        refine z_r_ld (kk := z_isA) (ins := (.aload_n 0)) (len := 1) (t := 89) (i := 0) rfl rfl rfl rfl rfl (fun _ => rfl) l_26 rfl ?_
        refine z_r_rd (ins := (.getfield 217)) (len := 3) (t := 92) rfl rfl rfl rfl rfl (z_gfv (ci := 10) (k := 29) (v := ye_v il) rfl (z_lkn fM c_5) (by decide) (ye_flg rfl f_15)) ?_
        by_cases b_32 : il = 0
        · skip
          refine z_r_jm (ins := (.ifCond .eq 41)) (len := 3) (t := 133) rfl rfl rfl rfl (ye_iy (t := 133) rfl (by omega) (by omega) b_32) ?_
          refine z_r_ld (kk := z_isI) (ins := (.iload_n 2)) (len := 1) (t := 134) (i := 2) rfl rfl rfl rfl rfl (fun _ => rfl) l_24 rfl ?_
          refine z_r_pu (ins := (.bipush 109)) (len := 2) (t := 136) rfl rfl rfl rfl (ye_bi (by decide) (by decide)) ?_
          by_cases b_33 : e_22 = 109
          · skip
            refine z_r_jm (ins := (.if_icmp .eq 45)) (len := 3) (t := 181) rfl rfl rfl rfl (ye_jy (t := 181) rfl (by omega) (by omega) (by omega) (by omega) b_33) ?_
            refine z_r_pu (ins := (.iconst 1)) (len := 1) (t := 182) (st' := [ye_v 1]) rfl rfl rfl rfl rfl ?_
            refine z_r_jm (ins := (.goto 4)) (len := 3) (t := 186) rfl rfl rfl rfl (z_gty rfl) ?_
            refine z_r_is (kk := z_isI) (ins := (.istore_n 3)) (len := 1) (t := 187) (i := 3) rfl rfl rfl rfl rfl rfl rfl rfl (fun l l_34 k_35 => ?_)
            have l_36 := k_35 _ _ l_26 (by decide) (Or.inl (by decide))
            have l_37 := k_35 _ _ l_27 (by decide) (Or.inl (by decide))
            have l_38 := k_35 _ _ l_24 (by decide) (Or.inr (by show (1 : Nat) ≠ 2; decide))
            exact yg_t2 (P0 := P) (F0 := F) c_5 fM (by rw [k_7, show q_3 = h by omega]) f_14 f_15 f_16 f_17 o_10 f_18 (by omega) l_36 l_34 (by omega) (by omega) (by omega) (by omega)
          · skip
            refine z_r_jm (ins := (.if_icmp .eq 45)) (len := 3) (t := 139) rfl rfl rfl rfl (ye_jn (t := 181) rfl (by omega) (by omega) (by omega) (by omega) b_33) ?_
            refine z_r_ld (kk := z_isI) (ins := (.iload_n 2)) (len := 1) (t := 140) (i := 2) rfl rfl rfl rfl rfl (fun _ => rfl) l_24 rfl ?_
            refine z_r_pu (ins := (.bipush 99)) (len := 2) (t := 142) rfl rfl rfl rfl (ye_bi (by decide) (by decide)) ?_
            by_cases b_39 : e_22 = 99
            · skip
              refine z_r_jm (ins := (.if_icmp .eq 39)) (len := 3) (t := 181) rfl rfl rfl rfl (ye_jy (t := 181) rfl (by omega) (by omega) (by omega) (by omega) b_39) ?_
              refine z_r_pu (ins := (.iconst 1)) (len := 1) (t := 182) (st' := [ye_v 1]) rfl rfl rfl rfl rfl ?_
              refine z_r_jm (ins := (.goto 4)) (len := 3) (t := 186) rfl rfl rfl rfl (z_gty rfl) ?_
              refine z_r_is (kk := z_isI) (ins := (.istore_n 3)) (len := 1) (t := 187) (i := 3) rfl rfl rfl rfl rfl rfl rfl rfl (fun l l_40 k_41 => ?_)
              have l_42 := k_41 _ _ l_26 (by decide) (Or.inl (by decide))
              have l_43 := k_41 _ _ l_27 (by decide) (Or.inl (by decide))
              have l_44 := k_41 _ _ l_24 (by decide) (Or.inr (by show (1 : Nat) ≠ 2; decide))
              exact yg_t2 (P0 := P) (F0 := F) c_5 fM (by rw [k_7, show q_3 = h by omega]) f_14 f_15 f_16 f_17 o_10 f_18 (by omega) l_42 l_40 (by omega) (by omega) (by omega) (by omega)
            · skip
              refine z_r_jm (ins := (.if_icmp .eq 39)) (len := 3) (t := 145) rfl rfl rfl rfl (ye_jn (t := 181) rfl (by omega) (by omega) (by omega) (by omega) b_39) ?_
              refine z_r_ld (kk := z_isI) (ins := (.iload_n 2)) (len := 1) (t := 146) (i := 2) rfl rfl rfl rfl rfl (fun _ => rfl) l_24 rfl ?_
              refine z_r_pu (ins := (.bipush 104)) (len := 2) (t := 148) rfl rfl rfl rfl (ye_bi (by decide) (by decide)) ?_
              by_cases b_45 : e_22 = 104
              · skip
                refine z_r_jm (ins := (.if_icmp .eq 33)) (len := 3) (t := 181) rfl rfl rfl rfl (ye_jy (t := 181) rfl (by omega) (by omega) (by omega) (by omega) b_45) ?_
                refine z_r_pu (ins := (.iconst 1)) (len := 1) (t := 182) (st' := [ye_v 1]) rfl rfl rfl rfl rfl ?_
                refine z_r_jm (ins := (.goto 4)) (len := 3) (t := 186) rfl rfl rfl rfl (z_gty rfl) ?_
                refine z_r_is (kk := z_isI) (ins := (.istore_n 3)) (len := 1) (t := 187) (i := 3) rfl rfl rfl rfl rfl rfl rfl rfl (fun l l_46 k_47 => ?_)
                have l_48 := k_47 _ _ l_26 (by decide) (Or.inl (by decide))
                have l_49 := k_47 _ _ l_27 (by decide) (Or.inl (by decide))
                have l_50 := k_47 _ _ l_24 (by decide) (Or.inr (by show (1 : Nat) ≠ 2; decide))
                exact yg_t2 (P0 := P) (F0 := F) c_5 fM (by rw [k_7, show q_3 = h by omega]) f_14 f_15 f_16 f_17 o_10 f_18 (by omega) l_48 l_46 (by omega) (by omega) (by omega) (by omega)
              · skip
                refine z_r_jm (ins := (.if_icmp .eq 33)) (len := 3) (t := 151) rfl rfl rfl rfl (ye_jn (t := 181) rfl (by omega) (by omega) (by omega) (by omega) b_45) ?_
                refine z_r_ld (kk := z_isI) (ins := (.iload_n 2)) (len := 1) (t := 152) (i := 2) rfl rfl rfl rfl rfl (fun _ => rfl) l_24 rfl ?_
                refine z_r_pu (ins := (.bipush 119)) (len := 2) (t := 154) rfl rfl rfl rfl (ye_bi (by decide) (by decide)) ?_
                by_cases b_51 : e_22 = 119
                · skip
                  refine z_r_jm (ins := (.if_icmp .eq 27)) (len := 3) (t := 181) rfl rfl rfl rfl (ye_jy (t := 181) rfl (by omega) (by omega) (by omega) (by omega) b_51) ?_
                  refine z_r_pu (ins := (.iconst 1)) (len := 1) (t := 182) (st' := [ye_v 1]) rfl rfl rfl rfl rfl ?_
                  refine z_r_jm (ins := (.goto 4)) (len := 3) (t := 186) rfl rfl rfl rfl (z_gty rfl) ?_
                  refine z_r_is (kk := z_isI) (ins := (.istore_n 3)) (len := 1) (t := 187) (i := 3) rfl rfl rfl rfl rfl rfl rfl rfl (fun l l_52 k_53 => ?_)
                  have l_54 := k_53 _ _ l_26 (by decide) (Or.inl (by decide))
                  have l_55 := k_53 _ _ l_27 (by decide) (Or.inl (by decide))
                  have l_56 := k_53 _ _ l_24 (by decide) (Or.inr (by show (1 : Nat) ≠ 2; decide))
                  exact yg_t2 (P0 := P) (F0 := F) c_5 fM (by rw [k_7, show q_3 = h by omega]) f_14 f_15 f_16 f_17 o_10 f_18 (by omega) l_54 l_52 (by omega) (by omega) (by omega) (by omega)
                · skip
                  refine z_r_jm (ins := (.if_icmp .eq 27)) (len := 3) (t := 157) rfl rfl rfl rfl (ye_jn (t := 181) rfl (by omega) (by omega) (by omega) (by omega) b_51) ?_
                  refine z_r_ld (kk := z_isI) (ins := (.iload_n 2)) (len := 1) (t := 158) (i := 2) rfl rfl rfl rfl rfl (fun _ => rfl) l_24 rfl ?_
                  refine z_r_pu (ins := (.bipush 115)) (len := 2) (t := 160) rfl rfl rfl rfl (ye_bi (by decide) (by decide)) ?_
                  by_cases b_57 : e_22 = 115
                  · skip
                    refine z_r_jm (ins := (.if_icmp .eq 21)) (len := 3) (t := 181) rfl rfl rfl rfl (ye_jy (t := 181) rfl (by omega) (by omega) (by omega) (by omega) b_57) ?_
                    refine z_r_pu (ins := (.iconst 1)) (len := 1) (t := 182) (st' := [ye_v 1]) rfl rfl rfl rfl rfl ?_
                    refine z_r_jm (ins := (.goto 4)) (len := 3) (t := 186) rfl rfl rfl rfl (z_gty rfl) ?_
                    refine z_r_is (kk := z_isI) (ins := (.istore_n 3)) (len := 1) (t := 187) (i := 3) rfl rfl rfl rfl rfl rfl rfl rfl (fun l l_58 k_59 => ?_)
                    have l_60 := k_59 _ _ l_26 (by decide) (Or.inl (by decide))
                    have l_61 := k_59 _ _ l_27 (by decide) (Or.inl (by decide))
                    have l_62 := k_59 _ _ l_24 (by decide) (Or.inr (by show (1 : Nat) ≠ 2; decide))
                    exact yg_t2 (P0 := P) (F0 := F) c_5 fM (by rw [k_7, show q_3 = h by omega]) f_14 f_15 f_16 f_17 o_10 f_18 (by omega) l_60 l_58 (by omega) (by omega) (by omega) (by omega)
                  · skip
                    refine z_r_jm (ins := (.if_icmp .eq 21)) (len := 3) (t := 163) rfl rfl rfl rfl (ye_jn (t := 181) rfl (by omega) (by omega) (by omega) (by omega) b_57) ?_
                    refine z_r_ld (kk := z_isI) (ins := (.iload_n 2)) (len := 1) (t := 164) (i := 2) rfl rfl rfl rfl rfl (fun _ => rfl) l_24 rfl ?_
                    refine z_r_pu (ins := (.bipush 110)) (len := 2) (t := 166) rfl rfl rfl rfl (ye_bi (by decide) (by decide)) ?_
                    by_cases b_63 : e_22 = 110
                    · skip
                      refine z_r_jm (ins := (.if_icmp .eq 15)) (len := 3) (t := 181) rfl rfl rfl rfl (ye_jy (t := 181) rfl (by omega) (by omega) (by omega) (by omega) b_63) ?_
                      refine z_r_pu (ins := (.iconst 1)) (len := 1) (t := 182) (st' := [ye_v 1]) rfl rfl rfl rfl rfl ?_
                      refine z_r_jm (ins := (.goto 4)) (len := 3) (t := 186) rfl rfl rfl rfl (z_gty rfl) ?_
                      refine z_r_is (kk := z_isI) (ins := (.istore_n 3)) (len := 1) (t := 187) (i := 3) rfl rfl rfl rfl rfl rfl rfl rfl (fun l l_64 k_65 => ?_)
                      have l_66 := k_65 _ _ l_26 (by decide) (Or.inl (by decide))
                      have l_67 := k_65 _ _ l_27 (by decide) (Or.inl (by decide))
                      have l_68 := k_65 _ _ l_24 (by decide) (Or.inr (by show (1 : Nat) ≠ 2; decide))
                      exact yg_t2 (P0 := P) (F0 := F) c_5 fM (by rw [k_7, show q_3 = h by omega]) f_14 f_15 f_16 f_17 o_10 f_18 (by omega) l_66 l_64 (by omega) (by omega) (by omega) (by omega)
                    · skip
                      refine z_r_jm (ins := (.if_icmp .eq 15)) (len := 3) (t := 169) rfl rfl rfl rfl (ye_jn (t := 181) rfl (by omega) (by omega) (by omega) (by omega) b_63) ?_
                      refine z_r_ld (kk := z_isI) (ins := (.iload_n 2)) (len := 1) (t := 170) (i := 2) rfl rfl rfl rfl rfl (fun _ => rfl) l_24 rfl ?_
                      refine z_r_pu (ins := (.bipush 107)) (len := 2) (t := 172) rfl rfl rfl rfl (ye_bi (by decide) (by decide)) ?_
                      by_cases b_69 : e_22 = 107
                      · skip
                        refine z_r_jm (ins := (.if_icmp .eq 9)) (len := 3) (t := 181) rfl rfl rfl rfl (ye_jy (t := 181) rfl (by omega) (by omega) (by omega) (by omega) b_69) ?_
                        refine z_r_pu (ins := (.iconst 1)) (len := 1) (t := 182) (st' := [ye_v 1]) rfl rfl rfl rfl rfl ?_
                        refine z_r_jm (ins := (.goto 4)) (len := 3) (t := 186) rfl rfl rfl rfl (z_gty rfl) ?_
                        refine z_r_is (kk := z_isI) (ins := (.istore_n 3)) (len := 1) (t := 187) (i := 3) rfl rfl rfl rfl rfl rfl rfl rfl (fun l l_70 k_71 => ?_)
                        have l_72 := k_71 _ _ l_26 (by decide) (Or.inl (by decide))
                        have l_73 := k_71 _ _ l_27 (by decide) (Or.inl (by decide))
                        have l_74 := k_71 _ _ l_24 (by decide) (Or.inr (by show (1 : Nat) ≠ 2; decide))
                        exact yg_t2 (P0 := P) (F0 := F) c_5 fM (by rw [k_7, show q_3 = h by omega]) f_14 f_15 f_16 f_17 o_10 f_18 (by omega) l_72 l_70 (by omega) (by omega) (by omega) (by omega)
                      · skip
                        refine z_r_jm (ins := (.if_icmp .eq 9)) (len := 3) (t := 175) rfl rfl rfl rfl (ye_jn (t := 181) rfl (by omega) (by omega) (by omega) (by omega) b_69) ?_
                        refine z_r_ld (kk := z_isI) (ins := (.iload_n 2)) (len := 1) (t := 176) (i := 2) rfl rfl rfl rfl rfl (fun _ => rfl) l_24 rfl ?_
                        refine z_r_pu (ins := (.bipush 112)) (len := 2) (t := 178) rfl rfl rfl rfl (ye_bi (by decide) (by decide)) ?_
                        by_cases b_75 : e_22 ≠ 112
                        · skip
                          refine z_r_jm (ins := (.if_icmp .ne 7)) (len := 3) (t := 185) rfl rfl rfl rfl (ye_jy (t := 185) rfl (by omega) (by omega) (by omega) (by omega) b_75) ?_
                          refine z_r_pu (ins := (.iconst 0)) (len := 1) (t := 186) (st' := [ye_v 0]) rfl rfl rfl rfl rfl ?_
                          refine z_r_is (kk := z_isI) (ins := (.istore_n 3)) (len := 1) (t := 187) (i := 3) rfl rfl rfl rfl rfl rfl rfl rfl (fun l l_76 k_77 => ?_)
                          have l_78 := k_77 _ _ l_26 (by decide) (Or.inl (by decide))
                          have l_79 := k_77 _ _ l_27 (by decide) (Or.inl (by decide))
                          have l_80 := k_77 _ _ l_24 (by decide) (Or.inr (by show (1 : Nat) ≠ 2; decide))
                          exact yg_t2 (P0 := P) (F0 := F) c_5 fM (by rw [k_7, show q_3 = h by omega]) f_14 f_15 f_16 f_17 o_10 f_18 (by omega) l_78 l_76 (by omega) (by omega) (by omega) (by omega)
                        · skip
                          refine z_r_jm (ins := (.if_icmp .ne 7)) (len := 3) (t := 181) rfl rfl rfl rfl (ye_jn (t := 185) rfl (by omega) (by omega) (by omega) (by omega) b_75) ?_
                          refine z_r_pu (ins := (.iconst 1)) (len := 1) (t := 182) (st' := [ye_v 1]) rfl rfl rfl rfl rfl ?_
                          refine z_r_jm (ins := (.goto 4)) (len := 3) (t := 186) rfl rfl rfl rfl (z_gty rfl) ?_
                          refine z_r_is (kk := z_isI) (ins := (.istore_n 3)) (len := 1) (t := 187) (i := 3) rfl rfl rfl rfl rfl rfl rfl rfl (fun l l_81 k_82 => ?_)
                          have l_83 := k_82 _ _ l_26 (by decide) (Or.inl (by decide))
                          have l_84 := k_82 _ _ l_27 (by decide) (Or.inl (by decide))
                          have l_85 := k_82 _ _ l_24 (by decide) (Or.inr (by show (1 : Nat) ≠ 2; decide))
                          exact yg_t2 (P0 := P) (F0 := F) c_5 fM (by rw [k_7, show q_3 = h by omega]) f_14 f_15 f_16 f_17 o_10 f_18 (by omega) l_83 l_81 (by omega) (by omega) (by omega) (by omega)
        · skip
          refine z_r_jm (ins := (.ifCond .eq 41)) (len := 3) (t := 95) rfl rfl rfl rfl (ye_in (t := 133) rfl (by omega) (by omega) b_32) ?_
          refine z_r_ld (kk := z_isI) (ins := (.iload_n 2)) (len := 1) (t := 96) (i := 2) rfl rfl rfl rfl rfl (fun _ => rfl) l_24 rfl ?_
          refine z_r_pu (ins := (.bipush 119)) (len := 2) (t := 98) rfl rfl rfl rfl (ye_bi (by decide) (by decide)) ?_
          by_cases b_86 : e_22 = 119
          · skip
            refine z_r_jm (ins := (.if_icmp .eq 27)) (len := 3) (t := 125) rfl rfl rfl rfl (ye_jy (t := 125) rfl (by omega) (by omega) (by omega) (by omega) b_86) ?_
            refine z_r_pu (ins := (.iconst 1)) (len := 1) (t := 126) (st' := [ye_v 1]) rfl rfl rfl rfl rfl ?_
            refine z_r_jm (ins := (.goto 60)) (len := 3) (t := 186) rfl rfl rfl rfl (z_gty rfl) ?_
            refine z_r_is (kk := z_isI) (ins := (.istore_n 3)) (len := 1) (t := 187) (i := 3) rfl rfl rfl rfl rfl rfl rfl rfl (fun l l_87 k_88 => ?_)
            have l_89 := k_88 _ _ l_26 (by decide) (Or.inl (by decide))
            have l_90 := k_88 _ _ l_27 (by decide) (Or.inl (by decide))
            have l_91 := k_88 _ _ l_24 (by decide) (Or.inr (by show (1 : Nat) ≠ 2; decide))
            exact yg_t2 (P0 := P) (F0 := F) c_5 fM (by rw [k_7, show q_3 = h by omega]) f_14 f_15 f_16 f_17 o_10 f_18 (by omega) l_89 l_87 (by omega) (by omega) (by omega) (by omega)
          · skip
            refine z_r_jm (ins := (.if_icmp .eq 27)) (len := 3) (t := 101) rfl rfl rfl rfl (ye_jn (t := 125) rfl (by omega) (by omega) (by omega) (by omega) b_86) ?_
            refine z_r_ld (kk := z_isI) (ins := (.iload_n 2)) (len := 1) (t := 102) (i := 2) rfl rfl rfl rfl rfl (fun _ => rfl) l_24 rfl ?_
            refine z_r_pu (ins := (.bipush 122)) (len := 2) (t := 104) rfl rfl rfl rfl (ye_bi (by decide) (by decide)) ?_
            by_cases b_92 : e_22 = 122
            · skip
              refine z_r_jm (ins := (.if_icmp .eq 21)) (len := 3) (t := 125) rfl rfl rfl rfl (ye_jy (t := 125) rfl (by omega) (by omega) (by omega) (by omega) b_92) ?_
              refine z_r_pu (ins := (.iconst 1)) (len := 1) (t := 126) (st' := [ye_v 1]) rfl rfl rfl rfl rfl ?_
              refine z_r_jm (ins := (.goto 60)) (len := 3) (t := 186) rfl rfl rfl rfl (z_gty rfl) ?_
              refine z_r_is (kk := z_isI) (ins := (.istore_n 3)) (len := 1) (t := 187) (i := 3) rfl rfl rfl rfl rfl rfl rfl rfl (fun l l_93 k_94 => ?_)
              have l_95 := k_94 _ _ l_26 (by decide) (Or.inl (by decide))
              have l_96 := k_94 _ _ l_27 (by decide) (Or.inl (by decide))
              have l_97 := k_94 _ _ l_24 (by decide) (Or.inr (by show (1 : Nat) ≠ 2; decide))
              exact yg_t2 (P0 := P) (F0 := F) c_5 fM (by rw [k_7, show q_3 = h by omega]) f_14 f_15 f_16 f_17 o_10 f_18 (by omega) l_95 l_93 (by omega) (by omega) (by omega) (by omega)
            · skip
              refine z_r_jm (ins := (.if_icmp .eq 21)) (len := 3) (t := 107) rfl rfl rfl rfl (ye_jn (t := 125) rfl (by omega) (by omega) (by omega) (by omega) b_92) ?_
              refine z_r_ld (kk := z_isI) (ins := (.iload_n 2)) (len := 1) (t := 108) (i := 2) rfl rfl rfl rfl rfl (fun _ => rfl) l_24 rfl ?_
              refine z_r_pu (ins := (.bipush 100)) (len := 2) (t := 110) rfl rfl rfl rfl (ye_bi (by decide) (by decide)) ?_
              by_cases b_98 : e_22 = 100
              · skip
                refine z_r_jm (ins := (.if_icmp .eq 15)) (len := 3) (t := 125) rfl rfl rfl rfl (ye_jy (t := 125) rfl (by omega) (by omega) (by omega) (by omega) b_98) ?_
                refine z_r_pu (ins := (.iconst 1)) (len := 1) (t := 126) (st' := [ye_v 1]) rfl rfl rfl rfl rfl ?_
                refine z_r_jm (ins := (.goto 60)) (len := 3) (t := 186) rfl rfl rfl rfl (z_gty rfl) ?_
                refine z_r_is (kk := z_isI) (ins := (.istore_n 3)) (len := 1) (t := 187) (i := 3) rfl rfl rfl rfl rfl rfl rfl rfl (fun l l_99 k_100 => ?_)
                have l_101 := k_100 _ _ l_26 (by decide) (Or.inl (by decide))
                have l_102 := k_100 _ _ l_27 (by decide) (Or.inl (by decide))
                have l_103 := k_100 _ _ l_24 (by decide) (Or.inr (by show (1 : Nat) ≠ 2; decide))
                exact yg_t2 (P0 := P) (F0 := F) c_5 fM (by rw [k_7, show q_3 = h by omega]) f_14 f_15 f_16 f_17 o_10 f_18 (by omega) l_101 l_99 (by omega) (by omega) (by omega) (by omega)
              · skip
                refine z_r_jm (ins := (.if_icmp .eq 15)) (len := 3) (t := 113) rfl rfl rfl rfl (ye_jn (t := 125) rfl (by omega) (by omega) (by omega) (by omega) b_98) ?_
                refine z_r_ld (kk := z_isI) (ins := (.iload_n 2)) (len := 1) (t := 114) (i := 2) rfl rfl rfl rfl rfl (fun _ => rfl) l_24 rfl ?_
                refine z_r_pu (ins := (.bipush 105)) (len := 2) (t := 116) rfl rfl rfl rfl (ye_bi (by decide) (by decide)) ?_
                by_cases b_104 : e_22 = 105
                · skip
                  refine z_r_jm (ins := (.if_icmp .eq 9)) (len := 3) (t := 125) rfl rfl rfl rfl (ye_jy (t := 125) rfl (by omega) (by omega) (by omega) (by omega) b_104) ?_
                  refine z_r_pu (ins := (.iconst 1)) (len := 1) (t := 126) (st' := [ye_v 1]) rfl rfl rfl rfl rfl ?_
                  refine z_r_jm (ins := (.goto 60)) (len := 3) (t := 186) rfl rfl rfl rfl (z_gty rfl) ?_
                  refine z_r_is (kk := z_isI) (ins := (.istore_n 3)) (len := 1) (t := 187) (i := 3) rfl rfl rfl rfl rfl rfl rfl rfl (fun l l_105 k_106 => ?_)
                  have l_107 := k_106 _ _ l_26 (by decide) (Or.inl (by decide))
                  have l_108 := k_106 _ _ l_27 (by decide) (Or.inl (by decide))
                  have l_109 := k_106 _ _ l_24 (by decide) (Or.inr (by show (1 : Nat) ≠ 2; decide))
                  exact yg_t2 (P0 := P) (F0 := F) c_5 fM (by rw [k_7, show q_3 = h by omega]) f_14 f_15 f_16 f_17 o_10 f_18 (by omega) l_107 l_105 (by omega) (by omega) (by omega) (by omega)
                · skip
                  refine z_r_jm (ins := (.if_icmp .eq 9)) (len := 3) (t := 119) rfl rfl rfl rfl (ye_jn (t := 125) rfl (by omega) (by omega) (by omega) (by omega) b_104) ?_
                  refine z_r_ld (kk := z_isI) (ins := (.iload_n 2)) (len := 1) (t := 120) (i := 2) rfl rfl rfl rfl rfl (fun _ => rfl) l_24 rfl ?_
                  refine z_r_pu (ins := (.bipush 107)) (len := 2) (t := 122) rfl rfl rfl rfl (ye_bi (by decide) (by decide)) ?_
                  by_cases b_110 : e_22 ≠ 107
                  · skip
                    refine z_r_jm (ins := (.if_icmp .ne 7)) (len := 3) (t := 129) rfl rfl rfl rfl (ye_jy (t := 129) rfl (by omega) (by omega) (by omega) (by omega) b_110) ?_
                    refine z_r_pu (ins := (.iconst 0)) (len := 1) (t := 130) (st' := [ye_v 0]) rfl rfl rfl rfl rfl ?_
                    refine z_r_jm (ins := (.goto 56)) (len := 3) (t := 186) rfl rfl rfl rfl (z_gty rfl) ?_
                    refine z_r_is (kk := z_isI) (ins := (.istore_n 3)) (len := 1) (t := 187) (i := 3) rfl rfl rfl rfl rfl rfl rfl rfl (fun l l_111 k_112 => ?_)
                    have l_113 := k_112 _ _ l_26 (by decide) (Or.inl (by decide))
                    have l_114 := k_112 _ _ l_27 (by decide) (Or.inl (by decide))
                    have l_115 := k_112 _ _ l_24 (by decide) (Or.inr (by show (1 : Nat) ≠ 2; decide))
                    exact yg_t2 (P0 := P) (F0 := F) c_5 fM (by rw [k_7, show q_3 = h by omega]) f_14 f_15 f_16 f_17 o_10 f_18 (by omega) l_113 l_111 (by omega) (by omega) (by omega) (by omega)
                  · skip
                    refine z_r_jm (ins := (.if_icmp .ne 7)) (len := 3) (t := 125) rfl rfl rfl rfl (ye_jn (t := 129) rfl (by omega) (by omega) (by omega) (by omega) b_110) ?_
                    refine z_r_pu (ins := (.iconst 1)) (len := 1) (t := 126) (st' := [ye_v 1]) rfl rfl rfl rfl rfl ?_
                    refine z_r_jm (ins := (.goto 60)) (len := 3) (t := 186) rfl rfl rfl rfl (z_gty rfl) ?_
                    refine z_r_is (kk := z_isI) (ins := (.istore_n 3)) (len := 1) (t := 187) (i := 3) rfl rfl rfl rfl rfl rfl rfl rfl (fun l l_116 k_117 => ?_)
                    have l_118 := k_117 _ _ l_26 (by decide) (Or.inl (by decide))
                    have l_119 := k_117 _ _ l_27 (by decide) (Or.inl (by decide))
                    have l_120 := k_117 _ _ l_24 (by decide) (Or.inr (by show (1 : Nat) ≠ 2; decide))
                    exact yg_t2 (P0 := P) (F0 := F) c_5 fM (by rw [k_7, show q_3 = h by omega]) f_14 f_15 f_16 f_17 o_10 f_18 (by omega) l_118 l_116 (by omega) (by omega) (by omega) (by omega)
      · skip
        refine z_r_jm (ins := (.ifCond .eq 13)) (len := 3) (t := 78) rfl rfl rfl rfl (ye_in (t := 88) rfl (by omega) (by omega) b_31) ?_
        refine z_r_ld (kk := z_isA) (ins := (.aload_n 0)) (len := 1) (t := 79) (i := 0) rfl rfl rfl rfl rfl (fun _ => rfl) l_26 rfl ?_
        refine z_r_pu (ins := (.iconst 3)) (len := 1) (t := 80) (st' := [ye_v 3, .ref aM]) rfl rfl rfl rfl rfl ?_
        refine z_r_pu (ins := (.iconst 0)) (len := 1) (t := 81) (st' := [ye_v 0, ye_v 3, .ref aM]) rfl rfl rfl rfl rfl ?_
        refine z_r_pu (ins := (.sipush 999)) (len := 3) (t := 84) rfl rfl rfl rfl (ye_si (by decide) (by decide)) ?_
        refine ye_ca (ins := (.invokevirtual 179)) (kd := 1) (t := 87) rfl rfl (by decide) (z_argsv rfl rfl rfl (by omega) (Nat.le_of_ble_eq_true rfl) rfl (Nat.le_of_ble_eq_true rfl) (Nat.le_refl _) (Nat.le_refl _) (Or.inr (Nat.le_of_ble_eq_true rfl)) (Or.inr (z_atv (z_lkn fM c_5) rfl))) rfl rfl rfl (ye_mnum (lim := lim) (k := 3) c_5 fM f_11 f_12 f_13 k_7 f_14 c_9 fB hx (by omega) (by omega) (by omega) (by omega) (by decide) (by decide) (by omega)) ?_
        rintro _ P_125 ⟨v_121, F_122, q_123, w_124, rfl, c_126, f_127, k_128, k_129, o_130, b_131, b_132, hn1⟩
        have bdn1 := yq_num_bd (T := T) (lim := lim) (p := q_3) (lo := 0) (hi := 999) (k := 3) (by decide) (by omega)
        generalize en1 : yq_num T lim 3 0 999 (q_3) = n1 at bdn1 hn1
        have c_133 := ye_kp o_130 (ye_n1 (ye_ne c_9 c_5 (by decide))) c_9
        have o_134 := ye_oth_tr o_10 o_130 (ye_s1 (List.mem_cons_self))
        have f_135 : F_122 15 = .ref aB := (f_127 15 (by decide)).trans f_11
        have f_136 : F_122 16 = ye_v sz := (f_127 16 (by decide)).trans f_12
        have f_137 : F_122 17 = ye_v tp := (f_127 17 (by decide)).trans f_13
        have f_138 : F_122 29 = ye_v il := (f_127 29 (by decide)).trans f_15
        have f_139 : F_122 31 = ye_v ((-1)) := (f_127 31 (by decide)).trans f_16
        have f_140 : F_122 32 = ye_v ((-1)) := (f_127 32 (by decide)).trans f_17
        have f_141 := ye_fk_tr f_18 f_127 (by decide)
        have bwn1 : -1 ≤ w_124 ∧ w_124 ≤ 80 := by omega
        refine ye_ret (ins := .ireturn) rfl rfl rfl (ye_reti rfl) ?_
        have eN : yq_num T lim 3 0 999 h = n1 := by rw [← en1, show h = q_3 by omega]
        have hlm : yl T lim L h = -1 := by omega
        rcases hn1 with ⟨g, -⟩ | ⟨-, g1, g2, g3, g4⟩ | ⟨-, g1, g2, g3⟩
        · omega
        · have eL : yf T lim L (k + 1) 3 dp h = (true, n1.2.1) := by
            rw [yf_3, if_neg (by omega)]
            unfold yg_b
            rw [if_neg (by omega), if_neg (by omega), eN, g1]
          rw [eL]
          exact ⟨_, _, q_123, w_124, rfl, c_126, f_141, k_128, k_129, o_134, by omega, by omega, Or.inl ⟨by omega, rfl, by show q_123 = n1.2.1; omega⟩⟩
        · have eL : yf T lim L (k + 1) 3 dp h = (false, n1.2.1) := by
            rw [yf_3, if_neg (by omega)]
            unfold yg_b
            rw [if_neg (by omega), if_neg (by omega), eN, g1]
          rw [eL]
          exact ⟨_, _, q_123, w_124, rfl, c_126, f_141, k_128, k_129, o_134, by omega, by omega, Or.inr ⟨rfl, by show w_124 = n1.2.1; omega⟩⟩
    · skip
      refine z_r_jm (ins := (.if_icmp .ne 34)) (len := 3) (t := 36) rfl rfl rfl rfl (ye_jn (t := 67) rfl (by omega) (by omega) (by omega) (by omega) b_28) ?_
      refine z_r_ld (kk := z_isI) (ins := (.iload_n 1)) (len := 1) (t := 37) (i := 1) rfl rfl rfl rfl rfl (fun _ => rfl) l_27 rfl ?_
      refine z_r_pu (ins := (.iconst 4)) (len := 1) (t := 38) (st' := [ye_v 4, ye_v dp]) rfl rfl rfl rfl rfl ?_
      by_cases b_142 : 4 ≤ dp
      · skip
        refine z_r_jm (ins := (.if_icmp .ge 29)) (len := 3) (t := 67) rfl rfl rfl rfl (ye_jy (t := 67) rfl (by omega) (by omega) (by omega) (by omega) b_142) ?_
        refine z_r_ld (kk := z_isI) (ins := (.iload_n 2)) (len := 1) (t := 68) (i := 2) rfl rfl rfl rfl rfl (fun _ => rfl) l_24 rfl ?_
        refine z_r_pu (ins := (.bipush 48)) (len := 2) (t := 70) rfl rfl rfl rfl (ye_bi (by decide) (by decide)) ?_
        refine z_r_pu (ins := (.bipush 57)) (len := 2) (t := 72) rfl rfl rfl rfl (ye_bi (by decide) (by decide)) ?_
        refine ye_ca (ins := (.invokestatic 133)) (kd := 0) (t := 75) rfl rfl (by decide) (z_argsv rfl rfl rfl (by omega) (Nat.le_of_ble_eq_true rfl) rfl (Nat.le_of_ble_eq_true rfl) (Nat.le_refl _) (Nat.le_refl _) (Or.inl rfl) (Or.inl rfl)) rfl rfl rfl (ye_inr (by omega) (by omega) (by omega)) ?_
        rintro _ _ ⟨rfl, b_143, rfl, h_144⟩
        by_cases b_145 : b_143 = 0
        · skip
          refine z_r_jm (ins := (.ifCond .eq 13)) (len := 3) (t := 88) rfl rfl rfl rfl (ye_iy (t := 88) rfl (by omega) (by omega) b_145) ?_
          refine z_r_ld (kk := z_isA) (ins := (.aload_n 0)) (len := 1) (t := 89) (i := 0) rfl rfl rfl rfl rfl (fun _ => rfl) l_26 rfl ?_
          refine z_r_rd (ins := (.getfield 217)) (len := 3) (t := 92) rfl rfl rfl rfl rfl (z_gfv (ci := 10) (k := 29) (v := ye_v il) rfl (z_lkn fM c_5) (by decide) (ye_flg rfl f_15)) ?_
          by_cases b_146 : il = 0
          · skip
            refine z_r_jm (ins := (.ifCond .eq 41)) (len := 3) (t := 133) rfl rfl rfl rfl (ye_iy (t := 133) rfl (by omega) (by omega) b_146) ?_
            refine z_r_ld (kk := z_isI) (ins := (.iload_n 2)) (len := 1) (t := 134) (i := 2) rfl rfl rfl rfl rfl (fun _ => rfl) l_24 rfl ?_
            refine z_r_pu (ins := (.bipush 109)) (len := 2) (t := 136) rfl rfl rfl rfl (ye_bi (by decide) (by decide)) ?_
            by_cases b_147 : e_22 = 109
            · skip
              refine z_r_jm (ins := (.if_icmp .eq 45)) (len := 3) (t := 181) rfl rfl rfl rfl (ye_jy (t := 181) rfl (by omega) (by omega) (by omega) (by omega) b_147) ?_
              refine z_r_pu (ins := (.iconst 1)) (len := 1) (t := 182) (st' := [ye_v 1]) rfl rfl rfl rfl rfl ?_
              refine z_r_jm (ins := (.goto 4)) (len := 3) (t := 186) rfl rfl rfl rfl (z_gty rfl) ?_
              refine z_r_is (kk := z_isI) (ins := (.istore_n 3)) (len := 1) (t := 187) (i := 3) rfl rfl rfl rfl rfl rfl rfl rfl (fun l l_148 k_149 => ?_)
              have l_150 := k_149 _ _ l_26 (by decide) (Or.inl (by decide))
              have l_151 := k_149 _ _ l_27 (by decide) (Or.inl (by decide))
              have l_152 := k_149 _ _ l_24 (by decide) (Or.inr (by show (1 : Nat) ≠ 2; decide))
              exact yg_t2 (P0 := P) (F0 := F) c_5 fM (by rw [k_7, show q_3 = h by omega]) f_14 f_15 f_16 f_17 o_10 f_18 (by omega) l_150 l_148 (by omega) (by omega) (by omega) (by omega)
            · skip
              refine z_r_jm (ins := (.if_icmp .eq 45)) (len := 3) (t := 139) rfl rfl rfl rfl (ye_jn (t := 181) rfl (by omega) (by omega) (by omega) (by omega) b_147) ?_
              refine z_r_ld (kk := z_isI) (ins := (.iload_n 2)) (len := 1) (t := 140) (i := 2) rfl rfl rfl rfl rfl (fun _ => rfl) l_24 rfl ?_
              refine z_r_pu (ins := (.bipush 99)) (len := 2) (t := 142) rfl rfl rfl rfl (ye_bi (by decide) (by decide)) ?_
              by_cases b_153 : e_22 = 99
              · skip
                refine z_r_jm (ins := (.if_icmp .eq 39)) (len := 3) (t := 181) rfl rfl rfl rfl (ye_jy (t := 181) rfl (by omega) (by omega) (by omega) (by omega) b_153) ?_
                refine z_r_pu (ins := (.iconst 1)) (len := 1) (t := 182) (st' := [ye_v 1]) rfl rfl rfl rfl rfl ?_
                refine z_r_jm (ins := (.goto 4)) (len := 3) (t := 186) rfl rfl rfl rfl (z_gty rfl) ?_
                refine z_r_is (kk := z_isI) (ins := (.istore_n 3)) (len := 1) (t := 187) (i := 3) rfl rfl rfl rfl rfl rfl rfl rfl (fun l l_154 k_155 => ?_)
                have l_156 := k_155 _ _ l_26 (by decide) (Or.inl (by decide))
                have l_157 := k_155 _ _ l_27 (by decide) (Or.inl (by decide))
                have l_158 := k_155 _ _ l_24 (by decide) (Or.inr (by show (1 : Nat) ≠ 2; decide))
                exact yg_t2 (P0 := P) (F0 := F) c_5 fM (by rw [k_7, show q_3 = h by omega]) f_14 f_15 f_16 f_17 o_10 f_18 (by omega) l_156 l_154 (by omega) (by omega) (by omega) (by omega)
              · skip
                refine z_r_jm (ins := (.if_icmp .eq 39)) (len := 3) (t := 145) rfl rfl rfl rfl (ye_jn (t := 181) rfl (by omega) (by omega) (by omega) (by omega) b_153) ?_
                refine z_r_ld (kk := z_isI) (ins := (.iload_n 2)) (len := 1) (t := 146) (i := 2) rfl rfl rfl rfl rfl (fun _ => rfl) l_24 rfl ?_
                refine z_r_pu (ins := (.bipush 104)) (len := 2) (t := 148) rfl rfl rfl rfl (ye_bi (by decide) (by decide)) ?_
                by_cases b_159 : e_22 = 104
                · skip
                  refine z_r_jm (ins := (.if_icmp .eq 33)) (len := 3) (t := 181) rfl rfl rfl rfl (ye_jy (t := 181) rfl (by omega) (by omega) (by omega) (by omega) b_159) ?_
                  refine z_r_pu (ins := (.iconst 1)) (len := 1) (t := 182) (st' := [ye_v 1]) rfl rfl rfl rfl rfl ?_
                  refine z_r_jm (ins := (.goto 4)) (len := 3) (t := 186) rfl rfl rfl rfl (z_gty rfl) ?_
                  refine z_r_is (kk := z_isI) (ins := (.istore_n 3)) (len := 1) (t := 187) (i := 3) rfl rfl rfl rfl rfl rfl rfl rfl (fun l l_160 k_161 => ?_)
                  have l_162 := k_161 _ _ l_26 (by decide) (Or.inl (by decide))
                  have l_163 := k_161 _ _ l_27 (by decide) (Or.inl (by decide))
                  have l_164 := k_161 _ _ l_24 (by decide) (Or.inr (by show (1 : Nat) ≠ 2; decide))
                  exact yg_t2 (P0 := P) (F0 := F) c_5 fM (by rw [k_7, show q_3 = h by omega]) f_14 f_15 f_16 f_17 o_10 f_18 (by omega) l_162 l_160 (by omega) (by omega) (by omega) (by omega)
                · skip
                  refine z_r_jm (ins := (.if_icmp .eq 33)) (len := 3) (t := 151) rfl rfl rfl rfl (ye_jn (t := 181) rfl (by omega) (by omega) (by omega) (by omega) b_159) ?_
                  refine z_r_ld (kk := z_isI) (ins := (.iload_n 2)) (len := 1) (t := 152) (i := 2) rfl rfl rfl rfl rfl (fun _ => rfl) l_24 rfl ?_
                  refine z_r_pu (ins := (.bipush 119)) (len := 2) (t := 154) rfl rfl rfl rfl (ye_bi (by decide) (by decide)) ?_
                  by_cases b_165 : e_22 = 119
                  · skip
                    refine z_r_jm (ins := (.if_icmp .eq 27)) (len := 3) (t := 181) rfl rfl rfl rfl (ye_jy (t := 181) rfl (by omega) (by omega) (by omega) (by omega) b_165) ?_
                    refine z_r_pu (ins := (.iconst 1)) (len := 1) (t := 182) (st' := [ye_v 1]) rfl rfl rfl rfl rfl ?_
                    refine z_r_jm (ins := (.goto 4)) (len := 3) (t := 186) rfl rfl rfl rfl (z_gty rfl) ?_
                    refine z_r_is (kk := z_isI) (ins := (.istore_n 3)) (len := 1) (t := 187) (i := 3) rfl rfl rfl rfl rfl rfl rfl rfl (fun l l_166 k_167 => ?_)
                    have l_168 := k_167 _ _ l_26 (by decide) (Or.inl (by decide))
                    have l_169 := k_167 _ _ l_27 (by decide) (Or.inl (by decide))
                    have l_170 := k_167 _ _ l_24 (by decide) (Or.inr (by show (1 : Nat) ≠ 2; decide))
                    exact yg_t2 (P0 := P) (F0 := F) c_5 fM (by rw [k_7, show q_3 = h by omega]) f_14 f_15 f_16 f_17 o_10 f_18 (by omega) l_168 l_166 (by omega) (by omega) (by omega) (by omega)
                  · skip
                    refine z_r_jm (ins := (.if_icmp .eq 27)) (len := 3) (t := 157) rfl rfl rfl rfl (ye_jn (t := 181) rfl (by omega) (by omega) (by omega) (by omega) b_165) ?_
                    refine z_r_ld (kk := z_isI) (ins := (.iload_n 2)) (len := 1) (t := 158) (i := 2) rfl rfl rfl rfl rfl (fun _ => rfl) l_24 rfl ?_
                    refine z_r_pu (ins := (.bipush 115)) (len := 2) (t := 160) rfl rfl rfl rfl (ye_bi (by decide) (by decide)) ?_
                    by_cases b_171 : e_22 = 115
                    · skip
                      refine z_r_jm (ins := (.if_icmp .eq 21)) (len := 3) (t := 181) rfl rfl rfl rfl (ye_jy (t := 181) rfl (by omega) (by omega) (by omega) (by omega) b_171) ?_
                      refine z_r_pu (ins := (.iconst 1)) (len := 1) (t := 182) (st' := [ye_v 1]) rfl rfl rfl rfl rfl ?_
                      refine z_r_jm (ins := (.goto 4)) (len := 3) (t := 186) rfl rfl rfl rfl (z_gty rfl) ?_
                      refine z_r_is (kk := z_isI) (ins := (.istore_n 3)) (len := 1) (t := 187) (i := 3) rfl rfl rfl rfl rfl rfl rfl rfl (fun l l_172 k_173 => ?_)
                      have l_174 := k_173 _ _ l_26 (by decide) (Or.inl (by decide))
                      have l_175 := k_173 _ _ l_27 (by decide) (Or.inl (by decide))
                      have l_176 := k_173 _ _ l_24 (by decide) (Or.inr (by show (1 : Nat) ≠ 2; decide))
                      exact yg_t2 (P0 := P) (F0 := F) c_5 fM (by rw [k_7, show q_3 = h by omega]) f_14 f_15 f_16 f_17 o_10 f_18 (by omega) l_174 l_172 (by omega) (by omega) (by omega) (by omega)
                    · skip
                      refine z_r_jm (ins := (.if_icmp .eq 21)) (len := 3) (t := 163) rfl rfl rfl rfl (ye_jn (t := 181) rfl (by omega) (by omega) (by omega) (by omega) b_171) ?_
                      refine z_r_ld (kk := z_isI) (ins := (.iload_n 2)) (len := 1) (t := 164) (i := 2) rfl rfl rfl rfl rfl (fun _ => rfl) l_24 rfl ?_
                      refine z_r_pu (ins := (.bipush 110)) (len := 2) (t := 166) rfl rfl rfl rfl (ye_bi (by decide) (by decide)) ?_
                      by_cases b_177 : e_22 = 110
                      · skip
                        refine z_r_jm (ins := (.if_icmp .eq 15)) (len := 3) (t := 181) rfl rfl rfl rfl (ye_jy (t := 181) rfl (by omega) (by omega) (by omega) (by omega) b_177) ?_
                        refine z_r_pu (ins := (.iconst 1)) (len := 1) (t := 182) (st' := [ye_v 1]) rfl rfl rfl rfl rfl ?_
                        refine z_r_jm (ins := (.goto 4)) (len := 3) (t := 186) rfl rfl rfl rfl (z_gty rfl) ?_
                        refine z_r_is (kk := z_isI) (ins := (.istore_n 3)) (len := 1) (t := 187) (i := 3) rfl rfl rfl rfl rfl rfl rfl rfl (fun l l_178 k_179 => ?_)
                        have l_180 := k_179 _ _ l_26 (by decide) (Or.inl (by decide))
                        have l_181 := k_179 _ _ l_27 (by decide) (Or.inl (by decide))
                        have l_182 := k_179 _ _ l_24 (by decide) (Or.inr (by show (1 : Nat) ≠ 2; decide))
                        exact yg_t2 (P0 := P) (F0 := F) c_5 fM (by rw [k_7, show q_3 = h by omega]) f_14 f_15 f_16 f_17 o_10 f_18 (by omega) l_180 l_178 (by omega) (by omega) (by omega) (by omega)
                      · skip
                        refine z_r_jm (ins := (.if_icmp .eq 15)) (len := 3) (t := 169) rfl rfl rfl rfl (ye_jn (t := 181) rfl (by omega) (by omega) (by omega) (by omega) b_177) ?_
                        refine z_r_ld (kk := z_isI) (ins := (.iload_n 2)) (len := 1) (t := 170) (i := 2) rfl rfl rfl rfl rfl (fun _ => rfl) l_24 rfl ?_
                        refine z_r_pu (ins := (.bipush 107)) (len := 2) (t := 172) rfl rfl rfl rfl (ye_bi (by decide) (by decide)) ?_
                        by_cases b_183 : e_22 = 107
                        · skip
                          refine z_r_jm (ins := (.if_icmp .eq 9)) (len := 3) (t := 181) rfl rfl rfl rfl (ye_jy (t := 181) rfl (by omega) (by omega) (by omega) (by omega) b_183) ?_
                          refine z_r_pu (ins := (.iconst 1)) (len := 1) (t := 182) (st' := [ye_v 1]) rfl rfl rfl rfl rfl ?_
                          refine z_r_jm (ins := (.goto 4)) (len := 3) (t := 186) rfl rfl rfl rfl (z_gty rfl) ?_
                          refine z_r_is (kk := z_isI) (ins := (.istore_n 3)) (len := 1) (t := 187) (i := 3) rfl rfl rfl rfl rfl rfl rfl rfl (fun l l_184 k_185 => ?_)
                          have l_186 := k_185 _ _ l_26 (by decide) (Or.inl (by decide))
                          have l_187 := k_185 _ _ l_27 (by decide) (Or.inl (by decide))
                          have l_188 := k_185 _ _ l_24 (by decide) (Or.inr (by show (1 : Nat) ≠ 2; decide))
                          exact yg_t2 (P0 := P) (F0 := F) c_5 fM (by rw [k_7, show q_3 = h by omega]) f_14 f_15 f_16 f_17 o_10 f_18 (by omega) l_186 l_184 (by omega) (by omega) (by omega) (by omega)
                        · skip
                          refine z_r_jm (ins := (.if_icmp .eq 9)) (len := 3) (t := 175) rfl rfl rfl rfl (ye_jn (t := 181) rfl (by omega) (by omega) (by omega) (by omega) b_183) ?_
                          refine z_r_ld (kk := z_isI) (ins := (.iload_n 2)) (len := 1) (t := 176) (i := 2) rfl rfl rfl rfl rfl (fun _ => rfl) l_24 rfl ?_
                          refine z_r_pu (ins := (.bipush 112)) (len := 2) (t := 178) rfl rfl rfl rfl (ye_bi (by decide) (by decide)) ?_
                          by_cases b_189 : e_22 ≠ 112
                          · skip
                            refine z_r_jm (ins := (.if_icmp .ne 7)) (len := 3) (t := 185) rfl rfl rfl rfl (ye_jy (t := 185) rfl (by omega) (by omega) (by omega) (by omega) b_189) ?_
                            refine z_r_pu (ins := (.iconst 0)) (len := 1) (t := 186) (st' := [ye_v 0]) rfl rfl rfl rfl rfl ?_
                            refine z_r_is (kk := z_isI) (ins := (.istore_n 3)) (len := 1) (t := 187) (i := 3) rfl rfl rfl rfl rfl rfl rfl rfl (fun l l_190 k_191 => ?_)
                            have l_192 := k_191 _ _ l_26 (by decide) (Or.inl (by decide))
                            have l_193 := k_191 _ _ l_27 (by decide) (Or.inl (by decide))
                            have l_194 := k_191 _ _ l_24 (by decide) (Or.inr (by show (1 : Nat) ≠ 2; decide))
                            exact yg_t2 (P0 := P) (F0 := F) c_5 fM (by rw [k_7, show q_3 = h by omega]) f_14 f_15 f_16 f_17 o_10 f_18 (by omega) l_192 l_190 (by omega) (by omega) (by omega) (by omega)
                          · skip
                            refine z_r_jm (ins := (.if_icmp .ne 7)) (len := 3) (t := 181) rfl rfl rfl rfl (ye_jn (t := 185) rfl (by omega) (by omega) (by omega) (by omega) b_189) ?_
                            refine z_r_pu (ins := (.iconst 1)) (len := 1) (t := 182) (st' := [ye_v 1]) rfl rfl rfl rfl rfl ?_
                            refine z_r_jm (ins := (.goto 4)) (len := 3) (t := 186) rfl rfl rfl rfl (z_gty rfl) ?_
                            refine z_r_is (kk := z_isI) (ins := (.istore_n 3)) (len := 1) (t := 187) (i := 3) rfl rfl rfl rfl rfl rfl rfl rfl (fun l l_195 k_196 => ?_)
                            have l_197 := k_196 _ _ l_26 (by decide) (Or.inl (by decide))
                            have l_198 := k_196 _ _ l_27 (by decide) (Or.inl (by decide))
                            have l_199 := k_196 _ _ l_24 (by decide) (Or.inr (by show (1 : Nat) ≠ 2; decide))
                            exact yg_t2 (P0 := P) (F0 := F) c_5 fM (by rw [k_7, show q_3 = h by omega]) f_14 f_15 f_16 f_17 o_10 f_18 (by omega) l_197 l_195 (by omega) (by omega) (by omega) (by omega)
          · skip
            refine z_r_jm (ins := (.ifCond .eq 41)) (len := 3) (t := 95) rfl rfl rfl rfl (ye_in (t := 133) rfl (by omega) (by omega) b_146) ?_
            refine z_r_ld (kk := z_isI) (ins := (.iload_n 2)) (len := 1) (t := 96) (i := 2) rfl rfl rfl rfl rfl (fun _ => rfl) l_24 rfl ?_
            refine z_r_pu (ins := (.bipush 119)) (len := 2) (t := 98) rfl rfl rfl rfl (ye_bi (by decide) (by decide)) ?_
            by_cases b_200 : e_22 = 119
            · skip
              refine z_r_jm (ins := (.if_icmp .eq 27)) (len := 3) (t := 125) rfl rfl rfl rfl (ye_jy (t := 125) rfl (by omega) (by omega) (by omega) (by omega) b_200) ?_
              refine z_r_pu (ins := (.iconst 1)) (len := 1) (t := 126) (st' := [ye_v 1]) rfl rfl rfl rfl rfl ?_
              refine z_r_jm (ins := (.goto 60)) (len := 3) (t := 186) rfl rfl rfl rfl (z_gty rfl) ?_
              refine z_r_is (kk := z_isI) (ins := (.istore_n 3)) (len := 1) (t := 187) (i := 3) rfl rfl rfl rfl rfl rfl rfl rfl (fun l l_201 k_202 => ?_)
              have l_203 := k_202 _ _ l_26 (by decide) (Or.inl (by decide))
              have l_204 := k_202 _ _ l_27 (by decide) (Or.inl (by decide))
              have l_205 := k_202 _ _ l_24 (by decide) (Or.inr (by show (1 : Nat) ≠ 2; decide))
              exact yg_t2 (P0 := P) (F0 := F) c_5 fM (by rw [k_7, show q_3 = h by omega]) f_14 f_15 f_16 f_17 o_10 f_18 (by omega) l_203 l_201 (by omega) (by omega) (by omega) (by omega)
            · skip
              refine z_r_jm (ins := (.if_icmp .eq 27)) (len := 3) (t := 101) rfl rfl rfl rfl (ye_jn (t := 125) rfl (by omega) (by omega) (by omega) (by omega) b_200) ?_
              refine z_r_ld (kk := z_isI) (ins := (.iload_n 2)) (len := 1) (t := 102) (i := 2) rfl rfl rfl rfl rfl (fun _ => rfl) l_24 rfl ?_
              refine z_r_pu (ins := (.bipush 122)) (len := 2) (t := 104) rfl rfl rfl rfl (ye_bi (by decide) (by decide)) ?_
              by_cases b_206 : e_22 = 122
              · skip
                refine z_r_jm (ins := (.if_icmp .eq 21)) (len := 3) (t := 125) rfl rfl rfl rfl (ye_jy (t := 125) rfl (by omega) (by omega) (by omega) (by omega) b_206) ?_
                refine z_r_pu (ins := (.iconst 1)) (len := 1) (t := 126) (st' := [ye_v 1]) rfl rfl rfl rfl rfl ?_
                refine z_r_jm (ins := (.goto 60)) (len := 3) (t := 186) rfl rfl rfl rfl (z_gty rfl) ?_
                refine z_r_is (kk := z_isI) (ins := (.istore_n 3)) (len := 1) (t := 187) (i := 3) rfl rfl rfl rfl rfl rfl rfl rfl (fun l l_207 k_208 => ?_)
                have l_209 := k_208 _ _ l_26 (by decide) (Or.inl (by decide))
                have l_210 := k_208 _ _ l_27 (by decide) (Or.inl (by decide))
                have l_211 := k_208 _ _ l_24 (by decide) (Or.inr (by show (1 : Nat) ≠ 2; decide))
                exact yg_t2 (P0 := P) (F0 := F) c_5 fM (by rw [k_7, show q_3 = h by omega]) f_14 f_15 f_16 f_17 o_10 f_18 (by omega) l_209 l_207 (by omega) (by omega) (by omega) (by omega)
              · skip
                refine z_r_jm (ins := (.if_icmp .eq 21)) (len := 3) (t := 107) rfl rfl rfl rfl (ye_jn (t := 125) rfl (by omega) (by omega) (by omega) (by omega) b_206) ?_
                refine z_r_ld (kk := z_isI) (ins := (.iload_n 2)) (len := 1) (t := 108) (i := 2) rfl rfl rfl rfl rfl (fun _ => rfl) l_24 rfl ?_
                refine z_r_pu (ins := (.bipush 100)) (len := 2) (t := 110) rfl rfl rfl rfl (ye_bi (by decide) (by decide)) ?_
                by_cases b_212 : e_22 = 100
                · skip
                  refine z_r_jm (ins := (.if_icmp .eq 15)) (len := 3) (t := 125) rfl rfl rfl rfl (ye_jy (t := 125) rfl (by omega) (by omega) (by omega) (by omega) b_212) ?_
                  refine z_r_pu (ins := (.iconst 1)) (len := 1) (t := 126) (st' := [ye_v 1]) rfl rfl rfl rfl rfl ?_
                  refine z_r_jm (ins := (.goto 60)) (len := 3) (t := 186) rfl rfl rfl rfl (z_gty rfl) ?_
                  refine z_r_is (kk := z_isI) (ins := (.istore_n 3)) (len := 1) (t := 187) (i := 3) rfl rfl rfl rfl rfl rfl rfl rfl (fun l l_213 k_214 => ?_)
                  have l_215 := k_214 _ _ l_26 (by decide) (Or.inl (by decide))
                  have l_216 := k_214 _ _ l_27 (by decide) (Or.inl (by decide))
                  have l_217 := k_214 _ _ l_24 (by decide) (Or.inr (by show (1 : Nat) ≠ 2; decide))
                  exact yg_t2 (P0 := P) (F0 := F) c_5 fM (by rw [k_7, show q_3 = h by omega]) f_14 f_15 f_16 f_17 o_10 f_18 (by omega) l_215 l_213 (by omega) (by omega) (by omega) (by omega)
                · skip
                  refine z_r_jm (ins := (.if_icmp .eq 15)) (len := 3) (t := 113) rfl rfl rfl rfl (ye_jn (t := 125) rfl (by omega) (by omega) (by omega) (by omega) b_212) ?_
                  refine z_r_ld (kk := z_isI) (ins := (.iload_n 2)) (len := 1) (t := 114) (i := 2) rfl rfl rfl rfl rfl (fun _ => rfl) l_24 rfl ?_
                  refine z_r_pu (ins := (.bipush 105)) (len := 2) (t := 116) rfl rfl rfl rfl (ye_bi (by decide) (by decide)) ?_
                  by_cases b_218 : e_22 = 105
                  · skip
                    refine z_r_jm (ins := (.if_icmp .eq 9)) (len := 3) (t := 125) rfl rfl rfl rfl (ye_jy (t := 125) rfl (by omega) (by omega) (by omega) (by omega) b_218) ?_
                    refine z_r_pu (ins := (.iconst 1)) (len := 1) (t := 126) (st' := [ye_v 1]) rfl rfl rfl rfl rfl ?_
                    refine z_r_jm (ins := (.goto 60)) (len := 3) (t := 186) rfl rfl rfl rfl (z_gty rfl) ?_
                    refine z_r_is (kk := z_isI) (ins := (.istore_n 3)) (len := 1) (t := 187) (i := 3) rfl rfl rfl rfl rfl rfl rfl rfl (fun l l_219 k_220 => ?_)
                    have l_221 := k_220 _ _ l_26 (by decide) (Or.inl (by decide))
                    have l_222 := k_220 _ _ l_27 (by decide) (Or.inl (by decide))
                    have l_223 := k_220 _ _ l_24 (by decide) (Or.inr (by show (1 : Nat) ≠ 2; decide))
                    exact yg_t2 (P0 := P) (F0 := F) c_5 fM (by rw [k_7, show q_3 = h by omega]) f_14 f_15 f_16 f_17 o_10 f_18 (by omega) l_221 l_219 (by omega) (by omega) (by omega) (by omega)
                  · skip
                    refine z_r_jm (ins := (.if_icmp .eq 9)) (len := 3) (t := 119) rfl rfl rfl rfl (ye_jn (t := 125) rfl (by omega) (by omega) (by omega) (by omega) b_218) ?_
                    refine z_r_ld (kk := z_isI) (ins := (.iload_n 2)) (len := 1) (t := 120) (i := 2) rfl rfl rfl rfl rfl (fun _ => rfl) l_24 rfl ?_
                    refine z_r_pu (ins := (.bipush 107)) (len := 2) (t := 122) rfl rfl rfl rfl (ye_bi (by decide) (by decide)) ?_
                    by_cases b_224 : e_22 ≠ 107
                    · skip
                      refine z_r_jm (ins := (.if_icmp .ne 7)) (len := 3) (t := 129) rfl rfl rfl rfl (ye_jy (t := 129) rfl (by omega) (by omega) (by omega) (by omega) b_224) ?_
                      refine z_r_pu (ins := (.iconst 0)) (len := 1) (t := 130) (st' := [ye_v 0]) rfl rfl rfl rfl rfl ?_
                      refine z_r_jm (ins := (.goto 56)) (len := 3) (t := 186) rfl rfl rfl rfl (z_gty rfl) ?_
                      refine z_r_is (kk := z_isI) (ins := (.istore_n 3)) (len := 1) (t := 187) (i := 3) rfl rfl rfl rfl rfl rfl rfl rfl (fun l l_225 k_226 => ?_)
                      have l_227 := k_226 _ _ l_26 (by decide) (Or.inl (by decide))
                      have l_228 := k_226 _ _ l_27 (by decide) (Or.inl (by decide))
                      have l_229 := k_226 _ _ l_24 (by decide) (Or.inr (by show (1 : Nat) ≠ 2; decide))
                      exact yg_t2 (P0 := P) (F0 := F) c_5 fM (by rw [k_7, show q_3 = h by omega]) f_14 f_15 f_16 f_17 o_10 f_18 (by omega) l_227 l_225 (by omega) (by omega) (by omega) (by omega)
                    · skip
                      refine z_r_jm (ins := (.if_icmp .ne 7)) (len := 3) (t := 125) rfl rfl rfl rfl (ye_jn (t := 129) rfl (by omega) (by omega) (by omega) (by omega) b_224) ?_
                      refine z_r_pu (ins := (.iconst 1)) (len := 1) (t := 126) (st' := [ye_v 1]) rfl rfl rfl rfl rfl ?_
                      refine z_r_jm (ins := (.goto 60)) (len := 3) (t := 186) rfl rfl rfl rfl (z_gty rfl) ?_
                      refine z_r_is (kk := z_isI) (ins := (.istore_n 3)) (len := 1) (t := 187) (i := 3) rfl rfl rfl rfl rfl rfl rfl rfl (fun l l_230 k_231 => ?_)
                      have l_232 := k_231 _ _ l_26 (by decide) (Or.inl (by decide))
                      have l_233 := k_231 _ _ l_27 (by decide) (Or.inl (by decide))
                      have l_234 := k_231 _ _ l_24 (by decide) (Or.inr (by show (1 : Nat) ≠ 2; decide))
                      exact yg_t2 (P0 := P) (F0 := F) c_5 fM (by rw [k_7, show q_3 = h by omega]) f_14 f_15 f_16 f_17 o_10 f_18 (by omega) l_232 l_230 (by omega) (by omega) (by omega) (by omega)
        · skip
          refine z_r_jm (ins := (.ifCond .eq 13)) (len := 3) (t := 78) rfl rfl rfl rfl (ye_in (t := 88) rfl (by omega) (by omega) b_145) ?_
          refine z_r_ld (kk := z_isA) (ins := (.aload_n 0)) (len := 1) (t := 79) (i := 0) rfl rfl rfl rfl rfl (fun _ => rfl) l_26 rfl ?_
          refine z_r_pu (ins := (.iconst 3)) (len := 1) (t := 80) (st' := [ye_v 3, .ref aM]) rfl rfl rfl rfl rfl ?_
          refine z_r_pu (ins := (.iconst 0)) (len := 1) (t := 81) (st' := [ye_v 0, ye_v 3, .ref aM]) rfl rfl rfl rfl rfl ?_
          refine z_r_pu (ins := (.sipush 999)) (len := 3) (t := 84) rfl rfl rfl rfl (ye_si (by decide) (by decide)) ?_
          refine ye_ca (ins := (.invokevirtual 179)) (kd := 1) (t := 87) rfl rfl (by decide) (z_argsv rfl rfl rfl (by omega) (Nat.le_of_ble_eq_true rfl) rfl (Nat.le_of_ble_eq_true rfl) (Nat.le_refl _) (Nat.le_refl _) (Or.inr (Nat.le_of_ble_eq_true rfl)) (Or.inr (z_atv (z_lkn fM c_5) rfl))) rfl rfl rfl (ye_mnum (lim := lim) (k := 3) c_5 fM f_11 f_12 f_13 k_7 f_14 c_9 fB hx (by omega) (by omega) (by omega) (by omega) (by decide) (by decide) (by omega)) ?_
          rintro _ P_239 ⟨v_235, F_236, q_237, w_238, rfl, c_240, f_241, k_242, k_243, o_244, b_245, b_246, hn1⟩
          have bdn1 := yq_num_bd (T := T) (lim := lim) (p := q_3) (lo := 0) (hi := 999) (k := 3) (by decide) (by omega)
          generalize en1 : yq_num T lim 3 0 999 (q_3) = n1 at bdn1 hn1
          have c_247 := ye_kp o_244 (ye_n1 (ye_ne c_9 c_5 (by decide))) c_9
          have o_248 := ye_oth_tr o_10 o_244 (ye_s1 (List.mem_cons_self))
          have f_249 : F_236 15 = .ref aB := (f_241 15 (by decide)).trans f_11
          have f_250 : F_236 16 = ye_v sz := (f_241 16 (by decide)).trans f_12
          have f_251 : F_236 17 = ye_v tp := (f_241 17 (by decide)).trans f_13
          have f_252 : F_236 29 = ye_v il := (f_241 29 (by decide)).trans f_15
          have f_253 : F_236 31 = ye_v ((-1)) := (f_241 31 (by decide)).trans f_16
          have f_254 : F_236 32 = ye_v ((-1)) := (f_241 32 (by decide)).trans f_17
          have f_255 := ye_fk_tr f_18 f_241 (by decide)
          have bwn1 : -1 ≤ w_238 ∧ w_238 ≤ 80 := by omega
          refine ye_ret (ins := .ireturn) rfl rfl rfl (ye_reti rfl) ?_
          have eN : yq_num T lim 3 0 999 h = n1 := by rw [← en1, show h = q_3 by omega]
          have hlm : yl T lim L h = -1 := by omega
          rcases hn1 with ⟨g, -⟩ | ⟨-, g1, g2, g3, g4⟩ | ⟨-, g1, g2, g3⟩
          · omega
          · have eL : yf T lim L (k + 1) 3 dp h = (true, n1.2.1) := by
              rw [yf_3, if_neg (by omega)]
              unfold yg_b
              rw [if_neg (by omega), if_neg (by omega), eN, g1]
            rw [eL]
            exact ⟨_, _, q_237, w_238, rfl, c_240, f_255, k_242, k_243, o_248, by omega, by omega, Or.inl ⟨by omega, rfl, by show q_237 = n1.2.1; omega⟩⟩
          · have eL : yf T lim L (k + 1) 3 dp h = (false, n1.2.1) := by
              rw [yf_3, if_neg (by omega)]
              unfold yg_b
              rw [if_neg (by omega), if_neg (by omega), eN, g1]
            rw [eL]
            exact ⟨_, _, q_237, w_238, rfl, c_240, f_255, k_242, k_243, o_248, by omega, by omega, Or.inr ⟨rfl, by show w_238 = n1.2.1; omega⟩⟩
      · skip
        refine z_r_jm (ins := (.if_icmp .ge 29)) (len := 3) (t := 41) rfl rfl rfl rfl (ye_jn (t := 67) rfl (by omega) (by omega) (by omega) (by omega) b_142) ?_
        refine z_r_ld (kk := z_isA) (ins := (.aload_n 0)) (len := 1) (t := 42) (i := 0) rfl rfl rfl rfl rfl (fun _ => rfl) l_26 rfl ?_
        refine z_r_pu (ins := .dup) (len := 1) (t := 43) rfl rfl rfl rfl rfl ?_
        refine z_r_rd (ins := (.getfield 153)) (len := 3) (t := 46) rfl rfl rfl rfl rfl (z_gfv (ci := 10) (k := 18) (v := ye_v q_3) rfl (z_lkn fM c_5) (by decide) (ye_flg rfl k_7)) ?_
        refine z_r_pu (ins := (.iconst 1)) (len := 1) (t := 47) (st' := [ye_v 1, ye_v q_3, .ref aM]) rfl rfl rfl rfl rfl ?_
        refine z_r_pu (ins := .iadd) (len := 1) (t := 48) rfl rfl rfl rfl ye_add ?_
        refine ye_r_wr (ins := (.putfield 153)) (len := 3) (t := 51) (a := aM) (q := (10, ye_fl (ye_up F_2 18 (ye_v (q_3 + 1))))) rfl rfl rfl rfl rfl c_5 (ye_pfm (k := 18) rfl c_5 rfl rfl rfl rfl) (fun P_256 c_257 o_258 => ?_)
        have c_259 := ye_kp o_258 (ye_n1 (ye_ne c_9 c_5 (by decide))) c_9
        have o_260 := ye_oth_tr o_10 o_258 (ye_s1 (List.mem_cons_self))
        have f_261 := ye_fk_up (j := 18) (v := ye_v (q_3 + 1)) f_18 (List.mem_cons_self)
        refine z_r_ld (kk := z_isA) (ins := (.aload_n 0)) (len := 1) (t := 52) (i := 0) rfl rfl rfl rfl rfl (fun _ => rfl) l_26 rfl ?_
        refine z_r_ld (kk := z_isI) (ins := (.iload_n 1)) (len := 1) (t := 53) (i := 1) rfl rfl rfl rfl rfl (fun _ => rfl) l_27 rfl ?_
        refine z_r_pu (ins := (.iconst 1)) (len := 1) (t := 54) (st' := [ye_v 1, ye_v dp, .ref aM]) rfl rfl rfl rfl rfl ?_
        refine z_r_pu (ins := .iadd) (len := 1) (t := 55) rfl rfl rfl rfl ye_add ?_
        refine ye_ca (ins := (.invokevirtual 214)) (kd := 1) (t := 58) rfl rfl (by decide) (z_argsv rfl rfl rfl (by omega) (Nat.le_of_ble_eq_true rfl) rfl (Nat.le_of_ble_eq_true rfl) (Nat.le_refl _) (Nat.le_refl _) (Or.inr (Nat.le_of_ble_eq_true rfl)) (Or.inr (z_atv (z_lkn fM c_257) rfl))) rfl rfl rfl (H0 _ _ _ _ _ c_257 f_11 f_12 f_13 rfl f_14 f_15 f_16 f_17 c_259 (by omega) (by omega) (by omega) (by omega)) ?_
        rintro _ P_262 ⟨v_263, F_264, q_265, w_266, rfl, c_267, f_268, k_269, k_270, o_271, b_272, b_273, h_274⟩
        have d_276 := yf_bd (T := T) (L := L) (lim := lim) k 0 (dp + 1) (q_3 + 1) (by omega)
        generalize er_275 : yf T lim L k 0 (dp + 1) (q_3 + 1) = r_275 at h_274 d_276
        have c_277 := ye_kp o_271 (ye_n1 (ye_ne c_259 c_257 (by decide))) c_259
        have o_278 := ye_oth_tr o_260 o_271 (ye_s1 (List.mem_cons_self))
        have f_279 : F_264 15 = .ref aB := (f_268 15 (by decide)).trans f_11
        have f_280 : F_264 16 = ye_v sz := (f_268 16 (by decide)).trans f_12
        have f_281 : F_264 17 = ye_v tp := (f_268 17 (by decide)).trans f_13
        have f_282 : F_264 29 = ye_v il := (f_268 29 (by decide)).trans f_15
        have f_283 : F_264 31 = ye_v ((-1)) := (f_268 31 (by decide)).trans f_16
        have f_284 : F_264 32 = ye_v ((-1)) := (f_268 32 (by decide)).trans f_17
        have f_285 := ye_fk_tr f_261 f_268 (by decide)
        have b_286 : -1 ≤ w_266 ∧ w_266 ≤ 80 := by omega
        refine z_r_is (kk := z_isI) (ins := (.istore_n 3)) (len := 1) (t := 59) (i := 3) rfl rfl rfl rfl rfl rfl rfl rfl (fun l l_287 k_288 => ?_)
        have l_289 := k_288 _ _ l_26 (by decide) (Or.inl (by decide))
        have l_290 := k_288 _ _ l_27 (by decide) (Or.inl (by decide))
        have l_291 := k_288 _ _ l_24 (by decide) (Or.inr (by show (1 : Nat) ≠ 2; decide))
        refine z_r_ld (kk := z_isA) (ins := (.aload_n 0)) (len := 1) (t := 60) (i := 0) rfl rfl rfl rfl rfl (fun _ => rfl) l_289 rfl ?_
        refine z_r_pu (ins := (.bipush 41)) (len := 2) (t := 62) rfl rfl rfl rfl (ye_bi (by decide) (by decide)) ?_
        refine ye_cav (ins := (.invokevirtual 183)) (kd := 1) (t := 65) rfl rfl (by decide) (z_argsv rfl rfl rfl (by omega) (Nat.le_of_ble_eq_true rfl) rfl (Nat.le_of_ble_eq_true rfl) (Nat.le_refl _) (Nat.le_refl _) (Or.inr (Nat.le_of_ble_eq_true rfl)) (Or.inr (z_atv (z_lkn fM c_267) rfl))) rfl rfl rfl rfl (ye_need (lim := lim) c_267 fM f_279 f_280 f_281 k_269 k_270 c_277 fB hx (by omega) (by omega) (by omega) (by omega)) ?_
        rintro _ P_296 ⟨F_293, q_294, w_295, c_297, f_298, k_299, k_300, o_301, ht_292⟩
        have c_302 := ye_kp o_301 (ye_n1 (ye_ne c_277 c_267 (by decide))) c_277
        have o_303 := ye_oth_tr o_278 o_301 (ye_s1 (List.mem_cons_self))
        have f_304 : F_293 15 = .ref aB := (f_298 15 (by decide)).trans f_279
        have f_305 : F_293 16 = ye_v sz := (f_298 16 (by decide)).trans f_280
        have f_306 : F_293 17 = ye_v tp := (f_298 17 (by decide)).trans f_281
        have f_307 : F_293 29 = ye_v il := (f_298 29 (by decide)).trans f_282
        have f_308 : F_293 31 = ye_v ((-1)) := (f_298 31 (by decide)).trans f_283
        have f_309 : F_293 32 = ye_v ((-1)) := (f_298 32 (by decide)).trans f_284
        have f_310 := ye_fk_tr f_285 f_298 (by decide)
        refine z_r_ld (kk := z_isI) (ins := (.iload_n 3)) (len := 1) (t := 66) (i := 3) rfl rfl rfl rfl rfl (fun _ => rfl) l_287 rfl ?_
        refine ye_ret (ins := .ireturn) rfl rfl rfl (ye_reti0 rfl) ?_
        have eq0 : yf T lim L k 0 (dp + 1) (h + 1) = r_275 := by rw [← er_275, show h + 1 = q_3 + 1 by omega]
        have hop : (h < lim ∧ T h = 40) ∧ dp < 4 := by omega
        rcases h_274 with ⟨g1, g2, g3⟩ | ⟨g1, g2⟩
        · have zz : T r_275.2 = T q_265 := by rw [← g3]
          by_cases hc : r_275.2 < lim ∧ T r_275.2 = 41
          · skip
            have eL : yf T lim L (k + 1) 3 dp h = (true, r_275.2 + 1) := by
              rw [yf_3, if_neg (by omega)]
              unfold yg_b
              rw [if_pos hop, eq0, if_pos g2, if_pos hc]
            rw [eL]
            exact ⟨v_263, _, q_294, w_295, rfl, c_297, f_310, k_299, k_300, o_303, by omega, by omega, Or.inl ⟨by omega, rfl, by show q_294 = r_275.2 + 1; omega⟩⟩
          · skip
            have eL : yf T lim L (k + 1) 3 dp h = (false, r_275.2) := by
              rw [yf_3, if_neg (by omega)]
              unfold yg_b
              rw [if_pos hop, eq0, if_pos g2, if_neg hc]
            rw [eL]
            exact ⟨v_263, _, q_294, w_295, rfl, c_297, f_310, k_299, k_300, o_303, by omega, by omega, Or.inr ⟨rfl, by show w_295 = r_275.2; omega⟩⟩
        · skip
          have eL : yf T lim L (k + 1) 3 dp h = (false, r_275.2) := by
            rw [yf_3, if_neg (by omega)]
            unfold yg_b
            rw [if_pos hop, eq0, if_neg (by rw [g1]; decide)]
          rw [eL]
          exact ⟨v_263, _, q_294, w_295, rfl, c_297, f_310, k_299, k_300, o_303, by omega, by omega, Or.inr ⟨rfl, by show w_295 = r_275.2; omega⟩⟩
  · skip
    refine z_r_jm (ins := (.ifCond .eq 10)) (len := 3) (t := 9) rfl rfl rfl rfl (ye_in (t := 16) rfl (by omega) (by omega) b_19) ?_
    refine z_r_ld (kk := z_isA) (ins := (.aload_n 0)) (len := 1) (t := 10) (i := 0) rfl rfl rfl rfl rfl (fun _ => rfl) a0 rfl ?_
    refine z_r_ld (kk := z_isI) (ins := (.iload_n 1)) (len := 1) (t := 11) (i := 1) rfl rfl rfl rfl rfl (fun _ => rfl) a1 rfl ?_
    refine ye_ca (ins := (.invokevirtual 211)) (kd := 1) (t := 14) rfl rfl (by decide) (z_argsv rfl rfl rfl (by omega) (Nat.le_of_ble_eq_true rfl) rfl (Nat.le_of_ble_eq_true rfl) (Nat.le_refl _) (Nat.le_refl _) (Or.inr (Nat.le_of_ble_eq_true rfl)) (Or.inr (z_atv (z_lkn fM c_5) rfl))) rfl rfl rfl (H3 _ _ _ _ _ c_5 f_11 f_12 f_13 k_7 f_14 f_15 f_16 f_17 c_9 (by omega) (by omega) (by omega) (by omega)) ?_
    rintro _ P_311 ⟨v_312, F_313, q_314, w_315, rfl, c_316, f_317, k_318, k_319, o_320, b_321, b_322, h_323⟩
    have d_325 := yf_bd (T := T) (L := L) (lim := lim) k 3 dp q_3 (by omega)
    generalize er_324 : yf T lim L k 3 dp q_3 = r_324 at h_323 d_325
    have c_326 := ye_kp o_320 (ye_n1 (ye_ne c_9 c_5 (by decide))) c_9
    have o_327 := ye_oth_tr o_10 o_320 (ye_s1 (List.mem_cons_self))
    have f_328 : F_313 15 = .ref aB := (f_317 15 (by decide)).trans f_11
    have f_329 : F_313 16 = ye_v sz := (f_317 16 (by decide)).trans f_12
    have f_330 : F_313 17 = ye_v tp := (f_317 17 (by decide)).trans f_13
    have f_331 : F_313 29 = ye_v il := (f_317 29 (by decide)).trans f_15
    have f_332 : F_313 31 = ye_v ((-1)) := (f_317 31 (by decide)).trans f_16
    have f_333 : F_313 32 = ye_v ((-1)) := (f_317 32 (by decide)).trans f_17
    have f_334 := ye_fk_tr f_18 f_317 (by decide)
    have b_335 : -1 ≤ w_315 ∧ w_315 ≤ 80 := by omega
    refine z_r_pu (ins := .ineg) (len := 1) (t := 15) (st' := [.int (-v_312)]) rfl rfl rfl rfl rfl ?_
    refine ye_ret (ins := .ireturn) rfl rfl rfl (ye_reti0 rfl) ?_
    have eL : yf T lim L (k + 1) 3 dp h = r_324 := by
      rw [yf_3, if_pos (by omega), show h + 1 = q_3 by omega, er_324]
    rw [eL]
    exact ⟨(-v_312), _, q_314, w_315, rfl, c_316, f_334, k_318, k_319, o_327, by omega, by omega, h_323⟩
end YGMT
