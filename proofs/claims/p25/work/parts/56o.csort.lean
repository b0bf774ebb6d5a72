/-! A LINE of a SORT, the class, exactly. -/
section YCSO
/-- rows of ints told up to n -/
def ye_arr (f : Int → Int) (n : Int) (vs : List Value) : Prop := vs.length = 10 ∧ ∀ i, 0 ≤ i → i < n → vs[i.toNat]? = some (ye_v (f i))
theorem ye_arr_put {f : Int → Int} {n v : Int} {vs : List Value} (h : ye_arr f n vs) (h0 : 0 ≤ n) (h1 : n < 10) : ye_arr (ye_put f n v) (n + 1) (vs.set n.toNat (ye_v v)) := by
  refine ⟨by rw [List.length_set]; exact h.1, fun i i0 i1 => ?_⟩
  unfold ye_put
  by_cases hi : i = n
  · subst hi
    rw [if_pos rfl]
    exact List.getElem?_set_self (by rw [h.1]; omega)
  · rw [if_neg hi]
    exact (List.getElem?_set_ne (by omega)).trans (h.2 i i0 (by omega))
theorem ye_arr_keep {f : Int → Int} {n : Int} {vs : List Value} {w : Value} (h : ye_arr f n vs) (h0 : 0 ≤ n) : ye_arr f n (vs.set n.toNat w) := ⟨by rw [List.length_set]; exact h.1, fun i i0 i1 => (List.getElem?_set_ne (by omega)).trans (h.2 i i0 i1)⟩
theorem ye_arr_le {f : Int → Int} {n m : Int} {vs : List Value} (h : ye_arr f n vs) (hm : m ≤ n) : ye_arr f m vs := ⟨h.1, fun i i0 i1 => h.2 i i0 (by omega)⟩
theorem ye_arr_eq {f g : Int → Int} {n : Int} {vs : List Value} (h : ye_arr f n vs) (hg : ∀ i, 0 ≤ i → i < n → f i = g i) : ye_arr g n vs := ⟨h.1, fun i i0 i1 => by rw [← hg i i0 i1]; exact h.2 i i0 i1⟩
/-- a LINE of a SORT from its letter on: whether, the place then; what it tells -/
def yb_k (T : Int → Int) (lim p : Int) : Int := if p < lim then yi_fr [99, 104, 119, 115] (T p) 0 else -1
def yb_n1 (T : Int → Int) (lim p : Int) : Bool × Int × Int := yq_num T lim 2 1 99 (p + 1)
def yb_n2 (T : Int → Int) (lim p : Int) : Bool × Int × Int := yq_num T lim 2 1 60 ((yb_n1 T lim p).2.1 + 1)
def yb_n3 (T : Int → Int) (lim p : Int) : Bool × Int × Int := yq_num T lim 2 0 60 ((yb_n2 T lim p).2.1 + 1)
def yb_n4 (T : Int → Int) (lim p : Int) : Bool × Int × Int := yq_num T lim 3 0 999 ((yb_n3 T lim p).2.1 + 1)
def yb_s4 (T : Int → Int) (lim p : Int) : Bool × Int := ((yb_n4 T lim p).1, (yb_n4 T lim p).2.1)
def yb_s3 (T : Int → Int) (lim p : Int) : Bool × Int := if (yb_n3 T lim p).1 = true then (if (yb_n3 T lim p).2.1 < lim ∧ T (yb_n3 T lim p).2.1 = 42 then yb_s4 T lim p else (false, (yb_n3 T lim p).2.1)) else (false, (yb_n3 T lim p).2.1)
def yb_s2 (T : Int → Int) (lim p : Int) : Bool × Int := if (yb_n2 T lim p).1 = true then (if (yb_n2 T lim p).2.1 < lim ∧ T (yb_n2 T lim p).2.1 = 44 then yb_s3 T lim p else (false, (yb_n2 T lim p).2.1)) else (false, (yb_n2 T lim p).2.1)
def yb_s1 (T : Int → Int) (lim p : Int) : Bool × Int := if (yb_n1 T lim p).1 = true then (if (yb_n1 T lim p).2.1 < lim ∧ T (yb_n1 T lim p).2.1 = 44 then yb_s2 T lim p else (false, (yb_n1 T lim p).2.1)) else (false, (yb_n1 T lim p).2.1)
def yb_so (T : Int → Int) (lim p : Int) : Bool × Int := if yb_k T lim p = -1 then (false, p) else yb_s1 T lim p
theorem yb_so_bd {T : Int → Int} {lim p : Int} (hp : p ≤ lim) : p ≤ (yb_so T lim p).2 ∧ (yb_so T lim p).2 ≤ lim ∧ ((yb_so T lim p).1 = true → p + 2 ≤ (yb_so T lim p).2) := by
  unfold yb_so
  split
  · exact ⟨Int.le_refl _, hp, fun h => (by cases h)⟩
  · rename_i hk
    have hlt : p < lim := by
      refine Int.not_le.mp fun q => hk ?_
      unfold yb_k
      rw [if_neg (by omega)]
    have b1 := yq_num_bd (T := T) (lim := lim) (p := p + 1) (lo := 1) (hi := 99) (k := 2) (by decide) (by omega)
    unfold yb_s1
    change p + 1 ≤ (yb_n1 T lim p).2.1 ∧ (yb_n1 T lim p).2.1 ≤ lim ∧ (yb_n1 T lim p).2.1 ≤ p + 1 + (2 : Nat) ∧ ((yb_n1 T lim p).1 = true → p + 1 < (yb_n1 T lim p).2.1) ∧ _ ∧ _ at b1
    obtain ⟨b11, b12, b13, b14, -⟩ := b1
    split
    · rename_i h1
      have b14 := b14 h1
      split
      · rename_i c1
        have b2 := yq_num_bd (T := T) (lim := lim) (p := (yb_n1 T lim p).2.1 + 1) (lo := 1) (hi := 60) (k := 2) (by decide) (by omega)
        unfold yb_s2
        change (yb_n1 T lim p).2.1 + 1 ≤ (yb_n2 T lim p).2.1 ∧ (yb_n2 T lim p).2.1 ≤ lim ∧ _ at b2
        obtain ⟨b21, b22, -⟩ := b2
        split
        · split
          · rename_i c2
            have b3 := yq_num_bd (T := T) (lim := lim) (p := (yb_n2 T lim p).2.1 + 1) (lo := 0) (hi := 60) (k := 2) (by decide) (by omega)
            unfold yb_s3
            change (yb_n2 T lim p).2.1 + 1 ≤ (yb_n3 T lim p).2.1 ∧ (yb_n3 T lim p).2.1 ≤ lim ∧ _ at b3
            obtain ⟨b31, b32, -⟩ := b3
            split
            · split
              · rename_i c3
                have b4 := yq_num_bd (T := T) (lim := lim) (p := (yb_n3 T lim p).2.1 + 1) (lo := 0) (hi := 999) (k := 3) (by decide) (by omega)
                unfold yb_s4
                change (yb_n3 T lim p).2.1 + 1 ≤ (yb_n4 T lim p).2.1 ∧ (yb_n4 T lim p).2.1 ≤ lim ∧ _ at b4
                obtain ⟨b41, b42, -⟩ := b4
                exact ⟨by show p ≤ (yb_n4 T lim p).2.1; omega, b42, fun _ => by show p + 2 ≤ (yb_n4 T lim p).2.1; omega⟩
              · exact ⟨by show p ≤ (yb_n3 T lim p).2.1; omega, b32, fun h => (by cases h)⟩
            · exact ⟨by show p ≤ (yb_n3 T lim p).2.1; omega, b32, fun h => (by cases h)⟩
          · exact ⟨by show p ≤ (yb_n2 T lim p).2.1; omega, b22, fun h => (by cases h)⟩
        · exact ⟨by show p ≤ (yb_n2 T lim p).2.1; omega, b22, fun h => (by cases h)⟩
      · exact ⟨by show p ≤ (yb_n1 T lim p).2.1; omega, b12, fun h => (by cases h)⟩
    · exact ⟨by show p ≤ (yb_n1 T lim p).2.1; omega, b12, fun h => (by cases h)⟩
variable {xs : List Int32} {d aS aT aN aK aW aZ aD aM aE aF aC sA sB : Nat} {P : z_H} {vs kv wv zv dv mv : List Value} {T kd wt sz dr mn : Int → Int} {len p lim mo s so ya ytb sdb : Int} {l : z_L} {Ψ : z_S → Prop}
theorem ye_lk0 {xs : List Int32} {P : z_H} : z_lk (z_strs (z_G xs)) P (z_far + 0) = some (98, [.ref (z_far + 1), ye_v 0]) := by
  unfold z_lk
  rw [if_neg (Nat.not_lt.mpr (Nat.le_add_right _ _)), Nat.add_sub_cancel_left]
  rfl
theorem ye_lk1 {xs : List Int32} {P : z_H} : z_lk (z_strs (z_G xs)) P (z_far + 1) = some (101, ([99, 104, 119, 115] : List Int).map ye_v) := by
  unfold z_lk
  rw [if_neg (Nat.not_lt.mpr (Nat.le_add_right _ _)), Nat.add_sub_cancel_left]
  rfl
set_option maxHeartbeats 8000000 in
theorem ye_rsort (hS : P[aS]? = some (1, [.ref aT, ye_v len, ye_v p, ye_v lim, ye_v mo])) (fS : aS < z_far) (hT : P[aT]? = some (102, vs)) (fT : aT < z_far) (hx : ye_tx T len 0 255 vs) (hb : 0 ≤ p ∧ p ≤ lim ∧ lim ≤ len ∧ len ≤ 80)
    (hN : P[aN]? = some (3, [.ref aK, .ref aW, .ref aZ, .ref aD, .ref aM, ye_v so, ye_v ya, ye_v s, ye_v ytb, ye_v sdb, .ref aE, .ref aF, .ref aC])) (fN : aN < z_far) (hK : P[aK]? = some (103, kv)) (fK : aK < z_far) (hW : P[aW]? = some (103, wv)) (fW : aW < z_far) (hZ : P[aZ]? = some (103, zv)) (fZ : aZ < z_far) (hD : P[aD]? = some (103, dv)) (fD : aD < z_far) (hM : P[aM]? = some (103, mv)) (fM : aM < z_far)
    (n01 : aK ≠ aW) (n02 : aK ≠ aZ) (n03 : aK ≠ aD) (n04 : aK ≠ aM) (n12 : aW ≠ aZ) (n13 : aW ≠ aD) (n14 : aW ≠ aM) (n23 : aZ ≠ aD) (n24 : aZ ≠ aM) (n34 : aD ≠ aM)
    (yK : ye_arr kd s kv) (yW : ye_arr wt s wv) (yZ : ye_arr sz s zv) (yD : ye_arr dr s dv) (yM : ye_arr mn s mv)
    (hs : 0 ≤ s ∧ s < 10) (hd : 5 ≤ d) : ye_X xs d 24 [.ref aN, .ref aS, ye_v s] P (fun r P' => ∃ b kv' wv' zv' dv' mv' stb', r = some (ye_v b) ∧ P'[aS]? = some (1, [.ref aT, ye_v len, ye_v (yb_so T lim p).2, ye_v lim, ye_v mo]) ∧ P'[aN]? = some (3, [.ref aK, .ref aW, .ref aZ, .ref aD, .ref aM, ye_v so, ye_v ya, ye_v stb', ye_v ytb, ye_v sdb, .ref aE, .ref aF, .ref aC]) ∧ P'[aK]? = some (103, kv') ∧ P'[aW]? = some (103, wv') ∧ P'[aZ]? = some (103, zv') ∧ P'[aD]? = some (103, dv') ∧ P'[aM]? = some (103, mv') ∧ ye_oth [aS, aN, aK, aW, aZ, aD, aM] P P' ∧ ((b = 1 ∧ (yb_so T lim p).1 = true ∧ stb' = s + 1 ∧ ye_arr (ye_put kd s (yb_k T lim p)) (s + 1) kv' ∧ ye_arr (ye_put wt s (yb_n1 T lim p).2.2) (s + 1) wv' ∧ ye_arr (ye_put sz s (yb_n2 T lim p).2.2) (s + 1) zv' ∧ ye_arr (ye_put dr s (yb_n3 T lim p).2.2) (s + 1) dv' ∧ ye_arr (ye_put mn s (yb_n4 T lim p).2.2) (s + 1) mv') ∨ (b = 0 ∧ (yb_so T lim p).1 = false ∧ stb' = s ∧ ye_arr kd s kv' ∧ ye_arr wt s wv' ∧ ye_arr sz s zv' ∧ ye_arr dr s dv' ∧ ye_arr mn s mv'))) := by
  refine ye_go ?_
  have a0 : z_get (lv_args 0 [.ref aN, .ref aS, ye_v s]) 0 = some (.ref aN) := rfl
  have a1 : z_get (lv_args 0 [.ref aN, .ref aS, ye_v s]) 1 = some (.ref aS) := rfl
  have a2 : z_get (lv_args 0 [.ref aN, .ref aS, ye_v s]) 2 = some (ye_v s) := rfl
  have ho0 : ye_oth [aS, aN, aK, aW, aZ, aD, aM] P P := ye_oth_rf
  refine z_r_ld (kk := z_isA) (ins := (.aload_n 0)) (len := 1) (t := 1) (i := 0) rfl rfl rfl rfl rfl (fun _ => rfl) a0 rfl ?_
  refine z_r_rd (ins := (.getfield 9)) (len := 3) (t := 4) rfl rfl rfl rfl rfl (z_gfv (ci := 3) (k := 0) (v := .ref aK) rfl (z_lkn fN hN) (by decide) rfl) ?_
  refine z_r_ld (kk := z_isI) (ins := (.iload_n 2)) (len := 1) (t := 5) (i := 2) rfl rfl rfl rfl rfl (fun _ => rfl) a2 rfl ?_
  refine z_r_ld (kk := z_isA) (ins := (.aload_n 1)) (len := 1) (t := 6) (i := 1) rfl rfl rfl rfl rfl (fun _ => rfl) a1 rfl ?_
  refine z_r_cs (ins := (.ldc 89)) (len := 2) (t := 8) (v := .ref (z_far + 0)) rfl rfl rfl rfl rfl rfl ?_
  refine ye_ca (ins := (.invokevirtual 91)) (kd := 1) (t := 11) rfl rfl (by decide) (z_argsv rfl rfl rfl (by omega) (Nat.le_of_ble_eq_true rfl) rfl (Nat.le_of_ble_eq_true rfl) (Nat.le_refl _) (Nat.le_refl _) (Or.inr (Nat.le_of_ble_eq_true rfl)) (Or.inr (z_atv (z_lkn fS hS) rfl))) rfl rfl rfl (ye_take1 (L := [99, 104, 119, 115]) hS fS hT fT hx (by omega) ye_lk0 ye_lk1 (by decide) (by decide) (by decide) (by omega)) ?_
  rintro _ P_3 ⟨k_1, p_2, rfl, c_4, o_5, h_6, h_7⟩
  change k_1 = yb_k T lim p at h_6
  rw [show ([99, 104, 119, 115] : List Int).length = 4 from rfl] at h_7
  have hlt : k_1 = -1 ∨ p < lim := by
    rw [h_6]
    unfold yb_k
    by_cases hq : p < lim
    · exact Or.inr hq
    · rw [if_neg hq]
      exact Or.inl rfl
  have c_8 := ye_kp o_5 (ye_n1 (ye_ne hD hS (by decide))) hD
  have c_9 := ye_kp o_5 (ye_n1 (ye_ne hK hS (by decide))) hK
  have c_10 := ye_kp o_5 (ye_n1 (ye_ne hM hS (by decide))) hM
  have c_11 := ye_kp o_5 (ye_n1 (ye_ne hN hS (by decide))) hN
  have c_12 := ye_kp o_5 (ye_n1 (ye_ne hT hS (by decide))) hT
  have c_13 := ye_kp o_5 (ye_n1 (ye_ne hW hS (by decide))) hW
  have c_14 := ye_kp o_5 (ye_n1 (ye_ne hZ hS (by decide))) hZ
  have o_15 := ye_oth_tr ho0 o_5 (ye_s1 (List.mem_cons_self))
  refine ye_r_wr (ins := .iastore) (len := 1) (t := 12) (a := aK) (q := (103, kv.set (s).toNat (ye_v k_1))) rfl rfl rfl rfl rfl c_9 (ye_as (t := 103) (nf := fun x => x) (p := s) (e := k_1) (e' := k_1) c_9 (by omega) (by rw [yK.1]; omega) (by omega) rfl) (fun P_16 c_17 o_18 => ?_)
  have c_19 := ye_kp o_18 (ye_n1 (Ne.symm n03)) c_8
  have c_20 := ye_kp o_18 (ye_n1 (Ne.symm n04)) c_10
  have c_21 := ye_kp o_18 (ye_n1 (ye_ne c_11 c_9 (by decide))) c_11
  have c_22 := ye_kp o_18 (ye_n1 (ye_ne c_4 c_9 (by decide))) c_4
  have c_23 := ye_kp o_18 (ye_n1 (ye_ne c_12 c_9 (by decide))) c_12
  have c_24 := ye_kp o_18 (ye_n1 (Ne.symm n01)) c_13
  have c_25 := ye_kp o_18 (ye_n1 (Ne.symm n02)) c_14
  have o_26 := ye_oth_tr o_15 o_18 (ye_s1 (List.mem_cons_of_mem _ (List.mem_cons_of_mem _ (List.mem_cons_self))))
  refine z_r_ld (kk := z_isA) (ins := (.aload_n 0)) (len := 1) (t := 13) (i := 0) rfl rfl rfl rfl rfl (fun _ => rfl) a0 rfl ?_
  refine z_r_rd (ins := (.getfield 9)) (len := 3) (t := 16) rfl rfl rfl rfl rfl (z_gfv (ci := 3) (k := 0) (v := .ref aK) rfl (z_lkn fN c_21) (by decide) rfl) ?_
  refine z_r_ld (kk := z_isI) (ins := (.iload_n 2)) (len := 1) (t := 17) (i := 2) rfl rfl rfl rfl rfl (fun _ => rfl) a2 rfl ?_
  refine z_r_rd (ins := .iaload) (len := 1) (t := 18) rfl rfl rfl rfl rfl (ye_al (t := 103) (p := s) (e := k_1) (z_lkn fK c_17) (by omega) (by omega) (List.getElem?_set_self (by rw [yK.1]; omega))) ?_
  refine z_r_pu (ins := (.iconst (-1))) (len := 1) (t := 19) (st' := [ye_v ((-1)), ye_v k_1]) rfl rfl rfl rfl rfl ?_
  by_cases b_27 : k_1 ≠ (-1)
  · skip
    refine z_r_jm (ins := (.if_icmp .ne 5)) (len := 3) (t := 24) rfl rfl rfl rfl (ye_jy (t := 24) rfl (by omega) (by omega) (by omega) (by omega) b_27) ?_
    refine z_r_ld (kk := z_isA) (ins := (.aload_n 0)) (len := 1) (t := 25) (i := 0) rfl rfl rfl rfl rfl (fun _ => rfl) a0 rfl ?_
    refine z_r_rd (ins := (.getfield 15)) (len := 3) (t := 28) rfl rfl rfl rfl rfl (z_gfv (ci := 3) (k := 1) (v := .ref aW) rfl (z_lkn fN c_21) (by decide) rfl) ?_
    refine z_r_ld (kk := z_isI) (ins := (.iload_n 2)) (len := 1) (t := 29) (i := 2) rfl rfl rfl rfl rfl (fun _ => rfl) a2 rfl ?_
    refine z_r_ld (kk := z_isA) (ins := (.aload_n 1)) (len := 1) (t := 30) (i := 1) rfl rfl rfl rfl rfl (fun _ => rfl) a1 rfl ?_
    refine z_r_pu (ins := (.iconst 2)) (len := 1) (t := 31) (st' := [ye_v 2, .ref aS, ye_v s, .ref aW]) rfl rfl rfl rfl rfl ?_
    refine z_r_pu (ins := (.iconst 1)) (len := 1) (t := 32) (st' := [ye_v 1, ye_v 2, .ref aS, ye_v s, .ref aW]) rfl rfl rfl rfl rfl ?_
    refine z_r_pu (ins := (.bipush 99)) (len := 2) (t := 34) rfl rfl rfl rfl (ye_bi (by decide) (by decide)) ?_
    refine ye_ca (ins := (.invokevirtual 79)) (kd := 1) (t := 37) rfl rfl (by decide) (z_argsv rfl rfl rfl (by omega) (Nat.le_of_ble_eq_true rfl) rfl (Nat.le_of_ble_eq_true rfl) (Nat.le_refl _) (Nat.le_refl _) (Or.inr (Nat.le_of_ble_eq_true rfl)) (Or.inr (z_atv (z_lkn fS c_22) rfl))) rfl rfl rfl (ye_number (k := 2) c_22 fS c_23 fT hx (by omega) (by omega) (by decide) (by decide) (by decide) (by omega)) ?_
    rintro _ P_31 ⟨v_28, rfl, c_29, o_30, n_32⟩
    have bdn1 := yq_num_bd (T := T) (lim := lim) (p := p_2) (lo := 1) (hi := 99) (k := 2) (by decide) (by omega)
    generalize en1 : yq_num T lim 2 1 99 (p_2) = n1 at bdn1 n_32 c_29
    have c_33 := ye_kp o_30 (ye_n1 (ye_ne c_19 c_22 (by decide))) c_19
    have c_34 := ye_kp o_30 (ye_n1 (ye_ne c_17 c_22 (by decide))) c_17
    have c_35 := ye_kp o_30 (ye_n1 (ye_ne c_20 c_22 (by decide))) c_20
    have c_36 := ye_kp o_30 (ye_n1 (ye_ne c_21 c_22 (by decide))) c_21
    have c_37 := ye_kp o_30 (ye_n1 (ye_ne c_23 c_22 (by decide))) c_23
    have c_38 := ye_kp o_30 (ye_n1 (ye_ne c_24 c_22 (by decide))) c_24
    have c_39 := ye_kp o_30 (ye_n1 (ye_ne c_25 c_22 (by decide))) c_25
    have o_40 := ye_oth_tr o_26 o_30 (ye_s1 (List.mem_cons_self))
    refine ye_r_wr (ins := .iastore) (len := 1) (t := 38) (a := aW) (q := (103, wv.set (s).toNat (ye_v v_28))) rfl rfl rfl rfl rfl c_38 (ye_as (t := 103) (nf := fun x => x) (p := s) (e := v_28) (e' := v_28) c_38 (by omega) (by rw [yW.1]; omega) (by omega) rfl) (fun P_41 c_42 o_43 => ?_)
    have c_44 := ye_kp o_43 (ye_n1 (Ne.symm n13)) c_33
    have c_45 := ye_kp o_43 (ye_n1 n01) c_34
    have c_46 := ye_kp o_43 (ye_n1 (Ne.symm n14)) c_35
    have c_47 := ye_kp o_43 (ye_n1 (ye_ne c_36 c_38 (by decide))) c_36
    have c_48 := ye_kp o_43 (ye_n1 (ye_ne c_29 c_38 (by decide))) c_29
    have c_49 := ye_kp o_43 (ye_n1 (ye_ne c_37 c_38 (by decide))) c_37
    have c_50 := ye_kp o_43 (ye_n1 (Ne.symm n12)) c_39
    have o_51 := ye_oth_tr o_40 o_43 (ye_s1 (List.mem_cons_of_mem _ (List.mem_cons_of_mem _ (List.mem_cons_of_mem _ (List.mem_cons_self)))))
    refine z_r_ld (kk := z_isA) (ins := (.aload_n 0)) (len := 1) (t := 39) (i := 0) rfl rfl rfl rfl rfl (fun _ => rfl) a0 rfl ?_
    refine z_r_rd (ins := (.getfield 15)) (len := 3) (t := 42) rfl rfl rfl rfl rfl (z_gfv (ci := 3) (k := 1) (v := .ref aW) rfl (z_lkn fN c_47) (by decide) rfl) ?_
    refine z_r_ld (kk := z_isI) (ins := (.iload_n 2)) (len := 1) (t := 43) (i := 2) rfl rfl rfl rfl rfl (fun _ => rfl) a2 rfl ?_
    refine z_r_rd (ins := .iaload) (len := 1) (t := 44) rfl rfl rfl rfl rfl (ye_al (t := 103) (p := s) (e := v_28) (z_lkn fW c_42) (by omega) (by omega) (List.getElem?_set_self (by rw [yW.1]; omega))) ?_
    refine z_r_pu (ins := (.iconst (-1))) (len := 1) (t := 45) (st' := [ye_v ((-1)), ye_v v_28]) rfl rfl rfl rfl rfl ?_
    by_cases b_52 : v_28 = (-1)
    · skip
      refine z_r_jm (ins := (.if_icmp .eq 12)) (len := 3) (t := 57) rfl rfl rfl rfl (ye_jy (t := 57) rfl (by omega) (by omega) (by omega) (by omega) b_52) ?_
      refine z_r_pu (ins := (.iconst 0)) (len := 1) (t := 58) (st' := [ye_v 0]) rfl rfl rfl rfl rfl ?_
      refine ye_ret (ins := .ireturn) rfl rfl rfl (ye_retz rfl (by omega)) ?_
      have d1 : yb_n1 T lim p = n1 := by
        unfold yb_n1
        rw [show p + 1 = p_2 by omega, en1]
      have kn1 : n1.1 = false := by
        rcases n_32 with ⟨g1, g2, g3⟩ | ⟨g1, g2⟩
        · exact absurd g2 (by omega)
        · exact g1
      have eL : yb_so T lim p = (false, n1.2.1) := by
        unfold yb_so
        rw [if_neg (by omega)]
        unfold yb_s1
        rw [d1, if_neg (by rw [kn1]; decide)]
      rw [eL]
      exact ⟨0, _, _, _, _, _, s, rfl, c_48, c_47, c_45, c_42, c_50, c_44, c_46, o_51, Or.inr ⟨rfl, rfl, rfl, ye_arr_keep yK (by omega), ye_arr_keep yW (by omega), yZ, yD, yM⟩⟩
    · skip
      refine z_r_jm (ins := (.if_icmp .eq 12)) (len := 3) (t := 48) rfl rfl rfl rfl (ye_jn (t := 57) rfl (by omega) (by omega) (by omega) (by omega) b_52) ?_
      refine z_r_ld (kk := z_isA) (ins := (.aload_n 1)) (len := 1) (t := 49) (i := 1) rfl rfl rfl rfl rfl (fun _ => rfl) a1 rfl ?_
      refine z_r_pu (ins := (.bipush 44)) (len := 2) (t := 51) rfl rfl rfl rfl (ye_bi (by decide) (by decide)) ?_
      refine ye_ca (ins := (.invokevirtual 68)) (kd := 1) (t := 54) rfl rfl (by decide) (z_argsv rfl rfl rfl (by omega) (Nat.le_of_ble_eq_true rfl) rfl (Nat.le_of_ble_eq_true rfl) (Nat.le_refl _) (Nat.le_refl _) (Or.inr (Nat.le_of_ble_eq_true rfl)) (Or.inr (z_atv (z_lkn fS c_48) rfl))) rfl rfl rfl (ye_take c_48 fS c_49 fT hx (by omega) (by omega) (by omega)) ?_
      rintro _ P_57 ⟨bt_53, p_54, rfl, c_55, o_56, ht_53⟩
      unfold ye_tk at ht_53
      have c_58 := ye_kp o_56 (ye_n1 (ye_ne c_44 c_48 (by decide))) c_44
      have c_59 := ye_kp o_56 (ye_n1 (ye_ne c_45 c_48 (by decide))) c_45
      have c_60 := ye_kp o_56 (ye_n1 (ye_ne c_46 c_48 (by decide))) c_46
      have c_61 := ye_kp o_56 (ye_n1 (ye_ne c_47 c_48 (by decide))) c_47
      have c_62 := ye_kp o_56 (ye_n1 (ye_ne c_49 c_48 (by decide))) c_49
      have c_63 := ye_kp o_56 (ye_n1 (ye_ne c_42 c_48 (by decide))) c_42
      have c_64 := ye_kp o_56 (ye_n1 (ye_ne c_50 c_48 (by decide))) c_50
      have o_65 := ye_oth_tr o_51 o_56 (ye_s1 (List.mem_cons_self))
      by_cases b_66 : bt_53 ≠ 0
      · skip
        refine z_r_jm (ins := (.ifCond .ne 5)) (len := 3) (t := 59) rfl rfl rfl rfl (ye_iy (t := 59) rfl (by omega) (by omega) b_66) ?_
        refine z_r_ld (kk := z_isA) (ins := (.aload_n 0)) (len := 1) (t := 60) (i := 0) rfl rfl rfl rfl rfl (fun _ => rfl) a0 rfl ?_
        refine z_r_rd (ins := (.getfield 18)) (len := 3) (t := 63) rfl rfl rfl rfl rfl (z_gfv (ci := 3) (k := 2) (v := .ref aZ) rfl (z_lkn fN c_61) (by decide) rfl) ?_
        refine z_r_ld (kk := z_isI) (ins := (.iload_n 2)) (len := 1) (t := 64) (i := 2) rfl rfl rfl rfl rfl (fun _ => rfl) a2 rfl ?_
        refine z_r_ld (kk := z_isA) (ins := (.aload_n 1)) (len := 1) (t := 65) (i := 1) rfl rfl rfl rfl rfl (fun _ => rfl) a1 rfl ?_
        refine z_r_pu (ins := (.iconst 2)) (len := 1) (t := 66) (st' := [ye_v 2, .ref aS, ye_v s, .ref aZ]) rfl rfl rfl rfl rfl ?_
        refine z_r_pu (ins := (.iconst 1)) (len := 1) (t := 67) (st' := [ye_v 1, ye_v 2, .ref aS, ye_v s, .ref aZ]) rfl rfl rfl rfl rfl ?_
        refine z_r_pu (ins := (.bipush 60)) (len := 2) (t := 69) rfl rfl rfl rfl (ye_bi (by decide) (by decide)) ?_
        refine ye_ca (ins := (.invokevirtual 79)) (kd := 1) (t := 72) rfl rfl (by decide) (z_argsv rfl rfl rfl (by omega) (Nat.le_of_ble_eq_true rfl) rfl (Nat.le_of_ble_eq_true rfl) (Nat.le_refl _) (Nat.le_refl _) (Or.inr (Nat.le_of_ble_eq_true rfl)) (Or.inr (z_atv (z_lkn fS c_55) rfl))) rfl rfl rfl (ye_number (k := 2) c_55 fS c_62 fT hx (by omega) (by omega) (by decide) (by decide) (by decide) (by omega)) ?_
        rintro _ P_70 ⟨v_67, rfl, c_68, o_69, n_71⟩
        have bdn2 := yq_num_bd (T := T) (lim := lim) (p := p_54) (lo := 1) (hi := 60) (k := 2) (by decide) (by omega)
        generalize en2 : yq_num T lim 2 1 60 (p_54) = n2 at bdn2 n_71 c_68
        have c_72 := ye_kp o_69 (ye_n1 (ye_ne c_58 c_55 (by decide))) c_58
        have c_73 := ye_kp o_69 (ye_n1 (ye_ne c_59 c_55 (by decide))) c_59
        have c_74 := ye_kp o_69 (ye_n1 (ye_ne c_60 c_55 (by decide))) c_60
        have c_75 := ye_kp o_69 (ye_n1 (ye_ne c_61 c_55 (by decide))) c_61
        have c_76 := ye_kp o_69 (ye_n1 (ye_ne c_62 c_55 (by decide))) c_62
        have c_77 := ye_kp o_69 (ye_n1 (ye_ne c_63 c_55 (by decide))) c_63
        have c_78 := ye_kp o_69 (ye_n1 (ye_ne c_64 c_55 (by decide))) c_64
        have o_79 := ye_oth_tr o_65 o_69 (ye_s1 (List.mem_cons_self))
        refine ye_r_wr (ins := .iastore) (len := 1) (t := 73) (a := aZ) (q := (103, zv.set (s).toNat (ye_v v_67))) rfl rfl rfl rfl rfl c_78 (ye_as (t := 103) (nf := fun x => x) (p := s) (e := v_67) (e' := v_67) c_78 (by omega) (by rw [yZ.1]; omega) (by omega) rfl) (fun P_80 c_81 o_82 => ?_)
        have c_83 := ye_kp o_82 (ye_n1 (Ne.symm n23)) c_72
        have c_84 := ye_kp o_82 (ye_n1 n02) c_73
        have c_85 := ye_kp o_82 (ye_n1 (Ne.symm n24)) c_74
        have c_86 := ye_kp o_82 (ye_n1 (ye_ne c_75 c_78 (by decide))) c_75
        have c_87 := ye_kp o_82 (ye_n1 (ye_ne c_68 c_78 (by decide))) c_68
        have c_88 := ye_kp o_82 (ye_n1 (ye_ne c_76 c_78 (by decide))) c_76
        have c_89 := ye_kp o_82 (ye_n1 n12) c_77
        have o_90 := ye_oth_tr o_79 o_82 (ye_s1 (List.mem_cons_of_mem _ (List.mem_cons_of_mem _ (List.mem_cons_of_mem _ (List.mem_cons_of_mem _ (List.mem_cons_self))))))
        refine z_r_ld (kk := z_isA) (ins := (.aload_n 0)) (len := 1) (t := 74) (i := 0) rfl rfl rfl rfl rfl (fun _ => rfl) a0 rfl ?_
        refine z_r_rd (ins := (.getfield 18)) (len := 3) (t := 77) rfl rfl rfl rfl rfl (z_gfv (ci := 3) (k := 2) (v := .ref aZ) rfl (z_lkn fN c_86) (by decide) rfl) ?_
        refine z_r_ld (kk := z_isI) (ins := (.iload_n 2)) (len := 1) (t := 78) (i := 2) rfl rfl rfl rfl rfl (fun _ => rfl) a2 rfl ?_
        refine z_r_rd (ins := .iaload) (len := 1) (t := 79) rfl rfl rfl rfl rfl (ye_al (t := 103) (p := s) (e := v_67) (z_lkn fZ c_81) (by omega) (by omega) (List.getElem?_set_self (by rw [yZ.1]; omega))) ?_
        refine z_r_pu (ins := (.iconst (-1))) (len := 1) (t := 80) (st' := [ye_v ((-1)), ye_v v_67]) rfl rfl rfl rfl rfl ?_
        by_cases b_91 : v_67 = (-1)
        · skip
          refine z_r_jm (ins := (.if_icmp .eq 12)) (len := 3) (t := 92) rfl rfl rfl rfl (ye_jy (t := 92) rfl (by omega) (by omega) (by omega) (by omega) b_91) ?_
          refine z_r_pu (ins := (.iconst 0)) (len := 1) (t := 93) (st' := [ye_v 0]) rfl rfl rfl rfl rfl ?_
          refine ye_ret (ins := .ireturn) rfl rfl rfl (ye_retz rfl (by omega)) ?_
          have d1 : yb_n1 T lim p = n1 := by
            unfold yb_n1
            rw [show p + 1 = p_2 by omega, en1]
          have kn1 : n1.1 = true := by
            rcases n_32 with ⟨g1, g2, g3⟩ | ⟨g1, g2⟩
            · exact g1
            · exact absurd g2 (by omega)
          have d2 : yb_n2 T lim p = n2 := by
            unfold yb_n2
            rw [d1, show n1.2.1 + 1 = p_54 by omega, en2]
          have kn2 : n2.1 = false := by
            rcases n_71 with ⟨g1, g2, g3⟩ | ⟨g1, g2⟩
            · exact absurd g2 (by omega)
            · exact g1
          have eL : yb_so T lim p = (false, n2.2.1) := by
            unfold yb_so
            rw [if_neg (by omega)]
            unfold yb_s1
            rw [d1, if_pos kn1]
            rw [if_pos (by omega)]
            unfold yb_s2
            rw [d2, if_neg (by rw [kn2]; decide)]
          rw [eL]
          exact ⟨0, _, _, _, _, _, s, rfl, c_87, c_86, c_84, c_89, c_81, c_83, c_85, o_90, Or.inr ⟨rfl, rfl, rfl, ye_arr_keep yK (by omega), ye_arr_keep yW (by omega), ye_arr_keep yZ (by omega), yD, yM⟩⟩
        · skip
          refine z_r_jm (ins := (.if_icmp .eq 12)) (len := 3) (t := 83) rfl rfl rfl rfl (ye_jn (t := 92) rfl (by omega) (by omega) (by omega) (by omega) b_91) ?_
          refine z_r_ld (kk := z_isA) (ins := (.aload_n 1)) (len := 1) (t := 84) (i := 1) rfl rfl rfl rfl rfl (fun _ => rfl) a1 rfl ?_
          refine z_r_pu (ins := (.bipush 44)) (len := 2) (t := 86) rfl rfl rfl rfl (ye_bi (by decide) (by decide)) ?_
          refine ye_ca (ins := (.invokevirtual 68)) (kd := 1) (t := 89) rfl rfl (by decide) (z_argsv rfl rfl rfl (by omega) (Nat.le_of_ble_eq_true rfl) rfl (Nat.le_of_ble_eq_true rfl) (Nat.le_refl _) (Nat.le_refl _) (Or.inr (Nat.le_of_ble_eq_true rfl)) (Or.inr (z_atv (z_lkn fS c_87) rfl))) rfl rfl rfl (ye_take c_87 fS c_88 fT hx (by omega) (by omega) (by omega)) ?_
          rintro _ P_96 ⟨bt_92, p_93, rfl, c_94, o_95, ht_92⟩
          unfold ye_tk at ht_92
          have c_97 := ye_kp o_95 (ye_n1 (ye_ne c_83 c_87 (by decide))) c_83
          have c_98 := ye_kp o_95 (ye_n1 (ye_ne c_84 c_87 (by decide))) c_84
          have c_99 := ye_kp o_95 (ye_n1 (ye_ne c_85 c_87 (by decide))) c_85
          have c_100 := ye_kp o_95 (ye_n1 (ye_ne c_86 c_87 (by decide))) c_86
          have c_101 := ye_kp o_95 (ye_n1 (ye_ne c_88 c_87 (by decide))) c_88
          have c_102 := ye_kp o_95 (ye_n1 (ye_ne c_89 c_87 (by decide))) c_89
          have c_103 := ye_kp o_95 (ye_n1 (ye_ne c_81 c_87 (by decide))) c_81
          have o_104 := ye_oth_tr o_90 o_95 (ye_s1 (List.mem_cons_self))
          by_cases b_105 : bt_92 ≠ 0
          · skip
            refine z_r_jm (ins := (.ifCond .ne 5)) (len := 3) (t := 94) rfl rfl rfl rfl (ye_iy (t := 94) rfl (by omega) (by omega) b_105) ?_
            refine z_r_ld (kk := z_isA) (ins := (.aload_n 0)) (len := 1) (t := 95) (i := 0) rfl rfl rfl rfl rfl (fun _ => rfl) a0 rfl ?_
            refine z_r_rd (ins := (.getfield 21)) (len := 3) (t := 98) rfl rfl rfl rfl rfl (z_gfv (ci := 3) (k := 3) (v := .ref aD) rfl (z_lkn fN c_100) (by decide) rfl) ?_
            refine z_r_ld (kk := z_isI) (ins := (.iload_n 2)) (len := 1) (t := 99) (i := 2) rfl rfl rfl rfl rfl (fun _ => rfl) a2 rfl ?_
            refine z_r_ld (kk := z_isA) (ins := (.aload_n 1)) (len := 1) (t := 100) (i := 1) rfl rfl rfl rfl rfl (fun _ => rfl) a1 rfl ?_
            refine z_r_pu (ins := (.iconst 2)) (len := 1) (t := 101) (st' := [ye_v 2, .ref aS, ye_v s, .ref aD]) rfl rfl rfl rfl rfl ?_
            refine z_r_pu (ins := (.iconst 0)) (len := 1) (t := 102) (st' := [ye_v 0, ye_v 2, .ref aS, ye_v s, .ref aD]) rfl rfl rfl rfl rfl ?_
            refine z_r_pu (ins := (.bipush 60)) (len := 2) (t := 104) rfl rfl rfl rfl (ye_bi (by decide) (by decide)) ?_
            refine ye_ca (ins := (.invokevirtual 79)) (kd := 1) (t := 107) rfl rfl (by decide) (z_argsv rfl rfl rfl (by omega) (Nat.le_of_ble_eq_true rfl) rfl (Nat.le_of_ble_eq_true rfl) (Nat.le_refl _) (Nat.le_refl _) (Or.inr (Nat.le_of_ble_eq_true rfl)) (Or.inr (z_atv (z_lkn fS c_94) rfl))) rfl rfl rfl (ye_number (k := 2) c_94 fS c_101 fT hx (by omega) (by omega) (by decide) (by decide) (by decide) (by omega)) ?_
            rintro _ P_109 ⟨v_106, rfl, c_107, o_108, n_110⟩
            have bdn3 := yq_num_bd (T := T) (lim := lim) (p := p_93) (lo := 0) (hi := 60) (k := 2) (by decide) (by omega)
            generalize en3 : yq_num T lim 2 0 60 (p_93) = n3 at bdn3 n_110 c_107
            have c_111 := ye_kp o_108 (ye_n1 (ye_ne c_97 c_94 (by decide))) c_97
            have c_112 := ye_kp o_108 (ye_n1 (ye_ne c_98 c_94 (by decide))) c_98
            have c_113 := ye_kp o_108 (ye_n1 (ye_ne c_99 c_94 (by decide))) c_99
            have c_114 := ye_kp o_108 (ye_n1 (ye_ne c_100 c_94 (by decide))) c_100
            have c_115 := ye_kp o_108 (ye_n1 (ye_ne c_101 c_94 (by decide))) c_101
            have c_116 := ye_kp o_108 (ye_n1 (ye_ne c_102 c_94 (by decide))) c_102
            have c_117 := ye_kp o_108 (ye_n1 (ye_ne c_103 c_94 (by decide))) c_103
            have o_118 := ye_oth_tr o_104 o_108 (ye_s1 (List.mem_cons_self))
            refine ye_r_wr (ins := .iastore) (len := 1) (t := 108) (a := aD) (q := (103, dv.set (s).toNat (ye_v v_106))) rfl rfl rfl rfl rfl c_111 (ye_as (t := 103) (nf := fun x => x) (p := s) (e := v_106) (e' := v_106) c_111 (by omega) (by rw [yD.1]; omega) (by omega) rfl) (fun P_119 c_120 o_121 => ?_)
            have c_122 := ye_kp o_121 (ye_n1 n03) c_112
            have c_123 := ye_kp o_121 (ye_n1 (Ne.symm n34)) c_113
            have c_124 := ye_kp o_121 (ye_n1 (ye_ne c_114 c_111 (by decide))) c_114
            have c_125 := ye_kp o_121 (ye_n1 (ye_ne c_107 c_111 (by decide))) c_107
            have c_126 := ye_kp o_121 (ye_n1 (ye_ne c_115 c_111 (by decide))) c_115
            have c_127 := ye_kp o_121 (ye_n1 n13) c_116
            have c_128 := ye_kp o_121 (ye_n1 n23) c_117
            have o_129 := ye_oth_tr o_118 o_121 (ye_s1 (List.mem_cons_of_mem _ (List.mem_cons_of_mem _ (List.mem_cons_of_mem _ (List.mem_cons_of_mem _ (List.mem_cons_of_mem _ (List.mem_cons_self)))))))
            refine z_r_ld (kk := z_isA) (ins := (.aload_n 0)) (len := 1) (t := 109) (i := 0) rfl rfl rfl rfl rfl (fun _ => rfl) a0 rfl ?_
            refine z_r_rd (ins := (.getfield 21)) (len := 3) (t := 112) rfl rfl rfl rfl rfl (z_gfv (ci := 3) (k := 3) (v := .ref aD) rfl (z_lkn fN c_124) (by decide) rfl) ?_
            refine z_r_ld (kk := z_isI) (ins := (.iload_n 2)) (len := 1) (t := 113) (i := 2) rfl rfl rfl rfl rfl (fun _ => rfl) a2 rfl ?_
            refine z_r_rd (ins := .iaload) (len := 1) (t := 114) rfl rfl rfl rfl rfl (ye_al (t := 103) (p := s) (e := v_106) (z_lkn fD c_120) (by omega) (by omega) (List.getElem?_set_self (by rw [yD.1]; omega))) ?_
            refine z_r_pu (ins := (.iconst (-1))) (len := 1) (t := 115) (st' := [ye_v ((-1)), ye_v v_106]) rfl rfl rfl rfl rfl ?_
            by_cases b_130 : v_106 = (-1)
            · skip
              refine z_r_jm (ins := (.if_icmp .eq 12)) (len := 3) (t := 127) rfl rfl rfl rfl (ye_jy (t := 127) rfl (by omega) (by omega) (by omega) (by omega) b_130) ?_
              refine z_r_pu (ins := (.iconst 0)) (len := 1) (t := 128) (st' := [ye_v 0]) rfl rfl rfl rfl rfl ?_
              refine ye_ret (ins := .ireturn) rfl rfl rfl (ye_retz rfl (by omega)) ?_
              have d1 : yb_n1 T lim p = n1 := by
                unfold yb_n1
                rw [show p + 1 = p_2 by omega, en1]
              have kn1 : n1.1 = true := by
                rcases n_32 with ⟨g1, g2, g3⟩ | ⟨g1, g2⟩
                · exact g1
                · exact absurd g2 (by omega)
              have d2 : yb_n2 T lim p = n2 := by
                unfold yb_n2
                rw [d1, show n1.2.1 + 1 = p_54 by omega, en2]
              have kn2 : n2.1 = true := by
                rcases n_71 with ⟨g1, g2, g3⟩ | ⟨g1, g2⟩
                · exact g1
                · exact absurd g2 (by omega)
              have d3 : yb_n3 T lim p = n3 := by
                unfold yb_n3
                rw [d2, show n2.2.1 + 1 = p_93 by omega, en3]
              have kn3 : n3.1 = false := by
                rcases n_110 with ⟨g1, g2, g3⟩ | ⟨g1, g2⟩
                · exact absurd g2 (by omega)
                · exact g1
              have eL : yb_so T lim p = (false, n3.2.1) := by
                unfold yb_so
                rw [if_neg (by omega)]
                unfold yb_s1
                rw [d1, if_pos kn1]
                rw [if_pos (by omega)]
                unfold yb_s2
                rw [d2, if_pos kn2]
                rw [if_pos (by omega)]
                unfold yb_s3
                rw [d3, if_neg (by rw [kn3]; decide)]
              rw [eL]
              exact ⟨0, _, _, _, _, _, s, rfl, c_125, c_124, c_122, c_127, c_128, c_120, c_123, o_129, Or.inr ⟨rfl, rfl, rfl, ye_arr_keep yK (by omega), ye_arr_keep yW (by omega), ye_arr_keep yZ (by omega), ye_arr_keep yD (by omega), yM⟩⟩
            · skip
              refine z_r_jm (ins := (.if_icmp .eq 12)) (len := 3) (t := 118) rfl rfl rfl rfl (ye_jn (t := 127) rfl (by omega) (by omega) (by omega) (by omega) b_130) ?_
              refine z_r_ld (kk := z_isA) (ins := (.aload_n 1)) (len := 1) (t := 119) (i := 1) rfl rfl rfl rfl rfl (fun _ => rfl) a1 rfl ?_
              refine z_r_pu (ins := (.bipush 42)) (len := 2) (t := 121) rfl rfl rfl rfl (ye_bi (by decide) (by decide)) ?_
              refine ye_ca (ins := (.invokevirtual 68)) (kd := 1) (t := 124) rfl rfl (by decide) (z_argsv rfl rfl rfl (by omega) (Nat.le_of_ble_eq_true rfl) rfl (Nat.le_of_ble_eq_true rfl) (Nat.le_refl _) (Nat.le_refl _) (Or.inr (Nat.le_of_ble_eq_true rfl)) (Or.inr (z_atv (z_lkn fS c_125) rfl))) rfl rfl rfl (ye_take c_125 fS c_126 fT hx (by omega) (by omega) (by omega)) ?_
              rintro _ P_135 ⟨bt_131, p_132, rfl, c_133, o_134, ht_131⟩
              unfold ye_tk at ht_131
              have c_136 := ye_kp o_134 (ye_n1 (ye_ne c_120 c_125 (by decide))) c_120
              have c_137 := ye_kp o_134 (ye_n1 (ye_ne c_122 c_125 (by decide))) c_122
              have c_138 := ye_kp o_134 (ye_n1 (ye_ne c_123 c_125 (by decide))) c_123
              have c_139 := ye_kp o_134 (ye_n1 (ye_ne c_124 c_125 (by decide))) c_124
              have c_140 := ye_kp o_134 (ye_n1 (ye_ne c_126 c_125 (by decide))) c_126
              have c_141 := ye_kp o_134 (ye_n1 (ye_ne c_127 c_125 (by decide))) c_127
              have c_142 := ye_kp o_134 (ye_n1 (ye_ne c_128 c_125 (by decide))) c_128
              have o_143 := ye_oth_tr o_129 o_134 (ye_s1 (List.mem_cons_self))
              by_cases b_144 : bt_131 ≠ 0
              · skip
                refine z_r_jm (ins := (.ifCond .ne 5)) (len := 3) (t := 129) rfl rfl rfl rfl (ye_iy (t := 129) rfl (by omega) (by omega) b_144) ?_
                refine z_r_ld (kk := z_isA) (ins := (.aload_n 0)) (len := 1) (t := 130) (i := 0) rfl rfl rfl rfl rfl (fun _ => rfl) a0 rfl ?_
                refine z_r_rd (ins := (.getfield 24)) (len := 3) (t := 133) rfl rfl rfl rfl rfl (z_gfv (ci := 3) (k := 4) (v := .ref aM) rfl (z_lkn fN c_139) (by decide) rfl) ?_
                refine z_r_ld (kk := z_isI) (ins := (.iload_n 2)) (len := 1) (t := 134) (i := 2) rfl rfl rfl rfl rfl (fun _ => rfl) a2 rfl ?_
                refine z_r_ld (kk := z_isA) (ins := (.aload_n 1)) (len := 1) (t := 135) (i := 1) rfl rfl rfl rfl rfl (fun _ => rfl) a1 rfl ?_
                refine z_r_pu (ins := (.iconst 3)) (len := 1) (t := 136) (st' := [ye_v 3, .ref aS, ye_v s, .ref aM]) rfl rfl rfl rfl rfl ?_
                refine z_r_pu (ins := (.iconst 0)) (len := 1) (t := 137) (st' := [ye_v 0, ye_v 3, .ref aS, ye_v s, .ref aM]) rfl rfl rfl rfl rfl ?_
                refine z_r_pu (ins := (.sipush 999)) (len := 3) (t := 140) rfl rfl rfl rfl (ye_si (by decide) (by decide)) ?_
                refine ye_ca (ins := (.invokevirtual 79)) (kd := 1) (t := 143) rfl rfl (by decide) (z_argsv rfl rfl rfl (by omega) (Nat.le_of_ble_eq_true rfl) rfl (Nat.le_of_ble_eq_true rfl) (Nat.le_refl _) (Nat.le_refl _) (Or.inr (Nat.le_of_ble_eq_true rfl)) (Or.inr (z_atv (z_lkn fS c_133) rfl))) rfl rfl rfl (ye_number (k := 3) c_133 fS c_140 fT hx (by omega) (by omega) (by decide) (by decide) (by decide) (by omega)) ?_
                rintro _ P_148 ⟨v_145, rfl, c_146, o_147, n_149⟩
                have bdn4 := yq_num_bd (T := T) (lim := lim) (p := p_132) (lo := 0) (hi := 999) (k := 3) (by decide) (by omega)
                generalize en4 : yq_num T lim 3 0 999 (p_132) = n4 at bdn4 n_149 c_146
                have c_150 := ye_kp o_147 (ye_n1 (ye_ne c_136 c_133 (by decide))) c_136
                have c_151 := ye_kp o_147 (ye_n1 (ye_ne c_137 c_133 (by decide))) c_137
                have c_152 := ye_kp o_147 (ye_n1 (ye_ne c_138 c_133 (by decide))) c_138
                have c_153 := ye_kp o_147 (ye_n1 (ye_ne c_139 c_133 (by decide))) c_139
                have c_154 := ye_kp o_147 (ye_n1 (ye_ne c_140 c_133 (by decide))) c_140
                have c_155 := ye_kp o_147 (ye_n1 (ye_ne c_141 c_133 (by decide))) c_141
                have c_156 := ye_kp o_147 (ye_n1 (ye_ne c_142 c_133 (by decide))) c_142
                have o_157 := ye_oth_tr o_143 o_147 (ye_s1 (List.mem_cons_self))
                refine ye_r_wr (ins := .iastore) (len := 1) (t := 144) (a := aM) (q := (103, mv.set (s).toNat (ye_v v_145))) rfl rfl rfl rfl rfl c_152 (ye_as (t := 103) (nf := fun x => x) (p := s) (e := v_145) (e' := v_145) c_152 (by omega) (by rw [yM.1]; omega) (by omega) rfl) (fun P_158 c_159 o_160 => ?_)
                have c_161 := ye_kp o_160 (ye_n1 n34) c_150
                have c_162 := ye_kp o_160 (ye_n1 n04) c_151
                have c_163 := ye_kp o_160 (ye_n1 (ye_ne c_153 c_152 (by decide))) c_153
                have c_164 := ye_kp o_160 (ye_n1 (ye_ne c_146 c_152 (by decide))) c_146
                have c_165 := ye_kp o_160 (ye_n1 (ye_ne c_154 c_152 (by decide))) c_154
                have c_166 := ye_kp o_160 (ye_n1 n14) c_155
                have c_167 := ye_kp o_160 (ye_n1 n24) c_156
                have o_168 := ye_oth_tr o_157 o_160 (ye_s1 (List.mem_cons_of_mem _ (List.mem_cons_of_mem _ (List.mem_cons_of_mem _ (List.mem_cons_of_mem _ (List.mem_cons_of_mem _ (List.mem_cons_of_mem _ (List.mem_cons_self))))))))
                refine z_r_ld (kk := z_isA) (ins := (.aload_n 0)) (len := 1) (t := 145) (i := 0) rfl rfl rfl rfl rfl (fun _ => rfl) a0 rfl ?_
                refine z_r_rd (ins := (.getfield 24)) (len := 3) (t := 148) rfl rfl rfl rfl rfl (z_gfv (ci := 3) (k := 4) (v := .ref aM) rfl (z_lkn fN c_163) (by decide) rfl) ?_
                refine z_r_ld (kk := z_isI) (ins := (.iload_n 2)) (len := 1) (t := 149) (i := 2) rfl rfl rfl rfl rfl (fun _ => rfl) a2 rfl ?_
                refine z_r_rd (ins := .iaload) (len := 1) (t := 150) rfl rfl rfl rfl rfl (ye_al (t := 103) (p := s) (e := v_145) (z_lkn fM c_159) (by omega) (by omega) (List.getElem?_set_self (by rw [yM.1]; omega))) ?_
                refine z_r_pu (ins := (.iconst (-1))) (len := 1) (t := 151) (st' := [ye_v ((-1)), ye_v v_145]) rfl rfl rfl rfl rfl ?_
                by_cases b_169 : v_145 ≠ (-1)
                · skip
                  refine z_r_jm (ins := (.if_icmp .ne 5)) (len := 3) (t := 156) rfl rfl rfl rfl (ye_jy (t := 156) rfl (by omega) (by omega) (by omega) (by omega) b_169) ?_
                  refine z_r_ld (kk := z_isA) (ins := (.aload_n 0)) (len := 1) (t := 157) (i := 0) rfl rfl rfl rfl rfl (fun _ => rfl) a0 rfl ?_
                  refine z_r_ld (kk := z_isI) (ins := (.iload_n 2)) (len := 1) (t := 158) (i := 2) rfl rfl rfl rfl rfl (fun _ => rfl) a2 rfl ?_
                  refine z_r_pu (ins := (.iconst 1)) (len := 1) (t := 159) (st' := [ye_v 1, ye_v s, .ref aN]) rfl rfl rfl rfl rfl ?_
                  refine z_r_pu (ins := .iadd) (len := 1) (t := 160) rfl rfl rfl rfl ye_add ?_
                  refine ye_r_wr (ins := (.putfield 34)) (len := 3) (t := 163) (a := aN) (q := (3, [.ref aK, .ref aW, .ref aZ, .ref aD, .ref aM, ye_v so, ye_v ya, ye_v (s + 1), ye_v ytb, ye_v sdb, .ref aE, .ref aF, .ref aC])) rfl rfl rfl rfl rfl c_163 (z_pfv (ci := 3) (k := 7) rfl c_163 (by decide) (Nat.le_of_ble_eq_true rfl) rfl rfl rfl) (fun P_170 c_171 o_172 => ?_)
                  have c_173 := ye_kp o_172 (ye_n1 (ye_ne c_161 c_163 (by decide))) c_161
                  have c_174 := ye_kp o_172 (ye_n1 (ye_ne c_162 c_163 (by decide))) c_162
                  have c_175 := ye_kp o_172 (ye_n1 (ye_ne c_159 c_163 (by decide))) c_159
                  have c_176 := ye_kp o_172 (ye_n1 (ye_ne c_164 c_163 (by decide))) c_164
                  have c_177 := ye_kp o_172 (ye_n1 (ye_ne c_165 c_163 (by decide))) c_165
                  have c_178 := ye_kp o_172 (ye_n1 (ye_ne c_166 c_163 (by decide))) c_166
                  have c_179 := ye_kp o_172 (ye_n1 (ye_ne c_167 c_163 (by decide))) c_167
                  have o_180 := ye_oth_tr o_168 o_172 (ye_s1 (List.mem_cons_of_mem _ (List.mem_cons_self)))
                  refine z_r_pu (ins := (.iconst 1)) (len := 1) (t := 164) (st' := [ye_v 1]) rfl rfl rfl rfl rfl ?_
                  refine ye_ret (ins := .ireturn) rfl rfl rfl (ye_retz rfl (by omega)) ?_
                  have d1 : yb_n1 T lim p = n1 := by
                    unfold yb_n1
                    rw [show p + 1 = p_2 by omega, en1]
                  have kn1 : n1.1 = true := by
                    rcases n_32 with ⟨g1, g2, g3⟩ | ⟨g1, g2⟩
                    · exact g1
                    · exact absurd g2 (by omega)
                  have d2 : yb_n2 T lim p = n2 := by
                    unfold yb_n2
                    rw [d1, show n1.2.1 + 1 = p_54 by omega, en2]
                  have kn2 : n2.1 = true := by
                    rcases n_71 with ⟨g1, g2, g3⟩ | ⟨g1, g2⟩
                    · exact g1
                    · exact absurd g2 (by omega)
                  have d3 : yb_n3 T lim p = n3 := by
                    unfold yb_n3
                    rw [d2, show n2.2.1 + 1 = p_93 by omega, en3]
                  have kn3 : n3.1 = true := by
                    rcases n_110 with ⟨g1, g2, g3⟩ | ⟨g1, g2⟩
                    · exact g1
                    · exact absurd g2 (by omega)
                  have d4 : yb_n4 T lim p = n4 := by
                    unfold yb_n4
                    rw [d3, show n3.2.1 + 1 = p_132 by omega, en4]
                  have kn4 : n4.1 = true := by
                    rcases n_149 with ⟨g1, g2, g3⟩ | ⟨g1, g2⟩
                    · exact g1
                    · exact absurd g2 (by omega)
                  have eL : yb_so T lim p = (true, n4.2.1) := by
                    unfold yb_so
                    rw [if_neg (by omega)]
                    unfold yb_s1
                    rw [d1, if_pos kn1]
                    rw [if_pos (by omega)]
                    unfold yb_s2
                    rw [d2, if_pos kn2]
                    rw [if_pos (by omega)]
                    unfold yb_s3
                    rw [d3, if_pos kn3]
                    rw [if_pos (by omega)]
                    unfold yb_s4
                    rw [d4, kn4]
                  rw [eL]
                  have vn1 : v_28 = (yb_n1 T lim p).2.2 := by
                    rw [d1]
                    rcases n_32 with ⟨g1, g2, g3⟩ | ⟨g1, g2⟩
                    · exact g2
                    · exact absurd g2 (by omega)
                  have vn2 : v_67 = (yb_n2 T lim p).2.2 := by
                    rw [d2]
                    rcases n_71 with ⟨g1, g2, g3⟩ | ⟨g1, g2⟩
                    · exact g2
                    · exact absurd g2 (by omega)
                  have vn3 : v_106 = (yb_n3 T lim p).2.2 := by
                    rw [d3]
                    rcases n_110 with ⟨g1, g2, g3⟩ | ⟨g1, g2⟩
                    · exact g2
                    · exact absurd g2 (by omega)
                  have vn4 : v_145 = (yb_n4 T lim p).2.2 := by
                    rw [d4]
                    rcases n_149 with ⟨g1, g2, g3⟩ | ⟨g1, g2⟩
                    · exact g2
                    · exact absurd g2 (by omega)
                  exact ⟨1, _, _, _, _, _, s + 1, rfl, c_176, c_171, c_174, c_178, c_179, c_173, c_175, o_180, Or.inl ⟨rfl, rfl, rfl, by rw [← h_6]; exact ye_arr_put yK (by omega) (by omega), by rw [← vn1]; exact ye_arr_put yW (by omega) (by omega), by rw [← vn2]; exact ye_arr_put yZ (by omega) (by omega), by rw [← vn3]; exact ye_arr_put yD (by omega) (by omega), by rw [← vn4]; exact ye_arr_put yM (by omega) (by omega)⟩⟩
                · skip
                  refine z_r_jm (ins := (.if_icmp .ne 5)) (len := 3) (t := 154) rfl rfl rfl rfl (ye_jn (t := 156) rfl (by omega) (by omega) (by omega) (by omega) b_169) ?_
                  refine z_r_pu (ins := (.iconst 0)) (len := 1) (t := 155) (st' := [ye_v 0]) rfl rfl rfl rfl rfl ?_
                  refine ye_ret (ins := .ireturn) rfl rfl rfl (ye_retz rfl (by omega)) ?_
                  have d1 : yb_n1 T lim p = n1 := by
                    unfold yb_n1
                    rw [show p + 1 = p_2 by omega, en1]
                  have kn1 : n1.1 = true := by
                    rcases n_32 with ⟨g1, g2, g3⟩ | ⟨g1, g2⟩
                    · exact g1
                    · exact absurd g2 (by omega)
                  have d2 : yb_n2 T lim p = n2 := by
                    unfold yb_n2
                    rw [d1, show n1.2.1 + 1 = p_54 by omega, en2]
                  have kn2 : n2.1 = true := by
                    rcases n_71 with ⟨g1, g2, g3⟩ | ⟨g1, g2⟩
                    · exact g1
                    · exact absurd g2 (by omega)
                  have d3 : yb_n3 T lim p = n3 := by
                    unfold yb_n3
                    rw [d2, show n2.2.1 + 1 = p_93 by omega, en3]
                  have kn3 : n3.1 = true := by
                    rcases n_110 with ⟨g1, g2, g3⟩ | ⟨g1, g2⟩
                    · exact g1
                    · exact absurd g2 (by omega)
                  have d4 : yb_n4 T lim p = n4 := by
                    unfold yb_n4
                    rw [d3, show n3.2.1 + 1 = p_132 by omega, en4]
                  have kn4 : n4.1 = false := by
                    rcases n_149 with ⟨g1, g2, g3⟩ | ⟨g1, g2⟩
                    · exact absurd g2 (by omega)
                    · exact g1
                  have eL : yb_so T lim p = (false, n4.2.1) := by
                    unfold yb_so
                    rw [if_neg (by omega)]
                    unfold yb_s1
                    rw [d1, if_pos kn1]
                    rw [if_pos (by omega)]
                    unfold yb_s2
                    rw [d2, if_pos kn2]
                    rw [if_pos (by omega)]
                    unfold yb_s3
                    rw [d3, if_pos kn3]
                    rw [if_pos (by omega)]
                    unfold yb_s4
                    rw [d4, kn4]
                  rw [eL]
                  exact ⟨0, _, _, _, _, _, s, rfl, c_164, c_163, c_162, c_166, c_167, c_161, c_159, o_168, Or.inr ⟨rfl, rfl, rfl, ye_arr_keep yK (by omega), ye_arr_keep yW (by omega), ye_arr_keep yZ (by omega), ye_arr_keep yD (by omega), ye_arr_keep yM (by omega)⟩⟩
              · skip
                refine z_r_jm (ins := (.ifCond .ne 5)) (len := 3) (t := 127) rfl rfl rfl rfl (ye_in (t := 129) rfl (by omega) (by omega) b_144) ?_
                refine z_r_pu (ins := (.iconst 0)) (len := 1) (t := 128) (st' := [ye_v 0]) rfl rfl rfl rfl rfl ?_
                refine ye_ret (ins := .ireturn) rfl rfl rfl (ye_retz rfl (by omega)) ?_
                have d1 : yb_n1 T lim p = n1 := by
                  unfold yb_n1
                  rw [show p + 1 = p_2 by omega, en1]
                have kn1 : n1.1 = true := by
                  rcases n_32 with ⟨g1, g2, g3⟩ | ⟨g1, g2⟩
                  · exact g1
                  · exact absurd g2 (by omega)
                have d2 : yb_n2 T lim p = n2 := by
                  unfold yb_n2
                  rw [d1, show n1.2.1 + 1 = p_54 by omega, en2]
                have kn2 : n2.1 = true := by
                  rcases n_71 with ⟨g1, g2, g3⟩ | ⟨g1, g2⟩
                  · exact g1
                  · exact absurd g2 (by omega)
                have d3 : yb_n3 T lim p = n3 := by
                  unfold yb_n3
                  rw [d2, show n2.2.1 + 1 = p_93 by omega, en3]
                have kn3 : n3.1 = true := by
                  rcases n_110 with ⟨g1, g2, g3⟩ | ⟨g1, g2⟩
                  · exact g1
                  · exact absurd g2 (by omega)
                have eL : yb_so T lim p = (false, n3.2.1) := by
                  unfold yb_so
                  rw [if_neg (by omega)]
                  unfold yb_s1
                  rw [d1, if_pos kn1]
                  rw [if_pos (by omega)]
                  unfold yb_s2
                  rw [d2, if_pos kn2]
                  rw [if_pos (by omega)]
                  unfold yb_s3
                  rw [d3, if_pos kn3]
                  rw [if_neg (by omega)]
                have ep : p_132 = n3.2.1 := by omega
                rw [ep] at c_133
                rw [eL]
                exact ⟨0, _, _, _, _, _, s, rfl, c_133, c_139, c_137, c_141, c_142, c_136, c_138, o_143, Or.inr ⟨rfl, rfl, rfl, ye_arr_keep yK (by omega), ye_arr_keep yW (by omega), ye_arr_keep yZ (by omega), ye_arr_keep yD (by omega), yM⟩⟩
          · skip
            refine z_r_jm (ins := (.ifCond .ne 5)) (len := 3) (t := 92) rfl rfl rfl rfl (ye_in (t := 94) rfl (by omega) (by omega) b_105) ?_
            refine z_r_pu (ins := (.iconst 0)) (len := 1) (t := 93) (st' := [ye_v 0]) rfl rfl rfl rfl rfl ?_
            refine ye_ret (ins := .ireturn) rfl rfl rfl (ye_retz rfl (by omega)) ?_
            have d1 : yb_n1 T lim p = n1 := by
              unfold yb_n1
              rw [show p + 1 = p_2 by omega, en1]
            have kn1 : n1.1 = true := by
              rcases n_32 with ⟨g1, g2, g3⟩ | ⟨g1, g2⟩
              · exact g1
              · exact absurd g2 (by omega)
            have d2 : yb_n2 T lim p = n2 := by
              unfold yb_n2
              rw [d1, show n1.2.1 + 1 = p_54 by omega, en2]
            have kn2 : n2.1 = true := by
              rcases n_71 with ⟨g1, g2, g3⟩ | ⟨g1, g2⟩
              · exact g1
              · exact absurd g2 (by omega)
            have eL : yb_so T lim p = (false, n2.2.1) := by
              unfold yb_so
              rw [if_neg (by omega)]
              unfold yb_s1
              rw [d1, if_pos kn1]
              rw [if_pos (by omega)]
              unfold yb_s2
              rw [d2, if_pos kn2]
              rw [if_neg (by omega)]
            have ep : p_93 = n2.2.1 := by omega
            rw [ep] at c_94
            rw [eL]
            exact ⟨0, _, _, _, _, _, s, rfl, c_94, c_100, c_98, c_102, c_103, c_97, c_99, o_104, Or.inr ⟨rfl, rfl, rfl, ye_arr_keep yK (by omega), ye_arr_keep yW (by omega), ye_arr_keep yZ (by omega), yD, yM⟩⟩
      · skip
        refine z_r_jm (ins := (.ifCond .ne 5)) (len := 3) (t := 57) rfl rfl rfl rfl (ye_in (t := 59) rfl (by omega) (by omega) b_66) ?_
        refine z_r_pu (ins := (.iconst 0)) (len := 1) (t := 58) (st' := [ye_v 0]) rfl rfl rfl rfl rfl ?_
        refine ye_ret (ins := .ireturn) rfl rfl rfl (ye_retz rfl (by omega)) ?_
        have d1 : yb_n1 T lim p = n1 := by
          unfold yb_n1
          rw [show p + 1 = p_2 by omega, en1]
        have kn1 : n1.1 = true := by
          rcases n_32 with ⟨g1, g2, g3⟩ | ⟨g1, g2⟩
          · exact g1
          · exact absurd g2 (by omega)
        have eL : yb_so T lim p = (false, n1.2.1) := by
          unfold yb_so
          rw [if_neg (by omega)]
          unfold yb_s1
          rw [d1, if_pos kn1]
          rw [if_neg (by omega)]
        have ep : p_54 = n1.2.1 := by omega
        rw [ep] at c_55
        rw [eL]
        exact ⟨0, _, _, _, _, _, s, rfl, c_55, c_61, c_59, c_63, c_64, c_58, c_60, o_65, Or.inr ⟨rfl, rfl, rfl, ye_arr_keep yK (by omega), ye_arr_keep yW (by omega), yZ, yD, yM⟩⟩
  · skip
    refine z_r_jm (ins := (.if_icmp .ne 5)) (len := 3) (t := 22) rfl rfl rfl rfl (ye_jn (t := 24) rfl (by omega) (by omega) (by omega) (by omega) b_27) ?_
    refine z_r_pu (ins := (.iconst 0)) (len := 1) (t := 23) (st' := [ye_v 0]) rfl rfl rfl rfl rfl ?_
    refine ye_ret (ins := .ireturn) rfl rfl rfl (ye_retz rfl (by omega)) ?_
    have eL : yb_so T lim p = (false, p) := by
      unfold yb_so
      rw [if_pos (by omega)]
    have ep : p_2 = p := by omega
    rw [ep] at c_22
    rw [eL]
    exact ⟨0, _, _, _, _, _, s, rfl, c_22, c_21, c_17, c_24, c_25, c_19, c_20, o_26, Or.inr ⟨rfl, rfl, rfl, ye_arr_keep yK (by omega), yW, yZ, yD, yM⟩⟩
end YCSO
