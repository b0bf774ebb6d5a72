/-! sort, both sides, exactly. -/
section YSRT
/-- what sort answers, where it answers -/
def yj_ok (so s q : Int) : Prop := 0 ≤ s ∧ s < so ∧ 0 ≤ q ∧ q ≤ 3
def yj_v (kd wt sz dr : Int → Int) (s q : Int) : Int := if q = 0 then kd s else if q = 1 then wt s else if q = 2 then sz s else dr s
variable {xs : List Int32} {d aX aN aK aW aZ aD aM : Nat} {P : z_H} {F : Nat → Value} {xv nv kv wv zv dv : List Value} {kd wt sz dr : Int → Int} {so s q : Int} {l : z_L} {Ψ : z_S → Prop}
theorem ye_isSortC (hX : P[aX]? = some (0, xv)) (fX : aX < z_far) (x2 : xv[2]? = some (.ref aN)) (hN : P[aN]? = some (3, nv)) (fN : aN < z_far) (n5 : nv[5]? = some (ye_v so)) (hso : 0 ≤ so ∧ so ≤ 10) (bs : -2147483648 ≤ s ∧ s < 2147483648) : ye_X xs d 62 [.ref aX, ye_v s] P (fun r P' => P' = P ∧ ∃ b, r = some (ye_v b) ∧ ((b = 1 ∧ 0 ≤ s ∧ s < so) ∨ (b = 0 ∧ (s < 0 ∨ so ≤ s)))) := by
  refine ye_go ?_
  have a0 : z_get (lv_args 0 [.ref aX, ye_v s]) 0 = some (.ref aX) := rfl
  have a1 : z_get (lv_args 0 [.ref aX, ye_v s]) 1 = some (ye_v s) := rfl
  refine z_r_ld (kk := z_isI) (ins := (.iload_n 1)) (len := 1) (t := 1) (i := 1) rfl rfl rfl rfl rfl (fun _ => rfl) a1 rfl ?_
  by_cases b_1 : s < 0
  · skip
    refine z_r_jm (ins := (.ifCond .lt 18)) (len := 3) (t := 19) rfl rfl rfl rfl (ye_iy (t := 19) rfl (by omega) (by omega) b_1) ?_
    refine z_r_pu (ins := (.iconst 0)) (len := 1) (t := 20) (st' := [ye_v 0]) rfl rfl rfl rfl rfl ?_
    refine ye_ret (ins := .ireturn) rfl rfl rfl (ye_retz rfl (by omega)) ?_
    exact ⟨rfl, 0, rfl, Or.inr ⟨rfl, by omega⟩⟩
  · skip
    refine z_r_jm (ins := (.ifCond .lt 18)) (len := 3) (t := 4) rfl rfl rfl rfl (ye_in (t := 19) rfl (by omega) (by omega) b_1) ?_
    refine z_r_ld (kk := z_isI) (ins := (.iload_n 1)) (len := 1) (t := 5) (i := 1) rfl rfl rfl rfl rfl (fun _ => rfl) a1 rfl ?_
    refine z_r_ld (kk := z_isA) (ins := (.aload_n 0)) (len := 1) (t := 6) (i := 0) rfl rfl rfl rfl rfl (fun _ => rfl) a0 rfl ?_
    refine z_r_rd (ins := (.getfield 26)) (len := 3) (t := 9) rfl rfl rfl rfl rfl (z_gfv (ci := 0) (k := 2) (v := .ref aN) rfl (z_lkn fX hX) (by decide) x2) ?_
    refine z_r_rd (ins := (.getfield 128)) (len := 3) (t := 12) rfl rfl rfl rfl rfl (z_gfv (ci := 3) (k := 5) (v := ye_v so) rfl (z_lkn fN hN) (by decide) n5) ?_
    by_cases b_2 : so ≤ s
    · skip
      refine z_r_jm (ins := (.if_icmp .ge 7)) (len := 3) (t := 19) rfl rfl rfl rfl (ye_jy (t := 19) rfl (by omega) (by omega) (by omega) (by omega) b_2) ?_
      refine z_r_pu (ins := (.iconst 0)) (len := 1) (t := 20) (st' := [ye_v 0]) rfl rfl rfl rfl rfl ?_
      refine ye_ret (ins := .ireturn) rfl rfl rfl (ye_retz rfl (by omega)) ?_
      exact ⟨rfl, 0, rfl, Or.inr ⟨rfl, by omega⟩⟩
    · skip
      refine z_r_jm (ins := (.if_icmp .ge 7)) (len := 3) (t := 15) rfl rfl rfl rfl (ye_jn (t := 19) rfl (by omega) (by omega) (by omega) (by omega) b_2) ?_
      refine z_r_pu (ins := (.iconst 1)) (len := 1) (t := 16) (st' := [ye_v 1]) rfl rfl rfl rfl rfl ?_
      refine z_r_jm (ins := (.goto 4)) (len := 3) (t := 20) rfl rfl rfl rfl (z_gty rfl) ?_
      refine ye_ret (ins := .ireturn) rfl rfl rfl (ye_retz rfl (by omega)) ?_
      exact ⟨rfl, 1, rfl, Or.inl ⟨rfl, by omega, by omega⟩⟩
theorem ye_CsortY0 (hX : P[aX]? = some (0, xv)) (fX : aX < z_far) (x2 : xv[2]? = some (.ref aN)) (hN : P[aN]? = some (3, nv)) (fN : aN < z_far) (n5 : nv[5]? = some (ye_v so)) (hso : 0 ≤ so ∧ so ≤ 10) (m0 : nv[0]? = some (.ref aK)) (m1 : nv[1]? = some (.ref aW)) (m2 : nv[2]? = some (.ref aZ)) (m3 : nv[3]? = some (.ref aD)) (hK : P[aK]? = some (103, kv)) (fK : aK < z_far) (yK : ye_arr kd so kv) (hW : P[aW]? = some (103, wv)) (fW : aW < z_far) (yW : ye_arr wt so wv) (hZ : P[aZ]? = some (103, zv)) (fZ : aZ < z_far) (yZ : ye_arr sz so zv) (hD : P[aD]? = some (103, dv)) (fD : aD < z_far) (yD : ye_arr dr so dv) (hs : 0 ≤ s ∧ s < so) (hd : 1 ≤ d) : ye_X xs d 184 [.ref aX, ye_v s, ye_v 0] P (fun r P' => r = some (ye_v (kd s))) := by
  refine ye_go ?_
  have a0 : z_get (lv_args 0 [.ref aX, ye_v s, ye_v 0]) 0 = some (.ref aX) := rfl
  have a1 : z_get (lv_args 0 [.ref aX, ye_v s, ye_v 0]) 1 = some (ye_v s) := rfl
  have a2 : z_get (lv_args 0 [.ref aX, ye_v s, ye_v 0]) 2 = some (ye_v 0) := rfl
  refine z_r_ld (kk := z_isA) (ins := (.aload_n 0)) (len := 1) (t := 1) (i := 0) rfl rfl rfl rfl rfl (fun _ => rfl) a0 rfl ?_
  refine z_r_ld (kk := z_isI) (ins := (.iload_n 1)) (len := 1) (t := 2) (i := 1) rfl rfl rfl rfl rfl (fun _ => rfl) a1 rfl ?_
  refine ye_ca (ins := (.invokevirtual 162)) (kd := 1) (t := 5) rfl rfl (by decide) (z_argsv rfl rfl rfl (by omega) (Nat.le_of_ble_eq_true rfl) rfl (Nat.le_of_ble_eq_true rfl) (Nat.le_of_ble_eq_true rfl) (Nat.le_of_ble_eq_true rfl) (Or.inr (Nat.le_of_ble_eq_true rfl)) (Or.inr (z_atv (z_lkn fX hX) rfl))) rfl rfl rfl (ye_isSortC hX fX x2 hN fN n5 hso (by omega)) ?_
  rintro _ _ ⟨rfl, b_1, rfl, h_2⟩
  by_cases b_3 : b_1 = 0
  · skip
    refine z_r_jm (ins := (.ifCond .eq 12)) (len := 3) (t := 17) rfl rfl rfl rfl (ye_iy (t := 17) rfl (by omega) (by omega) b_3) ?_
    omega
  · skip
    refine z_r_jm (ins := (.ifCond .eq 12)) (len := 3) (t := 8) rfl rfl rfl rfl (ye_in (t := 17) rfl (by omega) (by omega) b_3) ?_
    refine z_r_ld (kk := z_isI) (ins := (.iload_n 2)) (len := 1) (t := 9) (i := 2) rfl rfl rfl rfl rfl (fun _ => rfl) a2 rfl ?_
    refine z_r_jm (ins := (.ifCond .lt 8)) (len := 3) (t := 12) rfl rfl rfl rfl (ye_in (t := 17) rfl (by omega) (by omega) (by show ¬ ((0 : Int) < 0); decide)) ?_
    refine z_r_ld (kk := z_isI) (ins := (.iload_n 2)) (len := 1) (t := 13) (i := 2) rfl rfl rfl rfl rfl (fun _ => rfl) a2 rfl ?_
    refine z_r_pu (ins := (.iconst 3)) (len := 1) (t := 14) (st' := [ye_v 3, ye_v 0]) rfl rfl rfl rfl rfl ?_
    refine z_r_jm (ins := (.if_icmp .le 11)) (len := 3) (t := 25) rfl rfl rfl rfl (ye_jy (t := 25) rfl (by omega) (by omega) (by omega) (by omega) (by show (0 : Int) ≤ 3; decide)) ?_
    refine z_r_ld (kk := z_isI) (ins := (.iload_n 2)) (len := 1) (t := 26) (i := 2) rfl rfl rfl rfl rfl (fun _ => rfl) a2 rfl ?_
    refine z_r_jm (ins := (.tableswitch 56 0 2 #[26, 36, 46])) (len := 26) (t := 52) rfl rfl rfl rfl rfl ?_
    refine z_r_ld (kk := z_isA) (ins := (.aload_n 0)) (len := 1) (t := 53) (i := 0) rfl rfl rfl rfl rfl (fun _ => rfl) a0 rfl ?_
    refine z_r_rd (ins := (.getfield 26)) (len := 3) (t := 56) rfl rfl rfl rfl rfl (z_gfv (ci := 0) (k := 2) (v := .ref aN) rfl (z_lkn fX hX) (by decide) x2) ?_
    refine z_r_rd (ins := (.getfield 168)) (len := 3) (t := 59) rfl rfl rfl rfl rfl (z_gfv (ci := 3) (k := 0) (v := .ref aK) rfl (z_lkn fN hN) (by decide) m0) ?_
    refine z_r_ld (kk := z_isI) (ins := (.iload_n 1)) (len := 1) (t := 60) (i := 1) rfl rfl rfl rfl rfl (fun _ => rfl) a1 rfl ?_
    refine z_r_rd (ins := .iaload) (len := 1) (t := 61) rfl rfl rfl rfl rfl (ye_al (t := 103) (p := s) (e := kd s) (z_lkn fK hK) (by omega) (by omega) (yK.2 s (by omega) (by omega))) ?_
    refine ye_ret (ins := .ireturn) rfl rfl rfl (ye_reti rfl) ?_
    exact rfl
theorem ye_CsortY1 (hX : P[aX]? = some (0, xv)) (fX : aX < z_far) (x2 : xv[2]? = some (.ref aN)) (hN : P[aN]? = some (3, nv)) (fN : aN < z_far) (n5 : nv[5]? = some (ye_v so)) (hso : 0 ≤ so ∧ so ≤ 10) (m0 : nv[0]? = some (.ref aK)) (m1 : nv[1]? = some (.ref aW)) (m2 : nv[2]? = some (.ref aZ)) (m3 : nv[3]? = some (.ref aD)) (hK : P[aK]? = some (103, kv)) (fK : aK < z_far) (yK : ye_arr kd so kv) (hW : P[aW]? = some (103, wv)) (fW : aW < z_far) (yW : ye_arr wt so wv) (hZ : P[aZ]? = some (103, zv)) (fZ : aZ < z_far) (yZ : ye_arr sz so zv) (hD : P[aD]? = some (103, dv)) (fD : aD < z_far) (yD : ye_arr dr so dv) (hs : 0 ≤ s ∧ s < so) (hd : 1 ≤ d) : ye_X xs d 184 [.ref aX, ye_v s, ye_v 1] P (fun r P' => r = some (ye_v (wt s))) := by
  refine ye_go ?_
  have a0 : z_get (lv_args 0 [.ref aX, ye_v s, ye_v 1]) 0 = some (.ref aX) := rfl
  have a1 : z_get (lv_args 0 [.ref aX, ye_v s, ye_v 1]) 1 = some (ye_v s) := rfl
  have a2 : z_get (lv_args 0 [.ref aX, ye_v s, ye_v 1]) 2 = some (ye_v 1) := rfl
  refine z_r_ld (kk := z_isA) (ins := (.aload_n 0)) (len := 1) (t := 1) (i := 0) rfl rfl rfl rfl rfl (fun _ => rfl) a0 rfl ?_
  refine z_r_ld (kk := z_isI) (ins := (.iload_n 1)) (len := 1) (t := 2) (i := 1) rfl rfl rfl rfl rfl (fun _ => rfl) a1 rfl ?_
  refine ye_ca (ins := (.invokevirtual 162)) (kd := 1) (t := 5) rfl rfl (by decide) (z_argsv rfl rfl rfl (by omega) (Nat.le_of_ble_eq_true rfl) rfl (Nat.le_of_ble_eq_true rfl) (Nat.le_of_ble_eq_true rfl) (Nat.le_of_ble_eq_true rfl) (Or.inr (Nat.le_of_ble_eq_true rfl)) (Or.inr (z_atv (z_lkn fX hX) rfl))) rfl rfl rfl (ye_isSortC hX fX x2 hN fN n5 hso (by omega)) ?_
  rintro _ _ ⟨rfl, b_1, rfl, h_2⟩
  by_cases b_3 : b_1 = 0
  · skip
    refine z_r_jm (ins := (.ifCond .eq 12)) (len := 3) (t := 17) rfl rfl rfl rfl (ye_iy (t := 17) rfl (by omega) (by omega) b_3) ?_
    omega
  · skip
    refine z_r_jm (ins := (.ifCond .eq 12)) (len := 3) (t := 8) rfl rfl rfl rfl (ye_in (t := 17) rfl (by omega) (by omega) b_3) ?_
    refine z_r_ld (kk := z_isI) (ins := (.iload_n 2)) (len := 1) (t := 9) (i := 2) rfl rfl rfl rfl rfl (fun _ => rfl) a2 rfl ?_
    refine z_r_jm (ins := (.ifCond .lt 8)) (len := 3) (t := 12) rfl rfl rfl rfl (ye_in (t := 17) rfl (by omega) (by omega) (by show ¬ ((1 : Int) < 0); decide)) ?_
    refine z_r_ld (kk := z_isI) (ins := (.iload_n 2)) (len := 1) (t := 13) (i := 2) rfl rfl rfl rfl rfl (fun _ => rfl) a2 rfl ?_
    refine z_r_pu (ins := (.iconst 3)) (len := 1) (t := 14) (st' := [ye_v 3, ye_v 1]) rfl rfl rfl rfl rfl ?_
    refine z_r_jm (ins := (.if_icmp .le 11)) (len := 3) (t := 25) rfl rfl rfl rfl (ye_jy (t := 25) rfl (by omega) (by omega) (by omega) (by omega) (by show (1 : Int) ≤ 3; decide)) ?_
    refine z_r_ld (kk := z_isI) (ins := (.iload_n 2)) (len := 1) (t := 26) (i := 2) rfl rfl rfl rfl rfl (fun _ => rfl) a2 rfl ?_
    refine z_r_jm (ins := (.tableswitch 56 0 2 #[26, 36, 46])) (len := 26) (t := 62) rfl rfl rfl rfl rfl ?_
    refine z_r_ld (kk := z_isA) (ins := (.aload_n 0)) (len := 1) (t := 63) (i := 0) rfl rfl rfl rfl rfl (fun _ => rfl) a0 rfl ?_
    refine z_r_rd (ins := (.getfield 26)) (len := 3) (t := 66) rfl rfl rfl rfl rfl (z_gfv (ci := 0) (k := 2) (v := .ref aN) rfl (z_lkn fX hX) (by decide) x2) ?_
    refine z_r_rd (ins := (.getfield 171)) (len := 3) (t := 69) rfl rfl rfl rfl rfl (z_gfv (ci := 3) (k := 1) (v := .ref aW) rfl (z_lkn fN hN) (by decide) m1) ?_
    refine z_r_ld (kk := z_isI) (ins := (.iload_n 1)) (len := 1) (t := 70) (i := 1) rfl rfl rfl rfl rfl (fun _ => rfl) a1 rfl ?_
    refine z_r_rd (ins := .iaload) (len := 1) (t := 71) rfl rfl rfl rfl rfl (ye_al (t := 103) (p := s) (e := wt s) (z_lkn fW hW) (by omega) (by omega) (yW.2 s (by omega) (by omega))) ?_
    refine ye_ret (ins := .ireturn) rfl rfl rfl (ye_reti rfl) ?_
    exact rfl
theorem ye_CsortY2 (hX : P[aX]? = some (0, xv)) (fX : aX < z_far) (x2 : xv[2]? = some (.ref aN)) (hN : P[aN]? = some (3, nv)) (fN : aN < z_far) (n5 : nv[5]? = some (ye_v so)) (hso : 0 ≤ so ∧ so ≤ 10) (m0 : nv[0]? = some (.ref aK)) (m1 : nv[1]? = some (.ref aW)) (m2 : nv[2]? = some (.ref aZ)) (m3 : nv[3]? = some (.ref aD)) (hK : P[aK]? = some (103, kv)) (fK : aK < z_far) (yK : ye_arr kd so kv) (hW : P[aW]? = some (103, wv)) (fW : aW < z_far) (yW : ye_arr wt so wv) (hZ : P[aZ]? = some (103, zv)) (fZ : aZ < z_far) (yZ : ye_arr sz so zv) (hD : P[aD]? = some (103, dv)) (fD : aD < z_far) (yD : ye_arr dr so dv) (hs : 0 ≤ s ∧ s < so) (hd : 1 ≤ d) : ye_X xs d 184 [.ref aX, ye_v s, ye_v 2] P (fun r P' => r = some (ye_v (sz s))) := by
  refine ye_go ?_
  have a0 : z_get (lv_args 0 [.ref aX, ye_v s, ye_v 2]) 0 = some (.ref aX) := rfl
  have a1 : z_get (lv_args 0 [.ref aX, ye_v s, ye_v 2]) 1 = some (ye_v s) := rfl
  have a2 : z_get (lv_args 0 [.ref aX, ye_v s, ye_v 2]) 2 = some (ye_v 2) := rfl
  refine z_r_ld (kk := z_isA) (ins := (.aload_n 0)) (len := 1) (t := 1) (i := 0) rfl rfl rfl rfl rfl (fun _ => rfl) a0 rfl ?_
  refine z_r_ld (kk := z_isI) (ins := (.iload_n 1)) (len := 1) (t := 2) (i := 1) rfl rfl rfl rfl rfl (fun _ => rfl) a1 rfl ?_
  refine ye_ca (ins := (.invokevirtual 162)) (kd := 1) (t := 5) rfl rfl (by decide) (z_argsv rfl rfl rfl (by omega) (Nat.le_of_ble_eq_true rfl) rfl (Nat.le_of_ble_eq_true rfl) (Nat.le_of_ble_eq_true rfl) (Nat.le_of_ble_eq_true rfl) (Or.inr (Nat.le_of_ble_eq_true rfl)) (Or.inr (z_atv (z_lkn fX hX) rfl))) rfl rfl rfl (ye_isSortC hX fX x2 hN fN n5 hso (by omega)) ?_
  rintro _ _ ⟨rfl, b_1, rfl, h_2⟩
  by_cases b_3 : b_1 = 0
  · skip
    refine z_r_jm (ins := (.ifCond .eq 12)) (len := 3) (t := 17) rfl rfl rfl rfl (ye_iy (t := 17) rfl (by omega) (by omega) b_3) ?_
    omega
  · skip
    refine z_r_jm (ins := (.ifCond .eq 12)) (len := 3) (t := 8) rfl rfl rfl rfl (ye_in (t := 17) rfl (by omega) (by omega) b_3) ?_
    refine z_r_ld (kk := z_isI) (ins := (.iload_n 2)) (len := 1) (t := 9) (i := 2) rfl rfl rfl rfl rfl (fun _ => rfl) a2 rfl ?_
    refine z_r_jm (ins := (.ifCond .lt 8)) (len := 3) (t := 12) rfl rfl rfl rfl (ye_in (t := 17) rfl (by omega) (by omega) (by show ¬ ((2 : Int) < 0); decide)) ?_
    refine z_r_ld (kk := z_isI) (ins := (.iload_n 2)) (len := 1) (t := 13) (i := 2) rfl rfl rfl rfl rfl (fun _ => rfl) a2 rfl ?_
    refine z_r_pu (ins := (.iconst 3)) (len := 1) (t := 14) (st' := [ye_v 3, ye_v 2]) rfl rfl rfl rfl rfl ?_
    refine z_r_jm (ins := (.if_icmp .le 11)) (len := 3) (t := 25) rfl rfl rfl rfl (ye_jy (t := 25) rfl (by omega) (by omega) (by omega) (by omega) (by show (2 : Int) ≤ 3; decide)) ?_
    refine z_r_ld (kk := z_isI) (ins := (.iload_n 2)) (len := 1) (t := 26) (i := 2) rfl rfl rfl rfl rfl (fun _ => rfl) a2 rfl ?_
    refine z_r_jm (ins := (.tableswitch 56 0 2 #[26, 36, 46])) (len := 26) (t := 72) rfl rfl rfl rfl rfl ?_
    refine z_r_ld (kk := z_isA) (ins := (.aload_n 0)) (len := 1) (t := 73) (i := 0) rfl rfl rfl rfl rfl (fun _ => rfl) a0 rfl ?_
    refine z_r_rd (ins := (.getfield 26)) (len := 3) (t := 76) rfl rfl rfl rfl rfl (z_gfv (ci := 0) (k := 2) (v := .ref aN) rfl (z_lkn fX hX) (by decide) x2) ?_
    refine z_r_rd (ins := (.getfield 174)) (len := 3) (t := 79) rfl rfl rfl rfl rfl (z_gfv (ci := 3) (k := 2) (v := .ref aZ) rfl (z_lkn fN hN) (by decide) m2) ?_
    refine z_r_ld (kk := z_isI) (ins := (.iload_n 1)) (len := 1) (t := 80) (i := 1) rfl rfl rfl rfl rfl (fun _ => rfl) a1 rfl ?_
    refine z_r_rd (ins := .iaload) (len := 1) (t := 81) rfl rfl rfl rfl rfl (ye_al (t := 103) (p := s) (e := sz s) (z_lkn fZ hZ) (by omega) (by omega) (yZ.2 s (by omega) (by omega))) ?_
    refine ye_ret (ins := .ireturn) rfl rfl rfl (ye_reti rfl) ?_
    exact rfl
theorem ye_CsortY3 (hX : P[aX]? = some (0, xv)) (fX : aX < z_far) (x2 : xv[2]? = some (.ref aN)) (hN : P[aN]? = some (3, nv)) (fN : aN < z_far) (n5 : nv[5]? = some (ye_v so)) (hso : 0 ≤ so ∧ so ≤ 10) (m0 : nv[0]? = some (.ref aK)) (m1 : nv[1]? = some (.ref aW)) (m2 : nv[2]? = some (.ref aZ)) (m3 : nv[3]? = some (.ref aD)) (hK : P[aK]? = some (103, kv)) (fK : aK < z_far) (yK : ye_arr kd so kv) (hW : P[aW]? = some (103, wv)) (fW : aW < z_far) (yW : ye_arr wt so wv) (hZ : P[aZ]? = some (103, zv)) (fZ : aZ < z_far) (yZ : ye_arr sz so zv) (hD : P[aD]? = some (103, dv)) (fD : aD < z_far) (yD : ye_arr dr so dv) (hs : 0 ≤ s ∧ s < so) (hd : 1 ≤ d) : ye_X xs d 184 [.ref aX, ye_v s, ye_v 3] P (fun r P' => r = some (ye_v (dr s))) := by
  refine ye_go ?_
  have a0 : z_get (lv_args 0 [.ref aX, ye_v s, ye_v 3]) 0 = some (.ref aX) := rfl
  have a1 : z_get (lv_args 0 [.ref aX, ye_v s, ye_v 3]) 1 = some (ye_v s) := rfl
  have a2 : z_get (lv_args 0 [.ref aX, ye_v s, ye_v 3]) 2 = some (ye_v 3) := rfl
  refine z_r_ld (kk := z_isA) (ins := (.aload_n 0)) (len := 1) (t := 1) (i := 0) rfl rfl rfl rfl rfl (fun _ => rfl) a0 rfl ?_
  refine z_r_ld (kk := z_isI) (ins := (.iload_n 1)) (len := 1) (t := 2) (i := 1) rfl rfl rfl rfl rfl (fun _ => rfl) a1 rfl ?_
  refine ye_ca (ins := (.invokevirtual 162)) (kd := 1) (t := 5) rfl rfl (by decide) (z_argsv rfl rfl rfl (by omega) (Nat.le_of_ble_eq_true rfl) rfl (Nat.le_of_ble_eq_true rfl) (Nat.le_of_ble_eq_true rfl) (Nat.le_of_ble_eq_true rfl) (Or.inr (Nat.le_of_ble_eq_true rfl)) (Or.inr (z_atv (z_lkn fX hX) rfl))) rfl rfl rfl (ye_isSortC hX fX x2 hN fN n5 hso (by omega)) ?_
  rintro _ _ ⟨rfl, b_1, rfl, h_2⟩
  by_cases b_3 : b_1 = 0
  · skip
    refine z_r_jm (ins := (.ifCond .eq 12)) (len := 3) (t := 17) rfl rfl rfl rfl (ye_iy (t := 17) rfl (by omega) (by omega) b_3) ?_
    omega
  · skip
    refine z_r_jm (ins := (.ifCond .eq 12)) (len := 3) (t := 8) rfl rfl rfl rfl (ye_in (t := 17) rfl (by omega) (by omega) b_3) ?_
    refine z_r_ld (kk := z_isI) (ins := (.iload_n 2)) (len := 1) (t := 9) (i := 2) rfl rfl rfl rfl rfl (fun _ => rfl) a2 rfl ?_
    refine z_r_jm (ins := (.ifCond .lt 8)) (len := 3) (t := 12) rfl rfl rfl rfl (ye_in (t := 17) rfl (by omega) (by omega) (by show ¬ ((3 : Int) < 0); decide)) ?_
    refine z_r_ld (kk := z_isI) (ins := (.iload_n 2)) (len := 1) (t := 13) (i := 2) rfl rfl rfl rfl rfl (fun _ => rfl) a2 rfl ?_
    refine z_r_pu (ins := (.iconst 3)) (len := 1) (t := 14) (st' := [ye_v 3, ye_v 3]) rfl rfl rfl rfl rfl ?_
    refine z_r_jm (ins := (.if_icmp .le 11)) (len := 3) (t := 25) rfl rfl rfl rfl (ye_jy (t := 25) rfl (by omega) (by omega) (by omega) (by omega) (by show (3 : Int) ≤ 3; decide)) ?_
    refine z_r_ld (kk := z_isI) (ins := (.iload_n 2)) (len := 1) (t := 26) (i := 2) rfl rfl rfl rfl rfl (fun _ => rfl) a2 rfl ?_
    refine z_r_jm (ins := (.tableswitch 56 0 2 #[26, 36, 46])) (len := 26) (t := 82) rfl rfl rfl rfl rfl ?_
    refine z_r_ld (kk := z_isA) (ins := (.aload_n 0)) (len := 1) (t := 83) (i := 0) rfl rfl rfl rfl rfl (fun _ => rfl) a0 rfl ?_
    refine z_r_rd (ins := (.getfield 26)) (len := 3) (t := 86) rfl rfl rfl rfl rfl (z_gfv (ci := 0) (k := 2) (v := .ref aN) rfl (z_lkn fX hX) (by decide) x2) ?_
    refine z_r_rd (ins := (.getfield 177)) (len := 3) (t := 89) rfl rfl rfl rfl rfl (z_gfv (ci := 3) (k := 3) (v := .ref aD) rfl (z_lkn fN hN) (by decide) m3) ?_
    refine z_r_ld (kk := z_isI) (ins := (.iload_n 1)) (len := 1) (t := 90) (i := 1) rfl rfl rfl rfl rfl (fun _ => rfl) a1 rfl ?_
    refine z_r_rd (ins := .iaload) (len := 1) (t := 91) rfl rfl rfl rfl rfl (ye_al (t := 103) (p := s) (e := dr s) (z_lkn fD hD) (by omega) (by omega) (yD.2 s (by omega) (by omega))) ?_
    refine ye_ret (ins := .ireturn) rfl rfl rfl (ye_reti rfl) ?_
    exact rfl
theorem ye_CsortN (hX : P[aX]? = some (0, xv)) (fX : aX < z_far) (x2 : xv[2]? = some (.ref aN)) (hN : P[aN]? = some (3, nv)) (fN : aN < z_far) (n5 : nv[5]? = some (ye_v so)) (hso : 0 ≤ so ∧ so ≤ 10) (bs : -2147483648 ≤ s ∧ s < 2147483648) (bq : -2147483648 ≤ q ∧ q < 2147483648) (hn : ¬ yj_ok so s q) (hd : 1 ≤ d) : z_Rh (z_G xs) d 184 (fun z => z.1 = 17 ∧ z.2.2.1 = []) (0, lv_args 0 [.ref aX, ye_v s, ye_v q], [], P, 0, 0) := by
  unfold yj_ok at hn
  have a0 : z_get (lv_args 0 [.ref aX, ye_v s, ye_v q]) 0 = some (.ref aX) := rfl
  have a1 : z_get (lv_args 0 [.ref aX, ye_v s, ye_v q]) 1 = some (ye_v s) := rfl
  have a2 : z_get (lv_args 0 [.ref aX, ye_v s, ye_v q]) 2 = some (ye_v q) := rfl
  refine z_r_ld (kk := z_isA) (ins := (.aload_n 0)) (len := 1) (t := 1) (i := 0) rfl rfl rfl rfl rfl (fun _ => rfl) a0 rfl ?_
  refine z_r_ld (kk := z_isI) (ins := (.iload_n 1)) (len := 1) (t := 2) (i := 1) rfl rfl rfl rfl rfl (fun _ => rfl) a1 rfl ?_
  refine ye_ca (ins := (.invokevirtual 162)) (kd := 1) (t := 5) rfl rfl (by decide) (z_argsv rfl rfl rfl (by omega) (Nat.le_of_ble_eq_true rfl) rfl (Nat.le_of_ble_eq_true rfl) (Nat.le_of_ble_eq_true rfl) (Nat.le_of_ble_eq_true rfl) (Or.inr (Nat.le_of_ble_eq_true rfl)) (Or.inr (z_atv (z_lkn fX hX) rfl))) rfl rfl rfl (ye_isSortC hX fX x2 hN fN n5 hso (by omega)) ?_
  rintro _ _ ⟨rfl, b_1, rfl, h_2⟩
  by_cases b_3 : b_1 = 0
  · skip
    refine z_r_jm (ins := (.ifCond .eq 12)) (len := 3) (t := 17) rfl rfl rfl rfl (ye_iy (t := 17) rfl (by omega) (by omega) b_3) ?_
    exact z_rh_end ⟨rfl, rfl⟩
  · skip
    refine z_r_jm (ins := (.ifCond .eq 12)) (len := 3) (t := 8) rfl rfl rfl rfl (ye_in (t := 17) rfl (by omega) (by omega) b_3) ?_
    refine z_r_ld (kk := z_isI) (ins := (.iload_n 2)) (len := 1) (t := 9) (i := 2) rfl rfl rfl rfl rfl (fun _ => rfl) a2 rfl ?_
    by_cases b_4 : q < 0
    · skip
      refine z_r_jm (ins := (.ifCond .lt 8)) (len := 3) (t := 17) rfl rfl rfl rfl (ye_iy (t := 17) rfl (by omega) (by omega) b_4) ?_
      exact z_rh_end ⟨rfl, rfl⟩
    · skip
      refine z_r_jm (ins := (.ifCond .lt 8)) (len := 3) (t := 12) rfl rfl rfl rfl (ye_in (t := 17) rfl (by omega) (by omega) b_4) ?_
      refine z_r_ld (kk := z_isI) (ins := (.iload_n 2)) (len := 1) (t := 13) (i := 2) rfl rfl rfl rfl rfl (fun _ => rfl) a2 rfl ?_
      refine z_r_pu (ins := (.iconst 3)) (len := 1) (t := 14) (st' := [ye_v 3, ye_v q]) rfl rfl rfl rfl rfl ?_
      by_cases b_5 : q ≤ 3
      · skip
        refine z_r_jm (ins := (.if_icmp .le 11)) (len := 3) (t := 25) rfl rfl rfl rfl (ye_jy (t := 25) rfl (by omega) (by omega) (by omega) (by omega) b_5) ?_
        omega
      · skip
        refine z_r_jm (ins := (.if_icmp .le 11)) (len := 3) (t := 17) rfl rfl rfl rfl (ye_jn (t := 25) rfl (by omega) (by omega) (by omega) (by omega) b_5) ?_
        exact z_rh_end ⟨rfl, rfl⟩
theorem ye_isSortM (hM : P[aM]? = some (10, ye_fl F)) (fM : aM < z_far) (k0 : F 0 = ye_v so) (hso : 0 ≤ so ∧ so ≤ 10) (bs : -2147483648 ≤ s ∧ s < 2147483648) (hd : 1 ≤ d) : ye_X xs d 212 [.ref aM, ye_v s] P (fun r P' => P' = P ∧ ∃ b, r = some (ye_v b) ∧ ((b = 1 ∧ 0 ≤ s ∧ s < so) ∨ (b = 0 ∧ (s < 0 ∨ so ≤ s)))) := by
  refine ye_go ?_
  have a0 : z_get (lv_args 0 [.ref aM, ye_v s]) 0 = some (.ref aM) := rfl
  have a1 : z_get (lv_args 0 [.ref aM, ye_v s]) 1 = some (ye_v s) := rfl
  refine z_r_ld (kk := z_isI) (ins := (.iload_n 1)) (len := 1) (t := 1) (i := 1) rfl rfl rfl rfl rfl (fun _ => rfl) a1 rfl ?_
  refine z_r_pu (ins := (.iconst 0)) (len := 1) (t := 2) (st' := [ye_v 0, ye_v s]) rfl rfl rfl rfl rfl ?_
  refine z_r_ld (kk := z_isA) (ins := (.aload_n 0)) (len := 1) (t := 3) (i := 0) rfl rfl rfl rfl rfl (fun _ => rfl) a0 rfl ?_
  refine z_r_rd (ins := (.getfield 130)) (len := 3) (t := 6) rfl rfl rfl rfl rfl (z_gfv (ci := 10) (k := 0) (v := ye_v so) rfl (z_lkn fM hM) (by decide) (ye_flg rfl k0)) ?_
  refine z_r_pu (ins := (.iconst 1)) (len := 1) (t := 7) (st' := [ye_v 1, ye_v so, ye_v 0, ye_v s]) rfl rfl rfl rfl rfl ?_
  refine z_r_pu (ins := .isub) (len := 1) (t := 8) rfl rfl rfl rfl ye_sub ?_
  refine ye_ca (ins := (.invokestatic 133)) (kd := 0) (t := 11) rfl rfl (by decide) (z_argsv rfl rfl rfl (by omega) (Nat.le_of_ble_eq_true rfl) rfl (Nat.le_of_ble_eq_true rfl) (Nat.le_refl _) (Nat.le_refl _) (Or.inl rfl) (Or.inl rfl)) rfl rfl rfl (ye_inr (by omega) (by omega) (by omega)) ?_
  rintro _ _ ⟨rfl, b_1, rfl, h_2⟩
  refine ye_ret (ins := .ireturn) rfl rfl rfl (ye_retz rfl (by omega)) ?_
  exact ⟨rfl, _, rfl, by omega⟩
theorem ye_lost (hM : P[aM]? = some (10, ye_fl F)) (fM : aM < z_far) : ye_X xs d 213 [.ref aM] P (fun r P' => r = some (ye_v 0) ∧ P'[aM]? = some (10, ye_fl (ye_up F 14 (ye_v 1))) ∧ ye_oth [aM] P P') := by
  refine ye_go ?_
  have a0 : z_get (lv_args 0 [.ref aM]) 0 = some (.ref aM) := rfl
  have ho0 : ye_oth [aM] P P := ye_oth_rf
  refine z_r_ld (kk := z_isA) (ins := (.aload_n 0)) (len := 1) (t := 1) (i := 0) rfl rfl rfl rfl rfl (fun _ => rfl) a0 rfl ?_
  refine z_r_pu (ins := (.iconst 1)) (len := 1) (t := 2) (st' := [ye_v 1, .ref aM]) rfl rfl rfl rfl rfl ?_
  refine ye_r_wr (ins := (.putfield 124)) (len := 3) (t := 5) (a := aM) (q := (10, ye_fl (ye_up F 14 (ye_v 1)))) rfl rfl rfl rfl rfl hM (ye_pfm (k := 14) rfl hM rfl rfl rfl rfl) (fun P_1 c_2 o_3 => ?_)
  have o_4 := ye_oth_tr ho0 o_3 (ye_s1 (List.mem_cons_self))
  refine z_r_pu (ins := (.iconst 0)) (len := 1) (t := 6) (st' := [ye_v 0]) rfl rfl rfl rfl rfl ?_
  refine ye_ret (ins := .ireturn) rfl rfl rfl (ye_reti rfl) ?_
  exact ⟨rfl, c_2, o_4⟩
theorem ye_Msort (hM : P[aM]? = some (10, ye_fl F)) (fM : aM < z_far) (k0 : F 0 = ye_v so) (k1 : F 1 = .ref aK) (k2 : F 2 = .ref aW) (k3 : F 3 = .ref aZ) (k4 : F 4 = .ref aD) (hso : 0 ≤ so ∧ so ≤ 10) (hK : P[aK]? = some (103, kv)) (fK : aK < z_far) (yK : ye_arr kd so kv) (hW : P[aW]? = some (103, wv)) (fW : aW < z_far) (yW : ye_arr wt so wv) (hZ : P[aZ]? = some (103, zv)) (fZ : aZ < z_far) (yZ : ye_arr sz so zv) (hD : P[aD]? = some (103, dv)) (fD : aD < z_far) (yD : ye_arr dr so dv) (bs : -2147483648 ≤ s ∧ s < 2147483648) (bq : -2147483648 ≤ q ∧ q < 2147483648) (hd : 2 ≤ d) : ye_X xs d 211 [.ref aM, ye_v s, ye_v q] P (fun r P' => ∃ v F', r = some (ye_v v) ∧ P'[aM]? = some (10, ye_fl F') ∧ ye_oth [aM] P P' ∧ ((yj_ok so s q ∧ v = yj_v kd wt sz dr s q ∧ F' 14 = ye_v 0) ∨ (¬ yj_ok so s q ∧ F' 14 = ye_v 1))) := by
  refine ye_go ?_
  have a0 : z_get (lv_args 0 [.ref aM, ye_v s, ye_v q]) 0 = some (.ref aM) := rfl
  have a1 : z_get (lv_args 0 [.ref aM, ye_v s, ye_v q]) 1 = some (ye_v s) := rfl
  have a2 : z_get (lv_args 0 [.ref aM, ye_v s, ye_v q]) 2 = some (ye_v q) := rfl
  have ho0 : ye_oth [aM] P P := ye_oth_rf
  refine z_r_ld (kk := z_isA) (ins := (.aload_n 0)) (len := 1) (t := 1) (i := 0) rfl rfl rfl rfl rfl (fun _ => rfl) a0 rfl ?_
  refine z_r_pu (ins := (.iconst 0)) (len := 1) (t := 2) (st' := [ye_v 0, .ref aM]) rfl rfl rfl rfl rfl ?_
  refine ye_r_wr (ins := (.putfield 124)) (len := 3) (t := 5) (a := aM) (q := (10, ye_fl (ye_up F 14 (ye_v 0)))) rfl rfl rfl rfl rfl hM (ye_pfm (k := 14) rfl hM rfl rfl rfl rfl) (fun P_1 c_2 o_3 => ?_)
  have c_4 := ye_kp o_3 (ye_n1 (ye_ne hD hM (by decide))) hD
  have c_5 := ye_kp o_3 (ye_n1 (ye_ne hK hM (by decide))) hK
  have c_6 := ye_kp o_3 (ye_n1 (ye_ne hW hM (by decide))) hW
  have c_7 := ye_kp o_3 (ye_n1 (ye_ne hZ hM (by decide))) hZ
  have o_8 := ye_oth_tr ho0 o_3 (ye_s1 (List.mem_cons_self))
  refine z_r_ld (kk := z_isA) (ins := (.aload_n 0)) (len := 1) (t := 6) (i := 0) rfl rfl rfl rfl rfl (fun _ => rfl) a0 rfl ?_
  refine z_r_ld (kk := z_isI) (ins := (.iload_n 1)) (len := 1) (t := 7) (i := 1) rfl rfl rfl rfl rfl (fun _ => rfl) a1 rfl ?_
  refine ye_ca (ins := (.invokevirtual 249)) (kd := 1) (t := 10) rfl rfl (by decide) (z_argsv rfl rfl rfl (by omega) (Nat.le_of_ble_eq_true rfl) rfl (Nat.le_of_ble_eq_true rfl) (Nat.le_refl _) (Nat.le_refl _) (Or.inr (Nat.le_of_ble_eq_true rfl)) (Or.inr (z_atv (z_lkn fM c_2) rfl))) rfl rfl rfl (ye_isSortM c_2 fM k0 hso (by omega) (by omega)) ?_
  rintro _ _ ⟨rfl, b_9, rfl, h_10⟩
  by_cases b_11 : b_9 = 0
  · skip
    refine z_r_jm (ins := (.ifCond .eq 12)) (len := 3) (t := 22) rfl rfl rfl rfl (ye_iy (t := 22) rfl (by omega) (by omega) b_11) ?_
    refine z_r_ld (kk := z_isA) (ins := (.aload_n 0)) (len := 1) (t := 23) (i := 0) rfl rfl rfl rfl rfl (fun _ => rfl) a0 rfl ?_
    refine ye_ca (ins := (.invokevirtual 253)) (kd := 1) (t := 26) rfl rfl (by decide) (z_argsv rfl rfl rfl (by omega) (Nat.le_of_ble_eq_true rfl) rfl (Nat.le_of_ble_eq_true rfl) (Nat.le_refl _) (Nat.le_refl _) (Or.inr (Nat.le_of_ble_eq_true rfl)) (Or.inr (z_atv (z_lkn fM c_2) rfl))) rfl rfl rfl (ye_lost (F := (ye_up F 14 (ye_v 0))) c_2 fM) ?_
    rintro _ P_12 ⟨rfl, c_13, o_14⟩
    have o_15 := ye_oth_tr o_8 o_14 (fun _ q => q)
    refine ye_ret (ins := .ireturn) rfl rfl rfl (ye_reti rfl) ?_
    exact ⟨_, _, rfl, c_13, o_15, Or.inr ⟨by unfold yj_ok; omega, rfl⟩⟩
  · skip
    refine z_r_jm (ins := (.ifCond .eq 12)) (len := 3) (t := 13) rfl rfl rfl rfl (ye_in (t := 22) rfl (by omega) (by omega) b_11) ?_
    refine z_r_ld (kk := z_isI) (ins := (.iload_n 2)) (len := 1) (t := 14) (i := 2) rfl rfl rfl rfl rfl (fun _ => rfl) a2 rfl ?_
    refine z_r_pu (ins := (.iconst 0)) (len := 1) (t := 15) (st' := [ye_v 0, ye_v q]) rfl rfl rfl rfl rfl ?_
    refine z_r_pu (ins := (.iconst 3)) (len := 1) (t := 16) (st' := [ye_v 3, ye_v 0, ye_v q]) rfl rfl rfl rfl rfl ?_
    refine ye_ca (ins := (.invokestatic 133)) (kd := 0) (t := 19) rfl rfl (by decide) (z_argsv rfl rfl rfl (by omega) (Nat.le_of_ble_eq_true rfl) rfl (Nat.le_of_ble_eq_true rfl) (Nat.le_refl _) (Nat.le_refl _) (Or.inl rfl) (Or.inl rfl)) rfl rfl rfl (ye_inr (by omega) (by omega) (by omega)) ?_
    rintro _ _ ⟨rfl, b_16, rfl, h_17⟩
    by_cases b_18 : b_16 ≠ 0
    · skip
      refine z_r_jm (ins := (.ifCond .ne 8)) (len := 3) (t := 27) rfl rfl rfl rfl (ye_iy (t := 27) rfl (by omega) (by omega) b_18) ?_
      refine z_r_ld (kk := z_isI) (ins := (.iload_n 2)) (len := 1) (t := 28) (i := 2) rfl rfl rfl rfl rfl (fun _ => rfl) a2 rfl ?_
      by_cases b_19 : q ≠ 0
      · skip
        refine z_r_jm (ins := (.ifCond .ne 12)) (len := 3) (t := 40) rfl rfl rfl rfl (ye_iy (t := 40) rfl (by omega) (by omega) b_19) ?_
        refine z_r_ld (kk := z_isI) (ins := (.iload_n 2)) (len := 1) (t := 41) (i := 2) rfl rfl rfl rfl rfl (fun _ => rfl) a2 rfl ?_
        refine z_r_pu (ins := (.iconst 1)) (len := 1) (t := 42) (st' := [ye_v 1, ye_v q]) rfl rfl rfl rfl rfl ?_
        by_cases b_20 : q ≠ 1
        · skip
          refine z_r_jm (ins := (.if_icmp .ne 12)) (len := 3) (t := 54) rfl rfl rfl rfl (ye_jy (t := 54) rfl (by omega) (by omega) (by omega) (by omega) b_20) ?_
          refine z_r_ld (kk := z_isI) (ins := (.iload_n 2)) (len := 1) (t := 55) (i := 2) rfl rfl rfl rfl rfl (fun _ => rfl) a2 rfl ?_
          refine z_r_pu (ins := (.iconst 2)) (len := 1) (t := 56) (st' := [ye_v 2, ye_v q]) rfl rfl rfl rfl rfl ?_
          by_cases b_21 : q ≠ 2
          · skip
            refine z_r_jm (ins := (.if_icmp .ne 12)) (len := 3) (t := 68) rfl rfl rfl rfl (ye_jy (t := 68) rfl (by omega) (by omega) (by omega) (by omega) b_21) ?_
            refine z_r_ld (kk := z_isA) (ins := (.aload_n 0)) (len := 1) (t := 69) (i := 0) rfl rfl rfl rfl rfl (fun _ => rfl) a0 rfl ?_
            refine z_r_rd (ins := (.getfield 19)) (len := 3) (t := 72) rfl rfl rfl rfl rfl (z_gfv (ci := 10) (k := 4) (v := .ref aD) rfl (z_lkn fM c_2) (by decide) (ye_flg rfl k4)) ?_
            refine z_r_ld (kk := z_isI) (ins := (.iload_n 1)) (len := 1) (t := 73) (i := 1) rfl rfl rfl rfl rfl (fun _ => rfl) a1 rfl ?_
            refine z_r_rd (ins := .iaload) (len := 1) (t := 74) rfl rfl rfl rfl rfl (ye_al (t := 103) (p := s) (e := dr s) (z_lkn fD c_4) (by omega) (by omega) (yD.2 s (by omega) (by omega))) ?_
            refine ye_ret (ins := .ireturn) rfl rfl rfl (ye_reti rfl) ?_
            have ev : yj_v kd wt sz dr s q = dr s := by
              unfold yj_v
              rw [if_neg (by omega), if_neg (by omega), if_neg (by omega)]
            exact ⟨_, _, rfl, c_2, o_8, Or.inl ⟨⟨by omega, by omega, by omega, by omega⟩, ev.symm, rfl⟩⟩
          · skip
            refine z_r_jm (ins := (.if_icmp .ne 12)) (len := 3) (t := 59) rfl rfl rfl rfl (ye_jn (t := 68) rfl (by omega) (by omega) (by omega) (by omega) b_21) ?_
            refine z_r_ld (kk := z_isA) (ins := (.aload_n 0)) (len := 1) (t := 60) (i := 0) rfl rfl rfl rfl rfl (fun _ => rfl) a0 rfl ?_
            refine z_r_rd (ins := (.getfield 16)) (len := 3) (t := 63) rfl rfl rfl rfl rfl (z_gfv (ci := 10) (k := 3) (v := .ref aZ) rfl (z_lkn fM c_2) (by decide) (ye_flg rfl k3)) ?_
            refine z_r_ld (kk := z_isI) (ins := (.iload_n 1)) (len := 1) (t := 64) (i := 1) rfl rfl rfl rfl rfl (fun _ => rfl) a1 rfl ?_
            refine z_r_rd (ins := .iaload) (len := 1) (t := 65) rfl rfl rfl rfl rfl (ye_al (t := 103) (p := s) (e := sz s) (z_lkn fZ c_7) (by omega) (by omega) (yZ.2 s (by omega) (by omega))) ?_
            refine z_r_jm (ins := (.goto 9)) (len := 3) (t := 74) rfl rfl rfl rfl (z_gty rfl) ?_
            refine ye_ret (ins := .ireturn) rfl rfl rfl (ye_reti rfl) ?_
            have ev : yj_v kd wt sz dr s q = sz s := by
              unfold yj_v
              rw [if_neg (by omega), if_neg (by omega), if_pos (by omega)]
            exact ⟨_, _, rfl, c_2, o_8, Or.inl ⟨⟨by omega, by omega, by omega, by omega⟩, ev.symm, rfl⟩⟩
        · skip
          refine z_r_jm (ins := (.if_icmp .ne 12)) (len := 3) (t := 45) rfl rfl rfl rfl (ye_jn (t := 54) rfl (by omega) (by omega) (by omega) (by omega) b_20) ?_
          refine z_r_ld (kk := z_isA) (ins := (.aload_n 0)) (len := 1) (t := 46) (i := 0) rfl rfl rfl rfl rfl (fun _ => rfl) a0 rfl ?_
          refine z_r_rd (ins := (.getfield 13)) (len := 3) (t := 49) rfl rfl rfl rfl rfl (z_gfv (ci := 10) (k := 2) (v := .ref aW) rfl (z_lkn fM c_2) (by decide) (ye_flg rfl k2)) ?_
          refine z_r_ld (kk := z_isI) (ins := (.iload_n 1)) (len := 1) (t := 50) (i := 1) rfl rfl rfl rfl rfl (fun _ => rfl) a1 rfl ?_
          refine z_r_rd (ins := .iaload) (len := 1) (t := 51) rfl rfl rfl rfl rfl (ye_al (t := 103) (p := s) (e := wt s) (z_lkn fW c_6) (by omega) (by omega) (yW.2 s (by omega) (by omega))) ?_
          refine z_r_jm (ins := (.goto 23)) (len := 3) (t := 74) rfl rfl rfl rfl (z_gty rfl) ?_
          refine ye_ret (ins := .ireturn) rfl rfl rfl (ye_reti rfl) ?_
          have ev : yj_v kd wt sz dr s q = wt s := by
            unfold yj_v
            rw [if_neg (by omega), if_pos (by omega)]
          exact ⟨_, _, rfl, c_2, o_8, Or.inl ⟨⟨by omega, by omega, by omega, by omega⟩, ev.symm, rfl⟩⟩
      · skip
        refine z_r_jm (ins := (.ifCond .ne 12)) (len := 3) (t := 31) rfl rfl rfl rfl (ye_in (t := 40) rfl (by omega) (by omega) b_19) ?_
        refine z_r_ld (kk := z_isA) (ins := (.aload_n 0)) (len := 1) (t := 32) (i := 0) rfl rfl rfl rfl rfl (fun _ => rfl) a0 rfl ?_
        refine z_r_rd (ins := (.getfield 9)) (len := 3) (t := 35) rfl rfl rfl rfl rfl (z_gfv (ci := 10) (k := 1) (v := .ref aK) rfl (z_lkn fM c_2) (by decide) (ye_flg rfl k1)) ?_
        refine z_r_ld (kk := z_isI) (ins := (.iload_n 1)) (len := 1) (t := 36) (i := 1) rfl rfl rfl rfl rfl (fun _ => rfl) a1 rfl ?_
        refine z_r_rd (ins := .iaload) (len := 1) (t := 37) rfl rfl rfl rfl rfl (ye_al (t := 103) (p := s) (e := kd s) (z_lkn fK c_5) (by omega) (by omega) (yK.2 s (by omega) (by omega))) ?_
        refine z_r_jm (ins := (.goto 37)) (len := 3) (t := 74) rfl rfl rfl rfl (z_gty rfl) ?_
        refine ye_ret (ins := .ireturn) rfl rfl rfl (ye_reti rfl) ?_
        have ev : yj_v kd wt sz dr s q = kd s := by
          unfold yj_v
          rw [if_pos (by omega)]
        exact ⟨_, _, rfl, c_2, o_8, Or.inl ⟨⟨by omega, by omega, by omega, by omega⟩, ev.symm, rfl⟩⟩
    · skip
      refine z_r_jm (ins := (.ifCond .ne 8)) (len := 3) (t := 22) rfl rfl rfl rfl (ye_in (t := 27) rfl (by omega) (by omega) b_18) ?_
      refine z_r_ld (kk := z_isA) (ins := (.aload_n 0)) (len := 1) (t := 23) (i := 0) rfl rfl rfl rfl rfl (fun _ => rfl) a0 rfl ?_
      refine ye_ca (ins := (.invokevirtual 253)) (kd := 1) (t := 26) rfl rfl (by decide) (z_argsv rfl rfl rfl (by omega) (Nat.le_of_ble_eq_true rfl) rfl (Nat.le_of_ble_eq_true rfl) (Nat.le_refl _) (Nat.le_refl _) (Or.inr (Nat.le_of_ble_eq_true rfl)) (Or.inr (z_atv (z_lkn fM c_2) rfl))) rfl rfl rfl (ye_lost (F := (ye_up F 14 (ye_v 0))) c_2 fM) ?_
      rintro _ P_22 ⟨rfl, c_23, o_24⟩
      have o_25 := ye_oth_tr o_8 o_24 (fun _ q => q)
      refine ye_ret (ins := .ireturn) rfl rfl rfl (ye_reti rfl) ?_
      exact ⟨_, _, rfl, c_23, o_25, Or.inr ⟨by unfold yj_ok; omega, rfl⟩⟩
end YSRT
