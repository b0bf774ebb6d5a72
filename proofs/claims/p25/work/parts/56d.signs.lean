/-! The class's signs, exactly. -/
section YSGN
def ye_sig (e t : Int) : Prop := (0 ≤ e ∧ e < 128 ∧ t = e) ∨ ((e < 0 ∨ 128 ≤ e) ∧ t = -1)
/-- a row of signs: those ahead of n mean what T says -/
def ye_tx (T : Int → Int) (n lo hi : Int) (vs : List Value) : Prop := vs.length = 80 ∧ ∀ i, 0 ≤ i → i < n → ∃ e, vs[i.toNat]? = some (ye_v e) ∧ lo ≤ e ∧ e ≤ hi ∧ ye_sig e (T i)
def ye_nx (T : Int → Int) (lim p c b : Int) : Prop := (b = 1 ∧ p < lim ∧ T p = c) ∨ (b = 0 ∧ ¬ (p < lim ∧ T p = c))
def ye_tk (T : Int → Int) (lim p c b p' : Int) : Prop := (b = 1 ∧ p < lim ∧ T p = c ∧ p' = p + 1) ∨ (b = 0 ∧ ¬ (p < lim ∧ T p = c) ∧ p' = p)
def ye_dg (T : Int → Int) (lim p b : Int) : Prop := (b = 1 ∧ p < lim ∧ 48 ≤ T p ∧ T p ≤ 57) ∨ (b = 0 ∧ ¬ (p < lim ∧ 48 ≤ T p ∧ T p ≤ 57))
variable {xs : List Int32} {d aS aT : Nat} {P : z_H} {vs : List Value} {T : Int → Int} {len p lim mo c : Int}
theorem ye_isNext (hS : P[aS]? = some (1, [.ref aT, ye_v len, ye_v p, ye_v lim, ye_v mo])) (fS : aS < z_far) (hT : P[aT]? = some (102, vs)) (fT : aT < z_far) (hx : ye_tx T len 0 255 vs) (hb : 0 ≤ p ∧ p ≤ lim ∧ lim ≤ len ∧ len ≤ 80)
    (hc : 0 ≤ c ∧ c < 128) : ye_X xs d 20 [.ref aS, ye_v c] P (fun r P' => P' = P ∧ ∃ b, r = some (ye_v b) ∧ ye_nx T lim p c b) := by
  refine ye_go ?_
  have a0 : z_get (lv_args 0 [.ref aS, ye_v c]) 0 = some (.ref aS) := rfl
  have a1 : z_get (lv_args 0 [.ref aS, ye_v c]) 1 = some (ye_v c) := rfl
  have ho0 : ye_oth [aS] P P := ye_oth_rf
  refine z_r_ld (kk := z_isA) (ins := (.aload_n 0)) (len := 1) (t := 1) (i := 0) rfl rfl rfl rfl rfl (fun _ => rfl) a0 rfl ?_
  refine z_r_rd (ins := (.getfield 19)) (len := 3) (t := 4) rfl rfl rfl rfl rfl (z_gfv (ci := 1) (k := 2) (v := ye_v p) rfl (z_lkn fS hS) (by decide) rfl) ?_
  refine z_r_ld (kk := z_isA) (ins := (.aload_n 0)) (len := 1) (t := 5) (i := 0) rfl rfl rfl rfl rfl (fun _ => rfl) a0 rfl ?_
  refine z_r_rd (ins := (.getfield 22)) (len := 3) (t := 8) rfl rfl rfl rfl rfl (z_gfv (ci := 1) (k := 3) (v := ye_v lim) rfl (z_lkn fS hS) (by decide) rfl) ?_
  by_cases b_1 : lim ≤ p
  · skip
    refine z_r_jm (ins := (.if_icmp .ge 20)) (len := 3) (t := 28) rfl rfl rfl rfl (ye_jy (t := 28) rfl (by omega) (by omega) (by omega) (by omega) b_1) ?_
    refine z_r_pu (ins := (.iconst 0)) (len := 1) (t := 29) (st' := [ye_v 0]) rfl rfl rfl rfl rfl ?_
    refine ye_ret (ins := .ireturn) rfl rfl rfl (ye_retz rfl (by omega)) ?_
    exact ⟨rfl, 0, rfl, Or.inr ⟨rfl, by omega⟩⟩
  · skip
    refine z_r_jm (ins := (.if_icmp .ge 20)) (len := 3) (t := 11) rfl rfl rfl rfl (ye_jn (t := 28) rfl (by omega) (by omega) (by omega) (by omega) b_1) ?_
    refine z_r_ld (kk := z_isA) (ins := (.aload_n 0)) (len := 1) (t := 12) (i := 0) rfl rfl rfl rfl rfl (fun _ => rfl) a0 rfl ?_
    refine z_r_rd (ins := (.getfield 11)) (len := 3) (t := 15) rfl rfl rfl rfl rfl (z_gfv (ci := 1) (k := 0) (v := .ref aT) rfl (z_lkn fS hS) (by decide) rfl) ?_
    refine z_r_ld (kk := z_isA) (ins := (.aload_n 0)) (len := 1) (t := 16) (i := 0) rfl rfl rfl rfl rfl (fun _ => rfl) a0 rfl ?_
    refine z_r_rd (ins := (.getfield 19)) (len := 3) (t := 19) rfl rfl rfl rfl rfl (z_gfv (ci := 1) (k := 2) (v := ye_v p) rfl (z_lkn fS hS) (by decide) rfl) ?_
    obtain ⟨e_2, v_3, v_31, v_32, s_4⟩ := hx.2 (p) (by omega) (by omega)
    unfold ye_sig at s_4
    refine z_r_rd (ins := .caload) (len := 1) (t := 20) rfl rfl rfl rfl rfl (ye_al (t := 102) (p := p) (e := e_2) (z_lkn fT hT) (by omega) (by omega) v_3) ?_
    refine z_r_ld (kk := z_isI) (ins := (.iload_n 1)) (len := 1) (t := 21) (i := 1) rfl rfl rfl rfl rfl (fun _ => rfl) a1 rfl ?_
    by_cases b_5 : e_2 ≠ c
    · skip
      refine z_r_jm (ins := (.if_icmp .ne 7)) (len := 3) (t := 28) rfl rfl rfl rfl (ye_jy (t := 28) rfl (by omega) (by omega) (by omega) (by omega) b_5) ?_
      refine z_r_pu (ins := (.iconst 0)) (len := 1) (t := 29) (st' := [ye_v 0]) rfl rfl rfl rfl rfl ?_
      refine ye_ret (ins := .ireturn) rfl rfl rfl (ye_retz rfl (by omega)) ?_
      exact ⟨rfl, 0, rfl, Or.inr ⟨rfl, by omega⟩⟩
    · skip
      refine z_r_jm (ins := (.if_icmp .ne 7)) (len := 3) (t := 24) rfl rfl rfl rfl (ye_jn (t := 28) rfl (by omega) (by omega) (by omega) (by omega) b_5) ?_
      refine z_r_pu (ins := (.iconst 1)) (len := 1) (t := 25) (st' := [ye_v 1]) rfl rfl rfl rfl rfl ?_
      refine z_r_jm (ins := (.goto 4)) (len := 3) (t := 29) rfl rfl rfl rfl (z_gty rfl) ?_
      refine ye_ret (ins := .ireturn) rfl rfl rfl (ye_retz rfl (by omega)) ?_
      exact ⟨rfl, 1, rfl, Or.inl ⟨rfl, by omega, by omega⟩⟩
theorem ye_take (hS : P[aS]? = some (1, [.ref aT, ye_v len, ye_v p, ye_v lim, ye_v mo])) (fS : aS < z_far) (hT : P[aT]? = some (102, vs)) (fT : aT < z_far) (hx : ye_tx T len 0 255 vs) (hb : 0 ≤ p ∧ p ≤ lim ∧ lim ≤ len ∧ len ≤ 80)
    (hc : 0 ≤ c ∧ c < 128) (hd : 1 ≤ d) : ye_X xs d 19 [.ref aS, ye_v c] P (fun r P' => ∃ b p', r = some (ye_v b) ∧ P'[aS]? = some (1, [.ref aT, ye_v len, ye_v p', ye_v lim, ye_v mo]) ∧ ye_oth [aS] P P' ∧ ye_tk T lim p c b p') := by
  refine ye_go ?_
  have a0 : z_get (lv_args 0 [.ref aS, ye_v c]) 0 = some (.ref aS) := rfl
  have a1 : z_get (lv_args 0 [.ref aS, ye_v c]) 1 = some (ye_v c) := rfl
  have ho0 : ye_oth [aS] P P := ye_oth_rf
  refine z_r_ld (kk := z_isA) (ins := (.aload_n 0)) (len := 1) (t := 1) (i := 0) rfl rfl rfl rfl rfl (fun _ => rfl) a0 rfl ?_
  refine z_r_ld (kk := z_isI) (ins := (.iload_n 1)) (len := 1) (t := 2) (i := 1) rfl rfl rfl rfl rfl (fun _ => rfl) a1 rfl ?_
  refine ye_ca (ins := (.invokevirtual 35)) (kd := 1) (t := 5) rfl rfl (by decide) (z_argsv rfl rfl rfl hd (Nat.le_of_ble_eq_true rfl) rfl (Nat.le_of_ble_eq_true rfl) (Nat.le_refl _) (Nat.le_refl _) (Or.inr (Nat.le_of_ble_eq_true rfl)) (Or.inr (z_atv (z_lkn fS hS) rfl))) rfl rfl rfl (ye_isNext hS fS hT fT hx hb hc) ?_
  rintro _ _ ⟨rfl, b, rfl, hn⟩
  unfold ye_nx at hn
  by_cases b_1 : b ≠ 0
  · skip
    refine z_r_jm (ins := (.ifCond .ne 5)) (len := 3) (t := 10) rfl rfl rfl rfl (ye_iy (t := 10) rfl (by omega) (by omega) b_1) ?_
    refine z_r_ld (kk := z_isA) (ins := (.aload_n 0)) (len := 1) (t := 11) (i := 0) rfl rfl rfl rfl rfl (fun _ => rfl) a0 rfl ?_
    refine z_r_pu (ins := .dup) (len := 1) (t := 12) rfl rfl rfl rfl rfl ?_
    refine z_r_rd (ins := (.getfield 19)) (len := 3) (t := 15) rfl rfl rfl rfl rfl (z_gfv (ci := 1) (k := 2) (v := ye_v p) rfl (z_lkn fS hS) (by decide) rfl) ?_
    refine z_r_pu (ins := (.iconst 1)) (len := 1) (t := 16) (st' := [ye_v 1, ye_v p, .ref aS]) rfl rfl rfl rfl rfl ?_
    refine z_r_pu (ins := .iadd) (len := 1) (t := 17) rfl rfl rfl rfl ye_add ?_
    refine ye_r_wr (ins := (.putfield 19)) (len := 3) (t := 20) (a := aS) (q := (1, [.ref aT, ye_v len, ye_v (p + 1), ye_v lim, ye_v mo])) rfl rfl rfl rfl rfl hS (z_pfv (ci := 1) (k := 2) rfl hS (by decide) (Nat.le_of_ble_eq_true rfl) rfl rfl rfl) (fun P_2 c_3 o_4 => ?_)
    have c_5 := ye_kp o_4 (ye_n1 (ye_ne hT hS (by decide))) hT
    have o_6 := ye_oth_tr ho0 o_4 (ye_s1 (List.mem_cons_self))
    refine z_r_pu (ins := (.iconst 1)) (len := 1) (t := 21) (st' := [ye_v 1]) rfl rfl rfl rfl rfl ?_
    refine ye_ret (ins := .ireturn) rfl rfl rfl (ye_retz rfl (by omega)) ?_
    exact ⟨1, p + 1, rfl, c_3, o_6, Or.inl ⟨rfl, by omega, by omega, rfl⟩⟩
  · skip
    refine z_r_jm (ins := (.ifCond .ne 5)) (len := 3) (t := 8) rfl rfl rfl rfl (ye_in (t := 10) rfl (by omega) (by omega) b_1) ?_
    refine z_r_pu (ins := (.iconst 0)) (len := 1) (t := 9) (st' := [ye_v 0]) rfl rfl rfl rfl rfl ?_
    refine ye_ret (ins := .ireturn) rfl rfl rfl (ye_retz rfl (by omega)) ?_
    exact ⟨0, p, rfl, hS, ho0, Or.inr ⟨rfl, by omega, rfl⟩⟩
theorem ye_isDigit (hS : P[aS]? = some (1, [.ref aT, ye_v len, ye_v p, ye_v lim, ye_v mo])) (fS : aS < z_far) (hT : P[aT]? = some (102, vs)) (fT : aT < z_far) (hx : ye_tx T len 0 255 vs) (hb : 0 ≤ p ∧ p ≤ lim ∧ lim ≤ len ∧ len ≤ 80) : ye_X xs d 23 [.ref aS] P (fun r P' => P' = P ∧ ∃ b, r = some (ye_v b) ∧ ye_dg T lim p b) := by
  refine ye_go ?_
  have a0 : z_get (lv_args 0 [.ref aS]) 0 = some (.ref aS) := rfl
  have ho0 : ye_oth [aS] P P := ye_oth_rf
  refine z_r_ld (kk := z_isA) (ins := (.aload_n 0)) (len := 1) (t := 1) (i := 0) rfl rfl rfl rfl rfl (fun _ => rfl) a0 rfl ?_
  refine z_r_rd (ins := (.getfield 19)) (len := 3) (t := 4) rfl rfl rfl rfl rfl (z_gfv (ci := 1) (k := 2) (v := ye_v p) rfl (z_lkn fS hS) (by decide) rfl) ?_
  refine z_r_ld (kk := z_isA) (ins := (.aload_n 0)) (len := 1) (t := 5) (i := 0) rfl rfl rfl rfl rfl (fun _ => rfl) a0 rfl ?_
  refine z_r_rd (ins := (.getfield 22)) (len := 3) (t := 8) rfl rfl rfl rfl rfl (z_gfv (ci := 1) (k := 3) (v := ye_v lim) rfl (z_lkn fS hS) (by decide) rfl) ?_
  by_cases b_1 : lim ≤ p
  · skip
    refine z_r_jm (ins := (.if_icmp .ge 35)) (len := 3) (t := 43) rfl rfl rfl rfl (ye_jy (t := 43) rfl (by omega) (by omega) (by omega) (by omega) b_1) ?_
    refine z_r_pu (ins := (.iconst 0)) (len := 1) (t := 44) (st' := [ye_v 0]) rfl rfl rfl rfl rfl ?_
    refine ye_ret (ins := .ireturn) rfl rfl rfl (ye_retz rfl (by omega)) ?_
    exact ⟨rfl, 0, rfl, Or.inr ⟨rfl, by omega⟩⟩
  · skip
    refine z_r_jm (ins := (.if_icmp .ge 35)) (len := 3) (t := 11) rfl rfl rfl rfl (ye_jn (t := 43) rfl (by omega) (by omega) (by omega) (by omega) b_1) ?_
    refine z_r_ld (kk := z_isA) (ins := (.aload_n 0)) (len := 1) (t := 12) (i := 0) rfl rfl rfl rfl rfl (fun _ => rfl) a0 rfl ?_
    refine z_r_rd (ins := (.getfield 11)) (len := 3) (t := 15) rfl rfl rfl rfl rfl (z_gfv (ci := 1) (k := 0) (v := .ref aT) rfl (z_lkn fS hS) (by decide) rfl) ?_
    refine z_r_ld (kk := z_isA) (ins := (.aload_n 0)) (len := 1) (t := 16) (i := 0) rfl rfl rfl rfl rfl (fun _ => rfl) a0 rfl ?_
    refine z_r_rd (ins := (.getfield 19)) (len := 3) (t := 19) rfl rfl rfl rfl rfl (z_gfv (ci := 1) (k := 2) (v := ye_v p) rfl (z_lkn fS hS) (by decide) rfl) ?_
    obtain ⟨e_2, v_3, v_31, v_32, s_4⟩ := hx.2 (p) (by omega) (by omega)
    unfold ye_sig at s_4
    refine z_r_rd (ins := .caload) (len := 1) (t := 20) rfl rfl rfl rfl rfl (ye_al (t := 102) (p := p) (e := e_2) (z_lkn fT hT) (by omega) (by omega) v_3) ?_
    refine z_r_pu (ins := (.bipush 48)) (len := 2) (t := 22) rfl rfl rfl rfl (ye_bi (by decide) (by decide)) ?_
    by_cases b_5 : e_2 < 48
    · skip
      refine z_r_jm (ins := (.if_icmp .lt 21)) (len := 3) (t := 43) rfl rfl rfl rfl (ye_jy (t := 43) rfl (by omega) (by omega) (by omega) (by omega) b_5) ?_
      refine z_r_pu (ins := (.iconst 0)) (len := 1) (t := 44) (st' := [ye_v 0]) rfl rfl rfl rfl rfl ?_
      refine ye_ret (ins := .ireturn) rfl rfl rfl (ye_retz rfl (by omega)) ?_
      exact ⟨rfl, 0, rfl, Or.inr ⟨rfl, by omega⟩⟩
    · skip
      refine z_r_jm (ins := (.if_icmp .lt 21)) (len := 3) (t := 25) rfl rfl rfl rfl (ye_jn (t := 43) rfl (by omega) (by omega) (by omega) (by omega) b_5) ?_
      refine z_r_ld (kk := z_isA) (ins := (.aload_n 0)) (len := 1) (t := 26) (i := 0) rfl rfl rfl rfl rfl (fun _ => rfl) a0 rfl ?_
      refine z_r_rd (ins := (.getfield 11)) (len := 3) (t := 29) rfl rfl rfl rfl rfl (z_gfv (ci := 1) (k := 0) (v := .ref aT) rfl (z_lkn fS hS) (by decide) rfl) ?_
      refine z_r_ld (kk := z_isA) (ins := (.aload_n 0)) (len := 1) (t := 30) (i := 0) rfl rfl rfl rfl rfl (fun _ => rfl) a0 rfl ?_
      refine z_r_rd (ins := (.getfield 19)) (len := 3) (t := 33) rfl rfl rfl rfl rfl (z_gfv (ci := 1) (k := 2) (v := ye_v p) rfl (z_lkn fS hS) (by decide) rfl) ?_
      refine z_r_rd (ins := .caload) (len := 1) (t := 34) rfl rfl rfl rfl rfl (ye_al (t := 102) (p := p) (e := e_2) (z_lkn fT hT) (by omega) (by omega) v_3) ?_
      refine z_r_pu (ins := (.bipush 57)) (len := 2) (t := 36) rfl rfl rfl rfl (ye_bi (by decide) (by decide)) ?_
      by_cases b_6 : 57 < e_2
      · skip
        refine z_r_jm (ins := (.if_icmp .gt 7)) (len := 3) (t := 43) rfl rfl rfl rfl (ye_jy (t := 43) rfl (by omega) (by omega) (by omega) (by omega) b_6) ?_
        refine z_r_pu (ins := (.iconst 0)) (len := 1) (t := 44) (st' := [ye_v 0]) rfl rfl rfl rfl rfl ?_
        refine ye_ret (ins := .ireturn) rfl rfl rfl (ye_retz rfl (by omega)) ?_
        exact ⟨rfl, 0, rfl, Or.inr ⟨rfl, by omega⟩⟩
      · skip
        refine z_r_jm (ins := (.if_icmp .gt 7)) (len := 3) (t := 39) rfl rfl rfl rfl (ye_jn (t := 43) rfl (by omega) (by omega) (by omega) (by omega) b_6) ?_
        refine z_r_pu (ins := (.iconst 1)) (len := 1) (t := 40) (st' := [ye_v 1]) rfl rfl rfl rfl rfl ?_
        refine z_r_jm (ins := (.goto 4)) (len := 3) (t := 44) rfl rfl rfl rfl (z_gty rfl) ?_
        refine ye_ret (ins := .ireturn) rfl rfl rfl (ye_retz rfl (by omega)) ?_
        exact ⟨rfl, 1, rfl, Or.inl ⟨rfl, by omega, by omega, by omega⟩⟩
theorem ye_isDone (hS : P[aS]? = some (1, [.ref aT, ye_v len, ye_v p, ye_v lim, ye_v mo])) (fS : aS < z_far) (hT : P[aT]? = some (102, vs)) (fT : aT < z_far) (hx : ye_tx T len 0 255 vs) (hb : 0 ≤ p ∧ p ≤ lim ∧ lim ≤ len ∧ len ≤ 80) : ye_X xs d 17 [.ref aS] P (fun r P' => P' = P ∧ ∃ b, r = some (ye_v b) ∧ ((b = 1 ∧ lim ≤ p) ∨ (b = 0 ∧ p < lim))) := by
  refine ye_go ?_
  have a0 : z_get (lv_args 0 [.ref aS]) 0 = some (.ref aS) := rfl
  have ho0 : ye_oth [aS] P P := ye_oth_rf
  refine z_r_ld (kk := z_isA) (ins := (.aload_n 0)) (len := 1) (t := 1) (i := 0) rfl rfl rfl rfl rfl (fun _ => rfl) a0 rfl ?_
  refine z_r_rd (ins := (.getfield 19)) (len := 3) (t := 4) rfl rfl rfl rfl rfl (z_gfv (ci := 1) (k := 2) (v := ye_v p) rfl (z_lkn fS hS) (by decide) rfl) ?_
  refine z_r_ld (kk := z_isA) (ins := (.aload_n 0)) (len := 1) (t := 5) (i := 0) rfl rfl rfl rfl rfl (fun _ => rfl) a0 rfl ?_
  refine z_r_rd (ins := (.getfield 22)) (len := 3) (t := 8) rfl rfl rfl rfl rfl (z_gfv (ci := 1) (k := 3) (v := ye_v lim) rfl (z_lkn fS hS) (by decide) rfl) ?_
  by_cases b_1 : p < lim
  · skip
    refine z_r_jm (ins := (.if_icmp .lt 7)) (len := 3) (t := 15) rfl rfl rfl rfl (ye_jy (t := 15) rfl (by omega) (by omega) (by omega) (by omega) b_1) ?_
    refine z_r_pu (ins := (.iconst 0)) (len := 1) (t := 16) (st' := [ye_v 0]) rfl rfl rfl rfl rfl ?_
    refine ye_ret (ins := .ireturn) rfl rfl rfl (ye_retz rfl (by omega)) ?_
    exact ⟨rfl, 0, rfl, Or.inr ⟨rfl, by omega⟩⟩
  · skip
    refine z_r_jm (ins := (.if_icmp .lt 7)) (len := 3) (t := 11) rfl rfl rfl rfl (ye_jn (t := 15) rfl (by omega) (by omega) (by omega) (by omega) b_1) ?_
    refine z_r_pu (ins := (.iconst 1)) (len := 1) (t := 12) (st' := [ye_v 1]) rfl rfl rfl rfl rfl ?_
    refine z_r_jm (ins := (.goto 4)) (len := 3) (t := 16) rfl rfl rfl rfl (z_gty rfl) ?_
    refine ye_ret (ins := .ireturn) rfl rfl rfl (ye_retz rfl (by omega)) ?_
    exact ⟨rfl, 1, rfl, Or.inl ⟨rfl, by omega⟩⟩
theorem ye_hasMore (hS : P[aS]? = some (1, [.ref aT, ye_v len, ye_v p, ye_v lim, ye_v mo])) (fS : aS < z_far) (hT : P[aT]? = some (102, vs)) (fT : aT < z_far) (hx : ye_tx T len 0 255 vs) (hb : 0 ≤ p ∧ p ≤ lim ∧ lim ≤ len ∧ len ≤ 80)
    (hm : mo = 0 ∨ mo = 1) : ye_X xs d 35 [.ref aS] P (fun r P' => P' = P ∧ r = some (ye_v mo)) := by
  refine ye_go ?_
  have a0 : z_get (lv_args 0 [.ref aS]) 0 = some (.ref aS) := rfl
  have ho0 : ye_oth [aS] P P := ye_oth_rf
  refine z_r_ld (kk := z_isA) (ins := (.aload_n 0)) (len := 1) (t := 1) (i := 0) rfl rfl rfl rfl rfl (fun _ => rfl) a0 rfl ?_
  refine z_r_rd (ins := (.getfield 25)) (len := 3) (t := 4) rfl rfl rfl rfl rfl (z_gfv (ci := 1) (k := 4) (v := ye_v mo) rfl (z_lkn fS hS) (by decide) rfl) ?_
  refine ye_ret (ins := .ireturn) rfl rfl rfl (ye_retz rfl (by omega)) ?_
  exact ⟨rfl, rfl⟩
theorem ye_fault (hS : P[aS]? = some (1, [.ref aT, ye_v len, ye_v p, ye_v lim, ye_v mo])) (fS : aS < z_far) (hT : P[aT]? = some (102, vs)) (fT : aT < z_far) (hx : ye_tx T len 0 255 vs) (hb : 0 ≤ p ∧ p ≤ lim ∧ lim ≤ len ∧ len ≤ 80) : ye_X xs d 37 [.ref aS] P (fun r P' => P' = P ∧ r = some (ye_v (-1 - p))) := by
  refine ye_go ?_
  have a0 : z_get (lv_args 0 [.ref aS]) 0 = some (.ref aS) := rfl
  have ho0 : ye_oth [aS] P P := ye_oth_rf
  refine z_r_pu (ins := (.iconst (-1))) (len := 1) (t := 1) (st' := [ye_v ((-1))]) rfl rfl rfl rfl rfl ?_
  refine z_r_ld (kk := z_isA) (ins := (.aload_n 0)) (len := 1) (t := 2) (i := 0) rfl rfl rfl rfl rfl (fun _ => rfl) a0 rfl ?_
  refine z_r_rd (ins := (.getfield 19)) (len := 3) (t := 5) rfl rfl rfl rfl rfl (z_gfv (ci := 1) (k := 2) (v := ye_v p) rfl (z_lkn fS hS) (by decide) rfl) ?_
  refine z_r_pu (ins := .isub) (len := 1) (t := 6) rfl rfl rfl rfl ye_sub ?_
  refine ye_ret (ins := .ireturn) rfl rfl rfl (ye_reti rfl) ?_
  exact ⟨rfl, rfl⟩
theorem ye_clear (hS : P[aS]? = some (1, [.ref aT, ye_v len, ye_v p, ye_v lim, ye_v mo])) (fS : aS < z_far) : ye_X xs d 36 [.ref aS] P (fun _ P' => P'[aS]? = some (1, [.ref aT, ye_v 0, ye_v p, ye_v lim, ye_v mo]) ∧ ye_oth [aS] P P') := by
  refine ye_go ?_
  have a0 : z_get (lv_args 0 [.ref aS]) 0 = some (.ref aS) := rfl
  have ho0 : ye_oth [aS] P P := ye_oth_rf
  refine z_r_ld (kk := z_isA) (ins := (.aload_n 0)) (len := 1) (t := 1) (i := 0) rfl rfl rfl rfl rfl (fun _ => rfl) a0 rfl ?_
  refine z_r_pu (ins := (.iconst 0)) (len := 1) (t := 2) (st' := [ye_v 0, .ref aS]) rfl rfl rfl rfl rfl ?_
  refine ye_r_wr (ins := (.putfield 15)) (len := 3) (t := 5) (a := aS) (q := (1, [.ref aT, ye_v 0, ye_v p, ye_v lim, ye_v mo])) rfl rfl rfl rfl rfl hS (z_pfv (ci := 1) (k := 1) rfl hS (by decide) (Nat.le_of_ble_eq_true rfl) rfl rfl rfl) (fun P_1 c_2 o_3 => ?_)
  have o_4 := ye_oth_tr ho0 o_3 (ye_s1 (List.mem_cons_self))
  refine ye_ret (ins := .return_) rfl rfl rfl (ye_retv rfl) ?_
  exact ⟨c_2, o_4⟩
theorem ye_min {a b : Int} (ha : -2147483648 ≤ a ∧ a < 2147483648) (hb : -2147483648 ≤ b ∧ b < 2147483648) : ye_X xs d 15 [ye_v a, ye_v b] P (fun r P' => P' = P ∧ ∃ m, r = some (ye_v m) ∧ ((m = a ∧ a ≤ b) ∨ (m = b ∧ b < a))) := by
  refine ye_go ?_
  have a0 : z_get (lv_args 0 [ye_v a, ye_v b]) 0 = some (ye_v a) := rfl
  have a1 : z_get (lv_args 0 [ye_v a, ye_v b]) 1 = some (ye_v b) := rfl
  refine z_r_ld (kk := z_isI) (ins := (.iload_n 0)) (len := 1) (t := 1) (i := 0) rfl rfl rfl rfl rfl (fun _ => rfl) a0 rfl ?_
  refine z_r_ld (kk := z_isI) (ins := (.iload_n 1)) (len := 1) (t := 2) (i := 1) rfl rfl rfl rfl rfl (fun _ => rfl) a1 rfl ?_
  by_cases b_1 : b < a
  · skip
    refine z_r_jm (ins := (.if_icmp .gt 7)) (len := 3) (t := 9) rfl rfl rfl rfl (ye_jy (t := 9) rfl (by omega) (by omega) (by omega) (by omega) b_1) ?_
    refine z_r_ld (kk := z_isI) (ins := (.iload_n 1)) (len := 1) (t := 10) (i := 1) rfl rfl rfl rfl rfl (fun _ => rfl) a1 rfl ?_
    refine ye_ret (ins := .ireturn) rfl rfl rfl (ye_reti rfl) ?_
    exact ⟨rfl, b, rfl, Or.inr ⟨rfl, by omega⟩⟩
  · skip
    refine z_r_jm (ins := (.if_icmp .gt 7)) (len := 3) (t := 5) rfl rfl rfl rfl (ye_jn (t := 9) rfl (by omega) (by omega) (by omega) (by omega) b_1) ?_
    refine z_r_ld (kk := z_isI) (ins := (.iload_n 0)) (len := 1) (t := 6) (i := 0) rfl rfl rfl rfl rfl (fun _ => rfl) a0 rfl ?_
    refine z_r_jm (ins := (.goto 4)) (len := 3) (t := 10) rfl rfl rfl rfl (z_gty rfl) ?_
    refine ye_ret (ins := .ireturn) rfl rfl rfl (ye_reti rfl) ?_
    exact ⟨rfl, a, rfl, Or.inl ⟨rfl, by omega⟩⟩
theorem ye_open {most : Int} (hS : P[aS]? = some (1, [.ref aT, ye_v len, ye_v p, ye_v lim, ye_v mo])) (fS : aS < z_far) (hl : 0 ≤ len ∧ len ≤ 80) (hm : 0 ≤ most ∧ most ≤ 80) (hd : 1 ≤ d) : ye_X xs d 14 [.ref aS, ye_v most] P (fun _ P' => ∃ lim mo, P'[aS]? = some (1, [.ref aT, ye_v len, ye_v 0, ye_v lim, ye_v mo]) ∧ ye_oth [aS] P P' ∧ ((lim = len ∧ len ≤ most) ∨ (lim = most ∧ most < len)) ∧ ((mo = 1 ∧ most < len) ∨ (mo = 0 ∧ len ≤ most))) := by
  refine ye_go ?_
  have a0 : z_get (lv_args 0 [.ref aS, ye_v most]) 0 = some (.ref aS) := rfl
  have a1 : z_get (lv_args 0 [.ref aS, ye_v most]) 1 = some (ye_v most) := rfl
  have ho0 : ye_oth [aS] P P := ye_oth_rf
  refine z_r_ld (kk := z_isA) (ins := (.aload_n 0)) (len := 1) (t := 1) (i := 0) rfl rfl rfl rfl rfl (fun _ => rfl) a0 rfl ?_
  refine z_r_pu (ins := (.iconst 0)) (len := 1) (t := 2) (st' := [ye_v 0, .ref aS]) rfl rfl rfl rfl rfl ?_
  refine ye_r_wr (ins := (.putfield 19)) (len := 3) (t := 5) (a := aS) (q := (1, [.ref aT, ye_v len, ye_v 0, ye_v lim, ye_v mo])) rfl rfl rfl rfl rfl hS (z_pfv (ci := 1) (k := 2) rfl hS (by decide) (Nat.le_of_ble_eq_true rfl) rfl rfl rfl) (fun P_1 c_2 o_3 => ?_)
  have o_4 := ye_oth_tr ho0 o_3 (ye_s1 (List.mem_cons_self))
  refine z_r_ld (kk := z_isA) (ins := (.aload_n 0)) (len := 1) (t := 6) (i := 0) rfl rfl rfl rfl rfl (fun _ => rfl) a0 rfl ?_
  refine z_r_ld (kk := z_isA) (ins := (.aload_n 0)) (len := 1) (t := 7) (i := 0) rfl rfl rfl rfl rfl (fun _ => rfl) a0 rfl ?_
  refine z_r_rd (ins := (.getfield 15)) (len := 3) (t := 10) rfl rfl rfl rfl rfl (z_gfv (ci := 1) (k := 1) (v := ye_v len) rfl (z_lkn fS c_2) (by decide) rfl) ?_
  refine z_r_ld (kk := z_isI) (ins := (.iload_n 1)) (len := 1) (t := 11) (i := 1) rfl rfl rfl rfl rfl (fun _ => rfl) a1 rfl ?_
  refine ye_ca (ins := (.invokestatic 29)) (kd := 0) (t := 14) rfl rfl (by decide) (z_argsv rfl rfl rfl hd (Nat.le_of_ble_eq_true rfl) rfl (Nat.le_of_ble_eq_true rfl) (Nat.le_refl _) (Nat.le_refl _) (Or.inl rfl) (Or.inl rfl)) rfl rfl rfl (ye_min (by omega) (by omega)) ?_
  rintro _ _ ⟨rfl, m, rfl, hm⟩
  refine ye_r_wr (ins := (.putfield 22)) (len := 3) (t := 17) (a := aS) (q := (1, [.ref aT, ye_v len, ye_v 0, ye_v m, ye_v mo])) rfl rfl rfl rfl rfl c_2 (z_pfv (ci := 1) (k := 3) rfl c_2 (by decide) (Nat.le_of_ble_eq_true rfl) rfl rfl rfl) (fun P_5 c_6 o_7 => ?_)
  have o_8 := ye_oth_tr o_4 o_7 (ye_s1 (List.mem_cons_self))
  refine z_r_ld (kk := z_isA) (ins := (.aload_n 0)) (len := 1) (t := 18) (i := 0) rfl rfl rfl rfl rfl (fun _ => rfl) a0 rfl ?_
  refine z_r_ld (kk := z_isA) (ins := (.aload_n 0)) (len := 1) (t := 19) (i := 0) rfl rfl rfl rfl rfl (fun _ => rfl) a0 rfl ?_
  refine z_r_rd (ins := (.getfield 15)) (len := 3) (t := 22) rfl rfl rfl rfl rfl (z_gfv (ci := 1) (k := 1) (v := ye_v len) rfl (z_lkn fS c_6) (by decide) rfl) ?_
  refine z_r_ld (kk := z_isI) (ins := (.iload_n 1)) (len := 1) (t := 23) (i := 1) rfl rfl rfl rfl rfl (fun _ => rfl) a1 rfl ?_
  by_cases b_9 : len ≤ most
  · skip
    refine z_r_jm (ins := (.if_icmp .le 7)) (len := 3) (t := 30) rfl rfl rfl rfl (ye_jy (t := 30) rfl (by omega) (by omega) (by omega) (by omega) b_9) ?_
    refine z_r_pu (ins := (.iconst 0)) (len := 1) (t := 31) (st' := [ye_v 0, .ref aS]) rfl rfl rfl rfl rfl ?_
    refine ye_r_wr (ins := (.putfield 25)) (len := 3) (t := 34) (a := aS) (q := (1, [.ref aT, ye_v len, ye_v 0, ye_v m, ye_v 0])) rfl rfl rfl rfl rfl c_6 (z_pfv (ci := 1) (k := 4) rfl c_6 (by decide) (Nat.le_of_ble_eq_true rfl) rfl (ye_b01 (by omega)) rfl) (fun P_10 c_11 o_12 => ?_)
    have o_13 := ye_oth_tr o_8 o_12 (ye_s1 (List.mem_cons_self))
    refine ye_ret (ins := .return_) rfl rfl rfl (ye_retv rfl) ?_
    exact ⟨m, 0, c_11, o_13, by omega, by omega⟩
  · skip
    refine z_r_jm (ins := (.if_icmp .le 7)) (len := 3) (t := 26) rfl rfl rfl rfl (ye_jn (t := 30) rfl (by omega) (by omega) (by omega) (by omega) b_9) ?_
    refine z_r_pu (ins := (.iconst 1)) (len := 1) (t := 27) (st' := [ye_v 1, .ref aS]) rfl rfl rfl rfl rfl ?_
    refine z_r_jm (ins := (.goto 4)) (len := 3) (t := 31) rfl rfl rfl rfl (z_gty rfl) ?_
    refine ye_r_wr (ins := (.putfield 25)) (len := 3) (t := 34) (a := aS) (q := (1, [.ref aT, ye_v len, ye_v 0, ye_v m, ye_v 1])) rfl rfl rfl rfl rfl c_6 (z_pfv (ci := 1) (k := 4) rfl c_6 (by decide) (Nat.le_of_ble_eq_true rfl) rfl (ye_b01 (by omega)) rfl) (fun P_14 c_15 o_16 => ?_)
    have o_17 := ye_oth_tr o_8 o_16 (ye_s1 (List.mem_cons_self))
    refine ye_ret (ins := .return_) rfl rfl rfl (ye_retv rfl) ?_
    exact ⟨m, 1, c_15, o_17, by omega, by omega⟩
end YSGN
