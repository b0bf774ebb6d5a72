/-! The class's numbers, exactly. -/
section YNUM
/-- digits: at most k more from p on -/
def yq_dg (T : Int → Int) (lim : Int) : Nat → Int → Int → Int × Int
  | 0, p, n => (p, n)
  | k + 1, p, n => if p < lim ∧ 48 ≤ T p ∧ T p ≤ 57 then yq_dg T lim k (p + 1) (10 * n + T p - 48) else (p, n)
def yq_cap : Nat → Int
  | 0 => 999
  | 1 => 99
  | 2 => 9
  | _ => 0
theorem yq_dg_bd {T : Int → Int} {lim : Int} : ∀ {k : Nat} {p n : Int}, k ≤ 3 → 0 ≤ n → n ≤ yq_cap k → p ≤ lim → p ≤ (yq_dg T lim k p n).1 ∧ (yq_dg T lim k p n).1 ≤ p + k ∧ ((yq_dg T lim k p n).1 ≤ lim) ∧ 0 ≤ (yq_dg T lim k p n).2 ∧ (yq_dg T lim k p n).2 ≤ 999
  | 0, p, n, _, h0, h1, hp => by
    have h1 : n ≤ 999 := h1
    show p ≤ p ∧ p ≤ p + (0 : Nat) ∧ p ≤ lim ∧ 0 ≤ n ∧ n ≤ 999
    omega
  | k + 1, p, n, hk, h0, h1, hp => by
    unfold yq_dg
    split
    · rename_i hc
      have hcap : 10 * n + 9 ≤ yq_cap k := by
        have : k = 0 ∨ k = 1 ∨ k = 2 := by omega
        rcases this with rfl | rfl | rfl
        · have h1 : n ≤ 99 := h1
          show 10 * n + 9 ≤ 999
          omega
        · have h1 : n ≤ 9 := h1
          show 10 * n + 9 ≤ 99
          omega
        · have h1 : n ≤ 0 := h1
          show 10 * n + 9 ≤ 9
          omega
      have := yq_dg_bd (T := T) (lim := lim) (k := k) (p := p + 1) (n := 10 * n + T p - 48) (by omega) (by omega) (by omega) (by omega)
      omega
    · have hc9 : yq_cap (k + 1) ≤ 999 := by
        have : k = 0 ∨ k = 1 ∨ k = 2 := by omega
        rcases this with rfl | rfl | rfl <;> decide
      show p ≤ p ∧ p ≤ p + ((k + 1 : Nat) : Int) ∧ p ≤ lim ∧ 0 ≤ n ∧ n ≤ 999
      omega
/-- a number of at most k digits, lo .. hi: whether, the place then, the number -/
def yq_num (T : Int → Int) (lim : Int) (k : Nat) (lo hi p : Int) : Bool × Int × Int :=
  if (yq_dg T lim k p 0).1 = p then (false, p, 0) else if (yq_dg T lim k p 0).2 < lo ∨ hi < (yq_dg T lim k p 0).2 then (false, (yq_dg T lim k p 0).1 - 1, 0) else (true, (yq_dg T lim k p 0).1, (yq_dg T lim k p 0).2)
variable {xs : List Int32} {d aS aT : Nat} {P : z_H} {vs : List Value} {T : Int → Int} {len p lim mo lo hi n hv dg : Int} {l : z_L} {Ψ : z_S → Prop}
theorem ye_numI (hS : P[aS]? = some (1, [.ref aT, ye_v len, ye_v p, ye_v lim, ye_v mo])) (fS : aS < z_far) (hT : P[aT]? = some (102, vs)) (fT : aT < z_far) (hx : ye_tx T len 0 255 vs) (hb : 0 ≤ p ∧ p ≤ lim ∧ lim ≤ len ∧ len ≤ 80)
    (h0 : z_get l 0 = some (.ref aS)) (h1 : z_get l 1 = some (ye_v dg)) (h2 : z_get l 2 = some (ye_v lo)) (h3 : z_get l 3 = some (ye_v hi)) (h4 : z_get l 4 = some (ye_v n)) (h5 : z_get l 5 = some (ye_v hv)) (hr : 0 ≤ hv ∧ hv < dg ∧ dg ≤ 3 ∧ 0 ≤ n ∧ n ≤ 999) (hd : 1 ≤ d) (hc : p < lim ∧ 48 ≤ T p ∧ T p ≤ 57)
    (kk : ∀ l P', z_get l 0 = some (.ref aS) → z_get l 1 = some (ye_v dg) → z_get l 2 = some (ye_v lo) → z_get l 3 = some (ye_v hi) → z_get l 4 = some (ye_v (10 * n + T p - 48)) → z_get l 5 = some (ye_v (hv + 1)) → P'[aS]? = some (1, [.ref aT, ye_v len, ye_v (p + 1), ye_v lim, ye_v mo]) → ye_oth [aS] P P' → z_Rh (z_G xs) d 22 Ψ (6, l, [], P', 0, 0)) : z_Rh (z_G xs) d 22 Ψ (6, l, [], P, 0, 0) := by
  have ho0 : ye_oth [aS] P P := ye_oth_rf
  refine z_r_ld (kk := z_isI) (ins := (.iload 5)) (len := 2) (t := 8) (i := 5) rfl rfl rfl rfl rfl (fun _ => rfl) h5 rfl ?_
  refine z_r_ld (kk := z_isI) (ins := (.iload_n 1)) (len := 1) (t := 9) (i := 1) rfl rfl rfl rfl rfl (fun _ => rfl) h1 rfl ?_
  refine z_r_jm (ins := (.if_icmp .ge 46)) (len := 3) (t := 12) rfl rfl rfl rfl (ye_jn (t := 55) rfl (by omega) (by omega) (by omega) (by omega) (by show ¬ (dg ≤ hv); omega)) ?_
  refine z_r_ld (kk := z_isA) (ins := (.aload_n 0)) (len := 1) (t := 13) (i := 0) rfl rfl rfl rfl rfl (fun _ => rfl) h0 rfl ?_
  refine ye_ca (ins := (.invokevirtual 45)) (kd := 1) (t := 16) rfl rfl (by decide) (z_argsv rfl rfl rfl hd (Nat.le_of_ble_eq_true rfl) rfl (Nat.le_of_ble_eq_true rfl) (Nat.le_refl _) (Nat.le_refl _) (Or.inr (Nat.le_of_ble_eq_true rfl)) (Or.inr (z_atv (z_lkn fS hS) rfl))) rfl rfl rfl (ye_isDigit hS fS hT fT hx hb) ?_
  rintro _ _ ⟨rfl, b, rfl, hn⟩
  unfold ye_dg at hn
  refine z_r_jm (ins := (.ifCond .eq 39)) (len := 3) (t := 19) rfl rfl rfl rfl (ye_in (t := 55) rfl (by omega) (by omega) (by show ¬ (b = 0); omega)) ?_
  refine z_r_pu (ins := (.bipush 10)) (len := 2) (t := 21) rfl rfl rfl rfl (ye_bi (by decide) (by decide)) ?_
  refine z_r_ld (kk := z_isI) (ins := (.iload 4)) (len := 2) (t := 23) (i := 4) rfl rfl rfl rfl rfl (fun _ => rfl) h4 rfl ?_
  refine z_r_pu (ins := .imul) (len := 1) (t := 24) rfl rfl rfl rfl ye_mul ?_
  refine z_r_ld (kk := z_isA) (ins := (.aload_n 0)) (len := 1) (t := 25) (i := 0) rfl rfl rfl rfl rfl (fun _ => rfl) h0 rfl ?_
  refine z_r_rd (ins := (.getfield 11)) (len := 3) (t := 28) rfl rfl rfl rfl rfl (z_gfv (ci := 1) (k := 0) (v := .ref aT) rfl (z_lkn fS hS) (by decide) rfl) ?_
  refine z_r_ld (kk := z_isA) (ins := (.aload_n 0)) (len := 1) (t := 29) (i := 0) rfl rfl rfl rfl rfl (fun _ => rfl) h0 rfl ?_
  refine z_r_rd (ins := (.getfield 19)) (len := 3) (t := 32) rfl rfl rfl rfl rfl (z_gfv (ci := 1) (k := 2) (v := ye_v p) rfl (z_lkn fS hS) (by decide) rfl) ?_
  obtain ⟨e_1, v_2, v_21, v_22, s_3⟩ := hx.2 (p) (by omega) (by omega)
  unfold ye_sig at s_3
  refine z_r_rd (ins := .caload) (len := 1) (t := 33) rfl rfl rfl rfl rfl (ye_al (t := 102) (p := p) (e := e_1) (z_lkn fT hT) (by omega) (by omega) v_2) ?_
  refine z_r_pu (ins := .iadd) (len := 1) (t := 34) rfl rfl rfl rfl ye_add ?_
  refine z_r_pu (ins := (.bipush 48)) (len := 2) (t := 36) rfl rfl rfl rfl (ye_bi (by decide) (by decide)) ?_
  refine z_r_pu (ins := .isub) (len := 1) (t := 37) rfl rfl rfl rfl ye_sub ?_
  refine z_r_is (kk := z_isI) (ins := (.istore 4)) (len := 2) (t := 39) (i := 4) rfl rfl rfl rfl rfl rfl rfl rfl (fun l l_4 k_5 => ?_)
  have l_6 := k_5 _ _ h0 (by decide) (Or.inl (by decide))
  have l_7 := k_5 _ _ h1 (by decide) (Or.inl (by decide))
  have l_8 := k_5 _ _ h2 (by decide) (Or.inl (by decide))
  have l_9 := k_5 _ _ h3 (by decide) (Or.inr (by show (1 : Nat) ≠ 2; decide))
  have l_10 := k_5 _ _ h5 (by decide) (Or.inl (by decide))
  refine z_r_ld (kk := z_isA) (ins := (.aload_n 0)) (len := 1) (t := 40) (i := 0) rfl rfl rfl rfl rfl (fun _ => rfl) l_6 rfl ?_
  refine z_r_pu (ins := .dup) (len := 1) (t := 41) rfl rfl rfl rfl rfl ?_
  refine z_r_rd (ins := (.getfield 19)) (len := 3) (t := 44) rfl rfl rfl rfl rfl (z_gfv (ci := 1) (k := 2) (v := ye_v p) rfl (z_lkn fS hS) (by decide) rfl) ?_
  refine z_r_pu (ins := (.iconst 1)) (len := 1) (t := 45) (st' := [ye_v 1, ye_v p, .ref aS]) rfl rfl rfl rfl rfl ?_
  refine z_r_pu (ins := .iadd) (len := 1) (t := 46) rfl rfl rfl rfl ye_add ?_
  refine ye_r_wr (ins := (.putfield 19)) (len := 3) (t := 49) (a := aS) (q := (1, [.ref aT, ye_v len, ye_v (p + 1), ye_v lim, ye_v mo])) rfl rfl rfl rfl rfl hS (z_pfv (ci := 1) (k := 2) rfl hS (by decide) (Nat.le_of_ble_eq_true rfl) rfl rfl rfl) (fun P_11 c_12 o_13 => ?_)
  have c_14 := ye_kp o_13 (ye_n1 (ye_ne hT hS (by decide))) hT
  have o_15 := ye_oth_tr ho0 o_13 (ye_s1 (List.mem_cons_self))
  refine ye_ic (ins := (.iinc 5 1)) (len := 3) (t := 52) (i := 5) (a := hv) (kk := 1) rfl rfl rfl rfl rfl rfl l_10 (fun l l_16 k_17 => ?_)
  have l_18 := k_17 _ _ l_6 (by decide) (Or.inl (by decide))
  have l_19 := k_17 _ _ l_7 (by decide) (Or.inl (by decide))
  have l_20 := k_17 _ _ l_8 (by decide) (Or.inl (by decide))
  have l_21 := k_17 _ _ l_9 (by decide) (Or.inl (by decide))
  have l_22 := k_17 _ _ l_4 (by decide) (Or.inr (by show (1 : Nat) ≠ 2; decide))
  refine z_r_jm (ins := (.goto (-46))) (len := 3) (t := 6) rfl rfl rfl rfl (z_gty rfl) ?_
  have hT1 : e_1 = T p := by omega
  refine kk _ _ l_18 l_19 l_20 l_21 (by rw [← hT1]; exact l_22) l_16 c_12 o_15
theorem ye_numE (hS : P[aS]? = some (1, [.ref aT, ye_v len, ye_v p, ye_v lim, ye_v mo])) (fS : aS < z_far) (hT : P[aT]? = some (102, vs)) (fT : aT < z_far) (hx : ye_tx T len 0 255 vs) (hb : 0 ≤ p ∧ p ≤ lim ∧ lim ≤ len ∧ len ≤ 80)
    (h0 : z_get l 0 = some (.ref aS)) (h1 : z_get l 1 = some (ye_v dg)) (h2 : z_get l 2 = some (ye_v lo)) (h3 : z_get l 3 = some (ye_v hi)) (h4 : z_get l 4 = some (ye_v n)) (h5 : z_get l 5 = some (ye_v hv)) (hr : 0 ≤ hv ∧ hv ≤ dg ∧ dg ≤ 3) (hd : 1 ≤ d) (hc : hv = dg ∨ ¬ (p < lim ∧ 48 ≤ T p ∧ T p ≤ 57))
    (kk : z_Rh (z_G xs) d 22 Ψ (55, l, [], P, 0, 0)) : z_Rh (z_G xs) d 22 Ψ (6, l, [], P, 0, 0) := by
  refine z_r_ld (kk := z_isI) (ins := (.iload 5)) (len := 2) (t := 8) (i := 5) rfl rfl rfl rfl rfl (fun _ => rfl) h5 rfl ?_
  refine z_r_ld (kk := z_isI) (ins := (.iload_n 1)) (len := 1) (t := 9) (i := 1) rfl rfl rfl rfl rfl (fun _ => rfl) h1 rfl ?_
  by_cases b_1 : dg ≤ hv
  · skip
    refine z_r_jm (ins := (.if_icmp .ge 46)) (len := 3) (t := 55) rfl rfl rfl rfl (ye_jy (t := 55) rfl (by omega) (by omega) (by omega) (by omega) b_1) ?_
    exact kk
  · skip
    refine z_r_jm (ins := (.if_icmp .ge 46)) (len := 3) (t := 12) rfl rfl rfl rfl (ye_jn (t := 55) rfl (by omega) (by omega) (by omega) (by omega) b_1) ?_
    refine z_r_ld (kk := z_isA) (ins := (.aload_n 0)) (len := 1) (t := 13) (i := 0) rfl rfl rfl rfl rfl (fun _ => rfl) h0 rfl ?_
    refine ye_ca (ins := (.invokevirtual 45)) (kd := 1) (t := 16) rfl rfl (by decide) (z_argsv rfl rfl rfl hd (Nat.le_of_ble_eq_true rfl) rfl (Nat.le_of_ble_eq_true rfl) (Nat.le_refl _) (Nat.le_refl _) (Or.inr (Nat.le_of_ble_eq_true rfl)) (Or.inr (z_atv (z_lkn fS hS) rfl))) rfl rfl rfl (ye_isDigit hS fS hT fT hx hb) ?_
    rintro _ _ ⟨rfl, b, rfl, hn⟩
    unfold ye_dg at hn
    refine z_r_jm (ins := (.ifCond .eq 39)) (len := 3) (t := 55) rfl rfl rfl rfl (ye_iy (t := 55) rfl (by omega) (by omega) (by show b = 0; omega)) ?_
    exact kk
theorem ye_numL (fS : aS < z_far) (fT : aT < z_far) (hx : ye_tx T len 0 255 vs) (hd : 1 ≤ d) (hbl : lim ≤ len ∧ len ≤ 80) : ∀ (k : Nat) {p n hv : Int} {l : z_L} {P : z_H}, P[aS]? = some (1, [.ref aT, ye_v len, ye_v p, ye_v lim, ye_v mo]) → P[aT]? = some (102, vs) → 0 ≤ p → p ≤ lim → z_get l 0 = some (.ref aS) → z_get l 1 = some (ye_v dg) → z_get l 2 = some (ye_v lo) → z_get l 3 = some (ye_v hi) → z_get l 4 = some (ye_v n) → z_get l 5 = some (ye_v hv) → 0 ≤ hv → hv + k = dg → dg ≤ 3 → 0 ≤ n → n ≤ yq_cap k →
    (∀ l P', z_get l 0 = some (.ref aS) → z_get l 2 = some (ye_v lo) → z_get l 3 = some (ye_v hi) → z_get l 4 = some (ye_v (yq_dg T lim k p n).2) → z_get l 5 = some (ye_v (hv + ((yq_dg T lim k p n).1 - p))) → P'[aS]? = some (1, [.ref aT, ye_v len, ye_v (yq_dg T lim k p n).1, ye_v lim, ye_v mo]) → ye_oth [aS] P P' → z_Rh (z_G xs) d 22 Ψ (55, l, [], P', 0, 0)) → z_Rh (z_G xs) d 22 Ψ (6, l, [], P, 0, 0) := by
  intro k
  induction k with
  | zero =>
    intro p n hv l P hS hT p0 p1 h0 h1 h2 h3 h4 h5 v0 v1 v2 n0 n1 kk
    refine ye_numE hS fS hT fT hx (by omega) h0 h1 h2 h3 h4 h5 (by omega) hd (Or.inl (by omega)) (kk l P h0 h2 h3 h4 ?_ hS ye_oth_rf)
    show z_get l 5 = some (ye_v (hv + (p - p)))
    rw [show hv + (p - p) = hv by omega]
    exact h5
  | succ k ih =>
    intro p n hv l P hS hT p0 p1 h0 h1 h2 h3 h4 h5 v0 v1 v2 n0 n1 kk
    by_cases hc : p < lim ∧ 48 ≤ T p ∧ T p ≤ 57
    · skip
      have e : yq_dg T lim (k + 1) p n = yq_dg T lim k (p + 1) (10 * n + T p - 48) := by
        show (if p < lim ∧ 48 ≤ T p ∧ T p ≤ 57 then yq_dg T lim k (p + 1) (10 * n + T p - 48) else (p, n)) = _
        rw [if_pos hc]
      rw [e] at kk
      have hk3 : k = 0 ∨ k = 1 ∨ k = 2 := by omega
      have hn9 : n ≤ 99 ∧ 10 * n + 9 ≤ yq_cap k := by
        rcases hk3 with rfl | rfl | rfl
        · have n1 : n ≤ 99 := n1
          refine ⟨n1, ?_⟩
          show 10 * n + 9 ≤ 999
          omega
        · have n1 : n ≤ 9 := n1
          refine ⟨by omega, ?_⟩
          show 10 * n + 9 ≤ 99
          omega
        · have n1 : n ≤ 0 := n1
          refine ⟨by omega, ?_⟩
          show 10 * n + 9 ≤ 9
          omega
      refine ye_numI hS fS hT fT hx (by omega) h0 h1 h2 h3 h4 h5 (by omega) hd hc fun l P' g0 g1 g2 g3 g4 g5 hS' ho => ?_
      refine ih hS' (ye_kp ho (ye_n1 (ye_ne hT hS (by decide))) hT) (by omega) (by omega) g0 g1 g2 g3 g4 g5 (by omega) (by omega) v2 (by omega) (by omega) fun l P'' f0 f2 f3 f4 f5 hS'' ho' => ?_
      refine kk l P'' f0 f2 f3 f4 ?_ hS'' (ye_oth_tr ho ho' (fun _ h => h))
      rw [show hv + ((yq_dg T lim k (p + 1) (10 * n + T p - 48)).1 - p) = hv + 1 + ((yq_dg T lim k (p + 1) (10 * n + T p - 48)).1 - (p + 1)) by omega]
      exact f5
    · skip
      have e : yq_dg T lim (k + 1) p n = (p, n) := by
        show (if p < lim ∧ 48 ≤ T p ∧ T p ≤ 57 then yq_dg T lim k (p + 1) (10 * n + T p - 48) else (p, n)) = _
        rw [if_neg hc]
      rw [e] at kk
      refine ye_numE hS fS hT fT hx (by omega) h0 h1 h2 h3 h4 h5 (by omega) hd (Or.inr hc) (kk l P h0 h2 h3 h4 ?_ hS ye_oth_rf)
      show z_get l 5 = some (ye_v (hv + (p - p)))
      rw [show hv + (p - p) = hv by omega]
      exact h5
theorem ye_number {k : Nat} (hS : P[aS]? = some (1, [.ref aT, ye_v len, ye_v p, ye_v lim, ye_v mo])) (fS : aS < z_far) (hT : P[aT]? = some (102, vs)) (fT : aT < z_far) (hx : ye_tx T len 0 255 vs) (hb : 0 ≤ p ∧ p ≤ lim ∧ lim ≤ len ∧ len ≤ 80) (hk : dg = (k : Int)) (hk3 : 1 ≤ k ∧ k ≤ 3) (hlo : 0 ≤ lo ∧ lo ≤ 999) (hhi : 0 ≤ hi ∧ hi ≤ 999) (hd : 1 ≤ d) : ye_X xs d 22 [.ref aS, ye_v dg, ye_v lo, ye_v hi] P (fun r P' => ∃ v, r = some (ye_v v) ∧ P'[aS]? = some (1, [.ref aT, ye_v len, ye_v (yq_num T lim k lo hi p).2.1, ye_v lim, ye_v mo]) ∧ ye_oth [aS] P P' ∧ (((yq_num T lim k lo hi p).1 = true ∧ v = (yq_num T lim k lo hi p).2.2 ∧ 0 ≤ v) ∨ ((yq_num T lim k lo hi p).1 = false ∧ v = -1))) := by
  refine ye_go ?_
  have a0 : z_get (lv_args 0 [.ref aS, ye_v dg, ye_v lo, ye_v hi]) 0 = some (.ref aS) := rfl
  have a1 : z_get (lv_args 0 [.ref aS, ye_v dg, ye_v lo, ye_v hi]) 1 = some (ye_v dg) := rfl
  have a2 : z_get (lv_args 0 [.ref aS, ye_v dg, ye_v lo, ye_v hi]) 2 = some (ye_v lo) := rfl
  have a3 : z_get (lv_args 0 [.ref aS, ye_v dg, ye_v lo, ye_v hi]) 3 = some (ye_v hi) := rfl
  refine z_r_pu (ins := (.iconst 0)) (len := 1) (t := 1) (st' := [ye_v 0]) rfl rfl rfl rfl rfl ?_
  refine z_r_is (kk := z_isI) (ins := (.istore 4)) (len := 2) (t := 3) (i := 4) rfl rfl rfl rfl rfl rfl rfl rfl (fun l l_1 k_2 => ?_)
  have l_3 := k_2 _ _ a0 (by decide) (Or.inl (by decide))
  have l_4 := k_2 _ _ a1 (by decide) (Or.inl (by decide))
  have l_5 := k_2 _ _ a2 (by decide) (Or.inl (by decide))
  have l_6 := k_2 _ _ a3 (by decide) (Or.inr (by show (1 : Nat) ≠ 2; decide))
  refine z_r_pu (ins := (.iconst 0)) (len := 1) (t := 4) (st' := [ye_v 0]) rfl rfl rfl rfl rfl ?_
  refine z_r_is (kk := z_isI) (ins := (.istore 5)) (len := 2) (t := 6) (i := 5) rfl rfl rfl rfl rfl rfl rfl rfl (fun l l_7 k_8 => ?_)
  have l_9 := k_8 _ _ l_3 (by decide) (Or.inl (by decide))
  have l_10 := k_8 _ _ l_4 (by decide) (Or.inl (by decide))
  have l_11 := k_8 _ _ l_5 (by decide) (Or.inl (by decide))
  have l_12 := k_8 _ _ l_6 (by decide) (Or.inl (by decide))
  have l_13 := k_8 _ _ l_1 (by decide) (Or.inr (by show (1 : Nat) ≠ 2; decide))
  have hcap : (0 : Int) ≤ yq_cap k := by
    have : k = 1 ∨ k = 2 ∨ k = 3 := by omega
    rcases this with rfl | rfl | rfl <;> decide
  refine ye_numL fS fT hx hd (by omega) k hS hT (by omega) (by omega) l_9 l_10 l_11 l_12 l_13 l_7 (by omega) (by omega) (by omega) (by omega) hcap ?_
  intro l P1 g0 g2 g3 g4 g5 hS1 ho1
  obtain ⟨q1, q2, q3, q4, q5⟩ := yq_dg_bd (T := T) (lim := lim) (k := k) (p := p) (n := 0) (by omega) (by omega) hcap (by omega)
  have hT1 := ye_kp ho1 (ye_n1 (ye_ne hT hS (by decide))) hT
  have eN : yq_num T lim k lo hi p = (if (yq_dg T lim k p 0).1 = p then (false, p, 0) else if (yq_dg T lim k p 0).2 < lo ∨ hi < (yq_dg T lim k p 0).2 then (false, (yq_dg T lim k p 0).1 - 1, 0) else (true, (yq_dg T lim k p 0).1, (yq_dg T lim k p 0).2)) := rfl
  generalize (yq_dg T lim k p 0).1 = p1 at q1 q2 q3 g5 hS1 eN
  generalize (yq_dg T lim k p 0).2 = n1 at q4 q5 g4 eN
  by_cases c0 : p1 = p
  · skip
    refine z_r_ld (kk := z_isI) (ins := (.iload 5)) (len := 2) (t := 57) (i := 5) rfl rfl rfl rfl rfl (fun _ => rfl) g5 rfl ?_
    refine z_r_jm (ins := (.ifCond .le 27)) (len := 3) (t := 84) rfl rfl rfl rfl (ye_iy (t := 84) rfl (by omega) (by omega) (by show 0 + (p1 - p) ≤ 0; omega)) ?_
    refine z_r_ld (kk := z_isI) (ins := (.iload 5)) (len := 2) (t := 86) (i := 5) rfl rfl rfl rfl rfl (fun _ => rfl) g5 rfl ?_
    refine z_r_jm (ins := (.ifCond .le 8)) (len := 3) (t := 94) rfl rfl rfl rfl (ye_iy (t := 94) rfl (by omega) (by omega) (by show 0 + (p1 - p) ≤ 0; omega)) ?_
    refine z_r_pu (ins := (.iconst (-1))) (len := 1) (t := 95) (st' := [ye_v ((-1))]) rfl rfl rfl rfl rfl ?_
    refine ye_ret (ins := .ireturn) rfl rfl rfl (ye_reti rfl) ?_
    rw [if_pos (by omega)] at eN
    rw [eN]
    have e1 : p1 = p := by omega
    subst e1
    exact ⟨-1, rfl, hS1, ho1, Or.inr ⟨rfl, rfl⟩⟩
  by_cases c1 : n1 < lo
  · skip
    refine z_r_ld (kk := z_isI) (ins := (.iload 5)) (len := 2) (t := 57) (i := 5) rfl rfl rfl rfl rfl (fun _ => rfl) g5 rfl ?_
    refine z_r_jm (ins := (.ifCond .le 27)) (len := 3) (t := 60) rfl rfl rfl rfl (ye_in (t := 84) rfl (by omega) (by omega) (by show ¬ (0 + (p1 - p) ≤ 0); omega)) ?_
    refine z_r_ld (kk := z_isI) (ins := (.iload 4)) (len := 2) (t := 62) (i := 4) rfl rfl rfl rfl rfl (fun _ => rfl) g4 rfl ?_
    refine z_r_ld (kk := z_isI) (ins := (.iload_n 2)) (len := 1) (t := 63) (i := 2) rfl rfl rfl rfl rfl (fun _ => rfl) g2 rfl ?_
    refine z_r_jm (ins := (.if_icmp .lt 9)) (len := 3) (t := 72) rfl rfl rfl rfl (ye_jy (t := 72) rfl (by omega) (by omega) (by omega) (by omega) (by show n1 < lo; omega)) ?_
    refine z_r_ld (kk := z_isA) (ins := (.aload_n 0)) (len := 1) (t := 73) (i := 0) rfl rfl rfl rfl rfl (fun _ => rfl) g0 rfl ?_
    refine z_r_pu (ins := .dup) (len := 1) (t := 74) rfl rfl rfl rfl rfl ?_
    refine z_r_rd (ins := (.getfield 19)) (len := 3) (t := 77) rfl rfl rfl rfl rfl (z_gfv (ci := 1) (k := 2) (v := ye_v p1) rfl (z_lkn fS hS1) (by decide) rfl) ?_
    refine z_r_pu (ins := (.iconst 1)) (len := 1) (t := 78) (st' := [ye_v 1, ye_v p1, .ref aS]) rfl rfl rfl rfl rfl ?_
    refine z_r_pu (ins := .isub) (len := 1) (t := 79) rfl rfl rfl rfl ye_sub ?_
    refine ye_r_wr (ins := (.putfield 19)) (len := 3) (t := 82) (a := aS) (q := (1, [.ref aT, ye_v len, ye_v (p1 - 1), ye_v lim, ye_v mo])) rfl rfl rfl rfl rfl hS1 (z_pfv (ci := 1) (k := 2) rfl hS1 (by decide) (Nat.le_of_ble_eq_true rfl) rfl rfl rfl) (fun P_1 c_2 o_3 => ?_)
    have c_4 := ye_kp o_3 (ye_n1 (ye_ne hT1 hS1 (by decide))) hT1
    have o_5 := ye_oth_tr ho1 o_3 (ye_s1 (List.mem_cons_self))
    refine z_r_pu (ins := (.iconst (-1))) (len := 1) (t := 83) (st' := [ye_v ((-1))]) rfl rfl rfl rfl rfl ?_
    refine ye_ret (ins := .ireturn) rfl rfl rfl (ye_reti rfl) ?_
    rw [if_neg (by omega), if_pos (by omega)] at eN
    rw [eN]
    exact ⟨-1, rfl, c_2, o_5, Or.inr ⟨rfl, rfl⟩⟩
  by_cases c2 : hi < n1
  · skip
    refine z_r_ld (kk := z_isI) (ins := (.iload 5)) (len := 2) (t := 57) (i := 5) rfl rfl rfl rfl rfl (fun _ => rfl) g5 rfl ?_
    refine z_r_jm (ins := (.ifCond .le 27)) (len := 3) (t := 60) rfl rfl rfl rfl (ye_in (t := 84) rfl (by omega) (by omega) (by show ¬ (0 + (p1 - p) ≤ 0); omega)) ?_
    refine z_r_ld (kk := z_isI) (ins := (.iload 4)) (len := 2) (t := 62) (i := 4) rfl rfl rfl rfl rfl (fun _ => rfl) g4 rfl ?_
    refine z_r_ld (kk := z_isI) (ins := (.iload_n 2)) (len := 1) (t := 63) (i := 2) rfl rfl rfl rfl rfl (fun _ => rfl) g2 rfl ?_
    refine z_r_jm (ins := (.if_icmp .lt 9)) (len := 3) (t := 66) rfl rfl rfl rfl (ye_jn (t := 72) rfl (by omega) (by omega) (by omega) (by omega) (by show ¬ (n1 < lo); omega)) ?_
    refine z_r_ld (kk := z_isI) (ins := (.iload 4)) (len := 2) (t := 68) (i := 4) rfl rfl rfl rfl rfl (fun _ => rfl) g4 rfl ?_
    refine z_r_ld (kk := z_isI) (ins := (.iload_n 3)) (len := 1) (t := 69) (i := 3) rfl rfl rfl rfl rfl (fun _ => rfl) g3 rfl ?_
    refine z_r_jm (ins := (.if_icmp .le 15)) (len := 3) (t := 72) rfl rfl rfl rfl (ye_jn (t := 84) rfl (by omega) (by omega) (by omega) (by omega) (by show ¬ (n1 ≤ hi); omega)) ?_
    refine z_r_ld (kk := z_isA) (ins := (.aload_n 0)) (len := 1) (t := 73) (i := 0) rfl rfl rfl rfl rfl (fun _ => rfl) g0 rfl ?_
    refine z_r_pu (ins := .dup) (len := 1) (t := 74) rfl rfl rfl rfl rfl ?_
    refine z_r_rd (ins := (.getfield 19)) (len := 3) (t := 77) rfl rfl rfl rfl rfl (z_gfv (ci := 1) (k := 2) (v := ye_v p1) rfl (z_lkn fS hS1) (by decide) rfl) ?_
    refine z_r_pu (ins := (.iconst 1)) (len := 1) (t := 78) (st' := [ye_v 1, ye_v p1, .ref aS]) rfl rfl rfl rfl rfl ?_
    refine z_r_pu (ins := .isub) (len := 1) (t := 79) rfl rfl rfl rfl ye_sub ?_
    refine ye_r_wr (ins := (.putfield 19)) (len := 3) (t := 82) (a := aS) (q := (1, [.ref aT, ye_v len, ye_v (p1 - 1), ye_v lim, ye_v mo])) rfl rfl rfl rfl rfl hS1 (z_pfv (ci := 1) (k := 2) rfl hS1 (by decide) (Nat.le_of_ble_eq_true rfl) rfl rfl rfl) (fun P_6 c_7 o_8 => ?_)
    have c_9 := ye_kp o_8 (ye_n1 (ye_ne hT1 hS1 (by decide))) hT1
    have o_10 := ye_oth_tr ho1 o_8 (ye_s1 (List.mem_cons_self))
    refine z_r_pu (ins := (.iconst (-1))) (len := 1) (t := 83) (st' := [ye_v ((-1))]) rfl rfl rfl rfl rfl ?_
    refine ye_ret (ins := .ireturn) rfl rfl rfl (ye_reti rfl) ?_
    rw [if_neg (by omega), if_pos (by omega)] at eN
    rw [eN]
    exact ⟨-1, rfl, c_7, o_10, Or.inr ⟨rfl, rfl⟩⟩
  refine z_r_ld (kk := z_isI) (ins := (.iload 5)) (len := 2) (t := 57) (i := 5) rfl rfl rfl rfl rfl (fun _ => rfl) g5 rfl ?_
  refine z_r_jm (ins := (.ifCond .le 27)) (len := 3) (t := 60) rfl rfl rfl rfl (ye_in (t := 84) rfl (by omega) (by omega) (by show ¬ (0 + (p1 - p) ≤ 0); omega)) ?_
  refine z_r_ld (kk := z_isI) (ins := (.iload 4)) (len := 2) (t := 62) (i := 4) rfl rfl rfl rfl rfl (fun _ => rfl) g4 rfl ?_
  refine z_r_ld (kk := z_isI) (ins := (.iload_n 2)) (len := 1) (t := 63) (i := 2) rfl rfl rfl rfl rfl (fun _ => rfl) g2 rfl ?_
  refine z_r_jm (ins := (.if_icmp .lt 9)) (len := 3) (t := 66) rfl rfl rfl rfl (ye_jn (t := 72) rfl (by omega) (by omega) (by omega) (by omega) (by show ¬ (n1 < lo); omega)) ?_
  refine z_r_ld (kk := z_isI) (ins := (.iload 4)) (len := 2) (t := 68) (i := 4) rfl rfl rfl rfl rfl (fun _ => rfl) g4 rfl ?_
  refine z_r_ld (kk := z_isI) (ins := (.iload_n 3)) (len := 1) (t := 69) (i := 3) rfl rfl rfl rfl rfl (fun _ => rfl) g3 rfl ?_
  refine z_r_jm (ins := (.if_icmp .le 15)) (len := 3) (t := 84) rfl rfl rfl rfl (ye_jy (t := 84) rfl (by omega) (by omega) (by omega) (by omega) (by show n1 ≤ hi; omega)) ?_
  refine z_r_ld (kk := z_isI) (ins := (.iload 5)) (len := 2) (t := 86) (i := 5) rfl rfl rfl rfl rfl (fun _ => rfl) g5 rfl ?_
  refine z_r_jm (ins := (.ifCond .le 8)) (len := 3) (t := 89) rfl rfl rfl rfl (ye_in (t := 94) rfl (by omega) (by omega) (by show ¬ (0 + (p1 - p) ≤ 0); omega)) ?_
  refine z_r_ld (kk := z_isI) (ins := (.iload 4)) (len := 2) (t := 91) (i := 4) rfl rfl rfl rfl rfl (fun _ => rfl) g4 rfl ?_
  refine z_r_jm (ins := (.goto 4)) (len := 3) (t := 95) rfl rfl rfl rfl (z_gty rfl) ?_
  refine ye_ret (ins := .ireturn) rfl rfl rfl (ye_reti rfl) ?_
  rw [if_neg (by omega), if_neg (by omega)] at eN
  rw [eN]
  exact ⟨n1, rfl, hS1, ho1, Or.inl ⟨rfl, rfl, by omega⟩⟩
end YNUM
