/-! Rows that are filled, exactly. -/
section YROWS
def ye_otp (G : Nat → Prop) (P P' : z_H) : Prop := P'.length = P.length ∧ ∀ b, ¬ G b → P'[b]? = P[b]?
/-- rows of m ints -/
def ye_rows (G : Nat → Prop) (m : Nat) (P : z_H) : Prop := ∀ r, G r → r < z_far ∧ ∃ vs, P[r]? = some (103, vs) ∧ vs.length = m
theorem ye_otp_rf {G : Nat → Prop} {P : z_H} : ye_otp G P P := ⟨rfl, fun _ _ => rfl⟩
theorem ye_otp_tr {G : Nat → Prop} {P P1 P2 : z_H} (h : ye_otp G P P1) (k : ye_otp G P1 P2) : ye_otp G P P2 := ⟨k.1.trans h.1, fun b hb => (k.2 b hb).trans (h.2 b hb)⟩
theorem ye_otp_of {G : Nat → Prop} {P P' : z_H} {r : Nat} (h : ye_oth [r] P P') (hr : G r) : ye_otp G P P' := ⟨h.1, fun b hb => h.2 b (fun q => hb (by rw [List.mem_singleton.mp q]; exact hr))⟩
theorem ye_rows_w {G : Nat → Prop} {m : Nat} {P P' : z_H} {r : Nat} {vs : List Value} (h : ye_rows G m P) (k : ye_oth [r] P P') (h1 : P'[r]? = some (103, vs)) (h2 : vs.length = m) : ye_rows G m P' := fun q hq => by
  obtain ⟨f, ws, e1, e2⟩ := h q hq
  by_cases hqr : q = r
  · subst hqr
    exact ⟨f, vs, h1, h2⟩
  · exact ⟨f, ws, ye_kp k (ye_n1 hqr) e1, e2⟩
variable {xs : List Int32} {d aS aT aN aK aW aZ aD aM aE aF aC aX aSt aY aH r0 b m : Nat} {P : z_H} {vs xv st yv hv cv ev kv wv zv dv mv : List Value} {T kd wt sz dr mn : Int → Int} {len p lim mo s so ya ytb sdb i v n : Int} {S : yb_S} {l : z_L} {Ψ : z_S → Prop} {G : Nat → Prop}
theorem ye_flI (hB : P[b]? = some (103, vs)) (fB : b < z_far) (h0 : z_get l 0 = some (.ref b)) (h1 : z_get l 1 = some (ye_v v)) (h2 : z_get l 2 = some (ye_v i)) (h3 : z_get l 3 = some (ye_v n)) (hn : n = (vs.length : Int)) (hi : 0 ≤ i ∧ i < n ∧ n ≤ 1000)
    (kk : ∀ l P', z_get l 0 = some (.ref b) → z_get l 1 = some (ye_v v) → z_get l 2 = some (ye_v (i + 1)) → z_get l 3 = some (ye_v n) → P'[b]? = some (103, vs.set i.toNat (ye_v v)) → ye_oth [b] P P' → z_Rh (z_G xs) d 40 Ψ (5, l, [], P', 0, 0)) : z_Rh (z_G xs) d 40 Ψ (5, l, [], P, 0, 0) := by
  have ho0 : ye_oth [b] P P := ye_oth_rf
  refine z_r_ld (kk := z_isI) (ins := (.iload_n 2)) (len := 1) (t := 6) (i := 2) rfl rfl rfl rfl rfl (fun _ => rfl) h2 rfl ?_
  refine z_r_ld (kk := z_isI) (ins := (.iload_n 3)) (len := 1) (t := 7) (i := 3) rfl rfl rfl rfl rfl (fun _ => rfl) h3 rfl ?_
  refine z_r_jm (ins := (.if_icmp .ge 13)) (len := 3) (t := 10) rfl rfl rfl rfl (ye_jn (t := 20) rfl (by omega) (by omega) (by omega) (by omega) (by show ¬ (n ≤ i); omega)) ?_
  refine z_r_ld (kk := z_isA) (ins := (.aload_n 0)) (len := 1) (t := 11) (i := 0) rfl rfl rfl rfl rfl (fun _ => rfl) h0 rfl ?_
  refine z_r_ld (kk := z_isI) (ins := (.iload_n 2)) (len := 1) (t := 12) (i := 2) rfl rfl rfl rfl rfl (fun _ => rfl) h2 rfl ?_
  refine z_r_ld (kk := z_isI) (ins := (.iload_n 1)) (len := 1) (t := 13) (i := 1) rfl rfl rfl rfl rfl (fun _ => rfl) h1 rfl ?_
  refine ye_r_wr (ins := .iastore) (len := 1) (t := 14) (a := b) (q := (103, vs.set (i).toNat (ye_v v))) rfl rfl rfl rfl rfl hB (ye_as (t := 103) (nf := fun x => x) (p := i) (e := v) (e' := v) hB (by omega) (by omega) (by omega) rfl) (fun P_1 c_2 o_3 => ?_)
  have o_4 := ye_oth_tr ho0 o_3 (ye_s1 (List.mem_cons_self))
  refine ye_ic (ins := (.iinc 2 1)) (len := 3) (t := 17) (i := 2) (a := i) (kk := 1) rfl rfl rfl rfl rfl rfl h2 (fun l l_5 k_6 => ?_)
  have l_7 := k_6 _ _ h0 (by decide) (Or.inl (by decide))
  have l_8 := k_6 _ _ h1 (by decide) (Or.inr (by show (1 : Nat) ≠ 2; decide))
  have l_9 := k_6 _ _ h3 (by decide) (Or.inl (by decide))
  refine z_r_jm (ins := (.goto (-12))) (len := 3) (t := 5) rfl rfl rfl rfl (z_gty rfl) ?_
  exact kk _ _ l_7 l_8 l_5 l_9 c_2 o_4
theorem ye_flE {R : Option Value → z_H → Prop} (h2 : z_get l 2 = some (ye_v i)) (h3 : z_get l 3 = some (ye_v n)) (hi : 0 ≤ i ∧ n ≤ i ∧ i ≤ 1000 ∧ 0 ≤ n) (k : R none P) : z_Rh (z_G xs) d 40 (ye_E xs d 40 R) (5, l, [], P, 0, 0) := by
  refine z_r_ld (kk := z_isI) (ins := (.iload_n 2)) (len := 1) (t := 6) (i := 2) rfl rfl rfl rfl rfl (fun _ => rfl) h2 rfl ?_
  refine z_r_ld (kk := z_isI) (ins := (.iload_n 3)) (len := 1) (t := 7) (i := 3) rfl rfl rfl rfl rfl (fun _ => rfl) h3 rfl ?_
  refine z_r_jm (ins := (.if_icmp .ge 13)) (len := 3) (t := 20) rfl rfl rfl rfl (ye_jy (t := 20) rfl (by omega) (by omega) (by omega) (by omega) (by show n ≤ i; omega)) ?_
  refine ye_ret (ins := .return_) rfl rfl rfl (ye_retv rfl) ?_
  exact k
theorem ye_flL {R : Option Value → z_H → Prop} {P0 : z_H} (fB : b < z_far) (hm : m ≤ 1000) (hn : n = (m : Int)) : ∀ (k : Nat) {i : Int} {l : z_L} {P : z_H} {vs : List Value}, i + k = n → 0 ≤ i → P[b]? = some (103, vs) → vs.length = m → z_get l 0 = some (.ref b) → z_get l 1 = some (ye_v v) → z_get l 2 = some (ye_v i) → z_get l 3 = some (ye_v n) → ye_oth [b] P0 P → (∀ P' vs', P'[b]? = some (103, vs') → vs'.length = m → ye_oth [b] P0 P' → R none P') → z_Rh (z_G xs) d 40 (ye_E xs d 40 R) (5, l, [], P, 0, 0) := by
  intro k
  induction k with
  | zero => intro i l P vs hi i0 hB hl h0 h1 h2 h3 ho kk; exact ye_flE h2 h3 (by omega) (kk P vs hB hl ho)
  | succ k ih =>
    intro i l P vs hi i0 hB hl h0 h1 h2 h3 ho kk
    exact ye_flI hB fB h0 h1 h2 h3 (by omega) (by omega) fun l P' g0 g1 g2 g3 hB' ho' => ih (by omega) (by omega) hB' (by rw [List.length_set]; exact hl) g0 g1 g2 g3 (ye_oth_tr ho ho' (fun _ q => q)) kk
theorem ye_fill (hB : P[b]? = some (103, vs)) (fB : b < z_far) (hl : vs.length = m) (hm : m ≤ 1000) : ye_X xs d 40 [.ref b, ye_v v] P (fun _ P' => ∃ vs', P'[b]? = some (103, vs') ∧ vs'.length = m ∧ ye_oth [b] P P') := by
  refine ye_go ?_
  have a0 : z_get (lv_args 0 [.ref b, ye_v v]) 0 = some (.ref b) := rfl
  have a1 : z_get (lv_args 0 [.ref b, ye_v v]) 1 = some (ye_v v) := rfl
  refine z_r_pu (ins := (.iconst 0)) (len := 1) (t := 1) (st' := [ye_v 0]) rfl rfl rfl rfl rfl ?_
  refine z_r_is (kk := z_isI) (ins := (.istore_n 2)) (len := 1) (t := 2) (i := 2) rfl rfl rfl rfl rfl rfl rfl rfl (fun l l_1 k_2 => ?_)
  have l_3 := k_2 _ _ a0 (by decide) (Or.inl (by decide))
  have l_4 := k_2 _ _ a1 (by decide) (Or.inr (by show (1 : Nat) ≠ 2; decide))
  refine z_r_ld (kk := z_isA) (ins := (.aload_n 0)) (len := 1) (t := 3) (i := 0) rfl rfl rfl rfl rfl (fun _ => rfl) l_3 rfl ?_
  refine z_r_rd (ins := .arraylength) (len := 1) (t := 4) rfl rfl rfl rfl rfl (ye_len (n := (m : Int)) (z_lkn fB hB) (Nat.le_of_ble_eq_true rfl) (Nat.le_of_ble_eq_true rfl) (by omega)) ?_
  refine z_r_is (kk := z_isI) (ins := (.istore_n 3)) (len := 1) (t := 5) (i := 3) rfl rfl rfl rfl rfl rfl rfl rfl (fun l l_5 k_6 => ?_)
  have l_7 := k_6 _ _ l_3 (by decide) (Or.inl (by decide))
  have l_8 := k_6 _ _ l_4 (by decide) (Or.inl (by decide))
  have l_9 := k_6 _ _ l_1 (by decide) (Or.inr (by show (1 : Nat) ≠ 2; decide))
  exact ye_flL fB hm rfl m (by omega) (Int.le_refl _) hB hl l_7 l_8 l_9 l_5 ye_oth_rf (fun P' vs' q1 q2 q3 => ⟨vs', q1, q2, q3⟩)
theorem ye_clrYI (hB : P[b]? = some (5, st)) (fB : b < z_far) (e1 : st[1]? = some (.ref aY)) (hY : P[aY]? = some (105, yv)) (fY : aY < z_far) (hyr : ∀ j, j < 24 → ∃ r, yv[j]? = some (.ref r) ∧ G r) (hG : ye_rows G 10 P) (h0 : z_get l 0 = some (.ref b)) (h1 : z_get l 1 = some (ye_v i)) (hi : 0 ≤ i ∧ i < 24) (hd : 1 ≤ d)
    (kk : ∀ l P', z_get l 0 = some (.ref b) → z_get l 1 = some (ye_v (i + 1)) → P'[b]? = some (5, st) → P'[aY]? = some (105, yv) → ye_rows G 10 P' → ye_otp G P P' → z_Rh (z_G xs) d 39 Ψ (2, l, [], P', 0, 0)) : z_Rh (z_G xs) d 39 Ψ (2, l, [], P, 0, 0) := by
  refine z_r_ld (kk := z_isI) (ins := (.iload_n 1)) (len := 1) (t := 3) (i := 1) rfl rfl rfl rfl rfl (fun _ => rfl) h1 rfl ?_
  refine z_r_pu (ins := (.bipush 24)) (len := 2) (t := 5) rfl rfl rfl rfl (ye_bi (by decide) (by decide)) ?_
  refine z_r_jm (ins := (.if_icmp .ge 19)) (len := 3) (t := 8) rfl rfl rfl rfl (ye_jn (t := 24) rfl (by omega) (by omega) (by omega) (by omega) (by show ¬ (24 ≤ i); omega)) ?_
  refine z_r_ld (kk := z_isA) (ins := (.aload_n 0)) (len := 1) (t := 9) (i := 0) rfl rfl rfl rfl rfl (fun _ => rfl) h0 rfl ?_
  refine z_r_rd (ins := (.getfield 16)) (len := 3) (t := 12) rfl rfl rfl rfl rfl (z_gfv (ci := 5) (k := 1) (v := .ref aY) rfl (z_lkn fB hB) (by decide) e1) ?_
  refine z_r_ld (kk := z_isI) (ins := (.iload_n 1)) (len := 1) (t := 13) (i := 1) rfl rfl rfl rfl rfl (fun _ => rfl) h1 rfl ?_
  obtain ⟨r, hr1, hr2⟩ := hyr (i).toNat (by omega)
  obtain ⟨fr, rv, hr3, hr4⟩ := hG r hr2
  refine z_r_rd (ins := .aaload) (len := 1) (t := 14) rfl rfl rfl rfl rfl (ye_aal (p := i) (z_lkn fY hY) (Nat.le_of_ble_eq_true rfl) (Nat.le_of_ble_eq_true rfl) (by omega) (by omega) hr1) ?_
  refine z_r_pu (ins := (.iconst 0)) (len := 1) (t := 15) (st' := [ye_v 0, .ref r]) rfl rfl rfl rfl rfl ?_
  refine ye_cav (ins := (.invokestatic 37)) (kd := 0) (t := 18) rfl rfl (by decide) (z_argsv rfl rfl rfl (by omega) (Nat.le_of_ble_eq_true rfl) rfl (Nat.le_of_ble_eq_true rfl) (Nat.le_refl _) (Nat.le_refl _) (Or.inl rfl) (Or.inl rfl)) rfl rfl rfl rfl (ye_fill hr3 fr hr4 (by decide)) ?_
  rintro _ P_1 ⟨w_2, c_3, h_4, o_5⟩
  have c_6 := ye_kp o_5 (ye_n1 (ye_ne hY hr3 (by decide))) hY
  have c_7 := ye_kp o_5 (ye_n1 (ye_ne hB hr3 (by decide))) hB
  refine ye_ic (ins := (.iinc 1 1)) (len := 3) (t := 21) (i := 1) (a := i) (kk := 1) rfl rfl rfl rfl rfl rfl h1 (fun l l_8 k_9 => ?_)
  have l_10 := k_9 _ _ h0 (by decide) (Or.inr (by show (1 : Nat) ≠ 2; decide))
  refine z_r_jm (ins := (.goto (-19))) (len := 3) (t := 2) rfl rfl rfl rfl (z_gty rfl) ?_
  exact kk _ _ l_10 l_8 c_7 c_6 (ye_rows_w hG o_5 c_3 h_4) (ye_otp_of o_5 hr2)
theorem ye_clrYE {R : Option Value → z_H → Prop} (h1 : z_get l 1 = some (ye_v i)) (hi : i = 24) (k : R none P) : z_Rh (z_G xs) d 39 (ye_E xs d 39 R) (2, l, [], P, 0, 0) := by
  refine z_r_ld (kk := z_isI) (ins := (.iload_n 1)) (len := 1) (t := 3) (i := 1) rfl rfl rfl rfl rfl (fun _ => rfl) h1 rfl ?_
  refine z_r_pu (ins := (.bipush 24)) (len := 2) (t := 5) rfl rfl rfl rfl (ye_bi (by decide) (by decide)) ?_
  refine z_r_jm (ins := (.if_icmp .ge 19)) (len := 3) (t := 24) rfl rfl rfl rfl (ye_jy (t := 24) rfl (by omega) (by omega) (by omega) (by omega) (by show 24 ≤ i; omega)) ?_
  refine ye_ret (ins := .return_) rfl rfl rfl (ye_retv rfl) ?_
  exact k
theorem ye_clrY (hB : P[b]? = some (5, st)) (fB : b < z_far) (e1 : st[1]? = some (.ref aY)) (hY : P[aY]? = some (105, yv)) (fY : aY < z_far) (hyr : ∀ j, j < 24 → ∃ r, yv[j]? = some (.ref r) ∧ G r) (hG : ye_rows G 10 P) (hd : 1 ≤ d) : ye_X xs d 39 [.ref b] P (fun _ P' => ye_rows G 10 P' ∧ ye_otp G P P') := by
  have main : ∀ (k : Nat) {i : Int} {l : z_L} {P1 : z_H}, i + k = 24 → 0 ≤ i → P1[b]? = some (5, st) → P1[aY]? = some (105, yv) → ye_rows G 10 P1 → ye_otp G P P1 → z_get l 0 = some (.ref b) → z_get l 1 = some (ye_v i) → z_Rh (z_G xs) d 39 (ye_E xs d 39 (fun _ P' => ye_rows G 10 P' ∧ ye_otp G P P')) (2, l, [], P1, 0, 0) := by
    intro k
    induction k with
    | zero => intro i l P1 hi i0 hB hY hG ho h0 h1; exact ye_clrYE h1 (by omega) ⟨hG, ho⟩
    | succ k ih =>
      intro i l P1 hi i0 hB hY hG ho h0 h1
      exact ye_clrYI hB fB e1 hY fY hyr hG h0 h1 (by omega) hd fun l P' g0 g1 hB' hY' hG' ho' => ih (by omega) (by omega) hB' hY' hG' (ye_otp_tr ho ho') g0 g1
  refine ye_go ?_
  have a0 : z_get (lv_args 0 [.ref b]) 0 = some (.ref b) := rfl
  refine z_r_pu (ins := (.iconst 0)) (len := 1) (t := 1) (st' := [ye_v 0]) rfl rfl rfl rfl rfl ?_
  refine z_r_is (kk := z_isI) (ins := (.istore_n 1)) (len := 1) (t := 2) (i := 1) rfl rfl rfl rfl rfl rfl rfl rfl (fun l l_1 k_2 => ?_)
  have l_3 := k_2 _ _ a0 (by decide) (Or.inr (by show (1 : Nat) ≠ 2; decide))
  exact main 24 rfl (Int.le_refl _) hB hY hG ye_otp_rf l_3 l_1
theorem ye_frgLI (hB : P[b]? = some (3, st)) (fB : b < z_far) (e12 : st[12]? = some (.ref aY)) (hY : P[aY]? = some (105, yv)) (fY : aY < z_far) (hyr : ∀ j, j < 10 → ∃ r, yv[j]? = some (.ref r) ∧ G r) (hG : ye_rows G 121 P) (h0 : z_get l 0 = some (.ref b)) (h1 : z_get l 1 = some (ye_v i)) (hi : 0 ≤ i ∧ i < 10) (hd : 1 ≤ d)
    (kk : ∀ l P', z_get l 0 = some (.ref b) → z_get l 1 = some (ye_v (i + 1)) → P'[b]? = some (3, st) → P'[aY]? = some (105, yv) → ye_rows G 121 P' → ye_otp G P P' → z_Rh (z_G xs) d 42 Ψ (2, l, [], P', 0, 0)) : z_Rh (z_G xs) d 42 Ψ (2, l, [], P, 0, 0) := by
  refine z_r_ld (kk := z_isI) (ins := (.iload_n 1)) (len := 1) (t := 3) (i := 1) rfl rfl rfl rfl rfl (fun _ => rfl) h1 rfl ?_
  refine z_r_pu (ins := (.bipush 10)) (len := 2) (t := 5) rfl rfl rfl rfl (ye_bi (by decide) (by decide)) ?_
  refine z_r_jm (ins := (.if_icmp .ge 19)) (len := 3) (t := 8) rfl rfl rfl rfl (ye_jn (t := 24) rfl (by omega) (by omega) (by omega) (by omega) (by show ¬ (10 ≤ i); omega)) ?_
  refine z_r_ld (kk := z_isA) (ins := (.aload_n 0)) (len := 1) (t := 9) (i := 0) rfl rfl rfl rfl rfl (fun _ => rfl) h0 rfl ?_
  refine z_r_rd (ins := (.getfield 55)) (len := 3) (t := 12) rfl rfl rfl rfl rfl (z_gfv (ci := 3) (k := 12) (v := .ref aY) rfl (z_lkn fB hB) (by decide) e12) ?_
  refine z_r_ld (kk := z_isI) (ins := (.iload_n 1)) (len := 1) (t := 13) (i := 1) rfl rfl rfl rfl rfl (fun _ => rfl) h1 rfl ?_
  obtain ⟨r, hr1, hr2⟩ := hyr (i).toNat (by omega)
  obtain ⟨fr, rv, hr3, hr4⟩ := hG r hr2
  refine z_r_rd (ins := .aaload) (len := 1) (t := 14) rfl rfl rfl rfl rfl (ye_aal (p := i) (z_lkn fY hY) (Nat.le_of_ble_eq_true rfl) (Nat.le_of_ble_eq_true rfl) (by omega) (by omega) hr1) ?_
  refine z_r_pu (ins := (.iconst (-1))) (len := 1) (t := 15) (st' := [ye_v ((-1)), .ref r]) rfl rfl rfl rfl rfl ?_
  refine ye_cav (ins := (.invokestatic 101)) (kd := 0) (t := 18) rfl rfl (by decide) (z_argsv rfl rfl rfl (by omega) (Nat.le_of_ble_eq_true rfl) rfl (Nat.le_of_ble_eq_true rfl) (Nat.le_refl _) (Nat.le_refl _) (Or.inl rfl) (Or.inl rfl)) rfl rfl rfl rfl (ye_fill hr3 fr hr4 (by decide)) ?_
  rintro _ P_1 ⟨w_2, c_3, h_4, o_5⟩
  have c_6 := ye_kp o_5 (ye_n1 (ye_ne hY hr3 (by decide))) hY
  have c_7 := ye_kp o_5 (ye_n1 (ye_ne hB hr3 (by decide))) hB
  refine ye_ic (ins := (.iinc 1 1)) (len := 3) (t := 21) (i := 1) (a := i) (kk := 1) rfl rfl rfl rfl rfl rfl h1 (fun l l_8 k_9 => ?_)
  have l_10 := k_9 _ _ h0 (by decide) (Or.inr (by show (1 : Nat) ≠ 2; decide))
  refine z_r_jm (ins := (.goto (-19))) (len := 3) (t := 2) rfl rfl rfl rfl (z_gty rfl) ?_
  exact kk _ _ l_10 l_8 c_7 c_6 (ye_rows_w hG o_5 c_3 h_4) (ye_otp_of o_5 hr2)
theorem ye_frgLE {R : Option Value → z_H → Prop} (h1 : z_get l 1 = some (ye_v i)) (hi : i = 10) (k : R none P) : z_Rh (z_G xs) d 42 (ye_E xs d 42 R) (2, l, [], P, 0, 0) := by
  refine z_r_ld (kk := z_isI) (ins := (.iload_n 1)) (len := 1) (t := 3) (i := 1) rfl rfl rfl rfl rfl (fun _ => rfl) h1 rfl ?_
  refine z_r_pu (ins := (.bipush 10)) (len := 2) (t := 5) rfl rfl rfl rfl (ye_bi (by decide) (by decide)) ?_
  refine z_r_jm (ins := (.if_icmp .ge 19)) (len := 3) (t := 24) rfl rfl rfl rfl (ye_jy (t := 24) rfl (by omega) (by omega) (by omega) (by omega) (by show 10 ≤ i; omega)) ?_
  refine ye_ret (ins := .return_) rfl rfl rfl (ye_retv rfl) ?_
  exact k
theorem ye_frgL (hB : P[b]? = some (3, st)) (fB : b < z_far) (e12 : st[12]? = some (.ref aY)) (hY : P[aY]? = some (105, yv)) (fY : aY < z_far) (hyr : ∀ j, j < 10 → ∃ r, yv[j]? = some (.ref r) ∧ G r) (hG : ye_rows G 121 P) (hd : 1 ≤ d) : ye_X xs d 42 [.ref b] P (fun _ P' => ye_rows G 121 P' ∧ ye_otp G P P') := by
  have main : ∀ (k : Nat) {i : Int} {l : z_L} {P1 : z_H}, i + k = 10 → 0 ≤ i → P1[b]? = some (3, st) → P1[aY]? = some (105, yv) → ye_rows G 121 P1 → ye_otp G P P1 → z_get l 0 = some (.ref b) → z_get l 1 = some (ye_v i) → z_Rh (z_G xs) d 42 (ye_E xs d 42 (fun _ P' => ye_rows G 121 P' ∧ ye_otp G P P')) (2, l, [], P1, 0, 0) := by
    intro k
    induction k with
    | zero => intro i l P1 hi i0 hB hY hG ho h0 h1; exact ye_frgLE h1 (by omega) ⟨hG, ho⟩
    | succ k ih =>
      intro i l P1 hi i0 hB hY hG ho h0 h1
      exact ye_frgLI hB fB e12 hY fY hyr hG h0 h1 (by omega) hd fun l P' g0 g1 hB' hY' hG' ho' => ih (by omega) (by omega) hB' hY' hG' (ye_otp_tr ho ho') g0 g1
  refine ye_go ?_
  have a0 : z_get (lv_args 0 [.ref b]) 0 = some (.ref b) := rfl
  refine z_r_pu (ins := (.iconst 0)) (len := 1) (t := 1) (st' := [ye_v 0]) rfl rfl rfl rfl rfl ?_
  refine z_r_is (kk := z_isI) (ins := (.istore_n 1)) (len := 1) (t := 2) (i := 1) rfl rfl rfl rfl rfl rfl rfl rfl (fun l l_1 k_2 => ?_)
  have l_3 := k_2 _ _ a0 (by decide) (Or.inr (by show (1 : Nat) ≠ 2; decide))
  exact main 10 rfl (Int.le_refl _) hB hY hG ye_otp_rf l_3 l_1
end YROWS
