/-! New grains put down, the class, exactly. -/
section YCGR
/-- what barn() answers to a text of len signs, and what it tells then -/
def yb_a (T : Int → Int) (len : Int) (S : yb_S) : Int := if (yb_rd T (yq_lim len 76) S).1 = true ∧ len ≤ 76 then (yb_rd T (yq_lim len 76) S).2.1 else -1 - (yb_rd T (yq_lim len 76) S).2.2.1
def yb_S' (T : Int → Int) (len : Int) (S : yb_S) : yb_S := (yb_rd T (yq_lim len 76) S).2.2.2
theorem yb_rd_bd {T : Int → Int} {lim : Int} {S : yb_S} (hl : 0 ≤ lim) (h0 : 0 ≤ S.1) (h1 : S.1 ≤ 10) (hy : 0 ≤ S.2.1 ∧ S.2.1 ≤ 24) : 0 ≤ (yb_rd T lim S).2.2.1 ∧ (yb_rd T lim S).2.2.1 ≤ lim ∧ 0 ≤ (yb_rd T lim S).2.1 ∧ (yb_rd T lim S).2.1 ≤ 76 ∧ S.1 ≤ (yb_rd T lim S).2.2.2.1 ∧ (yb_rd T lim S).2.2.2.1 ≤ 10 ∧ 0 ≤ (yb_rd T lim S).2.2.2.2.1 ∧ (yb_rd T lim S).2.2.2.2.1 ≤ 24 := by
  have hny : ∀ p, 0 ≤ (yb_ny T lim p).2.2 ∧ ((yb_ny T lim p).1 = true → (yb_ny T lim p).2.2 ≤ 24) := fun p => by
    unfold yb_ny yq_num
    split
    · exact ⟨Int.le_refl _, fun _ => by show (0 : Int) ≤ 24; decide⟩
    · split
      · exact ⟨Int.le_refl _, fun _ => by show (0 : Int) ≤ 24; decide⟩
      · exact ⟨by show 0 ≤ (yq_dg T lim 2 (p + 1) 0).2; omega, fun _ => by show (yq_dg T lim 2 (p + 1) 0).2 ≤ 24; omega⟩
  have main : ∀ (k : Nat) (n p : Int) (S1 : yb_S), 0 ≤ n → n + k ≤ 76 → 0 ≤ p → p ≤ lim → 0 ≤ S1.1 → S1.1 ≤ 10 → 0 ≤ S1.2.1 → S1.2.1 ≤ 24 → 0 ≤ (yb_r T lim k n p S1).2.2.1 ∧ (yb_r T lim k n p S1).2.2.1 ≤ lim ∧ 0 ≤ (yb_r T lim k n p S1).2.1 ∧ (yb_r T lim k n p S1).2.1 ≤ 76 ∧ S1.1 ≤ (yb_r T lim k n p S1).2.2.2.1 ∧ (yb_r T lim k n p S1).2.2.2.1 ≤ 10 ∧ 0 ≤ (yb_r T lim k n p S1).2.2.2.2.1 ∧ (yb_r T lim k n p S1).2.2.2.2.1 ≤ 24 := by
    intro k
    induction k with
    | zero => intro n p S1 n0 n1 p0 p1 s0 s1 y0 y1; exact ⟨p0, p1, n0, by show n ≤ 76; omega, Int.le_refl _, s1, y0, y1⟩
    | succ k ih =>
      intro n p S1 n0 n1 p0 p1 s0 s1 y0 y1
      obtain ⟨b1, b2, b3⟩ := yb_l_bd (T := T) (s := S1.1) p1
      rw [yb_r_u]
      split
      · rename_i hl1
        obtain ⟨c1, c2, c3⟩ := yb_nx_bd hl1 s0 s1
        have cy : 0 ≤ (yb_nx T lim p S1).2.1 ∧ (yb_nx T lim p S1).2.1 ≤ 24 := by
          unfold yb_nx
          split
          · rename_i hc
            have hk : (yb_ny T lim p).1 = true := by
              unfold yb_l at hl1
              rw [if_pos hc] at hl1
              exact hl1
            exact ⟨(hny p).1, (hny p).2 hk⟩
          · exact ⟨y0, y1⟩
        split
        · exact ⟨by show 0 ≤ (yb_l T lim p S1.1).2; omega, b2, by show 0 ≤ n + 1; omega, by show n + 1 ≤ 76; omega, c3, c2, cy.1, cy.2⟩
        · split
          · obtain ⟨i1, i2, i3, i4, i5, i6, i7, i8⟩ := ih (n + 1) ((yb_l T lim p S1.1).2 + 1) (yb_nx T lim p S1) (by omega) (by omega) (by omega) (by omega) c1 c2 cy.1 cy.2
            exact ⟨i1, i2, i3, i4, Int.le_trans c3 i5, i6, i7, i8⟩
          · exact ⟨by show 0 ≤ (yb_l T lim p S1.1).2; omega, b2, by show 0 ≤ n + 1; omega, by show n + 1 ≤ 76; omega, c3, c2, cy.1, cy.2⟩
      · exact ⟨by show 0 ≤ (yb_l T lim p S1.1).2; omega, b2, n0, by show n ≤ 76; omega, Int.le_refl _, s1, y0, y1⟩
  unfold yb_rd
  split
  · exact ⟨Int.le_refl _, hl, Int.le_refl _, by show (0 : Int) ≤ 76; decide, Int.le_refl _, h1, hy.1, hy.2⟩
  · exact main 76 0 0 S (Int.le_refl _) (by decide) (Int.le_refl _) hl h0 h1 hy.1 hy.2
variable {xs : List Int32} {d aS aT aN aK aW aZ aD aM aE aF aC aX aSt aY aH r0 : Nat} {P : z_H} {vs xv st yv hv cv ev kv wv zv dv mv rv : List Value} {T kd wt sz dr mn : Int → Int} {len p lim mo s so ya ytb sdb i v n : Int} {S : yb_S} {l : z_L} {Ψ : z_S → Prop} {G G1 G2 : Nat → Prop}
theorem ye_glI (hX : P[aX]? = some (0, xv)) (fX : aX < z_far) (x2 : xv[2]? = some (.ref aN)) (x3 : xv[3]? = some (.ref aSt)) (hN : P[aN]? = some (3, [.ref aK, .ref aW, .ref aZ, .ref aD, .ref aM, ye_v so, ye_v ya, ye_v s, ye_v ytb, ye_v sdb, .ref aE, .ref aF, .ref aC])) (fN : aN < z_far) (hSt : P[aSt]? = some (5, st)) (fSt : aSt < z_far) (t0 : st[0]? = some (.ref aH)) (hH : P[aH]? = some (105, hv)) (fH : aH < z_far) (h00 : hv[0]? = some (.ref r0)) (hr : P[r0]? = some (103, rv)) (fr : r0 < z_far) (hrl : rv.length = 10) (hM : P[aM]? = some (103, mv)) (fM : aM < z_far) (nrM : r0 ≠ aM) (yM : ye_arr mn s mv) (h0 : z_get l 0 = some (.ref aX)) (h1 : z_get l 1 = some (ye_v v)) (h3 : z_get l 3 = some (ye_v i)) (hi : 0 ≤ i ∧ i < s ∧ s ≤ 10)
    (kk : ∀ l P' rv', z_get l 0 = some (.ref aX) → z_get l 1 = some (ye_v v) → z_get l 3 = some (ye_v (i + 1)) → P'[r0]? = some (103, rv') → rv'.length = 10 → ye_oth [r0] P P' → z_Rh (z_G xs) d 13 Ψ (86, l, [], P', 0, 0)) : z_Rh (z_G xs) d 13 Ψ (86, l, [], P, 0, 0) := by
  have ho0 : ye_oth [r0] P P := ye_oth_rf
  refine z_r_ld (kk := z_isI) (ins := (.iload_n 3)) (len := 1) (t := 87) (i := 3) rfl rfl rfl rfl rfl (fun _ => rfl) h3 rfl ?_
  refine z_r_ld (kk := z_isA) (ins := (.aload_n 0)) (len := 1) (t := 88) (i := 0) rfl rfl rfl rfl rfl (fun _ => rfl) h0 rfl ?_
  refine z_r_rd (ins := (.getfield 26)) (len := 3) (t := 91) rfl rfl rfl rfl rfl (z_gfv (ci := 0) (k := 2) (v := .ref aN) rfl (z_lkn fX hX) (by decide) x2) ?_
  refine z_r_rd (ins := (.getfield 131)) (len := 3) (t := 94) rfl rfl rfl rfl rfl (z_gfv (ci := 3) (k := 7) (v := ye_v s) rfl (z_lkn fN hN) (by decide) rfl) ?_
  refine z_r_jm (ins := (.if_icmp .ge 35)) (len := 3) (t := 97) rfl rfl rfl rfl (ye_jn (t := 129) rfl (by omega) (by omega) (by omega) (by omega) (by show ¬ (s ≤ i); omega)) ?_
  refine z_r_ld (kk := z_isI) (ins := (.iload_n 3)) (len := 1) (t := 98) (i := 3) rfl rfl rfl rfl rfl (fun _ => rfl) h3 rfl ?_
  refine z_r_pu (ins := (.bipush 10)) (len := 2) (t := 100) rfl rfl rfl rfl (ye_bi (by decide) (by decide)) ?_
  refine z_r_jm (ins := (.if_icmp .ge 29)) (len := 3) (t := 103) rfl rfl rfl rfl (ye_jn (t := 129) rfl (by omega) (by omega) (by omega) (by omega) (by show ¬ (10 ≤ i); omega)) ?_
  refine z_r_ld (kk := z_isA) (ins := (.aload_n 0)) (len := 1) (t := 104) (i := 0) rfl rfl rfl rfl rfl (fun _ => rfl) h0 rfl ?_
  refine z_r_rd (ins := (.getfield 33)) (len := 3) (t := 107) rfl rfl rfl rfl rfl (z_gfv (ci := 0) (k := 3) (v := .ref aSt) rfl (z_lkn fX hX) (by decide) x3) ?_
  refine z_r_rd (ins := (.getfield 134)) (len := 3) (t := 110) rfl rfl rfl rfl rfl (z_gfv (ci := 5) (k := 0) (v := .ref aH) rfl (z_lkn fSt hSt) (by decide) t0) ?_
  refine z_r_pu (ins := (.iconst 0)) (len := 1) (t := 111) (st' := [ye_v 0, .ref aH]) rfl rfl rfl rfl rfl ?_
  refine z_r_rd (ins := .aaload) (len := 1) (t := 112) rfl rfl rfl rfl rfl (ye_aal (p := 0) (z_lkn fH hH) (Nat.le_of_ble_eq_true rfl) (Nat.le_of_ble_eq_true rfl) (by omega) (by omega) h00) ?_
  refine z_r_ld (kk := z_isI) (ins := (.iload_n 3)) (len := 1) (t := 113) (i := 3) rfl rfl rfl rfl rfl (fun _ => rfl) h3 rfl ?_
  refine z_r_ld (kk := z_isA) (ins := (.aload_n 0)) (len := 1) (t := 114) (i := 0) rfl rfl rfl rfl rfl (fun _ => rfl) h0 rfl ?_
  refine z_r_rd (ins := (.getfield 26)) (len := 3) (t := 117) rfl rfl rfl rfl rfl (z_gfv (ci := 0) (k := 2) (v := .ref aN) rfl (z_lkn fX hX) (by decide) x2) ?_
  refine z_r_rd (ins := (.getfield 137)) (len := 3) (t := 120) rfl rfl rfl rfl rfl (z_gfv (ci := 3) (k := 4) (v := .ref aM) rfl (z_lkn fN hN) (by decide) rfl) ?_
  refine z_r_ld (kk := z_isI) (ins := (.iload_n 3)) (len := 1) (t := 121) (i := 3) rfl rfl rfl rfl rfl (fun _ => rfl) h3 rfl ?_
  refine z_r_rd (ins := .iaload) (len := 1) (t := 122) rfl rfl rfl rfl rfl (ye_al (t := 103) (p := i) (e := mn i) (z_lkn fM hM) (by omega) (by omega) (yM.2 i (by omega) (by omega))) ?_
  refine ye_r_wr (ins := .iastore) (len := 1) (t := 123) (a := r0) (q := (103, rv.set (i).toNat (ye_v (mn i)))) rfl rfl rfl rfl rfl hr (ye_as (t := 103) (nf := fun x => x) (p := i) (e := mn i) (e' := mn i) hr (by omega) (by omega) (by omega) rfl) (fun P_1 c_2 o_3 => ?_)
  have c_4 := ye_kp o_3 (ye_n1 (ye_ne hH hr (by decide))) hH
  have c_5 := ye_kp o_3 (ye_n1 (Ne.symm nrM)) hM
  have c_6 := ye_kp o_3 (ye_n1 (ye_ne hN hr (by decide))) hN
  have c_7 := ye_kp o_3 (ye_n1 (ye_ne hSt hr (by decide))) hSt
  have c_8 := ye_kp o_3 (ye_n1 (ye_ne hX hr (by decide))) hX
  have o_9 := ye_oth_tr ho0 o_3 (ye_s1 (List.mem_cons_self))
  refine ye_ic (ins := (.iinc 3 1)) (len := 3) (t := 126) (i := 3) (a := i) (kk := 1) rfl rfl rfl rfl rfl rfl h3 (fun l l_10 k_11 => ?_)
  have l_12 := k_11 _ _ h0 (by decide) (Or.inl (by decide))
  have l_13 := k_11 _ _ h1 (by decide) (Or.inl (by decide))
  refine z_r_jm (ins := (.goto (-40))) (len := 3) (t := 86) rfl rfl rfl rfl (z_gty rfl) ?_
  exact kk _ _ _ l_12 l_13 l_10 c_2 (by rw [List.length_set]; exact hrl) o_9
theorem ye_glE (hX : P[aX]? = some (0, xv)) (fX : aX < z_far) (x2 : xv[2]? = some (.ref aN)) (hN : P[aN]? = some (3, [.ref aK, .ref aW, .ref aZ, .ref aD, .ref aM, ye_v so, ye_v ya, ye_v s, ye_v ytb, ye_v sdb, .ref aE, .ref aF, .ref aC])) (fN : aN < z_far) (h0 : z_get l 0 = some (.ref aX)) (h3 : z_get l 3 = some (ye_v i)) (hi : 0 ≤ i ∧ s ≤ i ∧ i ≤ 10 ∧ 0 ≤ s) (kk : z_Rh (z_G xs) d 13 Ψ (129, l, [], P, 0, 0)) : z_Rh (z_G xs) d 13 Ψ (86, l, [], P, 0, 0) := by
  refine z_r_ld (kk := z_isI) (ins := (.iload_n 3)) (len := 1) (t := 87) (i := 3) rfl rfl rfl rfl rfl (fun _ => rfl) h3 rfl ?_
  refine z_r_ld (kk := z_isA) (ins := (.aload_n 0)) (len := 1) (t := 88) (i := 0) rfl rfl rfl rfl rfl (fun _ => rfl) h0 rfl ?_
  refine z_r_rd (ins := (.getfield 26)) (len := 3) (t := 91) rfl rfl rfl rfl rfl (z_gfv (ci := 0) (k := 2) (v := .ref aN) rfl (z_lkn fX hX) (by decide) x2) ?_
  refine z_r_rd (ins := (.getfield 131)) (len := 3) (t := 94) rfl rfl rfl rfl rfl (z_gfv (ci := 3) (k := 7) (v := ye_v s) rfl (z_lkn fN hN) (by decide) rfl) ?_
  refine z_r_jm (ins := (.if_icmp .ge 35)) (len := 3) (t := 129) rfl rfl rfl rfl (ye_jy (t := 129) rfl (by omega) (by omega) (by omega) (by omega) (by show s ≤ i; omega)) ?_
  exact kk
theorem ye_glL {P0 : z_H} (fX : aX < z_far) (x2 : xv[2]? = some (.ref aN)) (x3 : xv[3]? = some (.ref aSt)) (fN : aN < z_far) (fSt : aSt < z_far) (t0 : st[0]? = some (.ref aH)) (fH : aH < z_far) (h00 : hv[0]? = some (.ref r0)) (fr : r0 < z_far) (fM : aM < z_far) (nrM : r0 ≠ aM) (yM : ye_arr mn s mv) (hs : 0 ≤ s ∧ s ≤ 10) : ∀ (k : Nat) {i : Int} {l : z_L} {P : z_H} {rv : List Value}, i + k = s → 0 ≤ i → P[aX]? = some (0, xv) → P[aN]? = some (3, [.ref aK, .ref aW, .ref aZ, .ref aD, .ref aM, ye_v so, ye_v ya, ye_v s, ye_v ytb, ye_v sdb, .ref aE, .ref aF, .ref aC]) → P[aSt]? = some (5, st) → P[aH]? = some (105, hv) → P[r0]? = some (103, rv) → rv.length = 10 → P[aM]? = some (103, mv) → z_get l 0 = some (.ref aX) → z_get l 1 = some (ye_v v) → z_get l 3 = some (ye_v i) → ye_oth [r0] P0 P →
    (∀ l P', z_get l 0 = some (.ref aX) → z_get l 1 = some (ye_v v) → ye_oth [r0] P0 P' → z_Rh (z_G xs) d 13 Ψ (129, l, [], P', 0, 0)) → z_Rh (z_G xs) d 13 Ψ (86, l, [], P, 0, 0) := by
  intro k
  induction k with
  | zero => intro i l P rv hi i0 hX hN hSt hH hr hrl hM h0 h1 h3 ho kk; exact ye_glE hX fX x2 hN fN h0 h3 (by omega) (kk l P h0 h1 ho)
  | succ k ih =>
    intro i l P rv hi i0 hX hN hSt hH hr hrl hM h0 h1 h3 ho kk
    refine ye_glI hX fX x2 x3 hN fN hSt fSt t0 hH fH h00 hr fr hrl hM fM nrM yM h0 h1 h3 (by omega) fun l P' rv' g0 g1 g3 hr' hrl' ho' => ?_
    exact ih (by omega) (by omega) (ye_kp ho' (ye_n1 (ye_ne hX hr (by decide))) hX) (ye_kp ho' (ye_n1 (ye_ne hN hr (by decide))) hN) (ye_kp ho' (ye_n1 (ye_ne hSt hr (by decide))) hSt) (ye_kp ho' (ye_n1 (ye_ne hH hr (by decide))) hH) hr' hrl' (ye_kp ho' (ye_n1 (Ne.symm nrM)) hM) g0 g1 g3 (ye_oth_tr ho ho' (fun _ q => q)) kk
theorem ye_gl (fX : aX < z_far) (x2 : xv[2]? = some (.ref aN)) (x3 : xv[3]? = some (.ref aSt)) (fN : aN < z_far) (fSt : aSt < z_far) (t0 : st[0]? = some (.ref aH)) (fH : aH < z_far) (h00 : hv[0]? = some (.ref r0)) (fr : r0 < z_far) (fM : aM < z_far) (nrM : r0 ≠ aM) (yM : ye_arr mn s mv) (hs : 0 ≤ s ∧ s ≤ 10) (hX : P[aX]? = some (0, xv)) (hN : P[aN]? = some (3, [.ref aK, .ref aW, .ref aZ, .ref aD, .ref aM, ye_v so, ye_v ya, ye_v s, ye_v ytb, ye_v sdb, .ref aE, .ref aF, .ref aC])) (hSt : P[aSt]? = some (5, st)) (hH : P[aH]? = some (105, hv)) (hr : P[r0]? = some (103, rv)) (hrl : rv.length = 10) (hM : P[aM]? = some (103, mv)) (h0 : z_get l 0 = some (.ref aX)) (h1 : z_get l 1 = some (ye_v v)) (h3 : z_get l 3 = some (ye_v i)) (hi : 0 ≤ i ∧ i ≤ s)
    (kk : ∀ l P', z_get l 0 = some (.ref aX) → z_get l 1 = some (ye_v v) → ye_oth [r0] P P' → z_Rh (z_G xs) d 13 Ψ (129, l, [], P', 0, 0)) : z_Rh (z_G xs) d 13 Ψ (86, l, [], P, 0, 0) :=
  ye_glL fX x2 x3 fN fSt t0 fH h00 fr fM nrM yM hs (s - i).toNat (by omega) hi.1 hX hN hSt hH hr hrl hM h0 h1 h3 ye_oth_rf kk
end YCGR
