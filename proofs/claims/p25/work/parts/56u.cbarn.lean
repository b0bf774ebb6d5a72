/-! barn, the class, exactly. -/
section YCBN
theorem ye_rows_k {G : Nat → Prop} {m : Nat} {L : List Nat} {P P' : z_H} (h : ye_rows G m P) (k : ye_oth L P P') (hs : ∀ b, b ∈ L → ¬ G b) : ye_rows G m P' := fun r hr => by
  obtain ⟨f, vs, e1, e2⟩ := h r hr
  exact ⟨f, vs, ye_kp k (fun q => hs r q hr) e1, e2⟩
theorem ye_rows_p {G G2 : Nat → Prop} {m : Nat} {P P' : z_H} (h : ye_rows G m P) (k : ye_otp G2 P P') (hs : ∀ b, G2 b → ¬ G b) : ye_rows G m P' := fun r hr => by
  obtain ⟨f, vs, e1, e2⟩ := h r hr
  exact ⟨f, vs, (k.2 r (fun q => hs r q hr)).trans e1, e2⟩
theorem ye_pk {G : Nat → Prop} {P P' : z_H} {a : Nat} {q : z_C} (k : ye_otp G P P') (hn : ¬ G a) (h : P[a]? = some q) : P'[a]? = some q := (k.2 a hn).trans h
/-- SORTS told at first stay as they were while more are told -/
def yb_ag (S S' : yb_S) : Prop := S.1 ≤ S'.1 ∧ ∀ i, 0 ≤ i → i < S.1 → S'.2.2.1 i = S.2.2.1 i ∧ S'.2.2.2.1 i = S.2.2.2.1 i ∧ S'.2.2.2.2.1 i = S.2.2.2.2.1 i ∧ S'.2.2.2.2.2.1 i = S.2.2.2.2.2.1 i ∧ S'.2.2.2.2.2.2 i = S.2.2.2.2.2.2 i
theorem yb_ag_rf {S : yb_S} : yb_ag S S := ⟨Int.le_refl _, fun _ _ _ => ⟨rfl, rfl, rfl, rfl, rfl⟩⟩
theorem yb_ag_tr {S S1 S2 : yb_S} (h : yb_ag S S1) (k : yb_ag S1 S2) : yb_ag S S2 := ⟨Int.le_trans h.1 k.1, fun i i0 i1 => by
  obtain ⟨a1, a2, a3, a4, a5⟩ := h.2 i i0 i1
  obtain ⟨b1, b2, b3, b4, b5⟩ := k.2 i i0 (Int.lt_of_lt_of_le i1 h.1)
  exact ⟨b1.trans a1, b2.trans a2, b3.trans a3, b4.trans a4, b5.trans a5⟩⟩
theorem ye_put_n {f : Int → Int} {n v i : Int} (h : i < n) : ye_put f n v i = f i := if_neg (by omega)
theorem yb_ag_nx {T : Int → Int} {lim p : Int} {S : yb_S} : yb_ag S (yb_nx T lim p S) := by
  unfold yb_nx
  split
  · exact ⟨Int.le_refl _, fun _ _ _ => ⟨rfl, rfl, rfl, rfl, rfl⟩⟩
  · exact ⟨by show S.1 ≤ S.1 + 1; omega, fun i _ i1 => ⟨ye_put_n i1, ye_put_n i1, ye_put_n i1, ye_put_n i1, ye_put_n i1⟩⟩
theorem yb_ag_r {T : Int → Int} {lim : Int} : ∀ (k : Nat) {n p : Int} {S : yb_S}, yb_ag S (yb_r T lim k n p S).2.2.2
  | 0, _, _, _ => yb_ag_rf
  | k + 1, n, p, S => by
    rw [yb_r_u]
    split
    · split
      · exact yb_ag_nx
      · split
        · exact yb_ag_tr yb_ag_nx (yb_ag_r k)
        · exact yb_ag_nx
    · exact yb_ag_rf
theorem yb_ag_rd {T : Int → Int} {lim : Int} {S : yb_S} : yb_ag S (yb_rd T lim S).2.2.2 := by
  unfold yb_rd
  split
  · exact yb_ag_rf
  · exact yb_ag_r 76
/-- the barn of the class, settled: SORTS s, LONG ya -/
def ye_CN (aN aK aW aZ aD aM aE aF aC : Nat) (s ya : Int) (kd wt sz dr : Int → Int) (P : z_H) : Prop := ∃ (kv wv zv dv mv : List Value) (stb ytb sdb : Int), P[aN]? = some (3, [.ref aK, .ref aW, .ref aZ, .ref aD, .ref aM, ye_v s, ye_v ya, ye_v stb, ye_v ytb, ye_v sdb, .ref aE, .ref aF, .ref aC]) ∧ P[aK]? = some (103, kv) ∧ P[aW]? = some (103, wv) ∧ P[aZ]? = some (103, zv) ∧ P[aD]? = some (103, dv) ∧ P[aM]? = some (103, mv) ∧ ye_arr kd s kv ∧ ye_arr wt s wv ∧ ye_arr sz s zv ∧ ye_arr dr s dv ∧ mv.length = 10
variable {xs : List Int32} {d aS aT aN aK aW aZ aD aM aE aF aC aX aSt aY aH r0 : Nat} {P : z_H} {vs xv st yv hv cv ev kv wv zv dv mv rv : List Value} {T kd wt sz dr mn : Int → Int} {len p lim mo s so ya ytb sdb i v n : Int} {S : yb_S} {l : z_L} {Ψ : z_S → Prop} {G G1 G2 : Nat → Prop}
theorem ye_bT {R : Option Value → z_H → Prop} (hX : P[aX]? = some (0, xv)) (fX : aX < z_far) (x2 : xv[2]? = some (.ref aN)) (hN : P[aN]? = some (3, [.ref aK, .ref aW, .ref aZ, .ref aD, .ref aM, ye_v so, ye_v ya, ye_v s, ye_v ytb, ye_v sdb, .ref aE, .ref aF, .ref aC])) (fN : aN < z_far) (hE : P[aE]? = some (103, ev)) (fE : aE < z_far) (hel : ev.length = 5) (hC : P[aC]? = some (105, cv)) (fC : aC < z_far) (hcr : ∀ j, j < 10 → ∃ r, cv[j]? = some (.ref r) ∧ G r) (hG : ye_rows G 121 P) (gN : ¬ G aN) (gE : ¬ G aE) (gC : ¬ G aC) (hy : -100 ≤ ytb ∧ ytb ≤ 100) (hd : 3 ≤ d) (h0 : z_get l 0 = some (.ref aX)) (h1 : z_get l 1 = some (ye_v v))
    (k : ∀ P', P'[aN]? = some (3, [.ref aK, .ref aW, .ref aZ, .ref aD, .ref aM, ye_v s, ye_v (if 0 < ytb then ytb else ya), ye_v s, ye_v ytb, ye_v sdb, .ref aE, .ref aF, .ref aC]) → ye_otg [aN, aE] G P P' → R (some (ye_v v)) P') : z_Rh (z_G xs) d 13 (ye_E xs d 13 R) (129, l, [], P, 0, 0) := by
  refine z_r_ld (kk := z_isA) (ins := (.aload_n 0)) (len := 1) (t := 130) (i := 0) rfl rfl rfl rfl rfl (fun _ => rfl) h0 rfl ?_
  refine z_r_rd (ins := (.getfield 26)) (len := 3) (t := 133) rfl rfl rfl rfl rfl (z_gfv (ci := 0) (k := 2) (v := .ref aN) rfl (z_lkn fX hX) (by decide) x2) ?_
  refine ye_cav (ins := (.invokevirtual 140)) (kd := 1) (t := 136) rfl rfl (by decide) (z_argsv rfl rfl rfl (by omega) (Nat.le_of_ble_eq_true rfl) rfl (Nat.le_of_ble_eq_true rfl) (Nat.le_refl _) (Nat.le_refl _) (Or.inr (Nat.le_of_ble_eq_true rfl)) (Or.inr (z_atv (z_lkn fN hN) rfl))) rfl rfl rfl rfl (ye_settle hN fN hE fE hel hC fC hcr hG gN gE gC hy (by omega)) ?_
  rintro _ P_1 ⟨c_2, o_3⟩
  refine z_r_ld (kk := z_isI) (ins := (.iload_n 1)) (len := 1) (t := 137) (i := 1) rfl rfl rfl rfl rfl (fun _ => rfl) h1 rfl ?_
  refine ye_ret (ins := .ireturn) rfl rfl rfl (ye_reti rfl) ?_
  exact k _ c_2 o_3
theorem ye_bMN {R : Option Value → z_H → Prop} (hX : P[aX]? = some (0, xv)) (fX : aX < z_far) (x2 : xv[2]? = some (.ref aN)) (x3 : xv[3]? = some (.ref aSt)) (hN : P[aN]? = some (3, [.ref aK, .ref aW, .ref aZ, .ref aD, .ref aM, ye_v so, ye_v ya, ye_v s, ye_v ytb, ye_v sdb, .ref aE, .ref aF, .ref aC])) (fN : aN < z_far) (hSt : P[aSt]? = some (5, st)) (fSt : aSt < z_far) (t0 : st[0]? = some (.ref aH)) (hH : P[aH]? = some (105, hv)) (fH : aH < z_far) (h00 : hv[0]? = some (.ref r0)) (hr : P[r0]? = some (103, rv)) (fr : r0 < z_far) (hrl : rv.length = 10) (hM : P[aM]? = some (103, mv)) (fM : aM < z_far) (nrM : r0 ≠ aM) (yM : ye_arr mn s mv) (hE : P[aE]? = some (103, ev)) (fE : aE < z_far) (hel : ev.length = 5) (hC : P[aC]? = some (105, cv)) (fC : aC < z_far) (hcr : ∀ j, j < 10 → ∃ r, cv[j]? = some (.ref r) ∧ G r) (hG : ye_rows G 121 P) (gN : ¬ G aN) (gE : ¬ G aE) (gC : ¬ G aC) (hy : -100 ≤ ytb ∧ ytb ≤ 100) (nrE : r0 ≠ aE) (gr0 : ¬ G r0) (hso : 0 ≤ so ∧ so ≤ s ∧ s ≤ 10) (hd : 3 ≤ d) (h0 : z_get l 0 = some (.ref aX)) (h1 : z_get l 1 = some (ye_v v))
    (k : ∀ P', P'[aN]? = some (3, [.ref aK, .ref aW, .ref aZ, .ref aD, .ref aM, ye_v s, ye_v (if 0 < ytb then ytb else ya), ye_v s, ye_v ytb, ye_v sdb, .ref aE, .ref aF, .ref aC]) → ye_otg [aN, aE, r0] G P P' → R (some (ye_v v)) P') : z_Rh (z_G xs) d 13 (ye_E xs d 13 R) (78, l, [], P, 0, 0) := by
  refine z_r_ld (kk := z_isA) (ins := (.aload_n 0)) (len := 1) (t := 79) (i := 0) rfl rfl rfl rfl rfl (fun _ => rfl) h0 rfl ?_
  refine z_r_rd (ins := (.getfield 26)) (len := 3) (t := 82) rfl rfl rfl rfl rfl (z_gfv (ci := 0) (k := 2) (v := .ref aN) rfl (z_lkn fX hX) (by decide) x2) ?_
  refine z_r_rd (ins := (.getfield 128)) (len := 3) (t := 85) rfl rfl rfl rfl rfl (z_gfv (ci := 3) (k := 5) (v := ye_v so) rfl (z_lkn fN hN) (by decide) rfl) ?_
  refine z_r_is (kk := z_isI) (ins := (.istore_n 3)) (len := 1) (t := 86) (i := 3) rfl rfl rfl rfl rfl rfl rfl rfl (fun l l_1 k_2 => ?_)
  have l_3 := k_2 _ _ h0 (by decide) (Or.inl (by decide))
  have l_4 := k_2 _ _ h1 (by decide) (Or.inl (by decide))
  refine ye_gl fX x2 x3 fN fSt t0 fH h00 fr fM nrM yM (by omega) hX hN hSt hH hr hrl hM l_3 l_4 l_1 (by omega) (fun l P2 g0 g1 ho2 => ?_)
  refine ye_bT (ye_kp ho2 (ye_n1 (ye_ne hX hr (by decide))) hX) fX x2 (ye_kp ho2 (ye_n1 (ye_ne hN hr (by decide))) hN) fN (ye_kp ho2 (ye_n1 (Ne.symm nrE)) hE) fE hel (ye_kp ho2 (ye_n1 (ye_ne hC hr (by decide))) hC) fC hcr (ye_rows_k hG ho2 (fun b q => by rw [List.mem_singleton.mp q]; exact gr0)) gN gE gC hy hd g0 g1 (fun P3 q1 q2 => ?_)
  exact k P3 q1 (ye_otg_g (ye_otg_l ye_otg_rf ho2 (fun b q => by rw [List.mem_singleton.mp q]; exact List.mem_cons_of_mem _ (List.mem_cons_of_mem _ List.mem_cons_self))) q2 (ye_s2 List.mem_cons_self (List.mem_cons_of_mem _ List.mem_cons_self)) (fun _ q => q))
theorem ye_bF {R : Option Value → z_H → Prop} (hX : P[aX]? = some (0, xv)) (fX : aX < z_far) (x2 : xv[2]? = some (.ref aN)) (x3 : xv[3]? = some (.ref aSt)) (hN : P[aN]? = some (3, [.ref aK, .ref aW, .ref aZ, .ref aD, .ref aM, ye_v so, ye_v ya, ye_v s, ye_v ytb, ye_v sdb, .ref aE, .ref aF, .ref aC])) (fN : aN < z_far) (hSt : P[aSt]? = some (5, st)) (fSt : aSt < z_far) (t0 : st[0]? = some (.ref aH)) (hH : P[aH]? = some (105, hv)) (fH : aH < z_far) (h00 : hv[0]? = some (.ref r0)) (hr : P[r0]? = some (103, rv)) (fr : r0 < z_far) (hrl : rv.length = 10) (hM : P[aM]? = some (103, mv)) (fM : aM < z_far) (nrM : r0 ≠ aM) (yM : ye_arr mn s mv) (hE : P[aE]? = some (103, ev)) (fE : aE < z_far) (hel : ev.length = 5) (hC : P[aC]? = some (105, cv)) (fC : aC < z_far) (hcr : ∀ j, j < 10 → ∃ r, cv[j]? = some (.ref r) ∧ G r) (hG : ye_rows G 121 P) (gN : ¬ G aN) (gE : ¬ G aE) (gC : ¬ G aC) (hy : -100 ≤ ytb ∧ ytb ≤ 100) (nrE : r0 ≠ aE) (gr0 : ¬ G r0) (t1 : st[1]? = some (.ref aY)) (hY : P[aY]? = some (105, yv)) (fY : aY < z_far) (hyr : ∀ j, j < 24 → ∃ r, yv[j]? = some (.ref r) ∧ G2 r) (hG2 : ye_rows G2 10 P) (hGG : ∀ b, G2 b → ¬ G b) (g2N : ¬ G2 aN) (g2E : ¬ G2 aE) (g2C : ¬ G2 aC) (g2X : ¬ G2 aX) (g2S : ¬ G2 aSt) (g2H : ¬ G2 aH) (g2M : ¬ G2 aM) (g2r : ¬ G2 r0) (hso : 0 ≤ so ∧ so ≤ s ∧ s ≤ 10) (hd : 4 ≤ d) (h0 : z_get l 0 = some (.ref aX)) (h1 : z_get l 1 = some (ye_v v))
    (k : ∀ P', P'[aN]? = some (3, [.ref aK, .ref aW, .ref aZ, .ref aD, .ref aM, ye_v s, ye_v (if 0 < ytb then ytb else ya), ye_v s, ye_v ytb, ye_v sdb, .ref aE, .ref aF, .ref aC]) → ye_otg [aN, aE, r0] (fun b => G b ∨ G2 b) P P' → R (some (ye_v v)) P') : z_Rh (z_G xs) d 13 (ye_E xs d 13 R) (61, l, [], P, 0, 0) := by
  refine z_r_ld (kk := z_isA) (ins := (.aload_n 0)) (len := 1) (t := 62) (i := 0) rfl rfl rfl rfl rfl (fun _ => rfl) h0 rfl ?_
  refine z_r_rd (ins := (.getfield 26)) (len := 3) (t := 65) rfl rfl rfl rfl rfl (z_gfv (ci := 0) (k := 2) (v := .ref aN) rfl (z_lkn fX hX) (by decide) x2) ?_
  refine ye_ca (ins := (.invokevirtual 122)) (kd := 1) (t := 68) rfl rfl (by decide) (z_argsv rfl rfl rfl (by omega) (Nat.le_of_ble_eq_true rfl) rfl (Nat.le_of_ble_eq_true rfl) (Nat.le_refl _) (Nat.le_refl _) (Or.inr (Nat.le_of_ble_eq_true rfl)) (Or.inr (z_atv (z_lkn fN hN) rfl))) rfl rfl rfl (ye_tells hN fN (by omega)) ?_
  rintro _ _ ⟨rfl, b_1, rfl, h_2⟩
  by_cases b_3 : b_1 = 0
  · skip
    refine z_r_jm (ins := (.ifCond .eq 10)) (len := 3) (t := 78) rfl rfl rfl rfl (ye_iy (t := 78) rfl (by omega) (by omega) b_3) ?_
    exact ye_bMN hX fX x2 x3 hN fN hSt fSt t0 hH fH h00 hr fr hrl hM fM nrM yM hE fE hel hC fC hcr hG gN gE gC hy nrE gr0 hso (by omega) h0 h1 (fun P3 q1 q2 => k P3 q1 (ye_otg_g ye_otg_rf q2 (fun _ q => q) (fun _ q => Or.inl q)))
  · skip
    refine z_r_jm (ins := (.ifCond .eq 10)) (len := 3) (t := 71) rfl rfl rfl rfl (ye_in (t := 78) rfl (by omega) (by omega) b_3) ?_
    refine z_r_ld (kk := z_isA) (ins := (.aload_n 0)) (len := 1) (t := 72) (i := 0) rfl rfl rfl rfl rfl (fun _ => rfl) h0 rfl ?_
    refine z_r_rd (ins := (.getfield 33)) (len := 3) (t := 75) rfl rfl rfl rfl rfl (z_gfv (ci := 0) (k := 3) (v := .ref aSt) rfl (z_lkn fX hX) (by decide) x3) ?_
    refine ye_cav (ins := (.invokevirtual 125)) (kd := 1) (t := 78) rfl rfl (by decide) (z_argsv rfl rfl rfl (by omega) (Nat.le_of_ble_eq_true rfl) rfl (Nat.le_of_ble_eq_true rfl) (Nat.le_refl _) (Nat.le_refl _) (Or.inr (Nat.le_of_ble_eq_true rfl)) (Or.inr (z_atv (z_lkn fSt hSt) rfl))) rfl rfl rfl rfl (ye_clrY hSt fSt t1 hY fY hyr hG2 (by omega)) ?_
    rintro _ P_4 ⟨h_5, o_6⟩
    have c_7 := ye_pk o_6 g2X hX
    have c_8 := ye_pk o_6 g2N hN
    have c_9 := ye_pk o_6 g2S hSt
    have c_10 := ye_pk o_6 g2H hH
    have c_11 := ye_pk o_6 g2r hr
    have c_12 := ye_pk o_6 g2M hM
    exact ye_bMN c_7 fX x2 x3 c_8 fN c_9 fSt t0 c_10 fH h00 c_11 fr hrl c_12 fM nrM yM (ye_pk o_6 g2E hE) fE hel (ye_pk o_6 g2C hC) fC hcr (ye_rows_p hG o_6 hGG) gN gE gC hy nrE gr0 hso (by omega) h0 h1 (fun P3 q1 q2 => k P3 q1 (ye_otg_g (ye_otg_p ye_otg_rf o_6 (fun _ q => Or.inr q)) q2 (fun _ q => q) (fun _ q => Or.inl q)))
set_option maxHeartbeats 8000000 in
theorem ye_Cbarn (hS : P[aS]? = some (1, [.ref aT, ye_v len, ye_v p, ye_v lim, ye_v mo])) (fS : aS < z_far) (hT : P[aT]? = some (102, vs)) (fT : aT < z_far) (hx : ye_tx T len 0 255 vs) (hb : 0 ≤ len ∧ len ≤ 80)
    (hN : P[aN]? = some (3, [.ref aK, .ref aW, .ref aZ, .ref aD, .ref aM, ye_v so, ye_v ya, ye_v s, ye_v ytb, ye_v sdb, .ref aE, .ref aF, .ref aC])) (fN : aN < z_far) (hK : P[aK]? = some (103, kv)) (fK : aK < z_far) (hW : P[aW]? = some (103, wv)) (fW : aW < z_far) (hZ : P[aZ]? = some (103, zv)) (fZ : aZ < z_far) (hD : P[aD]? = some (103, dv)) (fD : aD < z_far) (hM : P[aM]? = some (103, mv)) (fM : aM < z_far)
    (n01 : aK ≠ aW) (n02 : aK ≠ aZ) (n03 : aK ≠ aD) (n04 : aK ≠ aM) (n12 : aW ≠ aZ) (n13 : aW ≠ aD) (n14 : aW ≠ aM) (n23 : aZ ≠ aD) (n24 : aZ ≠ aM) (n34 : aD ≠ aM) (yK : ye_arr kd so kv) (yW : ye_arr wt so wv) (yZ : ye_arr sz so zv) (yD : ye_arr dr so dv) (yM : ye_arr mn so mv)
    (hX : P[aX]? = some (0, xv)) (fX : aX < z_far) (x0 : xv[0]? = some (.ref aS)) (x2 : xv[2]? = some (.ref aN)) (x3 : xv[3]? = some (.ref aSt))
    (hSt : P[aSt]? = some (5, st)) (fSt : aSt < z_far) (t0 : st[0]? = some (.ref aH)) (t1 : st[1]? = some (.ref aY)) (hH : P[aH]? = some (105, hv)) (fH : aH < z_far) (h00 : hv[0]? = some (.ref r0)) (hr : P[r0]? = some (103, rv)) (fr : r0 < z_far) (hrl : rv.length = 10) (hY : P[aY]? = some (105, yv)) (fY : aY < z_far) (hyr : ∀ j, j < 24 → ∃ r, yv[j]? = some (.ref r) ∧ G2 r) (hG2 : ye_rows G2 10 P) (hE : P[aE]? = some (103, ev)) (fE : aE < z_far) (hel : ev.length = 5) {e2 : Int} (he2 : ev[(2 : Int).toNat]? = some (ye_v e2)) (he3 : -100 ≤ e2) (he4 : e2 ≤ 100) (hC : P[aC]? = some (105, cv)) (fC : aC < z_far) (hcr : ∀ j, j < 10 → ∃ r, cv[j]? = some (.ref r) ∧ G r) (hG : ye_rows G 121 P)
    (gnS : ¬ G aS) (gnN : ¬ G aN) (gnK : ¬ G aK) (gnW : ¬ G aW) (gnZ : ¬ G aZ) (gnD : ¬ G aD) (gnM : ¬ G aM) (gnE : ¬ G aE) (gnX : ¬ G aX) (gnSt : ¬ G aSt) (gnH : ¬ G aH) (gnC : ¬ G aC) (gnT : ¬ G aT) (gnY : ¬ G aY) (gn0 : ¬ G r0) (hnS : ¬ G2 aS) (hnN : ¬ G2 aN) (hnK : ¬ G2 aK) (hnW : ¬ G2 aW) (hnZ : ¬ G2 aZ) (hnD : ¬ G2 aD) (hnM : ¬ G2 aM) (hnE : ¬ G2 aE) (hnX : ¬ G2 aX) (hnSt : ¬ G2 aSt) (hnH : ¬ G2 aH) (hnC : ¬ G2 aC) (hnT : ¬ G2 aT) (hnY : ¬ G2 aY) (hn0 : ¬ G2 r0) (hGG : ∀ b, G2 b → ¬ G b) (rE : r0 ≠ aE) (rK : r0 ≠ aK) (rW : r0 ≠ aW) (rZ : r0 ≠ aZ) (rD : r0 ≠ aD) (rM : r0 ≠ aM) (eK : aE ≠ aK) (eW : aE ≠ aW) (eZ : aE ≠ aZ) (eD : aE ≠ aD) (eM : aE ≠ aM)
    (hso : 0 ≤ so ∧ so ≤ 10) (hd : 9 ≤ d) : ye_X xs d 13 [.ref aX] P (fun r P' => r = some (ye_v (yb_a T len (so, 0, kd, wt, sz, dr, mn))) ∧ (∃ a lim mo, P'[aS]? = some (1, [.ref aT, ye_v 0, ye_v a, ye_v lim, ye_v mo])) ∧ ye_otg [aS, aN, aK, aW, aZ, aD, aM, aE, r0] (fun b => G b ∨ G2 b) P P' ∧ (0 ≤ yb_a T len (so, 0, kd, wt, sz, dr, mn) → ye_CN aN aK aW aZ aD aM aE aF aC (yb_S' T len (so, 0, kd, wt, sz, dr, mn)).1 (if 0 < (yb_S' T len (so, 0, kd, wt, sz, dr, mn)).2.1 then (yb_S' T len (so, 0, kd, wt, sz, dr, mn)).2.1 else ya) (yb_S' T len (so, 0, kd, wt, sz, dr, mn)).2.2.1 (yb_S' T len (so, 0, kd, wt, sz, dr, mn)).2.2.2.1 (yb_S' T len (so, 0, kd, wt, sz, dr, mn)).2.2.2.2.1 (yb_S' T len (so, 0, kd, wt, sz, dr, mn)).2.2.2.2.2.1 P') ∧ (yb_a T len (so, 0, kd, wt, sz, dr, mn) < 0 → ye_CN aN aK aW aZ aD aM aE aF aC so ya kd wt sz dr P')) := by
  refine ye_go ?_
  have a0 : z_get (lv_args 0 [.ref aX]) 0 = some (.ref aX) := rfl
  have ho0 : ye_oth [aS, aN, aK, aW, aZ, aD, aM, aE, r0] P P := ye_oth_rf
  refine z_r_ld (kk := z_isA) (ins := (.aload_n 0)) (len := 1) (t := 1) (i := 0) rfl rfl rfl rfl rfl (fun _ => rfl) a0 rfl ?_
  refine z_r_rd (ins := (.getfield 12)) (len := 3) (t := 4) rfl rfl rfl rfl rfl (z_gfv (ci := 0) (k := 0) (v := .ref aS) rfl (z_lkn fX hX) (by decide) x0) ?_
  refine z_r_pu (ins := (.bipush 76)) (len := 2) (t := 6) rfl rfl rfl rfl (ye_bi (by decide) (by decide)) ?_
  refine ye_cav (ins := (.invokevirtual 103)) (kd := 1) (t := 9) rfl rfl (by decide) (z_argsv rfl rfl rfl (by omega) (Nat.le_of_ble_eq_true rfl) rfl (Nat.le_of_ble_eq_true rfl) (Nat.le_refl _) (Nat.le_refl _) (Or.inr (Nat.le_of_ble_eq_true rfl)) (Or.inr (z_atv (z_lkn fS hS) rfl))) rfl rfl rfl rfl (ye_open (most := 76) hS fS (by omega) (by decide) (by omega)) ?_
  rintro _ P_1 ⟨lim, mo, c_2, o_3, h_4, h_5⟩
  have c_6 := ye_kp o_3 (ye_n1 (ye_ne hC hS (by decide))) hC
  have c_7 := ye_kp o_3 (ye_n1 (ye_ne hD hS (by decide))) hD
  have c_8 := ye_kp o_3 (ye_n1 (ye_ne hE hS (by decide))) hE
  have c_9 := ye_kp o_3 (ye_n1 (ye_ne hH hS (by decide))) hH
  have c_10 := ye_kp o_3 (ye_n1 (ye_ne hK hS (by decide))) hK
  have c_11 := ye_kp o_3 (ye_n1 (ye_ne hM hS (by decide))) hM
  have c_12 := ye_kp o_3 (ye_n1 (ye_ne hN hS (by decide))) hN
  have c_13 := ye_kp o_3 (ye_n1 (ye_ne hSt hS (by decide))) hSt
  have c_14 := ye_kp o_3 (ye_n1 (ye_ne hT hS (by decide))) hT
  have c_15 := ye_kp o_3 (ye_n1 (ye_ne hW hS (by decide))) hW
  have c_16 := ye_kp o_3 (ye_n1 (ye_ne hX hS (by decide))) hX
  have c_17 := ye_kp o_3 (ye_n1 (ye_ne hY hS (by decide))) hY
  have c_18 := ye_kp o_3 (ye_n1 (ye_ne hZ hS (by decide))) hZ
  have c_19 := ye_kp o_3 (ye_n1 (ye_ne hr hS (by decide))) hr
  have o_20 := ye_oth_tr ho0 o_3 (ye_s1 (List.mem_cons_self))
  refine z_r_ld (kk := z_isA) (ins := (.aload_n 0)) (len := 1) (t := 10) (i := 0) rfl rfl rfl rfl rfl (fun _ => rfl) a0 rfl ?_
  refine z_r_rd (ins := (.getfield 26)) (len := 3) (t := 13) rfl rfl rfl rfl rfl (z_gfv (ci := 0) (k := 2) (v := .ref aN) rfl (z_lkn fX c_16) (by decide) x2) ?_
  refine z_r_ld (kk := z_isA) (ins := (.aload_n 0)) (len := 1) (t := 14) (i := 0) rfl rfl rfl rfl rfl (fun _ => rfl) a0 rfl ?_
  refine z_r_rd (ins := (.getfield 12)) (len := 3) (t := 17) rfl rfl rfl rfl rfl (z_gfv (ci := 0) (k := 0) (v := .ref aS) rfl (z_lkn fX c_16) (by decide) x0) ?_
  refine ye_ca (ins := (.invokevirtual 107)) (kd := 1) (t := 20) rfl rfl (by decide) (z_argsv rfl rfl rfl (by omega) (Nat.le_of_ble_eq_true rfl) rfl (Nat.le_of_ble_eq_true rfl) (Nat.le_refl _) (Nat.le_refl _) (Or.inr (Nat.le_of_ble_eq_true rfl)) (Or.inr (z_atv (z_lkn fN c_12) rfl))) rfl rfl rfl (ye_bread c_2 fS c_14 fT hx (by omega) c_12 fN c_10 fK c_15 fW c_18 fZ c_7 fD c_11 fM n01 n02 n03 n04 n12 n13 n14 n23 n24 n34 yK yW yZ yD yM c_8 fE he2 he3 he4 hso (by omega)) ?_
  rintro _ P_21 ⟨v_22, rfl, c_23, c_24, o_25, h_26⟩
  have rb := yb_rd_bd (T := T) (lim := lim) (S := (so, 0, kd, wt, sz, dr, mn)) (by omega) hso.1 hso.2 ⟨by show (0 : Int) ≤ 0; decide, by show (0 : Int) ≤ 24; decide⟩
  have rg := yb_ag_rd (T := T) (lim := lim) (S := (so, 0, kd, wt, sz, dr, mn))
  generalize er : yb_rd T lim (so, 0, kd, wt, sz, dr, mn) = rd at rb rg c_23 c_24 h_26
  change 0 ≤ rd.2.2.1 ∧ rd.2.2.1 ≤ lim ∧ 0 ≤ rd.2.1 ∧ rd.2.1 ≤ 76 ∧ so ≤ rd.2.2.2.1 ∧ rd.2.2.2.1 ≤ 10 ∧ 0 ≤ rd.2.2.2.2.1 ∧ rd.2.2.2.2.1 ≤ 24 at rb
  obtain ⟨w_27, w_28, w_29, w_30, w_31, sd9, c_32, c_33, c_34, c_35, c_36, c_37, y_38, y_39, y_40, y_41, y_42, sd7, sd8⟩ := c_24
  have c_43 := ye_kp o_25 (ye_nc (ye_ne c_6 c_2 (by decide)) (ye_nc (ye_ne c_6 c_12 (by decide)) (ye_nc (ye_ne c_6 c_10 (by decide)) (ye_nc (ye_ne c_6 c_15 (by decide)) (ye_nc (ye_ne c_6 c_18 (by decide)) (ye_nc (ye_ne c_6 c_7 (by decide)) (ye_n1 (ye_ne c_6 c_11 (by decide))))))))) c_6
  have c_44 := ye_kp o_25 (ye_nc (ye_ne c_8 c_2 (by decide)) (ye_nc (ye_ne c_8 c_12 (by decide)) (ye_nc eK (ye_nc eW (ye_nc eZ (ye_nc eD (ye_n1 eM))))))) c_8
  have c_45 := ye_kp o_25 (ye_nc (ye_ne c_9 c_2 (by decide)) (ye_nc (ye_ne c_9 c_12 (by decide)) (ye_nc (ye_ne c_9 c_10 (by decide)) (ye_nc (ye_ne c_9 c_15 (by decide)) (ye_nc (ye_ne c_9 c_18 (by decide)) (ye_nc (ye_ne c_9 c_7 (by decide)) (ye_n1 (ye_ne c_9 c_11 (by decide))))))))) c_9
  have c_46 := ye_kp o_25 (ye_nc (ye_ne c_13 c_2 (by decide)) (ye_nc (ye_ne c_13 c_12 (by decide)) (ye_nc (ye_ne c_13 c_10 (by decide)) (ye_nc (ye_ne c_13 c_15 (by decide)) (ye_nc (ye_ne c_13 c_18 (by decide)) (ye_nc (ye_ne c_13 c_7 (by decide)) (ye_n1 (ye_ne c_13 c_11 (by decide))))))))) c_13
  have c_47 := ye_kp o_25 (ye_nc (ye_ne c_14 c_2 (by decide)) (ye_nc (ye_ne c_14 c_12 (by decide)) (ye_nc (ye_ne c_14 c_10 (by decide)) (ye_nc (ye_ne c_14 c_15 (by decide)) (ye_nc (ye_ne c_14 c_18 (by decide)) (ye_nc (ye_ne c_14 c_7 (by decide)) (ye_n1 (ye_ne c_14 c_11 (by decide))))))))) c_14
  have c_48 := ye_kp o_25 (ye_nc (ye_ne c_16 c_2 (by decide)) (ye_nc (ye_ne c_16 c_12 (by decide)) (ye_nc (ye_ne c_16 c_10 (by decide)) (ye_nc (ye_ne c_16 c_15 (by decide)) (ye_nc (ye_ne c_16 c_18 (by decide)) (ye_nc (ye_ne c_16 c_7 (by decide)) (ye_n1 (ye_ne c_16 c_11 (by decide))))))))) c_16
  have c_49 := ye_kp o_25 (ye_nc (ye_ne c_17 c_2 (by decide)) (ye_nc (ye_ne c_17 c_12 (by decide)) (ye_nc (ye_ne c_17 c_10 (by decide)) (ye_nc (ye_ne c_17 c_15 (by decide)) (ye_nc (ye_ne c_17 c_18 (by decide)) (ye_nc (ye_ne c_17 c_7 (by decide)) (ye_n1 (ye_ne c_17 c_11 (by decide))))))))) c_17
  have c_50 := ye_kp o_25 (ye_nc (ye_ne c_19 c_2 (by decide)) (ye_nc (ye_ne c_19 c_12 (by decide)) (ye_nc rK (ye_nc rW (ye_nc rZ (ye_nc rD (ye_n1 rM))))))) c_19
  have o_51 := ye_oth_tr o_20 o_25 ((fun b hb => by simp only [List.mem_cons, List.not_mem_nil, or_false] at hb ⊢; (repeat (rcases hb with h | hb; · simp [h])); simp [hb]))
  refine z_r_is (kk := z_isI) (ins := (.istore_n 1)) (len := 1) (t := 21) (i := 1) rfl rfl rfl rfl rfl rfl rfl rfl (fun l l_52 k_53 => ?_)
  have l_54 := k_53 _ _ a0 (by decide) (Or.inr (by show (1 : Nat) ≠ 2; decide))
  refine z_r_ld (kk := z_isI) (ins := (.iload_n 1)) (len := 1) (t := 22) (i := 1) rfl rfl rfl rfl rfl (fun _ => rfl) l_52 rfl ?_
  refine z_r_pu (ins := (.iconst (-1))) (len := 1) (t := 23) (st' := [ye_v ((-1)), ye_v v_22]) rfl rfl rfl rfl rfl ?_
  by_cases b_55 : v_22 = (-1)
  · skip
    refine z_r_jm (ins := (.if_icmp .eq 17)) (len := 3) (t := 40) rfl rfl rfl rfl (ye_jy (t := 40) rfl (by omega) (by omega) (by omega) (by omega) b_55) ?_
    refine z_r_pu (ins := (.iconst 0)) (len := 1) (t := 41) (st' := [ye_v 0]) rfl rfl rfl rfl rfl ?_
    refine z_r_is (kk := z_isI) (ins := (.istore_n 2)) (len := 1) (t := 42) (i := 2) rfl rfl rfl rfl rfl rfl rfl rfl (fun l l_56 k_57 => ?_)
    have l_58 := k_57 _ _ l_54 (by decide) (Or.inl (by decide))
    have l_59 := k_57 _ _ l_52 (by decide) (Or.inr (by show (1 : Nat) ≠ 2; decide))
    refine z_r_ld (kk := z_isA) (ins := (.aload_n 0)) (len := 1) (t := 43) (i := 0) rfl rfl rfl rfl rfl (fun _ => rfl) l_58 rfl ?_
    refine z_r_rd (ins := (.getfield 12)) (len := 3) (t := 46) rfl rfl rfl rfl rfl (z_gfv (ci := 0) (k := 0) (v := .ref aS) rfl (z_lkn fX c_48) (by decide) x0) ?_
    refine ye_cav (ins := (.invokevirtual 115)) (kd := 1) (t := 49) rfl rfl (by decide) (z_argsv rfl rfl rfl (by omega) (Nat.le_of_ble_eq_true rfl) rfl (Nat.le_of_ble_eq_true rfl) (Nat.le_refl _) (Nat.le_refl _) (Or.inr (Nat.le_of_ble_eq_true rfl)) (Or.inr (z_atv (z_lkn fS c_23) rfl))) rfl rfl rfl rfl (ye_clear c_23 fS) ?_
    rintro _ P_60 ⟨c_61, o_62⟩
    have c_63 := ye_kp o_62 (ye_n1 (ye_ne c_43 c_23 (by decide))) c_43
    have c_64 := ye_kp o_62 (ye_n1 (ye_ne c_36 c_23 (by decide))) c_36
    have c_65 := ye_kp o_62 (ye_n1 (ye_ne c_44 c_23 (by decide))) c_44
    have c_66 := ye_kp o_62 (ye_n1 (ye_ne c_45 c_23 (by decide))) c_45
    have c_67 := ye_kp o_62 (ye_n1 (ye_ne c_33 c_23 (by decide))) c_33
    have c_68 := ye_kp o_62 (ye_n1 (ye_ne c_37 c_23 (by decide))) c_37
    have c_69 := ye_kp o_62 (ye_n1 (ye_ne c_32 c_23 (by decide))) c_32
    have c_70 := ye_kp o_62 (ye_n1 (ye_ne c_46 c_23 (by decide))) c_46
    have c_71 := ye_kp o_62 (ye_n1 (ye_ne c_47 c_23 (by decide))) c_47
    have c_72 := ye_kp o_62 (ye_n1 (ye_ne c_34 c_23 (by decide))) c_34
    have c_73 := ye_kp o_62 (ye_n1 (ye_ne c_48 c_23 (by decide))) c_48
    have c_74 := ye_kp o_62 (ye_n1 (ye_ne c_49 c_23 (by decide))) c_49
    have c_75 := ye_kp o_62 (ye_n1 (ye_ne c_35 c_23 (by decide))) c_35
    have c_76 := ye_kp o_62 (ye_n1 (ye_ne c_50 c_23 (by decide))) c_50
    have o_77 := ye_oth_tr o_51 o_62 (ye_s1 (List.mem_cons_self))
    refine z_r_ld (kk := z_isI) (ins := (.iload_n 2)) (len := 1) (t := 50) (i := 2) rfl rfl rfl rfl rfl (fun _ => rfl) l_56 rfl ?_
    refine z_r_jm (ins := (.ifCond .ne 11)) (len := 3) (t := 53) rfl rfl rfl rfl (ye_in (t := 61) rfl (by omega) (by omega) (by show ¬ ((0 : Int) ≠ 0); decide)) ?_
    refine z_r_ld (kk := z_isA) (ins := (.aload_n 0)) (len := 1) (t := 54) (i := 0) rfl rfl rfl rfl rfl (fun _ => rfl) l_58 rfl ?_
    refine z_r_rd (ins := (.getfield 12)) (len := 3) (t := 57) rfl rfl rfl rfl rfl (z_gfv (ci := 0) (k := 0) (v := .ref aS) rfl (z_lkn fX c_73) (by decide) x0) ?_
    refine ye_ca (ins := (.invokevirtual 118)) (kd := 1) (t := 60) rfl rfl (by decide) (z_argsv rfl rfl rfl (by omega) (Nat.le_of_ble_eq_true rfl) rfl (Nat.le_of_ble_eq_true rfl) (Nat.le_refl _) (Nat.le_refl _) (Or.inr (Nat.le_of_ble_eq_true rfl)) (Or.inr (z_atv (z_lkn fS c_61) rfl))) rfl rfl rfl (ye_fault0 c_61 fS (by omega)) ?_
    rintro _ _ ⟨rfl, rfl⟩
    refine ye_ret (ins := .ireturn) rfl rfl rfl (ye_reti rfl) ?_
    have el : yq_lim len 76 = lim := by
      unfold yq_lim
      split <;> omega
    have kw : ¬ (rd.1 = true ∧ len ≤ 76) := by
      rintro ⟨g1, g2⟩
      rcases h_26 with ⟨g3, g4⟩ | ⟨g3, g4⟩
      · omega
      · rw [g1] at g3; cases g3
    have ea : yb_a T len (so, 0, kd, wt, sz, dr, mn) = -1 - rd.2.2.1 := by
      unfold yb_a
      rw [el, er, if_neg kw]
    rw [ea]
    exact ⟨rfl, ⟨_, _, _, c_61⟩, ye_otg_l ye_otg_rf o_77 (fun b q => by simp only [List.mem_cons, List.not_mem_nil, or_false] at q ⊢; (repeat (rcases q with h | q; · simp [h])); simp [q]), fun q => absurd q (by omega), fun _ => ⟨_, _, _, _, _, _, _, _, c_69, c_67, c_72, c_75, c_64, c_68, ye_arr_eq (ye_arr_le y_38 rb.2.2.2.2.1) (fun i i0 i1 => (rg.2 i i0 i1).1), ye_arr_eq (ye_arr_le y_39 rb.2.2.2.2.1) (fun i i0 i1 => (rg.2 i i0 i1).2.1), ye_arr_eq (ye_arr_le y_40 rb.2.2.2.2.1) (fun i i0 i1 => (rg.2 i i0 i1).2.2.1), ye_arr_eq (ye_arr_le y_41 rb.2.2.2.2.1) (fun i i0 i1 => (rg.2 i i0 i1).2.2.2.1), y_42.1⟩⟩
  · skip
    refine z_r_jm (ins := (.if_icmp .eq 17)) (len := 3) (t := 26) rfl rfl rfl rfl (ye_jn (t := 40) rfl (by omega) (by omega) (by omega) (by omega) b_55) ?_
    refine z_r_ld (kk := z_isA) (ins := (.aload_n 0)) (len := 1) (t := 27) (i := 0) rfl rfl rfl rfl rfl (fun _ => rfl) l_54 rfl ?_
    refine z_r_rd (ins := (.getfield 12)) (len := 3) (t := 30) rfl rfl rfl rfl rfl (z_gfv (ci := 0) (k := 0) (v := .ref aS) rfl (z_lkn fX c_48) (by decide) x0) ?_
    refine ye_ca (ins := (.invokevirtual 111)) (kd := 1) (t := 33) rfl rfl (by decide) (z_argsv rfl rfl rfl (by omega) (Nat.le_of_ble_eq_true rfl) rfl (Nat.le_of_ble_eq_true rfl) (Nat.le_refl _) (Nat.le_refl _) (Or.inr (Nat.le_of_ble_eq_true rfl)) (Or.inr (z_atv (z_lkn fS c_23) rfl))) rfl rfl rfl (ye_hasMore c_23 fS c_47 fT hx (by omega) (by omega)) ?_
    rintro _ _ ⟨rfl, rfl⟩
    by_cases b_78 : mo ≠ 0
    · skip
      refine z_r_jm (ins := (.ifCond .ne 7)) (len := 3) (t := 40) rfl rfl rfl rfl (ye_iy (t := 40) rfl (by omega) (by omega) b_78) ?_
      refine z_r_pu (ins := (.iconst 0)) (len := 1) (t := 41) (st' := [ye_v 0]) rfl rfl rfl rfl rfl ?_
      refine z_r_is (kk := z_isI) (ins := (.istore_n 2)) (len := 1) (t := 42) (i := 2) rfl rfl rfl rfl rfl rfl rfl rfl (fun l l_79 k_80 => ?_)
      have l_81 := k_80 _ _ l_54 (by decide) (Or.inl (by decide))
      have l_82 := k_80 _ _ l_52 (by decide) (Or.inr (by show (1 : Nat) ≠ 2; decide))
      refine z_r_ld (kk := z_isA) (ins := (.aload_n 0)) (len := 1) (t := 43) (i := 0) rfl rfl rfl rfl rfl (fun _ => rfl) l_81 rfl ?_
      refine z_r_rd (ins := (.getfield 12)) (len := 3) (t := 46) rfl rfl rfl rfl rfl (z_gfv (ci := 0) (k := 0) (v := .ref aS) rfl (z_lkn fX c_48) (by decide) x0) ?_
      refine ye_cav (ins := (.invokevirtual 115)) (kd := 1) (t := 49) rfl rfl (by decide) (z_argsv rfl rfl rfl (by omega) (Nat.le_of_ble_eq_true rfl) rfl (Nat.le_of_ble_eq_true rfl) (Nat.le_refl _) (Nat.le_refl _) (Or.inr (Nat.le_of_ble_eq_true rfl)) (Or.inr (z_atv (z_lkn fS c_23) rfl))) rfl rfl rfl rfl (ye_clear c_23 fS) ?_
      rintro _ P_83 ⟨c_84, o_85⟩
      have c_86 := ye_kp o_85 (ye_n1 (ye_ne c_43 c_23 (by decide))) c_43
      have c_87 := ye_kp o_85 (ye_n1 (ye_ne c_36 c_23 (by decide))) c_36
      have c_88 := ye_kp o_85 (ye_n1 (ye_ne c_44 c_23 (by decide))) c_44
      have c_89 := ye_kp o_85 (ye_n1 (ye_ne c_45 c_23 (by decide))) c_45
      have c_90 := ye_kp o_85 (ye_n1 (ye_ne c_33 c_23 (by decide))) c_33
      have c_91 := ye_kp o_85 (ye_n1 (ye_ne c_37 c_23 (by decide))) c_37
      have c_92 := ye_kp o_85 (ye_n1 (ye_ne c_32 c_23 (by decide))) c_32
      have c_93 := ye_kp o_85 (ye_n1 (ye_ne c_46 c_23 (by decide))) c_46
      have c_94 := ye_kp o_85 (ye_n1 (ye_ne c_47 c_23 (by decide))) c_47
      have c_95 := ye_kp o_85 (ye_n1 (ye_ne c_34 c_23 (by decide))) c_34
      have c_96 := ye_kp o_85 (ye_n1 (ye_ne c_48 c_23 (by decide))) c_48
      have c_97 := ye_kp o_85 (ye_n1 (ye_ne c_49 c_23 (by decide))) c_49
      have c_98 := ye_kp o_85 (ye_n1 (ye_ne c_35 c_23 (by decide))) c_35
      have c_99 := ye_kp o_85 (ye_n1 (ye_ne c_50 c_23 (by decide))) c_50
      have o_100 := ye_oth_tr o_51 o_85 (ye_s1 (List.mem_cons_self))
      refine z_r_ld (kk := z_isI) (ins := (.iload_n 2)) (len := 1) (t := 50) (i := 2) rfl rfl rfl rfl rfl (fun _ => rfl) l_79 rfl ?_
      refine z_r_jm (ins := (.ifCond .ne 11)) (len := 3) (t := 53) rfl rfl rfl rfl (ye_in (t := 61) rfl (by omega) (by omega) (by show ¬ ((0 : Int) ≠ 0); decide)) ?_
      refine z_r_ld (kk := z_isA) (ins := (.aload_n 0)) (len := 1) (t := 54) (i := 0) rfl rfl rfl rfl rfl (fun _ => rfl) l_81 rfl ?_
      refine z_r_rd (ins := (.getfield 12)) (len := 3) (t := 57) rfl rfl rfl rfl rfl (z_gfv (ci := 0) (k := 0) (v := .ref aS) rfl (z_lkn fX c_96) (by decide) x0) ?_
      refine ye_ca (ins := (.invokevirtual 118)) (kd := 1) (t := 60) rfl rfl (by decide) (z_argsv rfl rfl rfl (by omega) (Nat.le_of_ble_eq_true rfl) rfl (Nat.le_of_ble_eq_true rfl) (Nat.le_refl _) (Nat.le_refl _) (Or.inr (Nat.le_of_ble_eq_true rfl)) (Or.inr (z_atv (z_lkn fS c_84) rfl))) rfl rfl rfl (ye_fault0 c_84 fS (by omega)) ?_
      rintro _ _ ⟨rfl, rfl⟩
      refine ye_ret (ins := .ireturn) rfl rfl rfl (ye_reti rfl) ?_
      have el : yq_lim len 76 = lim := by
        unfold yq_lim
        split <;> omega
      have kw : ¬ (rd.1 = true ∧ len ≤ 76) := by
        rintro ⟨g1, g2⟩
        rcases h_26 with ⟨g3, g4⟩ | ⟨g3, g4⟩
        · omega
        · rw [g1] at g3; cases g3
      have ea : yb_a T len (so, 0, kd, wt, sz, dr, mn) = -1 - rd.2.2.1 := by
        unfold yb_a
        rw [el, er, if_neg kw]
      rw [ea]
      exact ⟨rfl, ⟨_, _, _, c_84⟩, ye_otg_l ye_otg_rf o_100 (fun b q => by simp only [List.mem_cons, List.not_mem_nil, or_false] at q ⊢; (repeat (rcases q with h | q; · simp [h])); simp [q]), fun q => absurd q (by omega), fun _ => ⟨_, _, _, _, _, _, _, _, c_92, c_90, c_95, c_98, c_87, c_91, ye_arr_eq (ye_arr_le y_38 rb.2.2.2.2.1) (fun i i0 i1 => (rg.2 i i0 i1).1), ye_arr_eq (ye_arr_le y_39 rb.2.2.2.2.1) (fun i i0 i1 => (rg.2 i i0 i1).2.1), ye_arr_eq (ye_arr_le y_40 rb.2.2.2.2.1) (fun i i0 i1 => (rg.2 i i0 i1).2.2.1), ye_arr_eq (ye_arr_le y_41 rb.2.2.2.2.1) (fun i i0 i1 => (rg.2 i i0 i1).2.2.2.1), y_42.1⟩⟩
    · skip
      refine z_r_jm (ins := (.ifCond .ne 7)) (len := 3) (t := 36) rfl rfl rfl rfl (ye_in (t := 40) rfl (by omega) (by omega) b_78) ?_
      refine z_r_pu (ins := (.iconst 1)) (len := 1) (t := 37) (st' := [ye_v 1]) rfl rfl rfl rfl rfl ?_
      refine z_r_jm (ins := (.goto 4)) (len := 3) (t := 41) rfl rfl rfl rfl (z_gty rfl) ?_
      refine z_r_is (kk := z_isI) (ins := (.istore_n 2)) (len := 1) (t := 42) (i := 2) rfl rfl rfl rfl rfl rfl rfl rfl (fun l l_101 k_102 => ?_)
      have l_103 := k_102 _ _ l_54 (by decide) (Or.inl (by decide))
      have l_104 := k_102 _ _ l_52 (by decide) (Or.inr (by show (1 : Nat) ≠ 2; decide))
      refine z_r_ld (kk := z_isA) (ins := (.aload_n 0)) (len := 1) (t := 43) (i := 0) rfl rfl rfl rfl rfl (fun _ => rfl) l_103 rfl ?_
      refine z_r_rd (ins := (.getfield 12)) (len := 3) (t := 46) rfl rfl rfl rfl rfl (z_gfv (ci := 0) (k := 0) (v := .ref aS) rfl (z_lkn fX c_48) (by decide) x0) ?_
      refine ye_cav (ins := (.invokevirtual 115)) (kd := 1) (t := 49) rfl rfl (by decide) (z_argsv rfl rfl rfl (by omega) (Nat.le_of_ble_eq_true rfl) rfl (Nat.le_of_ble_eq_true rfl) (Nat.le_refl _) (Nat.le_refl _) (Or.inr (Nat.le_of_ble_eq_true rfl)) (Or.inr (z_atv (z_lkn fS c_23) rfl))) rfl rfl rfl rfl (ye_clear c_23 fS) ?_
      rintro _ P_105 ⟨c_106, o_107⟩
      have c_108 := ye_kp o_107 (ye_n1 (ye_ne c_43 c_23 (by decide))) c_43
      have c_109 := ye_kp o_107 (ye_n1 (ye_ne c_36 c_23 (by decide))) c_36
      have c_110 := ye_kp o_107 (ye_n1 (ye_ne c_44 c_23 (by decide))) c_44
      have c_111 := ye_kp o_107 (ye_n1 (ye_ne c_45 c_23 (by decide))) c_45
      have c_112 := ye_kp o_107 (ye_n1 (ye_ne c_33 c_23 (by decide))) c_33
      have c_113 := ye_kp o_107 (ye_n1 (ye_ne c_37 c_23 (by decide))) c_37
      have c_114 := ye_kp o_107 (ye_n1 (ye_ne c_32 c_23 (by decide))) c_32
      have c_115 := ye_kp o_107 (ye_n1 (ye_ne c_46 c_23 (by decide))) c_46
      have c_116 := ye_kp o_107 (ye_n1 (ye_ne c_47 c_23 (by decide))) c_47
      have c_117 := ye_kp o_107 (ye_n1 (ye_ne c_34 c_23 (by decide))) c_34
      have c_118 := ye_kp o_107 (ye_n1 (ye_ne c_48 c_23 (by decide))) c_48
      have c_119 := ye_kp o_107 (ye_n1 (ye_ne c_49 c_23 (by decide))) c_49
      have c_120 := ye_kp o_107 (ye_n1 (ye_ne c_35 c_23 (by decide))) c_35
      have c_121 := ye_kp o_107 (ye_n1 (ye_ne c_50 c_23 (by decide))) c_50
      have o_122 := ye_oth_tr o_51 o_107 (ye_s1 (List.mem_cons_self))
      refine z_r_ld (kk := z_isI) (ins := (.iload_n 2)) (len := 1) (t := 50) (i := 2) rfl rfl rfl rfl rfl (fun _ => rfl) l_101 rfl ?_
      refine z_r_jm (ins := (.ifCond .ne 11)) (len := 3) (t := 61) rfl rfl rfl rfl (ye_iy (t := 61) rfl (by omega) (by omega) (by show (1 : Int) ≠ 0; decide)) ?_
      have el : yq_lim len 76 = lim := by
        unfold yq_lim
        split <;> omega
      have kw : rd.1 = true ∧ v_22 = rd.2.1 := by
        rcases h_26 with g | ⟨g1, g2⟩
        · exact g
        · exact absurd g2 (by omega)
      have ea : yb_a T len (so, 0, kd, wt, sz, dr, mn) = v_22 := by
        unfold yb_a
        rw [el, er, if_pos ⟨kw.1, by omega⟩]
        exact kw.2.symm
      have eS : yb_S' T len (so, 0, kd, wt, sz, dr, mn) = rd.2.2.2 := by
        unfold yb_S'
        rw [el, er]
      have hGb : ye_rows G2 10 P_105 := ye_rows_k hG2 o_122 (fun b q => by simp only [List.mem_cons, List.not_mem_nil, or_false] at q; rcases q with rfl | rfl | rfl | rfl | rfl | rfl | rfl | rfl | rfl <;> assumption)
      have hGa : ye_rows G 121 P_105 := ye_rows_k hG o_122 (fun b q => by simp only [List.mem_cons, List.not_mem_nil, or_false] at q; rcases q with rfl | rfl | rfl | rfl | rfl | rfl | rfl | rfl | rfl <;> assumption)
      refine ye_bF (G := G) (G2 := G2) c_118 fX x2 x3 c_114 fN c_115 fSt t0 c_111 fH h00 c_121 fr hrl c_113 fM rM y_42 c_110 fE hel c_108 fC hcr hGa gnN gnE gnC (by omega) rE gn0 t1 c_119 fY hyr hGb hGG hnN hnE hnC hnX hnSt hnH hnM hn0 (by omega) (by omega) l_103 l_104 (fun P3 q1 q2 => ?_)
      rw [ea, eS]
      refine ⟨rfl, ⟨_, _, _, (q2.2 aS (by simp only [List.mem_cons, List.not_mem_nil, or_false, not_or]; exact ⟨ye_ne c_106 c_114 (by decide), ye_ne c_106 c_110 (by decide), ye_ne c_106 c_121 (by decide)⟩) (fun q => Or.elim q gnS hnS)).trans c_106⟩, ye_otg_g (ye_otg_l ye_otg_rf o_122 (fun b q => by simp only [List.mem_cons, List.not_mem_nil, or_false] at q ⊢; (repeat (rcases q with h | q; · simp [h])); simp [q])) q2 (fun b q => by simp only [List.mem_cons, List.not_mem_nil, or_false] at q ⊢; (repeat (rcases q with h | q; · simp [h])); simp [q]) (fun _ q => q), fun _ => ⟨_, _, _, _, _, _, _, _, q1, (q2.2 aK (by simp only [List.mem_cons, List.not_mem_nil, or_false, not_or]; exact ⟨ye_ne c_112 c_114 (by decide), Ne.symm eK, Ne.symm rK⟩) (fun q => Or.elim q gnK hnK)).trans c_112, (q2.2 aW (by simp only [List.mem_cons, List.not_mem_nil, or_false, not_or]; exact ⟨ye_ne c_117 c_114 (by decide), Ne.symm eW, Ne.symm rW⟩) (fun q => Or.elim q gnW hnW)).trans c_117, (q2.2 aZ (by simp only [List.mem_cons, List.not_mem_nil, or_false, not_or]; exact ⟨ye_ne c_120 c_114 (by decide), Ne.symm eZ, Ne.symm rZ⟩) (fun q => Or.elim q gnZ hnZ)).trans c_120, (q2.2 aD (by simp only [List.mem_cons, List.not_mem_nil, or_false, not_or]; exact ⟨ye_ne c_109 c_114 (by decide), Ne.symm eD, Ne.symm rD⟩) (fun q => Or.elim q gnD hnD)).trans c_109, (q2.2 aM (by simp only [List.mem_cons, List.not_mem_nil, or_false, not_or]; exact ⟨ye_ne c_113 c_114 (by decide), Ne.symm eM, Ne.symm rM⟩) (fun q => Or.elim q gnM hnM)).trans c_113, y_38, y_39, y_40, y_41, y_42.1⟩, fun q => absurd q (by omega)⟩
end YCBN
