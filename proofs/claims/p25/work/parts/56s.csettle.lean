/-! settle, a barn's text, the class, exactly. -/
section YCST
def ye_otg (L : List Nat) (G : Nat → Prop) (P P' : z_H) : Prop := P'.length = P.length ∧ ∀ b, b ∉ L → ¬ G b → P'[b]? = P[b]?
theorem ye_otg_l {L L' : List Nat} {G : Nat → Prop} {P P1 P2 : z_H} (h : ye_otg L G P P1) (k : ye_oth L' P1 P2) (hs : ∀ b, b ∈ L' → b ∈ L) : ye_otg L G P P2 := ⟨k.1.trans h.1, fun b hb hg => (k.2 b (fun q => hb (hs b q))).trans (h.2 b hb hg)⟩
theorem ye_otg_p {L : List Nat} {G G' : Nat → Prop} {P P1 P2 : z_H} (h : ye_otg L G P P1) (k : ye_otp G' P1 P2) (hs : ∀ b, G' b → G b) : ye_otg L G P P2 := ⟨k.1.trans h.1, fun b hb hg => (k.2 b (fun q => hg (hs b q))).trans (h.2 b hb hg)⟩
theorem ye_otg_g {L L' : List Nat} {G G' : Nat → Prop} {P P1 P2 : z_H} (h : ye_otg L G P P1) (k : ye_otg L' G' P1 P2) (hl : ∀ b, b ∈ L' → b ∈ L) (hs : ∀ b, G' b → G b) : ye_otg L G P P2 := ⟨k.1.trans h.1, fun b hb hg => (k.2 b (fun q => hb (hl b q)) (fun q => hg (hs b q))).trans (h.2 b hb hg)⟩
theorem ye_otg_rf {L : List Nat} {G : Nat → Prop} {P : z_H} : ye_otg L G P P := ⟨rfl, fun _ _ _ => rfl⟩
variable {xs : List Int32} {d aS aT aN aK aW aZ aD aM aE aF aC aX aSt aY aH r0 : Nat} {P : z_H} {vs xv st yv hv cv ev kv wv zv dv mv : List Value} {T kd wt sz dr mn : Int → Int} {len p lim mo s so ya ytb sdb i v n : Int} {S : yb_S} {l : z_L} {Ψ : z_S → Prop} {G G1 : Nat → Prop}
theorem ye_tells (hN : P[aN]? = some (3, [.ref aK, .ref aW, .ref aZ, .ref aD, .ref aM, ye_v so, ye_v ya, ye_v s, ye_v ytb, ye_v sdb, .ref aE, .ref aF, .ref aC])) (fN : aN < z_far) (hy : -100 ≤ ytb ∧ ytb ≤ 100) : ye_X xs d 38 [.ref aN] P (fun r P' => P' = P ∧ ∃ b, r = some (ye_v b) ∧ ((b = 1 ∧ 0 < ytb) ∨ (b = 0 ∧ ytb ≤ 0))) := by
  refine ye_go ?_
  have a0 : z_get (lv_args 0 [.ref aN]) 0 = some (.ref aN) := rfl
  have ho0 : ye_oth [aN] P P := ye_oth_rf
  refine z_r_ld (kk := z_isA) (ins := (.aload_n 0)) (len := 1) (t := 1) (i := 0) rfl rfl rfl rfl rfl (fun _ => rfl) a0 rfl ?_
  refine z_r_rd (ins := (.getfield 37)) (len := 3) (t := 4) rfl rfl rfl rfl rfl (z_gfv (ci := 3) (k := 8) (v := ye_v ytb) rfl (z_lkn fN hN) (by decide) rfl) ?_
  by_cases b_1 : ytb ≤ 0
  · skip
    refine z_r_jm (ins := (.ifCond .le 7)) (len := 3) (t := 11) rfl rfl rfl rfl (ye_iy (t := 11) rfl (by omega) (by omega) b_1) ?_
    refine z_r_pu (ins := (.iconst 0)) (len := 1) (t := 12) (st' := [ye_v 0]) rfl rfl rfl rfl rfl ?_
    refine ye_ret (ins := .ireturn) rfl rfl rfl (ye_retz rfl (by omega)) ?_
    exact ⟨rfl, 0, rfl, Or.inr ⟨rfl, by omega⟩⟩
  · skip
    refine z_r_jm (ins := (.ifCond .le 7)) (len := 3) (t := 7) rfl rfl rfl rfl (ye_in (t := 11) rfl (by omega) (by omega) b_1) ?_
    refine z_r_pu (ins := (.iconst 1)) (len := 1) (t := 8) (st' := [ye_v 1]) rfl rfl rfl rfl rfl ?_
    refine z_r_jm (ins := (.goto 4)) (len := 3) (t := 12) rfl rfl rfl rfl (z_gty rfl) ?_
    refine ye_ret (ins := .ireturn) rfl rfl rfl (ye_retz rfl (by omega)) ?_
    exact ⟨rfl, 1, rfl, Or.inl ⟨rfl, by omega⟩⟩
theorem ye_settle (hN : P[aN]? = some (3, [.ref aK, .ref aW, .ref aZ, .ref aD, .ref aM, ye_v so, ye_v ya, ye_v s, ye_v ytb, ye_v sdb, .ref aE, .ref aF, .ref aC])) (fN : aN < z_far) (hE : P[aE]? = some (103, ev)) (fE : aE < z_far) (hel : ev.length = 5) (hC : P[aC]? = some (105, cv)) (fC : aC < z_far) (hcr : ∀ j, j < 10 → ∃ r, cv[j]? = some (.ref r) ∧ G r) (hG : ye_rows G 121 P) (gN : ¬ G aN) (gE : ¬ G aE) (gC : ¬ G aC) (hy : -100 ≤ ytb ∧ ytb ≤ 100)
    (hd : 2 ≤ d) : ye_X xs d 41 [.ref aN] P (fun _ P' => P'[aN]? = some (3, [.ref aK, .ref aW, .ref aZ, .ref aD, .ref aM, ye_v s, ye_v (if 0 < ytb then ytb else ya), ye_v s, ye_v ytb, ye_v sdb, .ref aE, .ref aF, .ref aC]) ∧ ye_otg [aN, aE] G P P') := by
  refine ye_go ?_
  have a0 : z_get (lv_args 0 [.ref aN]) 0 = some (.ref aN) := rfl
  have ho0 : ye_oth [aN, aE] P P := ye_oth_rf
  refine z_r_ld (kk := z_isA) (ins := (.aload_n 0)) (len := 1) (t := 1) (i := 0) rfl rfl rfl rfl rfl (fun _ => rfl) a0 rfl ?_
  refine z_r_ld (kk := z_isA) (ins := (.aload_n 0)) (len := 1) (t := 2) (i := 0) rfl rfl rfl rfl rfl (fun _ => rfl) a0 rfl ?_
  refine z_r_rd (ins := (.getfield 34)) (len := 3) (t := 5) rfl rfl rfl rfl rfl (z_gfv (ci := 3) (k := 7) (v := ye_v s) rfl (z_lkn fN hN) (by decide) rfl) ?_
  refine ye_r_wr (ins := (.putfield 27)) (len := 3) (t := 8) (a := aN) (q := (3, [.ref aK, .ref aW, .ref aZ, .ref aD, .ref aM, ye_v s, ye_v ya, ye_v s, ye_v ytb, ye_v sdb, .ref aE, .ref aF, .ref aC])) rfl rfl rfl rfl rfl hN (z_pfv (ci := 3) (k := 5) rfl hN (by decide) (Nat.le_of_ble_eq_true rfl) rfl rfl rfl) (fun P_1 c_2 o_3 => ?_)
  have c_4 := ye_kp o_3 (ye_n1 (ye_ne hC hN (by decide))) hC
  have c_5 := ye_kp o_3 (ye_n1 (ye_ne hE hN (by decide))) hE
  have o_6 := ye_oth_tr ho0 o_3 (ye_s1 (List.mem_cons_self))
  refine z_r_ld (kk := z_isA) (ins := (.aload_n 0)) (len := 1) (t := 9) (i := 0) rfl rfl rfl rfl rfl (fun _ => rfl) a0 rfl ?_
  refine ye_ca (ins := (.invokevirtual 95)) (kd := 1) (t := 12) rfl rfl (by decide) (z_argsv rfl rfl rfl (by omega) (Nat.le_of_ble_eq_true rfl) rfl (Nat.le_of_ble_eq_true rfl) (Nat.le_refl _) (Nat.le_refl _) (Or.inr (Nat.le_of_ble_eq_true rfl)) (Or.inr (z_atv (z_lkn fN c_2) rfl))) rfl rfl rfl (ye_tells c_2 fN (by omega)) ?_
  rintro _ Q_7 ⟨rfl, b_7, rfl, h_8⟩
  by_cases b_9 : b_7 = 0
  · skip
    refine z_r_jm (ins := (.ifCond .eq 21)) (len := 3) (t := 33) rfl rfl rfl rfl (ye_iy (t := 33) rfl (by omega) (by omega) b_9) ?_
    refine z_r_ld (kk := z_isA) (ins := (.aload_n 0)) (len := 1) (t := 34) (i := 0) rfl rfl rfl rfl rfl (fun _ => rfl) a0 rfl ?_
    have hG9 : ye_rows G 121 Q_7 := fun r hr => by
      obtain ⟨f1, w1, f2, f3⟩ := hG r hr
      exact ⟨f1, w1, (o_6.2 r (ye_nc (fun q => gN (q ▸ hr)) (ye_n1 (fun q => gE (q ▸ hr))))).trans f2, f3⟩
    refine ye_cav (ins := (.invokevirtual 98)) (kd := 1) (t := 37) rfl rfl (by decide) (z_argsv rfl rfl rfl (by omega) (Nat.le_of_ble_eq_true rfl) rfl (Nat.le_of_ble_eq_true rfl) (Nat.le_refl _) (Nat.le_refl _) (Or.inr (Nat.le_of_ble_eq_true rfl)) (Or.inr (z_atv (z_lkn fN c_2) rfl))) rfl rfl rfl rfl (ye_frgL c_2 fN rfl c_4 fC hcr hG9 (by omega)) ?_
    rintro _ P_10 ⟨h_11, o_12⟩
    refine ye_ret (ins := .return_) rfl rfl rfl (ye_retv rfl) ?_
    have e6 : (if 0 < ytb then ytb else ya) = ya := if_neg (by omega)
    rw [e6]
    exact ⟨(o_12.2 aN gN).trans c_2, ye_otg_p (ye_otg_l ye_otg_rf o_6 (fun _ q => q)) o_12 (fun _ q => q)⟩
  · skip
    refine z_r_jm (ins := (.ifCond .eq 21)) (len := 3) (t := 15) rfl rfl rfl rfl (ye_in (t := 33) rfl (by omega) (by omega) b_9) ?_
    refine z_r_ld (kk := z_isA) (ins := (.aload_n 0)) (len := 1) (t := 16) (i := 0) rfl rfl rfl rfl rfl (fun _ => rfl) a0 rfl ?_
    refine z_r_ld (kk := z_isA) (ins := (.aload_n 0)) (len := 1) (t := 17) (i := 0) rfl rfl rfl rfl rfl (fun _ => rfl) a0 rfl ?_
    refine z_r_rd (ins := (.getfield 37)) (len := 3) (t := 20) rfl rfl rfl rfl rfl (z_gfv (ci := 3) (k := 8) (v := ye_v ytb) rfl (z_lkn fN c_2) (by decide) rfl) ?_
    refine ye_r_wr (ins := (.putfield 31)) (len := 3) (t := 23) (a := aN) (q := (3, [.ref aK, .ref aW, .ref aZ, .ref aD, .ref aM, ye_v s, ye_v ytb, ye_v s, ye_v ytb, ye_v sdb, .ref aE, .ref aF, .ref aC])) rfl rfl rfl rfl rfl c_2 (z_pfv (ci := 3) (k := 6) rfl c_2 (by decide) (Nat.le_of_ble_eq_true rfl) rfl rfl rfl) (fun P_13 c_14 o_15 => ?_)
    have c_16 := ye_kp o_15 (ye_n1 (ye_ne c_4 c_2 (by decide))) c_4
    have c_17 := ye_kp o_15 (ye_n1 (ye_ne c_5 c_2 (by decide))) c_5
    have o_18 := ye_oth_tr o_6 o_15 (ye_s1 (List.mem_cons_self))
    refine z_r_ld (kk := z_isA) (ins := (.aload_n 0)) (len := 1) (t := 24) (i := 0) rfl rfl rfl rfl rfl (fun _ => rfl) a0 rfl ?_
    refine z_r_rd (ins := (.getfield 43)) (len := 3) (t := 27) rfl rfl rfl rfl rfl (z_gfv (ci := 3) (k := 10) (v := .ref aE) rfl (z_lkn fN c_14) (by decide) rfl) ?_
    refine z_r_pu (ins := (.iconst 2)) (len := 1) (t := 28) (st' := [ye_v 2, .ref aE]) rfl rfl rfl rfl rfl ?_
    refine z_r_ld (kk := z_isA) (ins := (.aload_n 0)) (len := 1) (t := 29) (i := 0) rfl rfl rfl rfl rfl (fun _ => rfl) a0 rfl ?_
    refine z_r_rd (ins := (.getfield 40)) (len := 3) (t := 32) rfl rfl rfl rfl rfl (z_gfv (ci := 3) (k := 9) (v := ye_v sdb) rfl (z_lkn fN c_14) (by decide) rfl) ?_
    refine ye_r_wr (ins := .iastore) (len := 1) (t := 33) (a := aE) (q := (103, ev.set ((2 : Int)).toNat (ye_v sdb))) rfl rfl rfl rfl rfl c_17 (ye_as (t := 103) (nf := fun x => x) (p := 2) (e := sdb) (e' := sdb) c_17 (by omega) (by omega) (by omega) rfl) (fun P_19 c_20 o_21 => ?_)
    have c_22 := ye_kp o_21 (ye_n1 (ye_ne c_16 c_17 (by decide))) c_16
    have c_23 := ye_kp o_21 (ye_n1 (ye_ne c_14 c_17 (by decide))) c_14
    have o_24 := ye_oth_tr o_18 o_21 (ye_s1 (List.mem_cons_of_mem _ (List.mem_cons_self)))
    refine z_r_ld (kk := z_isA) (ins := (.aload_n 0)) (len := 1) (t := 34) (i := 0) rfl rfl rfl rfl rfl (fun _ => rfl) a0 rfl ?_
    have hG9 : ye_rows G 121 P_19 := fun r hr => by
      obtain ⟨f1, w1, f2, f3⟩ := hG r hr
      exact ⟨f1, w1, (o_24.2 r (ye_nc (fun q => gN (q ▸ hr)) (ye_n1 (fun q => gE (q ▸ hr))))).trans f2, f3⟩
    refine ye_cav (ins := (.invokevirtual 98)) (kd := 1) (t := 37) rfl rfl (by decide) (z_argsv rfl rfl rfl (by omega) (Nat.le_of_ble_eq_true rfl) rfl (Nat.le_of_ble_eq_true rfl) (Nat.le_refl _) (Nat.le_refl _) (Or.inr (Nat.le_of_ble_eq_true rfl)) (Or.inr (z_atv (z_lkn fN c_23) rfl))) rfl rfl rfl rfl (ye_frgL c_23 fN rfl c_22 fC hcr hG9 (by omega)) ?_
    rintro _ P_25 ⟨h_26, o_27⟩
    refine ye_ret (ins := .return_) rfl rfl rfl (ye_retv rfl) ?_
    have e6 : (if 0 < ytb then ytb else ya) = ytb := if_pos (by omega)
    rw [e6]
    exact ⟨(o_27.2 aN gN).trans c_23, ye_otg_p (ye_otg_l ye_otg_rf o_24 (fun _ q => q)) o_27 (fun _ q => q)⟩
def yb_rd (T : Int → Int) (lim : Int) (S : yb_S) : Bool × Int × Int × yb_S := if lim ≤ 0 then (true, 0, 0, S) else yb_r T lim 76 0 0 S
theorem ye_bread (hS : P[aS]? = some (1, [.ref aT, ye_v len, ye_v 0, ye_v lim, ye_v mo])) (fS : aS < z_far) (hT : P[aT]? = some (102, vs)) (fT : aT < z_far) (hx : ye_tx T len 0 255 vs) (hb : 0 ≤ lim ∧ lim ≤ len ∧ len ≤ 80)
    (hN : P[aN]? = some (3, [.ref aK, .ref aW, .ref aZ, .ref aD, .ref aM, ye_v so, ye_v ya, ye_v s, ye_v ytb, ye_v sdb, .ref aE, .ref aF, .ref aC])) (fN : aN < z_far) (hK : P[aK]? = some (103, kv)) (fK : aK < z_far) (hW : P[aW]? = some (103, wv)) (fW : aW < z_far) (hZ : P[aZ]? = some (103, zv)) (fZ : aZ < z_far) (hD : P[aD]? = some (103, dv)) (fD : aD < z_far) (hM : P[aM]? = some (103, mv)) (fM : aM < z_far)
    (n01 : aK ≠ aW) (n02 : aK ≠ aZ) (n03 : aK ≠ aD) (n04 : aK ≠ aM) (n12 : aW ≠ aZ) (n13 : aW ≠ aD) (n14 : aW ≠ aM) (n23 : aZ ≠ aD) (n24 : aZ ≠ aM) (n34 : aD ≠ aM)
    (yK : ye_arr kd so kv) (yW : ye_arr wt so wv) (yZ : ye_arr sz so zv) (yD : ye_arr dr so dv) (yM : ye_arr mn so mv) (hE : P[aE]? = some (103, ev)) (fE : aE < z_far) {e2 : Int} (he2 : ev[(2 : Int).toNat]? = some (ye_v e2)) (he3 : -100 ≤ e2) (he4 : e2 ≤ 100)
    (hso : 0 ≤ so ∧ so ≤ 10) (hd : 7 ≤ d) : ye_X xs d 16 [.ref aN, .ref aS] P (fun r P' => ∃ v, r = some (ye_v v) ∧ P'[aS]? = some (1, [.ref aT, ye_v len, ye_v (yb_rd T lim (so, 0, kd, wt, sz, dr, mn)).2.2.1, ye_v lim, ye_v mo]) ∧ ye_CB aN aK aW aZ aD aM aE aF aC so ya (yb_rd T lim (so, 0, kd, wt, sz, dr, mn)).2.2.2 P' ∧ ye_oth [aS, aN, aK, aW, aZ, aD, aM] P P' ∧ (((yb_rd T lim (so, 0, kd, wt, sz, dr, mn)).1 = true ∧ v = (yb_rd T lim (so, 0, kd, wt, sz, dr, mn)).2.1) ∨ ((yb_rd T lim (so, 0, kd, wt, sz, dr, mn)).1 = false ∧ v = -1))) := by
  refine ye_go ?_
  have a0 : z_get (lv_args 0 [.ref aN, .ref aS]) 0 = some (.ref aN) := rfl
  have a1 : z_get (lv_args 0 [.ref aN, .ref aS]) 1 = some (.ref aS) := rfl
  have ho0 : ye_oth [aS, aN, aK, aW, aZ, aD, aM] P P := ye_oth_rf
  refine z_r_ld (kk := z_isA) (ins := (.aload_n 0)) (len := 1) (t := 1) (i := 0) rfl rfl rfl rfl rfl (fun _ => rfl) a0 rfl ?_
  refine z_r_ld (kk := z_isA) (ins := (.aload_n 0)) (len := 1) (t := 2) (i := 0) rfl rfl rfl rfl rfl (fun _ => rfl) a0 rfl ?_
  refine z_r_rd (ins := (.getfield 27)) (len := 3) (t := 5) rfl rfl rfl rfl rfl (z_gfv (ci := 3) (k := 5) (v := ye_v so) rfl (z_lkn fN hN) (by decide) rfl) ?_
  refine ye_r_wr (ins := (.putfield 34)) (len := 3) (t := 8) (a := aN) (q := (3, [.ref aK, .ref aW, .ref aZ, .ref aD, .ref aM, ye_v so, ye_v ya, ye_v so, ye_v ytb, ye_v sdb, .ref aE, .ref aF, .ref aC])) rfl rfl rfl rfl rfl hN (z_pfv (ci := 3) (k := 7) rfl hN (by decide) (Nat.le_of_ble_eq_true rfl) rfl rfl rfl) (fun P_1 c_2 o_3 => ?_)
  have c_4 := ye_kp o_3 (ye_n1 (ye_ne hD hN (by decide))) hD
  have c_5 := ye_kp o_3 (ye_n1 (ye_ne hE hN (by decide))) hE
  have c_6 := ye_kp o_3 (ye_n1 (ye_ne hK hN (by decide))) hK
  have c_7 := ye_kp o_3 (ye_n1 (ye_ne hM hN (by decide))) hM
  have c_8 := ye_kp o_3 (ye_n1 (ye_ne hS hN (by decide))) hS
  have c_9 := ye_kp o_3 (ye_n1 (ye_ne hT hN (by decide))) hT
  have c_10 := ye_kp o_3 (ye_n1 (ye_ne hW hN (by decide))) hW
  have c_11 := ye_kp o_3 (ye_n1 (ye_ne hZ hN (by decide))) hZ
  have o_12 := ye_oth_tr ho0 o_3 (ye_s1 (List.mem_cons_of_mem _ (List.mem_cons_self)))
  refine z_r_ld (kk := z_isA) (ins := (.aload_n 0)) (len := 1) (t := 9) (i := 0) rfl rfl rfl rfl rfl (fun _ => rfl) a0 rfl ?_
  refine z_r_pu (ins := (.iconst 0)) (len := 1) (t := 10) (st' := [ye_v 0, .ref aN]) rfl rfl rfl rfl rfl ?_
  refine ye_r_wr (ins := (.putfield 37)) (len := 3) (t := 13) (a := aN) (q := (3, [.ref aK, .ref aW, .ref aZ, .ref aD, .ref aM, ye_v so, ye_v ya, ye_v so, ye_v 0, ye_v sdb, .ref aE, .ref aF, .ref aC])) rfl rfl rfl rfl rfl c_2 (z_pfv (ci := 3) (k := 8) rfl c_2 (by decide) (Nat.le_of_ble_eq_true rfl) rfl rfl rfl) (fun P_13 c_14 o_15 => ?_)
  have c_16 := ye_kp o_15 (ye_n1 (ye_ne c_4 c_2 (by decide))) c_4
  have c_17 := ye_kp o_15 (ye_n1 (ye_ne c_5 c_2 (by decide))) c_5
  have c_18 := ye_kp o_15 (ye_n1 (ye_ne c_6 c_2 (by decide))) c_6
  have c_19 := ye_kp o_15 (ye_n1 (ye_ne c_7 c_2 (by decide))) c_7
  have c_20 := ye_kp o_15 (ye_n1 (ye_ne c_8 c_2 (by decide))) c_8
  have c_21 := ye_kp o_15 (ye_n1 (ye_ne c_9 c_2 (by decide))) c_9
  have c_22 := ye_kp o_15 (ye_n1 (ye_ne c_10 c_2 (by decide))) c_10
  have c_23 := ye_kp o_15 (ye_n1 (ye_ne c_11 c_2 (by decide))) c_11
  have o_24 := ye_oth_tr o_12 o_15 (ye_s1 (List.mem_cons_of_mem _ (List.mem_cons_self)))
  refine z_r_ld (kk := z_isA) (ins := (.aload_n 0)) (len := 1) (t := 14) (i := 0) rfl rfl rfl rfl rfl (fun _ => rfl) a0 rfl ?_
  refine z_r_ld (kk := z_isA) (ins := (.aload_n 0)) (len := 1) (t := 15) (i := 0) rfl rfl rfl rfl rfl (fun _ => rfl) a0 rfl ?_
  refine z_r_rd (ins := (.getfield 43)) (len := 3) (t := 18) rfl rfl rfl rfl rfl (z_gfv (ci := 3) (k := 10) (v := .ref aE) rfl (z_lkn fN c_14) (by decide) rfl) ?_
  refine z_r_pu (ins := (.iconst 2)) (len := 1) (t := 19) (st' := [ye_v 2, .ref aE, .ref aN]) rfl rfl rfl rfl rfl ?_
  refine z_r_rd (ins := .iaload) (len := 1) (t := 20) rfl rfl rfl rfl rfl (ye_al (t := 103) (p := 2) (e := e2) (z_lkn fE c_17) (by omega) (by omega) he2) ?_
  refine ye_r_wr (ins := (.putfield 40)) (len := 3) (t := 23) (a := aN) (q := (3, [.ref aK, .ref aW, .ref aZ, .ref aD, .ref aM, ye_v so, ye_v ya, ye_v so, ye_v 0, ye_v e2, .ref aE, .ref aF, .ref aC])) rfl rfl rfl rfl rfl c_14 (z_pfv (ci := 3) (k := 9) rfl c_14 (by decide) (Nat.le_of_ble_eq_true rfl) rfl rfl rfl) (fun P_25 c_26 o_27 => ?_)
  have c_28 := ye_kp o_27 (ye_n1 (ye_ne c_16 c_14 (by decide))) c_16
  have c_29 := ye_kp o_27 (ye_n1 (ye_ne c_17 c_14 (by decide))) c_17
  have c_30 := ye_kp o_27 (ye_n1 (ye_ne c_18 c_14 (by decide))) c_18
  have c_31 := ye_kp o_27 (ye_n1 (ye_ne c_19 c_14 (by decide))) c_19
  have c_32 := ye_kp o_27 (ye_n1 (ye_ne c_20 c_14 (by decide))) c_20
  have c_33 := ye_kp o_27 (ye_n1 (ye_ne c_21 c_14 (by decide))) c_21
  have c_34 := ye_kp o_27 (ye_n1 (ye_ne c_22 c_14 (by decide))) c_22
  have c_35 := ye_kp o_27 (ye_n1 (ye_ne c_23 c_14 (by decide))) c_23
  have o_36 := ye_oth_tr o_24 o_27 (ye_s1 (List.mem_cons_of_mem _ (List.mem_cons_self)))
  refine z_r_ld (kk := z_isA) (ins := (.aload_n 1)) (len := 1) (t := 24) (i := 1) rfl rfl rfl rfl rfl (fun _ => rfl) a1 rfl ?_
  refine ye_ca (ins := (.invokevirtual 58)) (kd := 1) (t := 27) rfl rfl (by decide) (z_argsv rfl rfl rfl (by omega) (Nat.le_of_ble_eq_true rfl) rfl (Nat.le_of_ble_eq_true rfl) (Nat.le_refl _) (Nat.le_refl _) (Or.inr (Nat.le_of_ble_eq_true rfl)) (Or.inr (z_atv (z_lkn fS c_32) rfl))) rfl rfl rfl (ye_isDone c_32 fS c_33 fT hx (by omega)) ?_
  rintro _ _ ⟨rfl, b_37, rfl, h_38⟩
  by_cases b_39 : b_37 = 0
  · skip
    refine z_r_jm (ins := (.ifCond .eq 5)) (len := 3) (t := 32) rfl rfl rfl rfl (ye_iy (t := 32) rfl (by omega) (by omega) b_39) ?_
    refine z_r_pu (ins := (.iconst 1)) (len := 1) (t := 33) (st' := [ye_v 1]) rfl rfl rfl rfl rfl ?_
    refine z_r_is (kk := z_isI) (ins := (.istore_n 2)) (len := 1) (t := 34) (i := 2) rfl rfl rfl rfl rfl rfl rfl rfl (fun l l_40 k_41 => ?_)
    have l_42 := k_41 _ _ a0 (by decide) (Or.inl (by decide))
    have l_43 := k_41 _ _ a1 (by decide) (Or.inr (by show (1 : Nat) ≠ 2; decide))
    have eR : yb_rd T lim (so, 0, kd, wt, sz, dr, mn) = yb_r T lim 76 0 0 (so, 0, kd, wt, sz, dr, mn) := if_neg (by omega)
    rw [eR]
    refine ye_brL (P0 := P) (S := (so, 0, kd, wt, sz, dr, mn)) fS fT hx (by omega) fN fK fW fZ fD fM n01 n02 n03 n04 n12 n13 n14 n23 n24 n34 (by omega) 76 (p := 0) (i := 1) c_32 c_33 ⟨_, _, _, _, _, _, c_26, c_30, c_34, c_35, c_28, c_31, yK, yW, yZ, yD, yM, he3, he4⟩ hso.1 hso.2 (by decide) (by omega) (by decide) (by decide) l_42 l_43 l_40 o_36 ?_
    exact fun v P' q1 q2 q3 q4 => ⟨v, rfl, q1, q2, q3, q4⟩
  · skip
    refine z_r_jm (ins := (.ifCond .eq 5)) (len := 3) (t := 30) rfl rfl rfl rfl (ye_in (t := 32) rfl (by omega) (by omega) b_39) ?_
    refine z_r_pu (ins := (.iconst 0)) (len := 1) (t := 31) (st' := [ye_v 0]) rfl rfl rfl rfl rfl ?_
    refine ye_ret (ins := .ireturn) rfl rfl rfl (ye_reti rfl) ?_
    have eR : yb_rd T lim (so, 0, kd, wt, sz, dr, mn) = (true, 0, 0, (so, 0, kd, wt, sz, dr, mn)) := if_pos (by omega)
    rw [eR]
    exact ⟨0, rfl, c_32, ⟨_, _, _, _, _, _, c_26, c_30, c_34, c_35, c_28, c_31, yK, yW, yZ, yD, yM, he3, he4⟩, o_36, Or.inl ⟨rfl, rfl⟩⟩
end YCST
