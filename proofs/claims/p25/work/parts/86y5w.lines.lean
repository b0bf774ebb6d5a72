/-! wind and odds, told on both sides: LINES held alike. -/
section YCLN
variable {xs : List Int32} {al : Nat → Option Nat} {P : z_H} {a : Nat} {u : yc_G}
def ye_SpWl (g : yc_G) (_ : List Int32) (r : Int32) (w : yc_G) : Prop := r.toInt = yq_wd g.1.1.1 g.1.1.2 ∧ w = ((ye_z g.1.1, g.1.2), if 0 ≤ yq_wd g.1.1.1 g.1.1.2 then yq_wd g.1.1.1 g.1.1.2 else g.2)
theorem ye_SpWl_det {g : yc_G} {ws : List Int32} {r r' : Int32} {w w' : yc_G} (h : ye_SpWl g ws r w) (h' : ye_SpWl g ws r' w') : r = r' ∧ w = w' := ⟨Int32.toInt_inj.mp (by rw [h.1, h'.1]), by rw [h.2, h'.2]⟩
theorem ye_windlC {ws : List Int32} (hI : z_In xs al P) (hg : yc_PC u al P) (ha : al a = some 13) (hw : ws.length = 0) : ∃ (r : Int32) (w : yc_G) (P' : z_H), ye_SpWl u ws r w ∧ z_Runs (z_G xs) 799 43 (0, lv_args 0 (.ref a :: ws.map Value.int), [], P, 0, 0) (some (.int r)) P' ∧ ∀ {al' : Nat → Option Nat} {X : z_Xe} {rv : Option Value}, ye_bC X = true → z_post [0] al P X rv P' al' → yc_PC w al' P' := by
  obtain rfl := List.length_eq_zero_iff.mp hw
  have hn := hg.1.1.1
  obtain ⟨b1, b2⟩ := yq_wd_bd (T := u.1.1.1) hn
  obtain ⟨aS, aT, xv, vs, p, lim, mo, hX, fX, hxl, hx3, x0, hS, fS, hPS, hT, fT, hPT, htx⟩ := ye_getC hI hg.1.1 ha
  obtain ⟨w3, e3, g3⟩ := hx3.get (i := 3) rfl
  obtain ⟨aSt, rfl, hSt⟩ := z_ref1 g3
  obtain ⟨fSt, -, st, hPSt, hst, -⟩ := z_plr hI.1 hSt (A := z_hg 28) rfl rfl
  have hst := (hst rfl).len.symm
  obtain ⟨w5, e5, g5⟩ := hx3.get (i := 5) rfl
  obtain ⟨w6, e6, g6⟩ := hx3.get (i := 6) rfl
  rcases g5 with ⟨-, g5⟩ | ⟨aO, cO, rfl, hO, -⟩
  · cases g5
  rcases g6 with ⟨-, g6⟩ | ⟨aG, cG, rfl, hG, hc⟩
  · cases g6
  have hgu : ∃ (aW aI aR : Nat) (gl gr : Int) (wv tv sv : List Value), aG < z_far ∧ P[aG]? = some (6, [.ref aW, .ref aI, .ref aR, ye_v gl, ye_v gr]) ∧ (aW < z_far ∧ P[aW]? = some (103, wv) ∧ wv.length = 10) ∧ (aI < z_far ∧ P[aI]? = some (103, tv) ∧ tv.length = 10) ∧ (aR < z_far ∧ P[aR]? = some (103, sv) ∧ sv.length = 10) ∧ aW ≠ aI ∧ aW ≠ aR ∧ aI ≠ aR := by
    have hc : cG ∈ [53, 57] := hc
    rcases List.mem_cons.mp hc with rfl | hc
    · exact ye_getG hI hG rfl rfl rfl rfl (by decide) (by decide) (by decide)
    · rw [List.mem_singleton] at hc
      subst hc
      exact ye_getG hI hG rfl rfl rfl rfl (by decide) (by decide) (by decide)
  obtain ⟨aW, aI, aR, gl, gr, wv, tv, sv, fG, hPG, ⟨fW, hPW, lW⟩, ⟨fI, hPI, lI⟩, ⟨fR, hPR, lR⟩, nWI, nWR, nIR⟩ := hgu
  obtain ⟨r, P', hr, p', rfl, lim', mo', xv', c1, c2, c3, c4, cg, cb⟩ := ye_Cwind (xs := xs) (d := 799) hPS fS hPT fT htx hn hPG fG hPW fW hPI fI hPR fR nWI nWR nIR hX fX hxl x0 e3 e5 e6 hPSt fSt hst lW lI lR (by decide)
  refine ⟨Int32.ofInt (yq_wd u.1.1.1 u.1.1.2), ((ye_z u.1.1, u.1.2), if 0 ≤ yq_wd u.1.1.1 u.1.1.2 then yq_wd u.1.1.1 u.1.1.2 else u.2), P', ⟨ye_to (by omega) (by omega), rfl⟩, hr, fun {al' X rv} hk hp => ?_⟩
  have hm := hp.1
  have hPT' : P'[aT]? = some (102, vs) := ye_kp c4 (by simp only [List.mem_cons, List.not_mem_nil, or_false, not_or]; exact ⟨ye_ne hPT hPS (by decide), ye_ne hPT hPW (by decide), ye_ne hPT hPI (by decide), ye_ne hPT hPR (by decide), ye_ne hPT hPG (by decide), ye_ne hPT hX (by decide), ye_ne hPT hPSt (by decide)⟩) hPT
  refine ⟨⟨ye_RC_of (g := ye_z u.1.1) ⟨Int.le_refl _, by show (0 : Int) ≤ 80; decide⟩ (hm _ _ hS) fS c1 rfl (hm _ _ hT) fT hPT' (ye_tx_0 htx), ye_bC_ok hp hk hg.1.2⟩, ?_⟩
  have hcG : cG = 53 ∨ cG = 57 := by
    have hc : cG ∈ [53, 57] := hc
    simpa using hc
  obtain ⟨-, uX, -⟩ := z_plr hI.1 ha (A := z_hg 13) rfl rfl
  obtain ⟨bO, bG, cO2, h5, h6, hne, hcO, hal, hf, q, hq, hq3⟩ := hg.2
  have i5 : xv[5]? = some (.ref bO) := ye_tp_of (uX rfl) hX h5
  have i6 : xv[6]? = some (.ref bG) := ye_tp_of (uX rfl) hX h6
  cases e5.symm.trans i5
  cases e6.symm.trans i6
  show yc_XC (if 0 ≤ yq_wd u.1.1.1 u.1.1.2 then yq_wd u.1.1.1 u.1.1.2 else u.2) al' P'
  by_cases hpos : 0 ≤ yq_wd u.1.1.1 u.1.1.2
  · rw [if_pos hpos]
    obtain ⟨g1, g2, gr2, g3⟩ := cg hpos
    exact ⟨aG, aO, cG, ⟨a, _, hm _ _ ha, fX, c2, g1⟩, ⟨a, _, hm _ _ ha, fX, c2, g2⟩, Ne.symm hne, hcG, hm _ _ hG, fG, _, g3, rfl⟩
  · rw [if_neg hpos]
    obtain ⟨e, -⟩ := cb (by omega)
    subst e
    have hq6 : ∃ gv, q = (6, gv) := by
      rcases hcO with rfl | rfl
      · obtain ⟨-, -, gv, e, -⟩ := z_plr hI.1 hal (A := z_hg 53) rfl rfl
        cases hq.symm.trans e
        exact ⟨gv, rfl⟩
      · obtain ⟨-, -, gv, e, -⟩ := z_plr hI.1 hal (A := z_hg 57) rfl rfl
        cases hq.symm.trans e
        exact ⟨gv, rfl⟩
    obtain ⟨gv, rfl⟩ := hq6
    have hq' : P'[aO]? = some (6, gv) := ye_kp c4 (by simp only [List.mem_cons, List.not_mem_nil, or_false, not_or]; exact ⟨ye_ne hq hPS (by decide), ye_ne hq hPW (by decide), ye_ne hq hPI (by decide), ye_ne hq hPR (by decide), hne, ye_ne hq hX (by decide), ye_ne hq hPSt (by decide)⟩) hq
    exact ⟨aO, aG, cO2, ⟨a, _, hm _ _ ha, fX, c2, e5⟩, ⟨a, _, hm _ _ ha, fX, c2, e6⟩, hne, hcO, hm _ _ hal, hf, _, hq', hq3⟩
theorem ye_windlM {ws : List Int32} (hI : z_In xs al P) (hg : yc_PM u al P) (ha : al a = some 90) (hw : ws.length = 0) : ∃ (r : Int32) (w : yc_G) (P' : z_H), ye_SpWl u ws r w ∧ z_Runs (z_G xs) 799 201 (0, lv_args 0 (.ref a :: ws.map Value.int), [], P, 0, 0) (some (.int r)) P' ∧ ∀ {al' : Nat → Option Nat} {X : z_Xe} {rv : Option Value}, ye_bM X = true → z_post [0] al P X rv P' al' → yc_PM w al' P' := by
  obtain rfl := List.length_eq_zero_iff.mp hw
  have hn := hg.1.1.1
  obtain ⟨b1, b2⟩ := yq_wd_bd (T := u.1.1.1) hn
  obtain ⟨aB, F, bs, hM, fM, hF, k10, k11, hB, fB, hPB, htx⟩ := ye_getM hI hg.1.1 ha
  obtain ⟨aO, k22, hO⟩ := z_ref1 (hF 22 _ (by decide) rfl)
  obtain ⟨aU, k23, hU⟩ := z_ref1 (hF 23 _ (by decide) rfl)
  obtain ⟨aV, k24, hV⟩ := z_ref1 (hF 24 _ (by decide) rfl)
  obtain ⟨aN, k25, hN⟩ := z_ref1 (hF 25 _ (by decide) rfl)
  obtain ⟨fO, ov, hPO, lO⟩ := ye_getA hI hO (c := 100) (m := 12) rfl
  obtain ⟨fU, uv, hPU, lU⟩ := ye_getA hI hU (c := 101) (m := 12) rfl
  obtain ⟨fV, vv, hPV, lV⟩ := ye_getA hI hV (c := 102) (m := 12) rfl
  obtain ⟨fN, -, nl, hPN, hnl, -⟩ := z_plr hI.1 hN (A := z_hg 103) rfl rfl
  have hnl := hnl rfl
  obtain ⟨r, P', hr, rfl, F', c1, c2, c3, c4, cg, cb⟩ := ye_Mwind (xs := xs) (d := 799) (lim := if u.1.1.2 ≤ 40 then u.1.1.2 else 40) hM fM k10 k11 k22 k23 k24 k25 hPN fN hPO fO hPU fU hPV fV (ye_alne hN hO (by decide)) (ye_alne hN hU (by decide)) (ye_alne hN hV (by decide)) (ye_alne hO hU (by decide)) (ye_alne hO hV (by decide)) (ye_alne hU hV (by decide)) hnl.len.symm (ye_ints_of hnl (by decide +kernel)) lO lU lV hPB fB htx hn rfl (by decide)
  refine ⟨Int32.ofInt (yq_wd u.1.1.1 u.1.1.2), ((ye_z u.1.1, u.1.2), if 0 ≤ yq_wd u.1.1.1 u.1.1.2 then yq_wd u.1.1.1 u.1.1.2 else u.2), P', ⟨ye_to (by omega) (by omega), rfl⟩, hr, fun {al' X rv} hk hp => ?_⟩
  have hm := hp.1
  have hPB' : P'[aB]? = some (101, bs) := ye_kp c4 (by simp only [List.mem_cons, List.not_mem_nil, or_false, not_or]; exact ⟨ye_ne hPB hM (by decide), ye_ne hPB hPN (by decide), ye_ne hPB hPO (by decide), ye_ne hPB hPU (by decide), ye_ne hPB hPV (by decide)⟩) hPB
  refine ⟨⟨ye_RM_of (g := ye_z u.1.1) ⟨Int.le_refl _, by show (0 : Int) ≤ 80; decide⟩ (hm _ _ ha) fM c1 c3 (hm _ _ hB) fB hPB' (ye_tx_0 htx), ye_bM_ok hp hk hg.1.2⟩, ?_⟩
  obtain ⟨-, uM, -⟩ := z_plr hI.1 ha (A := z_hg 90) rfl rfl
  have k21 : F 21 = ye_v u.2 := Option.some.inj ((ye_flg (F := F) (k := 21) rfl rfl).symm.trans (ye_tp_of (uM rfl) hM hg.2))
  show yc_XM (if 0 ≤ yq_wd u.1.1.1 u.1.1.2 then yq_wd u.1.1.1 u.1.1.2 else u.2) al' P'
  by_cases hpos : 0 ≤ yq_wd u.1.1.1 u.1.1.2
  · rw [if_pos hpos]
    exact ⟨a, _, hm _ _ ha, fM, c1, ye_flg rfl (cg hpos)⟩
  · rw [if_neg hpos]
    exact ⟨a, _, hm _ _ ha, fM, c1, ye_flg rfl ((cb (by omega)).trans k21)⟩
end YCLN
