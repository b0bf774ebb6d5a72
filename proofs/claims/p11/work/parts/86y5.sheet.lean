/-! sheet, told on both sides. -/
section YTSH
variable {xs : List Int32} {al : Nat → Option Nat} {P : z_H} {a : Nat} {u : yb_G}
def ye_SpSh (g : yc_G) (ws : List Int32) (r : Int32) (w : yc_G) : Prop := r.toInt = yh_sh g.1.2.1 (ws.getD 0 0).toInt (ws.getD 1 0).toInt (ws.getD 2 0).toInt (ws.getD 3 0) (ws.getD 4 0) ∧ w = g
theorem ye_SpSh_det {g : yc_G} {ws : List Int32} {r r' : Int32} {w w' : yc_G} (h : ye_SpSh g ws r w) (h' : ye_SpSh g ws r' w') : r = r' ∧ w = w' := ⟨Int32.toInt_inj.mp (by rw [h.1, h'.1]), by rw [h.2, h'.2]⟩
theorem yh_sh_bd {so h k n : Int} {f st : Int32} : -3 ≤ yh_sh so h k n f st ∧ yh_sh so h k n f st ≤ 9990 := by
  have b := yh_sum_bd (f := yh_g k n f st so) (fun _ => yh_g_bd) 10
  unfold yh_sh
  split
  · omega
  · split
    · omega
    · split <;> omega
theorem ye_five {ws : List Int32} (h : ws.length = 5) : ∃ a b c d e, ws = [a, b, c, d, e] := by
  match ws, h with
  | [a, b, c, d, e], _ => exact ⟨a, b, c, d, e, rfl⟩
theorem ye_sheetCx {ws : List Int32} (hI : z_In xs al P) (hg : ye_PC u al P) (ha : al a = some 13) (hw : ws.length = 5) : ∃ (r : Int32) (P' : z_H), r.toInt = yh_sh u.2.1 (ws.getD 0 0).toInt (ws.getD 1 0).toInt (ws.getD 2 0).toInt (ws.getD 3 0) (ws.getD 4 0) ∧ z_Runs (z_G xs) 799 67 (0, lv_args 0 (.ref a :: ws.map Value.int), [], P, 0, 0) (some (.int r)) P' := by
  obtain ⟨w0, w1, w2, w3, w4, rfl⟩ := ye_five hw
  have a1 := w0.le_toInt
  have b1 := w0.toInt_lt
  have a2 := w1.le_toInt
  have b2 := w1.toInt_lt
  have a3 := w2.le_toInt
  have b3 := w2.toInt_lt
  obtain ⟨hs, g5, -⟩ := hg.2
  obtain ⟨aS, aT, xv, vs, p, lim, mo, hX, fX, hxl, hx3, x0, -⟩ := ye_getC hI hg.1 ha
  obtain ⟨q2, e2, r2⟩ := hx3.get (i := 2) rfl
  obtain ⟨aN, rfl, hN⟩ := z_ref1 r2
  obtain ⟨q3, e3, r3⟩ := hx3.get (i := 3) rfl
  obtain ⟨aSt, rfl, hSt⟩ := z_ref1 r3
  obtain ⟨fN, uN, nv, hPN, -⟩ := z_plr hI.1 hN (A := z_hg 18) rfl rfl
  have t5 : nv[5]? = some (ye_v u.2.1) := ye_tp_of (uN rfl) hPN g5
  obtain ⟨fSt, -, st, hPSt, hst, -⟩ := z_plr hI.1 hSt (A := z_hg 28) rfl rfl
  have hst := hst rfl
  obtain ⟨s0, t0, k0⟩ := hst.get (i := 0) rfl
  obtain ⟨aH, rfl, hH⟩ := z_ref1 k0
  obtain ⟨fH, -, hv, hPH, -, hhv⟩ := z_plr hI.1 hH (A := z_hg 29) rfl rfl
  obtain ⟨hhl, th, eth, hhall⟩ := hhv 6 rfl
  have eth : [(.inr (.inr (false, [30])) : z_av)] = [th] := eth
  cases eth
  have hh : ∀ j, j < 6 → ∃ (r0 : Nat) (rv : List Value), hv[j]? = some (.ref r0) ∧ r0 < z_far ∧ P[r0]? = some (103, rv) ∧ rv.length = 10 := fun j hj => by
    have h0 : j < hv.length := by omega
    rcases hhall _ (List.getElem_mem h0) with ⟨-, hq⟩ | ⟨g, c2, e1, e2, e3⟩
    · cases hq
    · have e3 : c2 ∈ [30] := e3
      rw [List.mem_singleton] at e3
      subst e3
      obtain ⟨fr, -, rv, hPr, -, hrv⟩ := z_plr hI.1 e2 (A := z_hg 30) rfl rfl
      exact ⟨g, rv, by rw [List.getElem?_eq_getElem h0, e1], fr, hPr, (hrv 10 rfl).1⟩
  obtain ⟨r, P', hr, rfl⟩ := ye_Csheet (xs := xs) (d := 799) (h := w0.toInt) (k := w1.toInt) (n := w2.toInt) (f := w3) (sp := w4) hX fX e2 e3 hPN fN t5 hPSt fSt t0 hPH fH hh hs ⟨by omega, by omega⟩ ⟨by omega, by omega⟩ ⟨by omega, by omega⟩ (by decide)
  have ex : ([w0, w1, w2, w3, w4] : List Int32).map Value.int = [ye_v w0.toInt, ye_v w1.toInt, ye_v w2.toInt, .int w3, .int w4] := by
    rw [← ye_of, ← ye_of, ← ye_of]
    rfl
  have bd := yh_sh_bd (so := u.2.1) (h := w0.toInt) (k := w1.toInt) (n := w2.toInt) (f := w3) (st := w4)
  rw [ex]
  exact ⟨Int32.ofInt (yh_sh u.2.1 w0.toInt w1.toInt w2.toInt w3 w4), P', ye_to (by omega) (by omega), hr⟩
theorem ye_sheetMx {ws : List Int32} (hI : z_In xs al P) (hg : ye_PM u al P) (ha : al a = some 90) (hw : ws.length = 5) : ∃ (r : Int32) (P' : z_H), r.toInt = yh_sh u.2.1 (ws.getD 0 0).toInt (ws.getD 1 0).toInt (ws.getD 2 0).toInt (ws.getD 3 0) (ws.getD 4 0) ∧ z_Runs (z_G xs) 799 217 (0, lv_args 0 (.ref a :: ws.map Value.int), [], P, 0, 0) (some (.int r)) P' := by
  obtain ⟨w0, w1, w2, w3, w4, rfl⟩ := ye_five hw
  have a1 := w0.le_toInt
  have b1 := w0.toInt_lt
  have a2 := w1.le_toInt
  have b2 := w1.toInt_lt
  have a3 := w2.le_toInt
  have b3 := w2.toInt_lt
  obtain ⟨hs, g0, -⟩ := hg.2
  obtain ⟨aB, F, bs, hM, fM, hF, -⟩ := ye_getM hI hg.1 ha
  obtain ⟨-, uM, -⟩ := z_plr hI.1 ha (A := z_hg 90) rfl rfl
  have k0 : F 0 = ye_v u.2.1 := Option.some.inj ((ye_flg (F := F) rfl rfl).symm.trans (ye_tp_of (uM rfl) hM g0))
  obtain ⟨aG, k6, hG⟩ := z_ref1 (hF 6 _ (by decide) rfl)
  obtain ⟨fG, -, gv, hPG, lG, -⟩ := ye_rowu hI hG rfl rfl
  obtain ⟨r, P', hr, rfl⟩ := ye_Msheet (xs := xs) (d := 799) (h := w0.toInt) (k := w1.toInt) (n := w2.toInt) (f := w3) (sp := w4) hM fM k0 k6 hPG fG lG hs ⟨by omega, by omega⟩ ⟨by omega, by omega⟩ ⟨by omega, by omega⟩ (by decide)
  have ex : ([w0, w1, w2, w3, w4] : List Int32).map Value.int = [ye_v w0.toInt, ye_v w1.toInt, ye_v w2.toInt, .int w3, .int w4] := by
    rw [← ye_of, ← ye_of, ← ye_of]
    rfl
  have bd := yh_sh_bd (so := u.2.1) (h := w0.toInt) (k := w1.toInt) (n := w2.toInt) (f := w3) (st := w4)
  rw [ex]
  exact ⟨Int32.ofInt (yh_sh u.2.1 w0.toInt w1.toInt w2.toInt w3 w4), P', ye_to (by omega) (by omega), hr⟩
theorem ye_sheetC : z_Told xs 67 13 false ye_SpSh 5 := @yc_toldC xs z_Kk339 67 5 ye_SpSh yc_pC (@z_Kn339 xs) rfl rfl (by decide +kernel) rfl (fun hI hg ha hw => by
  obtain ⟨r, P', h1, h2⟩ := ye_sheetCx hI hg.1 ha hw
  exact ⟨r, _, P', ⟨h1, rfl⟩, h2, fun hk hp => yc_pC_ok hp hk hg⟩)
theorem ye_sheetM : z_Told xs 217 90 true ye_SpSh 5 := @yc_toldM xs z_Kk245 217 5 ye_SpSh yc_pM (@z_Kn245 xs) rfl rfl (by decide +kernel) rfl (fun hI hg ha hw => by
  obtain ⟨r, P', h1, h2⟩ := ye_sheetMx hI hg.1 ha hw
  exact ⟨r, _, P', ⟨h1, rfl⟩, h2, fun hk hp => yc_pM_ok hp hk hg⟩)
end YTSH
