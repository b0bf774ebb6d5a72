/-! wind, told exactly on both sides. -/
section YTWD
variable {xs : List Int32} {al : Nat → Option Nat} {P : z_H} {a : Nat} {u : ye_Gs}
theorem ye_alne {b c d e : Nat} (h1 : al b = some d) (h2 : al c = some e) (h : d ≠ e) : b ≠ c := fun q => by
  subst q
  cases h1.symm.trans h2
  exact h rfl
/-- a row of ints of a known length -/
theorem ye_getA {b c m : Nat} {t : z_av} (hI : z_In xs al P) (hb : al b = some c) (hA : z_H0c[c]? = some (103, (true, true), some m, [t])) : b < z_far ∧ ∃ vs, P[b]? = some (103, vs) ∧ vs.length = m := by
  obtain ⟨h1, -, vs, h2, -, h4⟩ := z_plr hI.1 hb hA rfl
  exact ⟨h1, vs, h2, (h4 m rfl).1⟩
/-- a wind -/
theorem ye_getG {b c c1 c2 c3 : Nat} {t1 t2 t3 : z_av} {k1 k2 : z_tk} (hI : z_In xs al P) (hb : al b = some c) (hA : z_H0c[c]? = some (6, (true, true), none, [.inr (.inr (false, [c1])), .inr (.inr (false, [c2])), .inr (.inr (false, [c3])), .inl k1, .inl k2])) (h1 : z_H0c[c1]? = some (103, (true, true), some 10, [t1])) (h2 : z_H0c[c2]? = some (103, (true, true), some 10, [t2])) (h3 : z_H0c[c3]? = some (103, (true, true), some 10, [t3])) (n12 : c1 ≠ c2) (n13 : c1 ≠ c3) (n23 : c2 ≠ c3) : ∃ (aW aI aR : Nat) (gl gr : Int) (wv tv sv : List Value), b < z_far ∧ P[b]? = some (6, [.ref aW, .ref aI, .ref aR, ye_v gl, ye_v gr]) ∧ (aW < z_far ∧ P[aW]? = some (103, wv) ∧ wv.length = 10) ∧ (aI < z_far ∧ P[aI]? = some (103, tv) ∧ tv.length = 10) ∧ (aR < z_far ∧ P[aR]? = some (103, sv) ∧ sv.length = 10) ∧ aW ≠ aI ∧ aW ≠ aR ∧ aI ≠ aR := by
  obtain ⟨f1, -, gv, f2, f3, -⟩ := z_plr hI.1 hb hA rfl
  have f3 : z_all2 (z_gv [0] al) [.inr (.inr (false, [c1])), .inr (.inr (false, [c2])), .inr (.inr (false, [c3])), .inl k1, .inl k2] gv := f3 rfl
  match gv, f2, f3 with
  | [g0, g1, g2, g3, g4], f2, ⟨q0, q1, q2, q3, q4, _⟩ =>
    obtain ⟨aW, rfl, e1⟩ := z_ref1 q0
    obtain ⟨aI, rfl, e2⟩ := z_ref1 q1
    obtain ⟨aR, rfl, e3⟩ := z_ref1 q2
    obtain ⟨gl, rfl, -, -⟩ := ye_int1 q3
    obtain ⟨gr, rfl, -, -⟩ := ye_int1 q4
    obtain ⟨a1, wv, a2, a3⟩ := ye_getA hI e1 h1
    obtain ⟨b1, tv, b2, b3⟩ := ye_getA hI e2 h2
    obtain ⟨d1, sv, d2, d3⟩ := ye_getA hI e3 h3
    exact ⟨aW, aI, aR, gl, gr, wv, tv, sv, f1, f2, ⟨a1, a2, a3⟩, ⟨b1, b2, b3⟩, ⟨d1, d2, d3⟩, ye_alne e1 e2 n12, ye_alne e1 e3 n13, ye_alne e2 e3 n23⟩
def ye_SpW (g : ye_Gs) (_ : List Int32) (r : Int32) (w : ye_Gs) : Prop := r.toInt = yq_wd g.1 g.2 ∧ w = ye_z g
theorem ye_SpW_det {g : ye_Gs} {ws : List Int32} {r r' : Int32} {w w' : ye_Gs} (h : ye_SpW g ws r w) (h' : ye_SpW g ws r' w') : r = r' ∧ w = w' := ⟨Int32.toInt_inj.mp (by rw [h.1, h'.1]), by rw [h.2, h'.2]⟩
theorem yq_wd_bd {T : Int → Int} {n : Int} (hn : 0 ≤ n ∧ n ≤ 80) : -100 ≤ yq_wd T n ∧ yq_wd T n ≤ 10 := by
  have hl : 0 ≤ yq_lim n 40 ∧ yq_lim n 40 ≤ 40 := by
    unfold yq_lim
    split <;> omega
  obtain ⟨b1, b2, b3, b4⟩ := yq_rd_bd (T := T) hl.1
  unfold yq_wd
  split <;> omega
theorem ye_windC {ws : List Int32} (hI : z_In xs al P) (hg : ye_RC u al P) (ha : al a = some 13) (hw : ws.length = 0) : ∃ (r : Int32) (w : ye_Gs) (P' : z_H), ye_SpW u ws r w ∧ z_Runs (z_G xs) 799 43 (0, lv_args 0 (.ref a :: ws.map Value.int), [], P, 0, 0) (some (.int r)) P' ∧ ∀ al' : Nat → Option Nat, (∀ a c, al a = some c → al' a = some c) → ye_RC w al' P' := by
  obtain rfl := List.length_eq_zero_iff.mp hw
  have hn := hg.1
  obtain ⟨b1, b2⟩ := yq_wd_bd (T := u.1) hn
  obtain ⟨aS, aT, xv, vs, p, lim, mo, hX, fX, hxl, hx3, x0, hS, fS, hPS, hT, fT, hPT, htx⟩ := ye_getC hI hg ha
  obtain ⟨w3, e3, g3⟩ := hx3.get (i := 3) rfl
  obtain ⟨aSt, rfl, hSt⟩ := z_ref1 g3
  obtain ⟨fSt, -, st, hPSt, hst, -⟩ := z_plr hI.1 hSt (A := z_hg 28) rfl rfl
  have hst := (hst rfl).len.symm
  obtain ⟨w5, e5, g5⟩ := hx3.get (i := 5) rfl
  obtain ⟨w6, e6, g6⟩ := hx3.get (i := 6) rfl
  rcases g5 with ⟨-, g5⟩ | ⟨aO, cO, rfl, hO, -⟩
  · cases g5
  rcases g6 with ⟨-, g6⟩ | ⟨aG, cG, rfl, hG, hc⟩
  · cases g6
  have hgu : ∃ (aW aI aR : Nat) (gl gr : Int) (wv tv sv : List Value), aG < z_far ∧ P[aG]? = some (6, [.ref aW, .ref aI, .ref aR, ye_v gl, ye_v gr]) ∧ (aW < z_far ∧ P[aW]? = some (103, wv) ∧ wv.length = 10) ∧ (aI < z_far ∧ P[aI]? = some (103, tv) ∧ tv.length = 10) ∧ (aR < z_far ∧ P[aR]? = some (103, sv) ∧ sv.length = 10) ∧ aW ≠ aI ∧ aW ≠ aR ∧ aI ≠ aR := by
    have hc : cG ∈ [53, 57] := hc
    rcases List.mem_cons.mp hc with rfl | hc
    · exact ye_getG hI hG rfl rfl rfl rfl (by decide) (by decide) (by decide)
    · rw [List.mem_singleton] at hc
      subst hc
      exact ye_getG hI hG rfl rfl rfl rfl (by decide) (by decide) (by decide)
  obtain ⟨aW, aI, aR, gl, gr, wv, tv, sv, fG, hPG, ⟨fW, hPW, lW⟩, ⟨fI, hPI, lI⟩, ⟨fR, hPR, lR⟩, nWI, nWR, nIR⟩ := hgu
  obtain ⟨r, P', hr, p', rfl, lim', mo', xv', c1, c2, c3, c4, -⟩ := ye_Cwind (xs := xs) (d := 799) hPS fS hPT fT htx hn hPG fG hPW fW hPI fI hPR fR nWI nWR nIR hX fX hxl x0 e3 e5 e6 hPSt fSt hst lW lI lR (by decide)
  refine ⟨Int32.ofInt (yq_wd u.1 u.2), ye_z u, P', ⟨ye_to (by omega) (by omega), rfl⟩, hr, fun al' hm => ?_⟩
  have hPT' : P'[aT]? = some (102, vs) := ye_kp c4 (by simp only [List.mem_cons, List.not_mem_nil, or_false, not_or]; exact ⟨ye_ne hPT hPS (by decide), ye_ne hPT hPW (by decide), ye_ne hPT hPI (by decide), ye_ne hPT hPR (by decide), ye_ne hPT hPG (by decide), ye_ne hPT hX (by decide), ye_ne hPT hPSt (by decide)⟩) hPT
  exact ye_RC_of (g := ye_z u) ⟨Int.le_refl _, by show (0 : Int) ≤ 80; decide⟩ (hm _ _ hS) fS c1 rfl (hm _ _ hT) fT hPT' (ye_tx_0 htx)
def ye_isl : z_av → Bool
  | .inl _ => true
  | _ => false
theorem ye_ints_of {N : List Int} {ts : List z_av} {vs : List Value} (h : z_all2 (z_gv N al) ts vs) (hk : ts.all ye_isl = true) : ye_ints vs := fun j hj => by
  obtain ⟨t, e1, e2⟩ := h.getb (List.getElem?_eq_getElem hj)
  have := List.all_eq_true.mp hk t (List.mem_of_getElem? e1)
  match t, this, e2 with
  | .inl k, _, e2 =>
    obtain ⟨e, he, -, -⟩ := ye_int1 e2
    exact ⟨e, by rw [List.getElem?_eq_getElem hj, he]⟩
theorem ye_windM {ws : List Int32} (hI : z_In xs al P) (hg : ye_RM u al P) (ha : al a = some 90) (hw : ws.length = 0) : ∃ (r : Int32) (w : ye_Gs) (P' : z_H), ye_SpW u ws r w ∧ z_Runs (z_G xs) 799 201 (0, lv_args 0 (.ref a :: ws.map Value.int), [], P, 0, 0) (some (.int r)) P' ∧ ∀ al' : Nat → Option Nat, (∀ a c, al a = some c → al' a = some c) → ye_RM w al' P' := by
  obtain rfl := List.length_eq_zero_iff.mp hw
  have hn := hg.1
  obtain ⟨b1, b2⟩ := yq_wd_bd (T := u.1) hn
  obtain ⟨aB, F, bs, hM, fM, hF, k10, k11, hB, fB, hPB, htx⟩ := ye_getM hI hg ha
  obtain ⟨aO, k22, hO⟩ := z_ref1 (hF 22 _ (by decide) rfl)
  obtain ⟨aU, k23, hU⟩ := z_ref1 (hF 23 _ (by decide) rfl)
  obtain ⟨aV, k24, hV⟩ := z_ref1 (hF 24 _ (by decide) rfl)
  obtain ⟨aN, k25, hN⟩ := z_ref1 (hF 25 _ (by decide) rfl)
  obtain ⟨fO, ov, hPO, lO⟩ := ye_getA hI hO (c := 100) (m := 12) rfl
  obtain ⟨fU, uv, hPU, lU⟩ := ye_getA hI hU (c := 101) (m := 12) rfl
  obtain ⟨fV, vv, hPV, lV⟩ := ye_getA hI hV (c := 102) (m := 12) rfl
  obtain ⟨fN, -, nl, hPN, hnl, -⟩ := z_plr hI.1 hN (A := z_hg 103) rfl rfl
  have hnl := hnl rfl
  obtain ⟨r, P', hr, rfl, F', c1, c2, c3, c4, -⟩ := ye_Mwind (xs := xs) (d := 799) (lim := if u.2 ≤ 40 then u.2 else 40) hM fM k10 k11 k22 k23 k24 k25 hPN fN hPO fO hPU fU hPV fV (ye_alne hN hO (by decide)) (ye_alne hN hU (by decide)) (ye_alne hN hV (by decide)) (ye_alne hO hU (by decide)) (ye_alne hO hV (by decide)) (ye_alne hU hV (by decide)) hnl.len.symm (ye_ints_of hnl (by decide +kernel)) lO lU lV hPB fB htx hn rfl (by decide)
  refine ⟨Int32.ofInt (yq_wd u.1 u.2), ye_z u, P', ⟨ye_to (by omega) (by omega), rfl⟩, hr, fun al' hm => ?_⟩
  have hPB' : P'[aB]? = some (101, bs) := ye_kp c4 (by simp only [List.mem_cons, List.not_mem_nil, or_false, not_or]; exact ⟨ye_ne hPB hM (by decide), ye_ne hPB hPN (by decide), ye_ne hPB hPO (by decide), ye_ne hPB hPU (by decide), ye_ne hPB hPV (by decide)⟩) hPB
  exact ye_RM_of (g := ye_z u) ⟨Int.le_refl _, by show (0 : Int) ≤ 80; decide⟩ (hm _ _ ha) fM c1 c3 (hm _ _ hB) fB hPB' (ye_tx_0 htx)
end YTWD
