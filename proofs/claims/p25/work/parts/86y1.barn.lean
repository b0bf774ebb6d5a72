/-! barn, told exactly on both sides. -/
section YTBN
variable {xs : List Int32} {al : Nat → Option Nat} {P : z_H} {a : Nat} {u : yb_G}
/-- MANY told before doesn't matter -/
def yb_wm (S : yb_S) (m : Int → Int) : yb_S := (S.1, S.2.1, S.2.2.1, S.2.2.2.1, S.2.2.2.2.1, S.2.2.2.2.2.1, m)
theorem yb_nx_wm {T : Int → Int} {lim p : Int} {S : yb_S} {m : Int → Int} : ∃ m', yb_nx T lim p (yb_wm S m) = yb_wm (yb_nx T lim p S) m' := by
  unfold yb_nx
  by_cases hc : p < lim ∧ T p = 121
  · rw [if_pos hc, if_pos hc]
    exact ⟨m, rfl⟩
  · rw [if_neg hc, if_neg hc]
    exact ⟨_, rfl⟩
theorem yb_r_wm {T : Int → Int} {lim : Int} : ∀ (k : Nat) {n p : Int} {S : yb_S} {m : Int → Int}, ∃ m', yb_r T lim k n p (yb_wm S m) = ((yb_r T lim k n p S).1, (yb_r T lim k n p S).2.1, (yb_r T lim k n p S).2.2.1, yb_wm (yb_r T lim k n p S).2.2.2 m')
  | 0, _, _, _, m => ⟨m, rfl⟩
  | k + 1, n, p, S, m => by
    obtain ⟨m1, h1⟩ := yb_nx_wm (T := T) (lim := lim) (p := p) (S := S) (m := m)
    have e : (yb_wm S m).1 = S.1 := rfl
    rw [yb_r_u, yb_r_u, e, h1]
    by_cases c1 : (yb_l T lim p S.1).1 = true
    · rw [if_pos c1, if_pos c1]
      by_cases c2 : lim ≤ (yb_l T lim p S.1).2
      · rw [if_pos c2, if_pos c2]
        exact ⟨m1, rfl⟩
      · rw [if_neg c2, if_neg c2]
        by_cases c3 : T (yb_l T lim p S.1).2 = 59
        · rw [if_pos c3, if_pos c3]
          exact yb_r_wm k
        · rw [if_neg c3, if_neg c3]
          exact ⟨m1, rfl⟩
    · rw [if_neg c1, if_neg c1]
      exact ⟨m, rfl⟩
theorem yb_rd_wm {T : Int → Int} {lim : Int} {S : yb_S} {m : Int → Int} : ∃ m', yb_rd T lim (yb_wm S m) = ((yb_rd T lim S).1, (yb_rd T lim S).2.1, (yb_rd T lim S).2.2.1, yb_wm (yb_rd T lim S).2.2.2 m') := by
  unfold yb_rd
  by_cases hl : lim ≤ 0
  · rw [if_pos hl, if_pos hl]
    exact ⟨m, rfl⟩
  · rw [if_neg hl, if_neg hl]
    exact yb_r_wm 76
theorem yb_a_wm {T : Int → Int} {n : Int} {S : yb_S} {m : Int → Int} : yb_a T n (yb_wm S m) = yb_a T n S := by
  unfold yb_a
  obtain ⟨m', h⟩ := yb_rd_wm (T := T) (lim := yq_lim n 76) (S := S) (m := m)
  rw [h]
theorem yb_S'_wm {T : Int → Int} {n : Int} {S : yb_S} {m : Int → Int} : ∃ m', yb_S' T n (yb_wm S m) = yb_wm (yb_S' T n S) m' := by
  unfold yb_S'
  obtain ⟨m', h⟩ := yb_rd_wm (T := T) (lim := yq_lim n 76) (S := S) (m := m)
  rw [h]
  exact ⟨m', rfl⟩
def yb_S0 (k : yb_K) : yb_S := (k.1, 0, k.2.2.1, k.2.2.2.1, k.2.2.2.2.1, k.2.2.2.2.2, fun _ => 0)
def yb_ans (g : yb_G) : Int := yb_a g.1.1 g.1.2 (yb_S0 g.2)
def yb_new (g : yb_G) : yb_K := ((yb_S' g.1.1 g.1.2 (yb_S0 g.2)).1, if 0 < (yb_S' g.1.1 g.1.2 (yb_S0 g.2)).2.1 then (yb_S' g.1.1 g.1.2 (yb_S0 g.2)).2.1 else g.2.2.1, (yb_S' g.1.1 g.1.2 (yb_S0 g.2)).2.2.1, (yb_S' g.1.1 g.1.2 (yb_S0 g.2)).2.2.2.1, (yb_S' g.1.1 g.1.2 (yb_S0 g.2)).2.2.2.2.1, (yb_S' g.1.1 g.1.2 (yb_S0 g.2)).2.2.2.2.2.1)
def yb_SpB (g : yb_G) (_ : List Int32) (r : Int32) (w : yb_G) : Prop := r.toInt = yb_ans g ∧ w = (ye_z g.1, if 0 ≤ yb_ans g then yb_new g else g.2)
theorem yb_SpB_det {g : yb_G} {ws : List Int32} {r r' : Int32} {w w' : yb_G} (h : yb_SpB g ws r w) (h' : yb_SpB g ws r' w') : r = r' ∧ w = w' := ⟨Int32.toInt_inj.mp (by rw [h.1, h'.1]), by rw [h.2, h'.2]⟩
theorem yb_ans_bd {g : yb_G} (hn : 0 ≤ g.1.2 ∧ g.1.2 ≤ 80) (hs : 0 ≤ g.2.1 ∧ g.2.1 ≤ 10) : -100 ≤ yb_ans g ∧ yb_ans g ≤ 76 ∧ 0 ≤ (yb_new g).1 ∧ (yb_new g).1 ≤ 10 := by
  have hl : 0 ≤ yq_lim g.1.2 76 ∧ yq_lim g.1.2 76 ≤ 76 := by
    unfold yq_lim
    split <;> omega
  obtain ⟨b1, b2, b3, b4, b5, b6, -⟩ := yb_rd_bd (T := g.1.1) (S := yb_S0 g.2) hl.1 hs.1 hs.2 ⟨Int.le_refl _, by show (0 : Int) ≤ 24; decide⟩
  have b5 : g.2.1 ≤ (yb_rd g.1.1 (yq_lim g.1.2 76) (yb_S0 g.2)).2.2.2.1 := b5
  refine ⟨?_, ?_, ?_, b6⟩
  · unfold yb_ans yb_a
    split <;> omega
  · unfold yb_ans yb_a
    split <;> omega
  · show 0 ≤ (yb_rd g.1.1 (yq_lim g.1.2 76) (yb_S0 g.2)).2.2.2.1
    omega
theorem ye_alnf {b d e : Nat} (h1 : al b = some d) (h : d ≠ e) : ¬ al b = some e := fun q => h (Option.some.inj (h1.symm.trans q))
/-- what a cell told is, where it is the only one -/
theorem ye_ct_of {c b : Nat} {Φ : List Value → Prop} {q : z_C} (hu : ∀ a, al a = some c → a = b) (hP : P[b]? = some q) (h : ye_ct c al P Φ) : Φ q.2 := by
  obtain ⟨a, q', h1, h2, h3, h4⟩ := h
  have := hu a h1
  subst this
  cases hP.symm.trans h3
  exact h4
theorem ye_tp_of {c e b : Nat} {v : Value} {q : z_C} (hu : ∀ a, al a = some c → a = b) (hP : P[b]? = some q) (h : z_tp c e al P v) : q.2[e]? = some v := by
  obtain ⟨a, q', h1, h2, h3, h4⟩ := h
  have := hu a h1
  subst this
  cases hP.symm.trans h3
  exact h4
/-- a row of ten ints: what it holds, as a function -/
theorem ye_arr_ex {n : Int} {vs : List Value} (hl : vs.length = 10) (hn : n ≤ 10) (h : ∀ j, j < vs.length → ∃ e, vs[j]? = some (ye_v e)) : ∃ f : Int → Int, ye_arr f n vs := by
  refine ⟨fun i => match vs[i.toNat]? with | some (.int x) => x.toInt | _ => 0, hl, fun i i0 i1 => ?_⟩
  obtain ⟨e, he⟩ := h i.toNat (by omega)
  have : vs[i.toNat]? = some (.int (Int32.ofInt e)) := he
  show vs[i.toNat]? = some (ye_v (match vs[i.toNat]? with | some (.int x) => x.toInt | _ => 0))
  rw [this]
  show some (Value.int (Int32.ofInt e)) = some (Value.int (Int32.ofInt (Int32.ofInt e).toInt))
  rw [Int32.ofInt_toInt]
/-- a row of ints, one by one or of a length -/
theorem ye_rowu {c m : Nat} {t : z_av} {b : Nat} {k : z_tk} (hI : z_In xs al P) (hb : al b = some c) (hA : z_H0c[c]? = some (103, (true, true), some m, [t])) (ht : t = .inl k) : b < z_far ∧ (∀ a, al a = some c → a = b) ∧ ∃ vs, P[b]? = some (103, vs) ∧ vs.length = m ∧ ∀ j, j < vs.length → ∃ e, vs[j]? = some (ye_v e) := by
  obtain ⟨h1, h0, vs, h2, -, h4⟩ := z_plr hI.1 hb hA rfl
  obtain ⟨h5, t', e5, h6⟩ := h4 m rfl
  have e5 : [t] = [t'] := e5
  cases e5
  subst ht
  refine ⟨h1, h0 rfl, vs, h2, h5, fun j hj => ?_⟩
  obtain ⟨e, he, -, -⟩ := ye_int1 (h6 _ (List.getElem_mem hj))
  exact ⟨e, by rw [List.getElem?_eq_getElem hj, he]⟩
theorem ye_barnC {ws : List Int32} (hI : z_In xs al P) (hg : ye_PC u al P) (ha : al a = some 13) (hw : ws.length = 0) : ∃ (r : Int32) (w : yb_G) (P' : z_H), yb_SpB u ws r w ∧ z_Runs (z_G xs) 799 13 (0, lv_args 0 (.ref a :: ws.map Value.int), [], P, 0, 0) (some (.int r)) P' ∧ ∀ al' : Nat → Option Nat, (∀ a c, al a = some c → al' a = some c) → ye_PC w al' P' := by
  obtain rfl := List.length_eq_zero_iff.mp hw
  have hn := hg.1.1
  obtain ⟨hs, g5, g6, g19, g20, g21, g22⟩ := hg.2
  obtain ⟨aS, aT, xv, vs, p, lim, mo, hX, fX, hxl, hx3, x0, hS, fS, hPS, hT, fT, hPT, htx⟩ := ye_getC hI hg.1 ha
  obtain ⟨w2, e2, q2⟩ := hx3.get (i := 2) rfl
  obtain ⟨aN, rfl, hN⟩ := z_ref1 q2
  obtain ⟨w3, e3, q3⟩ := hx3.get (i := 3) rfl
  obtain ⟨aSt, rfl, hSt⟩ := z_ref1 q3
  obtain ⟨fN, uN, nv, hPN, hnv, -⟩ := z_plr hI.1 hN (A := z_hg 18) rfl rfl
  have t5 := ye_tp_of (uN rfl) hPN g5
  have t6 := ye_tp_of (uN rfl) hPN g6
  have hnv : z_all2 (z_gv [0] al) [.inr (.inr (false, [19])), .inr (.inr (false, [20])), .inr (.inr (false, [21])), .inr (.inr (false, [22])), .inr (.inr (false, [23])), .inl (0, 0, 0, 0, 10), .inl (0, 0, 0, 1, 24), .inl (0, 0, 0, 0, 10), .inl (0, 0, 0, 0, 24), .inl (0, 0, 0, (-1), 23), .inr (.inr (false, [24])), .inr (.inr (false, [25])), .inr (.inr (false, [26]))] nv := hnv rfl
  match nv, hPN, hnv, t5, t6 with
  | [v0, v1, v2, v3, v4, v5, v6, v7, v8, v9, v10, v11, v12], hPN, ⟨p0, p1, p2, p3, p4, p5, p6, p7, p8, p9, p10, p11, p12, _⟩, t5, t6 =>
    have t5 : some v5 = some (ye_v u.2.1) := t5
    have t6 : some v6 = some (ye_v u.2.2.1) := t6
    cases t5
    cases t6
    obtain ⟨aK, rfl, hK⟩ := z_ref1 p0
    obtain ⟨aW, rfl, hW⟩ := z_ref1 p1
    obtain ⟨aZ, rfl, hZ⟩ := z_ref1 p2
    obtain ⟨aD, rfl, hD⟩ := z_ref1 p3
    obtain ⟨aM, rfl, hM⟩ := z_ref1 p4
    obtain ⟨z7, rfl, -, -⟩ := ye_int1 p7
    obtain ⟨z8, rfl, -, -⟩ := ye_int1 p8
    obtain ⟨z9, rfl, -, -⟩ := ye_int1 p9
    obtain ⟨aE, rfl, hE⟩ := z_ref1 p10
    obtain ⟨aF, rfl, hF⟩ := z_ref1 p11
    obtain ⟨aC, rfl, hC⟩ := z_ref1 p12
    obtain ⟨fK, uK, kv, hPK, lK, -⟩ := ye_rowu hI hK rfl rfl
    obtain ⟨fW, uW, wv, hPW, lW, -⟩ := ye_rowu hI hW rfl rfl
    obtain ⟨fZ, uZ, zv, hPZ, lZ, -⟩ := ye_rowu hI hZ rfl rfl
    obtain ⟨fD, uD, dv, hPD, lD, -⟩ := ye_rowu hI hD rfl rfl
    obtain ⟨fM, uM, mv, hPM, lM, iM⟩ := ye_rowu hI hM rfl rfl
    have yK := ye_ct_of uK hPK g19
    have yW := ye_ct_of uW hPW g20
    have yZ := ye_ct_of uZ hPZ g21
    have yD := ye_ct_of uD hPD g22
    obtain ⟨mn, yM⟩ := ye_arr_ex (n := u.2.1) lM hs.2 iM
    obtain ⟨fE, uE, ev, hPE, hev, -⟩ := z_plr hI.1 hE (A := z_hg 24) rfl rfl
    have hev : z_all2 (z_gv [0] al) [.inl (0, 0, 0, 1, 400), .inl (0, 0, 0, (-40), 40), .inl (0, 0, 0, (-1), 23), .inl (0, 0, 0, 1, 99), .inl (0, 0, 0, 0, 50)] ev := hev rfl
    obtain ⟨b2, hb2, gb2⟩ := hev.get (i := 2) rfl
    obtain ⟨ee2, rfl, ee3, ee4⟩ := ye_int1 gb2
    have ee3 : (-1 : Int) ≤ ee2 := ee3
    have ee4 : ee2 ≤ (23 : Int) := ee4
    obtain ⟨fSt, -, st, hPSt, hst, -⟩ := z_plr hI.1 hSt (A := z_hg 28) rfl rfl
    have hst := hst rfl
    obtain ⟨s0, t0, k0⟩ := hst.get (i := 0) rfl
    obtain ⟨aH, rfl, hH⟩ := z_ref1 k0
    obtain ⟨s1, t1, k1⟩ := hst.get (i := 1) rfl
    obtain ⟨aY, rfl, hY⟩ := z_ref1 k1
    obtain ⟨fH, -, hv, hPH, -, hhv⟩ := z_plr hI.1 hH (A := z_hg 29) rfl rfl
    obtain ⟨hhl, th, eth, hhall⟩ := hhv 6 rfl
    have eth : [(.inr (.inr (false, [30])) : z_av)] = [th] := eth
    cases eth
    obtain ⟨fY, -, yv, hPY, -, hyv⟩ := z_plr hI.1 hY (A := z_hg 31) rfl rfl
    obtain ⟨hyl, ty, ety, hyall⟩ := hyv 24 rfl
    have ety : [(.inr (.inr (false, [32])) : z_av)] = [ty] := ety
    cases ety
    obtain ⟨fC, -, cv, hPC, -, hcv⟩ := z_plr hI.1 hC (A := z_hg 26) rfl rfl
    obtain ⟨hcl, tc, etc, hcall⟩ := hcv 10 rfl
    have etc : [(.inr (.inr (false, [27])) : z_av)] = [tc] := etc
    cases etc
    have h00 : ∃ r0 : Nat, hv[0]? = some (.ref r0) ∧ al r0 = some 30 := by
      have h0 : 0 < hv.length := by omega
      rcases hhall _ (List.getElem_mem h0) with ⟨-, hq⟩ | ⟨g, c2, e1, e2, e3⟩
      · cases hq
      · have e3 : c2 ∈ [30] := e3
        rw [List.mem_singleton] at e3
        subst e3
        exact ⟨g, by rw [List.getElem?_eq_getElem h0, e1], e2⟩
    obtain ⟨r0, h00, hr0⟩ := h00
    obtain ⟨fr, -, rv, hPr, -, hrv⟩ := z_plr hI.1 hr0 (A := z_hg 30) rfl rfl
    have hrl := (hrv 10 rfl).1
    have hyr : ∀ j, j < 24 → ∃ r : Nat, yv[j]? = some (.ref r) ∧ al r = some 32 := fun j hj => by
      have h0 : j < yv.length := by omega
      rcases hyall _ (List.getElem_mem h0) with ⟨-, hq⟩ | ⟨g, c2, e1, e2, e3⟩
      · cases hq
      · have e3 : c2 ∈ [32] := e3
        rw [List.mem_singleton] at e3
        subst e3
        exact ⟨g, by rw [List.getElem?_eq_getElem h0, e1], e2⟩
    have hcr : ∀ j, j < 10 → ∃ r : Nat, cv[j]? = some (.ref r) ∧ al r = some 27 := fun j hj => by
      have h0 : j < cv.length := by omega
      rcases hcall _ (List.getElem_mem h0) with ⟨-, hq⟩ | ⟨g, c2, e1, e2, e3⟩
      · cases hq
      · have e3 : c2 ∈ [27] := e3
        rw [List.mem_singleton] at e3
        subst e3
        exact ⟨g, by rw [List.getElem?_eq_getElem h0, e1], e2⟩
    have hG : ye_rows (fun b => al b = some 27) 121 P := fun r hr => by
      obtain ⟨f1, -, ws1, f2, -, f3⟩ := z_plr hI.1 hr (A := z_hg 27) rfl rfl
      exact ⟨f1, ws1, f2, (f3 121 rfl).1⟩
    have hG2 : ye_rows (fun b => al b = some 32) 10 P := fun r hr => by
      obtain ⟨f1, -, ws1, f2, -, f3⟩ := z_plr hI.1 hr (A := z_hg 32) rfl rfl
      exact ⟨f1, ws1, f2, (f3 10 rfl).1⟩
    obtain ⟨r, P', hr, rfl, ⟨a', lim', mo', c1⟩, c4, cg, cb⟩ := ye_Cbarn (xs := xs) (d := 799) (G := fun b => al b = some 27) (G2 := fun b => al b = some 32) hPS fS hPT fT htx hn hPN fN hPK fK hPW fW hPZ fZ hPD fD hPM fM (ye_alne hK hW (by decide)) (ye_alne hK hZ (by decide)) (ye_alne hK hD (by decide)) (ye_alne hK hM (by decide)) (ye_alne hW hZ (by decide)) (ye_alne hW hD (by decide)) (ye_alne hW hM (by decide)) (ye_alne hZ hD (by decide)) (ye_alne hZ hM (by decide)) (ye_alne hD hM (by decide)) yK yW yZ yD yM hX fX x0 e2 e3 hPSt fSt t0 t1 hPH fH h00 hPr fr hrl hPY fY hyr hG2 hPE fE hev.len.symm hb2 (by omega) (by omega) hPC fC hcr hG
      (ye_alnf hS (by decide)) (ye_alnf hN (by decide)) (ye_alnf hK (by decide)) (ye_alnf hW (by decide)) (ye_alnf hZ (by decide)) (ye_alnf hD (by decide)) (ye_alnf hM (by decide)) (ye_alnf hE (by decide)) (ye_alnf ha (by decide)) (ye_alnf hSt (by decide)) (ye_alnf hH (by decide)) (ye_alnf hC (by decide)) (ye_alnf hT (by decide)) (ye_alnf hY (by decide)) (ye_alnf hr0 (by decide))
      (ye_alnf hS (by decide)) (ye_alnf hN (by decide)) (ye_alnf hK (by decide)) (ye_alnf hW (by decide)) (ye_alnf hZ (by decide)) (ye_alnf hD (by decide)) (ye_alnf hM (by decide)) (ye_alnf hE (by decide)) (ye_alnf ha (by decide)) (ye_alnf hSt (by decide)) (ye_alnf hH (by decide)) (ye_alnf hC (by decide)) (ye_alnf hT (by decide)) (ye_alnf hY (by decide)) (ye_alnf hr0 (by decide))
      (fun b hb => ye_alnf hb (by decide)) (ye_alne hr0 hE (by decide)) (ye_alne hr0 hK (by decide)) (ye_alne hr0 hW (by decide)) (ye_alne hr0 hZ (by decide)) (ye_alne hr0 hD (by decide)) (ye_alne hr0 hM (by decide)) (ye_alne hE hK (by decide)) (ye_alne hE hW (by decide)) (ye_alne hE hZ (by decide)) (ye_alne hE hD (by decide)) (ye_alne hE hM (by decide)) hs (by decide)
    have eS : (u.2.1, (0 : Int), u.2.2.2.1, u.2.2.2.2.1, u.2.2.2.2.2.1, u.2.2.2.2.2.2, mn) = yb_wm (yb_S0 u.2) mn := rfl
    have ea : yb_a u.1.1 u.1.2 (u.2.1, (0 : Int), u.2.2.2.1, u.2.2.2.2.1, u.2.2.2.2.2.1, u.2.2.2.2.2.2, mn) = yb_ans u := by rw [eS]; exact yb_a_wm
    obtain ⟨m', em⟩ := yb_S'_wm (T := u.1.1) (n := u.1.2) (S := yb_S0 u.2) (m := mn)
    rw [ea] at hr cg cb
    rw [eS, em] at cg
    obtain ⟨bd1, bd2, bd3, bd4⟩ := yb_ans_bd (g := u) hn hs
    refine ⟨Int32.ofInt (yb_ans u), (ye_z u.1, if 0 ≤ yb_ans u then yb_new u else u.2), P', ⟨ye_to (by omega) (by omega), rfl⟩, hr, fun al' hm => ⟨?_, ?_⟩⟩
    · have hPT' : P'[aT]? = some (102, vs) := (c4.2 aT (by simp only [List.mem_cons, List.not_mem_nil, or_false, not_or]; exact ⟨ye_ne hPT hPS (by decide), ye_ne hPT hPN (by decide), ye_ne hPT hPK (by decide), ye_ne hPT hPW (by decide), ye_ne hPT hPZ (by decide), ye_ne hPT hPD (by decide), ye_ne hPT hPM (by decide), ye_ne hPT hPE (by decide), ye_ne hPT hPr (by decide)⟩) (fun q => Or.elim q (ye_alnf hT (by decide)) (ye_alnf hT (by decide)))).trans hPT
      exact ye_RC_of (g := ye_z u.1) ⟨Int.le_refl _, by show (0 : Int) ≤ 80; decide⟩ (hm _ _ hS) fS c1 rfl (hm _ _ hT) fT hPT' (ye_tx_0 htx)
    · have fin : ∀ k : yb_K, (0 ≤ k.1 ∧ k.1 ≤ 10) → ye_CN aN aK aW aZ aD aM aE aF aC k.1 k.2.1 k.2.2.1 k.2.2.2.1 k.2.2.2.2.1 k.2.2.2.2.2 P' → ye_BC k al' P' := fun k hk hc => by
        obtain ⟨kv', wv', zv', dv', mv', stb, ytb, sdb, d1, d2, d3, d4, d5, d6, y1, y2, y3, y4, -⟩ := hc
        exact ⟨hk, ⟨aN, _, hm _ _ hN, fN, d1, rfl⟩, ⟨aN, _, hm _ _ hN, fN, d1, rfl⟩, ⟨aK, _, hm _ _ hK, fK, d2, y1⟩, ⟨aW, _, hm _ _ hW, fW, d3, y2⟩, ⟨aZ, _, hm _ _ hZ, fZ, d4, y3⟩, ⟨aD, _, hm _ _ hD, fD, d5, y4⟩⟩
      show ye_BC (if 0 ≤ yb_ans u then yb_new u else u.2) al' P'
      by_cases hpos : 0 ≤ yb_ans u
      · rw [if_pos hpos]
        exact fin (yb_new u) ⟨bd3, bd4⟩ (cg hpos)
      · rw [if_neg hpos]
        exact fin u.2 hs (cb (by omega))
theorem ye_barnM {ws : List Int32} (hI : z_In xs al P) (hg : ye_PM u al P) (ha : al a = some 90) (hw : ws.length = 0) : ∃ (r : Int32) (w : yb_G) (P' : z_H), yb_SpB u ws r w ∧ z_Runs (z_G xs) 799 191 (0, lv_args 0 (.ref a :: ws.map Value.int), [], P, 0, 0) (some (.int r)) P' ∧ ∀ al' : Nat → Option Nat, (∀ a c, al a = some c → al' a = some c) → ye_PM w al' P' := by
  obtain rfl := List.length_eq_zero_iff.mp hw
  have hn := hg.1.1
  obtain ⟨hs, g0, g5, g91, g92, g93, g94⟩ := hg.2
  obtain ⟨aB, F, bs, hM, fM, hF, k10, k11, hB, fB, hPB, htx⟩ := ye_getM hI hg.1 ha
  obtain ⟨-, uM, -⟩ := z_plr hI.1 ha (A := z_hg 90) rfl rfl
  have k0 : F 0 = ye_v u.2.1 := Option.some.inj ((ye_flg (F := F) rfl rfl).symm.trans (ye_tp_of (uM rfl) hM g0))
  have k5 : F 5 = ye_v u.2.2.1 := Option.some.inj ((ye_flg (F := F) rfl rfl).symm.trans (ye_tp_of (uM rfl) hM g5))
  obtain ⟨aK, k1, hK⟩ := z_ref1 (hF 1 _ (by decide) rfl)
  obtain ⟨aW, k2, hW⟩ := z_ref1 (hF 2 _ (by decide) rfl)
  obtain ⟨aZ, k3, hZ⟩ := z_ref1 (hF 3 _ (by decide) rfl)
  obtain ⟨aD, k4, hD⟩ := z_ref1 (hF 4 _ (by decide) rfl)
  obtain ⟨aG, k6, hG⟩ := z_ref1 (hF 6 _ (by decide) rfl)
  obtain ⟨aE, k7, hE⟩ := z_ref1 (hF 7 _ (by decide) rfl)
  obtain ⟨aY, k20, hY⟩ := z_ref1 (hF 20 _ (by decide) rfl)
  obtain ⟨fK, uK, kv, hPK, lK, -⟩ := ye_rowu hI hK rfl rfl
  obtain ⟨fW, uW, wv, hPW, hwv, -⟩ := z_plr hI.1 hW (A := z_hg 92) rfl rfl
  obtain ⟨fZ, uZ, zv, hPZ, lZ, -⟩ := ye_rowu hI hZ rfl rfl
  obtain ⟨fD, uD, dv, hPD, lD, -⟩ := ye_rowu hI hD rfl rfl
  obtain ⟨fY, uY, mv, hPY, lY, iY⟩ := ye_rowu hI hY rfl rfl
  have yK := ye_ct_of uK hPK g91
  have yW := ye_ct_of (uW rfl) hPW g92
  have yZ := ye_ct_of uZ hPZ g93
  have yD := ye_ct_of uD hPD g94
  obtain ⟨mn, yY⟩ := ye_arr_ex (n := u.2.1) lY hs.2 iY
  obtain ⟨fG, -, gv, hPG, lG, -⟩ := ye_rowu hI hG rfl rfl
  obtain ⟨fE, -, ev, hPE, hev, -⟩ := z_plr hI.1 hE (A := z_hg 96) rfl rfl
  have hev : z_all2 (z_gv [0] al) [.inl (0, 0, 0, 1, 400), .inl (0, 0, 0, (-40), 40), .inl (0, 0, 0, (-1), 23), .inl (0, 0, 0, 1, 99), .inl (0, 0, 0, 0, 50)] ev := hev rfl
  obtain ⟨b2, hb2, gb2⟩ := hev.get (i := 2) rfl
  obtain ⟨ee2, rfl, ee3, ee4⟩ := ye_int1 gb2
  have ee3 : (-1 : Int) ≤ ee2 := ee3
  have ee4 : ee2 ≤ (23 : Int) := ee4
  obtain ⟨r, P', hr, rfl, F', c1, c2, c3, c4, cg, cb⟩ := ye_Mbarn (xs := xs) (d := 799) (lim := if u.1.2 ≤ 76 then u.1.2 else 76) hM fM k0 k1 k2 k3 k4 k5 k6 k7 k10 k11 k20 hPK fK hPW fW hPZ fZ hPD fD hPY fY (ye_alne hK hW (by decide)) (ye_alne hK hZ (by decide)) (ye_alne hK hD (by decide)) (ye_alne hK hY (by decide)) (ye_alne hW hZ (by decide)) (ye_alne hW hD (by decide)) (ye_alne hW hY (by decide)) (ye_alne hZ hD (by decide)) (ye_alne hZ hY (by decide)) (ye_alne hD hY (by decide)) yK yW yZ yD yY hPG fG lG hPE fE hev.len.symm hb2 ⟨by omega, by omega⟩ (ye_alne hG hK (by decide)) (ye_alne hE hK (by decide)) (ye_alne hG hW (by decide)) (ye_alne hE hW (by decide)) (ye_alne hG hZ (by decide)) (ye_alne hE hZ (by decide)) (ye_alne hG hD (by decide)) (ye_alne hE hD (by decide)) (ye_alne hG hY (by decide)) (ye_alne hE hY (by decide)) (ye_alne hG hE (by decide)) hPB fB htx hn hs rfl (by decide)
  have eS : (u.2.1, (0 : Int), u.2.2.2.1, u.2.2.2.2.1, u.2.2.2.2.2.1, u.2.2.2.2.2.2, mn) = yb_wm (yb_S0 u.2) mn := rfl
  have ea : yb_a u.1.1 u.1.2 (u.2.1, (0 : Int), u.2.2.2.1, u.2.2.2.2.1, u.2.2.2.2.2.1, u.2.2.2.2.2.2, mn) = yb_ans u := by rw [eS]; exact yb_a_wm
  obtain ⟨m', em⟩ := yb_S'_wm (T := u.1.1) (n := u.1.2) (S := yb_S0 u.2) (m := mn)
  rw [ea] at hr cg cb
  rw [eS, em] at cg
  obtain ⟨bd1, bd2, bd3, bd4⟩ := yb_ans_bd (g := u) hn hs
  refine ⟨Int32.ofInt (yb_ans u), (ye_z u.1, if 0 ≤ yb_ans u then yb_new u else u.2), P', ⟨ye_to (by omega) (by omega), rfl⟩, hr, fun al' hm => ⟨?_, ?_⟩⟩
  · have hPB' : P'[aB]? = some (101, bs) := ye_kp c4 (by simp only [List.mem_cons, List.not_mem_nil, or_false, not_or]; exact ⟨ye_ne hPB hM (by decide), ye_ne hPB hPK (by decide), ye_ne hPB hPW (by decide), ye_ne hPB hPZ (by decide), ye_ne hPB hPD (by decide), ye_ne hPB hPY (by decide), ye_ne hPB hPG (by decide), ye_ne hPB hPE (by decide)⟩) hPB
    exact ye_RM_of (g := ye_z u.1) ⟨Int.le_refl _, by show (0 : Int) ≤ 80; decide⟩ (hm _ _ ha) fM c1 c3 (hm _ _ hB) fB hPB' (ye_tx_0 htx)
  · have fin : ∀ k : yb_K, (0 ≤ k.1 ∧ k.1 ≤ 10) → F' 0 = ye_v k.1 ∧ F' 5 = ye_v k.2.1 ∧ ye_MN aK aW aZ aD k.1 k.2.2.1 k.2.2.2.1 k.2.2.2.2.1 k.2.2.2.2.2 P' → ye_BM k al' P' := fun k hk hc => by
      obtain ⟨f0, f5, kv', wv', zv', dv', d2, d3, d4, d5, y1, y2, y3, y4⟩ := hc
      exact ⟨hk, ⟨_, _, hm _ _ ha, fM, c1, ye_flg rfl f0⟩, ⟨_, _, hm _ _ ha, fM, c1, ye_flg rfl f5⟩, ⟨aK, _, hm _ _ hK, fK, d2, y1⟩, ⟨aW, _, hm _ _ hW, fW, d3, y2⟩, ⟨aZ, _, hm _ _ hZ, fZ, d4, y3⟩, ⟨aD, _, hm _ _ hD, fD, d5, y4⟩⟩
    show ye_BM (if 0 ≤ yb_ans u then yb_new u else u.2) al' P'
    by_cases hpos : 0 ≤ yb_ans u
    · rw [if_pos hpos]
      exact fin (yb_new u) ⟨bd3, bd4⟩ (cg hpos)
    · rw [if_neg hpos]
      exact fin u.2 hs (cb (by omega))
end YTBN
