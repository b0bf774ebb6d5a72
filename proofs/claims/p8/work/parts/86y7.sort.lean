/-! sort, told by what is held alike, on both sides. -/
section YTSO
variable {xs : List Int32} {al : Nat → Option Nat} {P : z_H} {a d : Nat} {u : yb_G} {s q : Int32}
def yk_ok (u : yb_G) (s q : Int32) : Prop := yj_ok u.2.1 s.toInt q.toInt
def yk_v (u : yb_G) (s q : Int32) : Int := yj_v u.2.2.2.1 u.2.2.2.2.1 u.2.2.2.2.2.1 u.2.2.2.2.2.2 s.toInt q.toInt
theorem yk_args {s q : Int32} : lv_args 0 [Value.ref a, .int s, .int q] = lv_args 0 [.ref a, ye_v s.toInt, ye_v q.toInt] := by
  rw [← ye_of, ← ye_of]
theorem yk_sortC (hI : z_In xs al P) (hg : ye_PC u al P) (ha : al a = some 13) (hd : 1 ≤ d) : (yk_ok u s q → ∃ P', z_Runs (z_G xs) d 184 (0, lv_args 0 [.ref a, .int s, .int q], [], P, 0, 0) (some (ye_v (yk_v u s q))) P') ∧ (¬ yk_ok u s q → z_Rh (z_G xs) d 184 (fun z => z.1 = 17 ∧ z.2.2.1 = []) (0, lv_args 0 [.ref a, .int s, .int q], [], P, 0, 0)) := by
  have a1 := s.le_toInt
  have b1 := s.toInt_lt
  have a2 := q.le_toInt
  have b2 := q.toInt_lt
  obtain ⟨hs, g5, g6, g19, g20, g21, g22⟩ := hg.2
  obtain ⟨aS, aT, xv, vs, p, lim, mo, hX, fX, hxl, hx3, -⟩ := ye_getC hI hg.1 ha
  obtain ⟨w2, e2, q2⟩ := hx3.get (i := 2) rfl
  obtain ⟨aN, rfl, hN⟩ := z_ref1 q2
  obtain ⟨fN, uN, nv, hPN, hnv, -⟩ := z_plr hI.1 hN (A := z_hg 18) rfl rfl
  have t5 : nv[5]? = some (ye_v u.2.1) := ye_tp_of (uN rfl) hPN g5
  have hnv := hnv rfl
  obtain ⟨w0, m0, p0⟩ := hnv.get (i := 0) rfl
  obtain ⟨aK, rfl, hK⟩ := z_ref1 p0
  obtain ⟨w1, m1, p1⟩ := hnv.get (i := 1) rfl
  obtain ⟨aW, rfl, hW⟩ := z_ref1 p1
  obtain ⟨w2, m2, p2⟩ := hnv.get (i := 2) rfl
  obtain ⟨aZ, rfl, hZ⟩ := z_ref1 p2
  obtain ⟨w3, m3, p3⟩ := hnv.get (i := 3) rfl
  obtain ⟨aD, rfl, hD⟩ := z_ref1 p3
  obtain ⟨fK, uK, kv, hPK, lK, -⟩ := ye_rowu hI hK rfl rfl
  obtain ⟨fW, uW, wv, hPW, lW, -⟩ := ye_rowu hI hW rfl rfl
  obtain ⟨fZ, uZ, zv, hPZ, lZ, -⟩ := ye_rowu hI hZ rfl rfl
  obtain ⟨fD, uD, dv, hPD, lD, -⟩ := ye_rowu hI hD rfl rfl
  have yK : ye_arr u.2.2.2.1 u.2.1 kv := ye_ct_of uK hPK g19
  have yW : ye_arr u.2.2.2.2.1 u.2.1 wv := ye_ct_of uW hPW g20
  have yZ : ye_arr u.2.2.2.2.2.1 u.2.1 zv := ye_ct_of uZ hPZ g21
  have yD : ye_arr u.2.2.2.2.2.2 u.2.1 dv := ye_ct_of uD hPD g22
  rw [yk_args]
  refine ⟨fun ok => ?_, fun ok => ye_CsortN (xs := xs) hX fX e2 hPN fN t5 hs ⟨by omega, by omega⟩ ⟨by omega, by omega⟩ ok hd⟩
  obtain ⟨h1, h2, h3, h4⟩ : 0 ≤ s.toInt ∧ s.toInt < u.2.1 ∧ 0 ≤ q.toInt ∧ q.toInt ≤ 3 := ok
  have hq : q.toInt = 0 ∨ q.toInt = 1 ∨ q.toInt = 2 ∨ q.toInt = 3 := by omega
  rcases hq with hq | hq | hq | hq
  · have ev : yk_v u s q = u.2.2.2.1 s.toInt := by
      unfold yk_v yj_v
      rw [if_pos hq]
    rw [ev, hq]
    obtain ⟨r, P', hr, rfl⟩ := ye_CsortY0 (xs := xs) (d := d) hX fX e2 hPN fN t5 hs m0 m1 m2 m3 hPK fK yK hPW fW yW hPZ fZ yZ hPD fD yD ⟨h1, h2⟩ hd
    exact ⟨P', hr⟩
  · have ev : yk_v u s q = u.2.2.2.2.1 s.toInt := by
      unfold yk_v yj_v
      rw [if_neg (by omega), if_pos hq]
    rw [ev, hq]
    obtain ⟨r, P', hr, rfl⟩ := ye_CsortY1 (xs := xs) (d := d) hX fX e2 hPN fN t5 hs m0 m1 m2 m3 hPK fK yK hPW fW yW hPZ fZ yZ hPD fD yD ⟨h1, h2⟩ hd
    exact ⟨P', hr⟩
  · have ev : yk_v u s q = u.2.2.2.2.2.1 s.toInt := by
      unfold yk_v yj_v
      rw [if_neg (by omega), if_neg (by omega), if_pos hq]
    rw [ev, hq]
    obtain ⟨r, P', hr, rfl⟩ := ye_CsortY2 (xs := xs) (d := d) hX fX e2 hPN fN t5 hs m0 m1 m2 m3 hPK fK yK hPW fW yW hPZ fZ yZ hPD fD yD ⟨h1, h2⟩ hd
    exact ⟨P', hr⟩
  · have ev : yk_v u s q = u.2.2.2.2.2.2 s.toInt := by
      unfold yk_v yj_v
      rw [if_neg (by omega), if_neg (by omega), if_neg (by omega)]
    rw [ev, hq]
    obtain ⟨r, P', hr, rfl⟩ := ye_CsortY3 (xs := xs) (d := d) hX fX e2 hPN fN t5 hs m0 m1 m2 m3 hPK fK yK hPW fW yW hPZ fZ yZ hPD fD yD ⟨h1, h2⟩ hd
    exact ⟨P', hr⟩
theorem yk_sortM (hI : z_In xs al P) (hg : ye_PM u al P) (ha : al a = some 90) (hd : 2 ≤ d) : ∃ (v : Int32) (P' : z_H) (F' : Nat → Value), z_Runs (z_G xs) d 211 (0, lv_args 0 [.ref a, .int s, .int q], [], P, 0, 0) (some (.int v)) P' ∧ P'[a]? = some (10, ye_fl F') ∧ ye_oth [a] P P' ∧ ((yk_ok u s q ∧ v = Int32.ofInt (yk_v u s q) ∧ F' 14 = ye_v 0) ∨ (¬ yk_ok u s q ∧ F' 14 = ye_v 1)) := by
  have a1 := s.le_toInt
  have b1 := s.toInt_lt
  have a2 := q.le_toInt
  have b2 := q.toInt_lt
  obtain ⟨hs, g0, g5, g91, g92, g93, g94⟩ := hg.2
  obtain ⟨aB, F, bs, hM, fM, hF, -⟩ := ye_getM hI hg.1 ha
  obtain ⟨-, uM, -⟩ := z_plr hI.1 ha (A := z_hg 90) rfl rfl
  have k0 : F 0 = ye_v u.2.1 := Option.some.inj ((ye_flg (F := F) rfl rfl).symm.trans (ye_tp_of (uM rfl) hM g0))
  obtain ⟨aK, k1, hK⟩ := z_ref1 (hF 1 _ (by decide) rfl)
  obtain ⟨aW, k2, hW⟩ := z_ref1 (hF 2 _ (by decide) rfl)
  obtain ⟨aZ, k3, hZ⟩ := z_ref1 (hF 3 _ (by decide) rfl)
  obtain ⟨aD, k4, hD⟩ := z_ref1 (hF 4 _ (by decide) rfl)
  obtain ⟨fK, uK, kv, hPK, lK, -⟩ := ye_rowu hI hK rfl rfl
  obtain ⟨fW, uW, wv, hPW, hwv, -⟩ := z_plr hI.1 hW (A := z_hg 92) rfl rfl
  obtain ⟨fZ, uZ, zv, hPZ, lZ, -⟩ := ye_rowu hI hZ rfl rfl
  obtain ⟨fD, uD, dv, hPD, lD, -⟩ := ye_rowu hI hD rfl rfl
  have yK : ye_arr u.2.2.2.1 u.2.1 kv := ye_ct_of uK hPK g91
  have yW : ye_arr u.2.2.2.2.1 u.2.1 wv := ye_ct_of (uW rfl) hPW g92
  have yZ : ye_arr u.2.2.2.2.2.1 u.2.1 zv := ye_ct_of uZ hPZ g93
  have yD : ye_arr u.2.2.2.2.2.2 u.2.1 dv := ye_ct_of uD hPD g94
  rw [yk_args]
  obtain ⟨r, P', hr, v, F', rfl, c1, c2, c3⟩ := ye_Msort (xs := xs) (d := d) (s := s.toInt) (q := q.toInt) hM fM k0 k1 k2 k3 k4 hs hPK fK yK hPW fW yW hPZ fZ yZ hPD fD yD ⟨by omega, by omega⟩ ⟨by omega, by omega⟩ hd
  refine ⟨Int32.ofInt v, P', F', hr, c1, c2, ?_⟩
  rcases c3 with ⟨k, e, f⟩ | ⟨k, f⟩
  · exact Or.inl ⟨k, congrArg Int32.ofInt e, f⟩
  · exact Or.inr ⟨k, f⟩
/-- behind the class's sort: it threw, or it answered and the answer lies in the row -/
def yk_K (xs : List Int32) (P : z_H) (u : yb_G) (ao t : Nat) (v : Int32) : Prop := (v = 0 ∧ yk_ok u (xs.getD (6 * t + 1) 0) (xs.getD (6 * t + 2) 0) ∧ P[ao]? = some (104, [.long (Int32.ofInt (yk_v u (xs.getD (6 * t + 1) 0) (xs.getD (6 * t + 2) 0))).toInt64])) ∨ (v = 1 ∧ ¬ yk_ok u (xs.getD (6 * t + 1) 0) (xs.getD (6 * t + 2) 0))
theorem yk_K_junk {P Q : z_H} {ao t : Nat} {v : Int32} (h : yk_K xs P u ao t v) : yk_K xs (P ++ Q) u ao t v := by
  rcases h with ⟨h1, h2, h3⟩ | h
  · exact Or.inl ⟨h1, h2, by rw [List.getElem?_append_left (List.getElem?_eq_some_iff.mp h3).1]; exact h3⟩
  · exact Or.inr h
/-- the class's sort answered -/
theorem yk_K_ans {P P2 : z_H} {ao t : Nat} {v : Int32} {w : Value} (hI : z_In xs al P) (hg : ye_PC u al P) (ha : al a = some 13) (hr : z_Runs (z_G xs) 100 184 (0, lv_args 0 [.ref a, .int (xs.getD (6 * t + 1) 0), .int (xs.getD (6 * t + 2) 0)], [], P, 0, 0) (some (.int v)) P2) (ho : P2[ao]? = some (104, [w])) : yk_K xs (P2.set ao (104, [.long v.toInt64])) u ao t 0 := by
  have hso := yk_sortC (xs := xs) (d := 100) (s := xs.getD (6 * t + 1) 0) (q := xs.getD (6 * t + 2) 0) hI hg ha (by decide)
  by_cases ok : yk_ok u (xs.getD (6 * t + 1) 0) (xs.getD (6 * t + 2) 0)
  · obtain ⟨P9, h9⟩ := hso.1 ok
    obtain ⟨e9, -⟩ := z_Runs_one hr h9
    have e9 : v = Int32.ofInt (yk_v u (xs.getD (6 * t + 1) 0) (xs.getD (6 * t + 2) 0)) := Value.int.inj (Option.some.inj e9)
    subst e9
    exact Or.inl ⟨rfl, ok, List.getElem?_set_self (List.getElem?_eq_some_iff.mp ho).1⟩
  · exact (yt_stop (hso.2 ok) (fun q1 h => yt_C17 h) hr).elim
/-- the class's sort threw -/
theorem yk_K_thr {P P3 : z_H} {ao t : Nat} {q9 : z_S} (hI : z_In xs al P) (hg : ye_PC u al P) (ha : al a = some 13) (hto : z_To (z_G xs) 100 184 (0, lv_args 0 [.ref a, .int (xs.getD (6 * t + 1) 0), .int (xs.getD (6 * t + 2) 0)], [], P, 0, 0) q9) (h1 : q9.1 = 17) (h2 : q9.2.2.1 = []) : yk_K xs P3 u ao t 1 := by
  have hso := yk_sortC (xs := xs) (d := 100) (s := xs.getD (6 * t + 1) 0) (q := xs.getD (6 * t + 2) 0) hI hg ha (by decide)
  refine Or.inr ⟨rfl, fun ok => ?_⟩
  obtain ⟨P9, h9⟩ := hso.1 ok
  exact yt_no (yt_C17 ⟨h1, h2⟩) (yt_go hto h9)
end YTSO
