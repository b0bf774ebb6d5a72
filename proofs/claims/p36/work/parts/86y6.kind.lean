/-! blow and hole, told on both sides. -/
section YCPS
variable {xs : List Int32}
def yc_pv (g : yc_G) : Int := (Int32.ofInt g.2).toInt
def yc_okB (g : yc_G) (w0 w1 w2 : Int32) : Prop := (-60 ≤ w0.toInt ∧ w0.toInt ≤ 60) ∧ (0 ≤ w1.toInt ∧ w1.toInt ≤ w2.toInt ∧ w2.toInt < yc_lv g) ∧ yc_pv g ≤ 6
def ye_SpBl (g : yc_G) (ws : List Int32) (r : Int32) (w : yc_G) : Prop := (yc_okB g (ws.getD 0 0) (ws.getD 1 0) (ws.getD 2 0) ∧ r.toInt = yc_pv g ∧ w = (g.1, yc_pv g + 1)) ∨ (¬ yc_okB g (ws.getD 0 0) (ws.getD 1 0) (ws.getD 2 0) ∧ r.toInt = -1 ∧ w = g)
def yc_okH (g : yc_G) (w0 : Int32) : Prop := (1 ≤ w0.toInt ∧ w0.toInt ≤ 60) ∧ yc_pv g ≤ 6
def ye_SpHo (g : yc_G) (ws : List Int32) (r : Int32) (w : yc_G) : Prop := (yc_okH g (ws.getD 0 0) ∧ r.toInt = yc_pv g ∧ w = (g.1, yc_pv g + 1)) ∨ (¬ yc_okH g (ws.getD 0 0) ∧ r.toInt = -1 ∧ w = g)
theorem ye_SpBl_det {g : yc_G} {ws : List Int32} {r r' : Int32} {w w' : yc_G} (h : ye_SpBl g ws r w) (h' : ye_SpBl g ws r' w') : r = r' ∧ w = w' := by
  rcases h with ⟨a1, a2, a3⟩ | ⟨a1, a2, a3⟩ <;> rcases h' with ⟨c1, c2, c3⟩ | ⟨c1, c2, c3⟩
  · exact ⟨Int32.toInt_inj.mp (by omega), by rw [a3, c3]⟩
  · exact absurd a1 c1
  · exact absurd c1 a1
  · exact ⟨Int32.toInt_inj.mp (by omega), by rw [a3, c3]⟩
theorem ye_SpHo_det {g : yc_G} {ws : List Int32} {r r' : Int32} {w w' : yc_G} (h : ye_SpHo g ws r w) (h' : ye_SpHo g ws r' w') : r = r' ∧ w = w' := by
  rcases h with ⟨a1, a2, a3⟩ | ⟨a1, a2, a3⟩ <;> rcases h' with ⟨c1, c2, c3⟩ | ⟨c1, c2, c3⟩
  · exact ⟨Int32.toInt_inj.mp (by omega), by rw [a3, c3]⟩
  · exact absurd a1 c1
  · exact absurd c1 a1
  · exact ⟨Int32.toInt_inj.mp (by omega), by rw [a3, c3]⟩
/-- an operation told on one side, its last argument a truth value -/
def z_ToldH (xs : List Int32) (y cell : Nat) (M : Bool) (Sp : yc_G → List Int32 → Int32 → yc_G → Prop) : Prop := ∀ {al : Nat → Option Nat} {P : z_H} {a : Nat} {u v : yc_G} {w0 b : Int32}, z_In2 xs u v al P → al a = some cell → P.length ≤ 900000 → (b.toInt = 0 ∨ b.toInt = 1) → ∃ (r : Int32) (w : yc_G) (P' : z_H) (al' : Nat → Option Nat), Sp (if M then v else u) [w0] r w ∧ z_Runs (z_G xs) 799 y (0, lv_args 0 [.ref a, .int w0, .int b], [], P, 0, 0) (some (.int r)) P' ∧ z_In2 xs (if M then u else w) (if M then w else v) al' P' ∧ (∀ a c, al a = some c → al' a = some c) ∧ P'.length ≤ P.length + z_mc (z_G []) y
theorem ye_blowC : z_Told xs 148 13 false ye_SpBl 3 := by
  intro al P a u v ws ⟨hI, t1, t2⟩ ha hlen hws
  match ws, hws with
  | [w0, w1, w2], _ =>
    have b0 := w0.le_toInt
    have d0 := w0.toInt_lt
    have b1 := w1.le_toInt
    have d1 := w1.toInt_lt
    have b2 := w2.le_toInt
    have d2 := w2.toInt_lt
    have hpv := yc_tp_in hI.1 t1.2 rfl rfl rfl
    have hlv := yc_tp_in hI.1 t1.1.2.2.2.1 rfl rfl rfl
    have p0 : 0 ≤ yc_pv u ∧ yc_pv u ≤ 7 := hpv
    have l0 : 1 ≤ yc_lv u ∧ yc_lv u ≤ 24 := hlv
    by_cases c1 : w0.toInt < -60
    · obtain ⟨rv, P', al', X, hm, hr, hI', hp, hl⟩ := z_usePostN (K := z_Kk372) (ts := [.inl (0, 0, 0, (-2147483648), (-61)), .inl (0, 0, 0, (-2147483648), 2147483647), .inl (0, 0, 0, (-2147483648), 2147483647)]) (vs := [.int w0, .int w1, .int w2]) (F := []) (bd := []) (N := [0]) (HE := z_H0c) rfl z_Kn372 rfl rfl (by decide +kernel) rfl rfl hI.1 (fun q hq => by cases hq) hI hI.1 ha hlen ⟨yc_ti (by omega) (by omega), z_tI_ok _, z_tI_ok _, trivial⟩
      obtain ⟨r, e1, e2, e3⟩ := yc_no (val := (-1)) hm (by decide +kernel) hr hI' hp t1 t2
      exact ⟨r, u, P', al', Or.inr ⟨fun h => by have : -60 ≤ w0.toInt := h.1.1; omega, e1, rfl⟩, e2, e3, hp.1, hl⟩
    by_cases c2 : 60 < w0.toInt
    · obtain ⟨rv, P', al', X, hm, hr, hI', hp, hl⟩ := z_usePostN (K := z_Kk373) (ts := [.inl (0, 0, 0, 61, 2147483647), .inl (0, 0, 0, (-2147483648), 2147483647), .inl (0, 0, 0, (-2147483648), 2147483647)]) (vs := [.int w0, .int w1, .int w2]) (F := []) (bd := []) (N := [0]) (HE := z_H0c) rfl z_Kn373 rfl rfl (by decide +kernel) rfl rfl hI.1 (fun q hq => by cases hq) hI hI.1 ha hlen ⟨yc_ti (by omega) (by omega), z_tI_ok _, z_tI_ok _, trivial⟩
      obtain ⟨r, e1, e2, e3⟩ := yc_no (val := (-1)) hm (by decide +kernel) hr hI' hp t1 t2
      exact ⟨r, u, P', al', Or.inr ⟨fun h => by have : w0.toInt ≤ 60 := h.1.2; omega, e1, rfl⟩, e2, e3, hp.1, hl⟩
    by_cases c3 : w1.toInt < 0
    · obtain ⟨rv, P', al', X, hm, hr, hI', hp, hl⟩ := z_usePostN (K := z_Kk367) (ts := [.inl (0, 0, 0, (-2147483648), 2147483647), .inl (0, 0, 0, (-2147483648), (-1)), .inl (0, 0, 0, (-2147483648), 2147483647)]) (vs := [.int w0, .int w1, .int w2]) (F := []) (bd := []) (N := [0]) (HE := z_H0c) rfl z_Kn367 rfl rfl (by decide +kernel) rfl rfl hI.1 (fun q hq => by cases hq) hI hI.1 ha hlen ⟨z_tI_ok _, yc_ti (by omega) (by omega), z_tI_ok _, trivial⟩
      obtain ⟨r, e1, e2, e3⟩ := yc_no (val := (-1)) hm (by decide +kernel) hr hI' hp t1 t2
      exact ⟨r, u, P', al', Or.inr ⟨fun h => by have : 0 ≤ w1.toInt := h.2.1.1; omega, e1, rfl⟩, e2, e3, hp.1, hl⟩
    by_cases c4 : w2.toInt < w1.toInt
    · obtain ⟨rv, P', al', X, hm, hr, hI', hp, hl⟩ := z_usePostN (K := z_Kk368) (ts := [.inl (0, 0, 0, (-2147483648), 2147483647), .inl (2, 0, 0, (-2147483648), 2147483647), .inl (1, 0, 0, (-2147483648), 2147483647)]) (vs := [.int w0, .int w1, .int w2]) (F := [(1, 2, 1)]) (bd := [(1, 1, 0), (2, 2, 0)]) (N := [0, w2.toInt, w1.toInt]) (HE := z_H0c) (yc_bN3 _ _) z_Kn368 rfl rfl (by decide +kernel) rfl rfl (hI.1.mono ⟨_, rfl⟩) (fun q hq => by rw [List.mem_singleton] at hq; subst hq; exact ⟨_, _, rfl, rfl, by show w2.toInt + 1 ≤ w1.toInt; omega⟩) hI (hI.1.mono ⟨_, rfl⟩) ha hlen ⟨z_tI_ok _, yc_tn rfl (by omega) (by omega), yc_tn rfl (by omega) (by omega), trivial⟩
      obtain ⟨r, e1, e2, e3⟩ := yc_no (val := (-1)) hm (by decide +kernel) hr hI' hp t1 t2
      exact ⟨r, u, P', al', Or.inr ⟨fun h => by have : w1.toInt ≤ w2.toInt := h.2.1.2.1; omega, e1, rfl⟩, e2, e3, hp.1, hl⟩
    by_cases c5 : yc_lv u ≤ w2.toInt
    · have hH : z_gh (z_strs (z_G xs)) [0, yc_lv u, w2.toInt] al (z_H0c.set 18 ((z_hg 18).1, (z_hg 18).2.1, none, ((z_hg 18).2.2.2.set 6 (.inl (1, 0, 0, 1, 24))))) P := z_gh_name (hI.1.mono ⟨_, rfl⟩) t1.1.2.2.2.1 rfl rfl rfl (yc_tn (k := 1) (x := Int32.ofInt u.1.2.2.1) rfl hlv.1 hlv.2)
      obtain ⟨rv, P', al', X, hm, hr, hI', hp, hl⟩ := z_usePostN (K := z_Kk371) (ts := [.inl (0, 0, 0, (-2147483648), 2147483647), .inl (0, 0, 0, (-2147483648), 2147483647), .inl (2, 0, 0, (-2147483648), 2147483647)]) (vs := [.int w0, .int w1, .int w2]) (F := [(1, 2, 0)]) (bd := [(1, 1, 0), (2, 2, 0)]) (N := [0, yc_lv u, w2.toInt]) (HE := (z_H0c.set 18 ((z_hg 18).1, (z_hg 18).2.1, none, ((z_hg 18).2.2.2.set 6 (.inl (1, 0, 0, 1, 24)))))) (yc_bN3 _ _) z_Kn371 rfl rfl (by decide +kernel) rfl rfl (hI.1.mono ⟨_, rfl⟩) (fun q hq => by rw [List.mem_singleton] at hq; subst hq; exact ⟨_, _, rfl, rfl, by show yc_lv u + 0 ≤ w2.toInt; omega⟩) hI hH ha hlen ⟨z_tI_ok _, z_tI_ok _, yc_tn rfl (by omega) (by omega), trivial⟩
      obtain ⟨r, e1, e2, e3⟩ := yc_no (val := (-1)) hm (by decide +kernel) hr hI' hp t1 t2
      exact ⟨r, u, P', al', Or.inr ⟨fun h => by have : w2.toInt < yc_lv u := h.2.1.2.2; omega, e1, rfl⟩, e2, e3, hp.1, hl⟩
    by_cases c6 : 6 < yc_pv u
    · have hH : z_gh (z_strs (z_G xs)) [0] al (z_H0c.set 13 ((z_hg 13).1, (z_hg 13).2.1, none, ((z_hg 13).2.2.2.set 9 (.inl (0, 0, 0, 7, 7))))) P := z_gh_name hI.1 t1.2 rfl rfl rfl (yc_ti (x := Int32.ofInt u.2) (by show 7 ≤ yc_pv u; omega) (by show yc_pv u ≤ 7; omega))
      obtain ⟨rv, P', al', X, hm, hr, hI', hp, hl⟩ := z_usePostN (K := z_Kk370) (ts := [.inl (0, 0, 0, (-2147483648), 2147483647), .inl (0, 0, 0, (-2147483648), 2147483647), .inl (0, 0, 0, (-2147483648), 2147483647)]) (vs := [.int w0, .int w1, .int w2]) (F := []) (bd := []) (N := [0]) (HE := (z_H0c.set 13 ((z_hg 13).1, (z_hg 13).2.1, none, ((z_hg 13).2.2.2.set 9 (.inl (0, 0, 0, 7, 7)))))) rfl z_Kn370 rfl rfl (by decide +kernel) rfl rfl hI.1 (fun q hq => by cases hq) hI hH ha hlen ⟨z_tI_ok _, z_tI_ok _, z_tI_ok _, trivial⟩
      obtain ⟨r, e1, e2, e3⟩ := yc_no (val := (-1)) hm (by decide +kernel) hr hI' hp t1 t2
      exact ⟨r, u, P', al', Or.inr ⟨fun h => by have : yc_pv u ≤ 6 := h.2.2; omega, e1, rfl⟩, e2, e3, hp.1, hl⟩
    have hH0 : z_gh (z_strs (z_G xs)) [0, yc_pv u, w1.toInt, w2.toInt, yc_lv u] al (z_H0c.set 13 ((z_hg 13).1, (z_hg 13).2.1, none, ((z_hg 13).2.2.2.set 9 (.inl (1, 0, 0, 0, 6))))) P := z_gh_name (hI.1.mono ⟨_, rfl⟩) t1.2 rfl rfl rfl (yc_tn (k := 1) (x := Int32.ofInt u.2) rfl hpv.1 (by show yc_pv u ≤ 6; omega))
    have hH : z_gh (z_strs (z_G xs)) [0, yc_pv u, w1.toInt, w2.toInt, yc_lv u] al ((z_H0c.set 13 ((z_hg 13).1, (z_hg 13).2.1, none, ((z_hg 13).2.2.2.set 9 (.inl (1, 0, 0, 0, 6))))).set 18 ((z_hg 18).1, (z_hg 18).2.1, none, ((z_hg 18).2.2.2.set 6 (.inl (4, 0, 0, 1, 24))))) P := z_gh_name (A := z_hg 18) hH0 t1.1.2.2.2.1 rfl rfl rfl (yc_tn (k := 4) (x := Int32.ofInt u.1.2.2.1) rfl hlv.1 hlv.2)
    obtain ⟨rv, P', al', X, hm, hr, hI', hp, hl⟩ := z_usePostN (K := z_Kk369) (ts := [.inl (0, 0, 0, (-60), 60), .inl (2, 0, 0, 0, 23), .inl (3, 0, 0, 0, 23)]) (vs := [.int w0, .int w1, .int w2]) (F := [(1, 1, 0), (2, 3, 0), (3, 4, 1), (2, 4, 1)]) (bd := [(1, 1, 0), (2, 2, 0), (3, 3, 0), (4, 4, 0)]) (N := [0, yc_pv u, w1.toInt, w2.toInt, yc_lv u]) (HE := ((z_H0c.set 13 ((z_hg 13).1, (z_hg 13).2.1, none, ((z_hg 13).2.2.2.set 9 (.inl (1, 0, 0, 0, 6))))).set 18 ((z_hg 18).1, (z_hg 18).2.1, none, ((z_hg 18).2.2.2.set 6 (.inl (4, 0, 0, 1, 24)))))) (yc_bN5 _ _ _ _) z_Kn369 rfl rfl (by decide +kernel) rfl rfl (hI.1.mono ⟨_, rfl⟩) (fun q hq => by
      simp only [List.mem_cons, List.not_mem_nil, or_false] at hq
      rcases hq with rfl | rfl | rfl | rfl
      · exact ⟨_, _, rfl, rfl, by show yc_pv u + 0 ≤ yc_pv u; omega⟩
      · exact ⟨_, _, rfl, rfl, by show w1.toInt + 0 ≤ w2.toInt; omega⟩
      · exact ⟨_, _, rfl, rfl, by show w2.toInt + 1 ≤ yc_lv u; omega⟩
      · exact ⟨_, _, rfl, rfl, by show w1.toInt + 1 ≤ yc_lv u; omega⟩) hI hH ha hlen ⟨yc_ti (by omega) (by omega), yc_tn (k := 2) rfl (by omega) (by omega), yc_tn (k := 3) rfl (by omega) (by omega), trivial⟩
    have hck : ((z_Kk369).2.2.2.2.1.all fun X => yc_isa 1 0 X.1 && ((ye_pC X && yc_isp X 13 9 1 1) && yc_pM X)) = true := by decide +kernel
    have h := List.all_eq_true.mp hck X hm
    rw [Bool.and_eq_true, Bool.and_eq_true, Bool.and_eq_true] at h
    obtain ⟨h1, ⟨h2, h3⟩, h4⟩ := h
    obtain ⟨r, e1, e2⟩ := yc_isa_ok (by decide) h1 (w := yc_pv u) rfl hp.2.2.2.1
    subst e1
    exact ⟨r, (u.1, yc_pv u + 1), P', al', Or.inl ⟨(show yc_okB u w0 w1 w2 from ⟨⟨by omega, by omega⟩, ⟨by omega, by omega, by omega⟩, by omega⟩), by show r.toInt = yc_pv u; omega, rfl⟩, hr, ⟨hI', ⟨ye_pC_ok hp h2 t1.1, yc_isp_ok (by decide) h3 (w := yc_pv u) rfl hp t1.2⟩, yc_pM_ok hp h4 t2⟩, hp.1, hl⟩
theorem ye_holeC : z_ToldH xs 150 13 false ye_SpHo := by
  intro al P a u v w0 b ⟨hI, t1, t2⟩ ha hlen hb
  have b0 := w0.le_toInt
  have d0 := w0.toInt_lt
  have hpv := yc_tp_in hI.1 t1.2 rfl rfl rfl
  have p0 : 0 ≤ yc_pv u ∧ yc_pv u ≤ 7 := hpv
  by_cases c1 : w0.toInt < 1
  · obtain ⟨rv, P', al', X, hm, hr, hI', hp, hl⟩ := z_usePostN (K := z_Kk374) (ts := [.inl (0, 0, 0, (-2147483648), 0), .inl (0, 0, 0, 0, 1)]) (vs := [.int w0, .int b]) (F := []) (bd := []) (N := [0]) (HE := z_H0c) rfl z_Kn374 rfl rfl (by decide +kernel) rfl rfl hI.1 (fun q hq => by cases hq) hI hI.1 ha hlen ⟨yc_ti (by omega) (by omega), yc_ti (by omega) (by omega), trivial⟩
    obtain ⟨r, e1, e2, e3⟩ := yc_no (val := (-1)) hm (by decide +kernel) hr hI' hp t1 t2
    exact ⟨r, u, P', al', Or.inr ⟨fun h => by have : 1 ≤ w0.toInt := h.1.1; omega, e1, rfl⟩, e2, e3, hp.1, hl⟩
  by_cases c2 : 60 < w0.toInt
  · obtain ⟨rv, P', al', X, hm, hr, hI', hp, hl⟩ := z_usePostN (K := z_Kk375) (ts := [.inl (0, 0, 0, 61, 2147483647), .inl (0, 0, 0, 0, 1)]) (vs := [.int w0, .int b]) (F := []) (bd := []) (N := [0]) (HE := z_H0c) rfl z_Kn375 rfl rfl (by decide +kernel) rfl rfl hI.1 (fun q hq => by cases hq) hI hI.1 ha hlen ⟨yc_ti (by omega) (by omega), yc_ti (by omega) (by omega), trivial⟩
    obtain ⟨r, e1, e2, e3⟩ := yc_no (val := (-1)) hm (by decide +kernel) hr hI' hp t1 t2
    exact ⟨r, u, P', al', Or.inr ⟨fun h => by have : w0.toInt ≤ 60 := h.1.2; omega, e1, rfl⟩, e2, e3, hp.1, hl⟩
  by_cases c3 : 6 < yc_pv u
  · have hH : z_gh (z_strs (z_G xs)) [0] al (z_H0c.set 13 ((z_hg 13).1, (z_hg 13).2.1, none, ((z_hg 13).2.2.2.set 9 (.inl (0, 0, 0, 7, 7))))) P := z_gh_name hI.1 t1.2 rfl rfl rfl (yc_ti (x := Int32.ofInt u.2) (by show 7 ≤ yc_pv u; omega) (by show yc_pv u ≤ 7; omega))
    obtain ⟨rv, P', al', X, hm, hr, hI', hp, hl⟩ := z_usePostN (K := z_Kk377) (ts := [.inl (0, 0, 0, (-2147483648), 2147483647), .inl (0, 0, 0, 0, 1)]) (vs := [.int w0, .int b]) (F := []) (bd := []) (N := [0]) (HE := (z_H0c.set 13 ((z_hg 13).1, (z_hg 13).2.1, none, ((z_hg 13).2.2.2.set 9 (.inl (0, 0, 0, 7, 7)))))) rfl z_Kn377 rfl rfl (by decide +kernel) rfl rfl hI.1 (fun q hq => by cases hq) hI hH ha hlen ⟨z_tI_ok _, yc_ti (by omega) (by omega), trivial⟩
    obtain ⟨r, e1, e2, e3⟩ := yc_no (val := (-1)) hm (by decide +kernel) hr hI' hp t1 t2
    exact ⟨r, u, P', al', Or.inr ⟨fun h => by have : yc_pv u ≤ 6 := h.2; omega, e1, rfl⟩, e2, e3, hp.1, hl⟩
  have hH : z_gh (z_strs (z_G xs)) [0, yc_pv u] al (z_H0c.set 13 ((z_hg 13).1, (z_hg 13).2.1, none, ((z_hg 13).2.2.2.set 9 (.inl (1, 0, 0, 0, 6))))) P := z_gh_name (hI.1.mono ⟨_, rfl⟩) t1.2 rfl rfl rfl (yc_tn (k := 1) (x := Int32.ofInt u.2) rfl hpv.1 (by show yc_pv u ≤ 6; omega))
  obtain ⟨rv, P', al', X, hm, hr, hI', hp, hl⟩ := z_usePostN (K := z_Kk376) (ts := [.inl (0, 0, 0, 1, 60), .inl (0, 0, 0, 0, 1)]) (vs := [.int w0, .int b]) (F := [(1, 1, 0)]) (bd := [(1, 1, 0)]) (N := [0, yc_pv u]) (HE := (z_H0c.set 13 ((z_hg 13).1, (z_hg 13).2.1, none, ((z_hg 13).2.2.2.set 9 (.inl (1, 0, 0, 0, 6)))))) (yc_bN2 _) z_Kn376 rfl rfl (by decide +kernel) rfl rfl (hI.1.mono ⟨_, rfl⟩) (fun q hq => by rw [List.mem_singleton] at hq; subst hq; exact ⟨_, _, rfl, rfl, by show yc_pv u + 0 ≤ yc_pv u; omega⟩) hI hH ha hlen ⟨yc_ti (by omega) (by omega), yc_ti (by omega) (by omega), trivial⟩
  have hck : ((z_Kk376).2.2.2.2.1.all fun X => yc_isa 1 0 X.1 && ((ye_pC X && yc_isp X 13 9 1 1) && yc_pM X)) = true := by decide +kernel
  have h := List.all_eq_true.mp hck X hm
  rw [Bool.and_eq_true, Bool.and_eq_true, Bool.and_eq_true] at h
  obtain ⟨h1, ⟨h2, h3⟩, h4⟩ := h
  obtain ⟨r, e1, e2⟩ := yc_isa_ok (by decide) h1 (w := yc_pv u) rfl hp.2.2.2.1
  subst e1
  exact ⟨r, (u.1, yc_pv u + 1), P', al', Or.inl ⟨(show yc_okH u w0 from ⟨⟨by omega, by omega⟩, by omega⟩), by show r.toInt = yc_pv u; omega, rfl⟩, hr, ⟨hI', ⟨ye_pC_ok hp h2 t1.1, yc_isp_ok (by decide) h3 (w := yc_pv u) rfl hp t1.2⟩, yc_pM_ok hp h4 t2⟩, hp.1, hl⟩
theorem ye_blowM : z_Told xs 262 90 true ye_SpBl 3 := by
  intro al P a u v ws ⟨hI, t1, t2⟩ ha hlen hws
  match ws, hws with
  | [w0, w1, w2], _ =>
    have b0 := w0.le_toInt
    have d0 := w0.toInt_lt
    have b1 := w1.le_toInt
    have d1 := w1.toInt_lt
    have b2 := w2.le_toInt
    have d2 := w2.toInt_lt
    have hpv := yc_tp_in hI.1 t2.2 rfl rfl rfl
    have hlv := yc_tp_in hI.1 t2.1.2.2.2.1 rfl rfl rfl
    have p0 : 0 ≤ yc_pv v ∧ yc_pv v ≤ 7 := hpv
    have l0 : 0 ≤ yc_lv v ∧ yc_lv v ≤ 24 := hlv
    by_cases c1 : w0.toInt < -60
    · obtain ⟨rv, P', al', X, hm, hr, hI', hp, hl⟩ := z_usePostN (K := z_Kk420) (ts := [.inl (0, 0, 0, (-2147483648), (-61)), .inl (0, 0, 0, (-2147483648), 2147483647), .inl (0, 0, 0, (-2147483648), 2147483647)]) (vs := [.int w0, .int w1, .int w2]) (F := []) (bd := []) (N := [0]) (HE := z_H0c) rfl z_Kn420 rfl rfl (by decide +kernel) rfl rfl hI.1 (fun q hq => by cases hq) hI hI.1 ha hlen ⟨yc_ti (by omega) (by omega), z_tI_ok _, z_tI_ok _, trivial⟩
      obtain ⟨r, e1, e2, e3⟩ := yc_no (val := (-1)) hm (by decide +kernel) hr hI' hp t1 t2
      exact ⟨r, v, P', al', Or.inr ⟨fun h => by have : -60 ≤ w0.toInt := h.1.1; omega, e1, rfl⟩, e2, e3, hp.1, hl⟩
    by_cases c2 : 60 < w0.toInt
    · obtain ⟨rv, P', al', X, hm, hr, hI', hp, hl⟩ := z_usePostN (K := z_Kk421) (ts := [.inl (0, 0, 0, 61, 2147483647), .inl (0, 0, 0, (-2147483648), 2147483647), .inl (0, 0, 0, (-2147483648), 2147483647)]) (vs := [.int w0, .int w1, .int w2]) (F := []) (bd := []) (N := [0]) (HE := z_H0c) rfl z_Kn421 rfl rfl (by decide +kernel) rfl rfl hI.1 (fun q hq => by cases hq) hI hI.1 ha hlen ⟨yc_ti (by omega) (by omega), z_tI_ok _, z_tI_ok _, trivial⟩
      obtain ⟨r, e1, e2, e3⟩ := yc_no (val := (-1)) hm (by decide +kernel) hr hI' hp t1 t2
      exact ⟨r, v, P', al', Or.inr ⟨fun h => by have : w0.toInt ≤ 60 := h.1.2; omega, e1, rfl⟩, e2, e3, hp.1, hl⟩
    by_cases c3 : w1.toInt < 0
    · obtain ⟨rv, P', al', X, hm, hr, hI', hp, hl⟩ := z_usePostN (K := z_Kk415) (ts := [.inl (0, 0, 0, (-2147483648), 2147483647), .inl (0, 0, 0, (-2147483648), (-1)), .inl (0, 0, 0, (-2147483648), 2147483647)]) (vs := [.int w0, .int w1, .int w2]) (F := []) (bd := []) (N := [0]) (HE := z_H0c) rfl z_Kn415 rfl rfl (by decide +kernel) rfl rfl hI.1 (fun q hq => by cases hq) hI hI.1 ha hlen ⟨z_tI_ok _, yc_ti (by omega) (by omega), z_tI_ok _, trivial⟩
      obtain ⟨r, e1, e2, e3⟩ := yc_no (val := (-1)) hm (by decide +kernel) hr hI' hp t1 t2
      exact ⟨r, v, P', al', Or.inr ⟨fun h => by have : 0 ≤ w1.toInt := h.2.1.1; omega, e1, rfl⟩, e2, e3, hp.1, hl⟩
    by_cases c4 : w2.toInt < w1.toInt
    · obtain ⟨rv, P', al', X, hm, hr, hI', hp, hl⟩ := z_usePostN (K := z_Kk416) (ts := [.inl (0, 0, 0, (-2147483648), 2147483647), .inl (2, 0, 0, (-2147483648), 2147483647), .inl (1, 0, 0, (-2147483648), 2147483647)]) (vs := [.int w0, .int w1, .int w2]) (F := [(1, 2, 1)]) (bd := [(1, 1, 0), (2, 2, 0)]) (N := [0, w2.toInt, w1.toInt]) (HE := z_H0c) (yc_bN3 _ _) z_Kn416 rfl rfl (by decide +kernel) rfl rfl (hI.1.mono ⟨_, rfl⟩) (fun q hq => by rw [List.mem_singleton] at hq; subst hq; exact ⟨_, _, rfl, rfl, by show w2.toInt + 1 ≤ w1.toInt; omega⟩) hI (hI.1.mono ⟨_, rfl⟩) ha hlen ⟨z_tI_ok _, yc_tn rfl (by omega) (by omega), yc_tn rfl (by omega) (by omega), trivial⟩
      obtain ⟨r, e1, e2, e3⟩ := yc_no (val := (-1)) hm (by decide +kernel) hr hI' hp t1 t2
      exact ⟨r, v, P', al', Or.inr ⟨fun h => by have : w1.toInt ≤ w2.toInt := h.2.1.2.1; omega, e1, rfl⟩, e2, e3, hp.1, hl⟩
    by_cases c5 : yc_lv v ≤ w2.toInt
    · have hH : z_gh (z_strs (z_G xs)) [0, yc_lv v, w2.toInt] al (z_H0c.set 90 ((z_hg 90).1, (z_hg 90).2.1, none, ((z_hg 90).2.2.2.set 5 (.inl (1, 0, 0, 0, 24))))) P := z_gh_name (hI.1.mono ⟨_, rfl⟩) t2.1.2.2.2.1 rfl rfl rfl (yc_tn (k := 1) (x := Int32.ofInt v.1.2.2.1) rfl hlv.1 hlv.2)
      obtain ⟨rv, P', al', X, hm, hr, hI', hp, hl⟩ := z_usePostN (K := z_Kk419) (ts := [.inl (0, 0, 0, (-2147483648), 2147483647), .inl (0, 0, 0, (-2147483648), 2147483647), .inl (2, 0, 0, (-2147483648), 2147483647)]) (vs := [.int w0, .int w1, .int w2]) (F := [(1, 2, 0)]) (bd := [(1, 1, 0), (2, 2, 0)]) (N := [0, yc_lv v, w2.toInt]) (HE := (z_H0c.set 90 ((z_hg 90).1, (z_hg 90).2.1, none, ((z_hg 90).2.2.2.set 5 (.inl (1, 0, 0, 0, 24)))))) (yc_bN3 _ _) z_Kn419 rfl rfl (by decide +kernel) rfl rfl (hI.1.mono ⟨_, rfl⟩) (fun q hq => by rw [List.mem_singleton] at hq; subst hq; exact ⟨_, _, rfl, rfl, by show yc_lv v + 0 ≤ w2.toInt; omega⟩) hI hH ha hlen ⟨z_tI_ok _, z_tI_ok _, yc_tn rfl (by omega) (by omega), trivial⟩
      obtain ⟨r, e1, e2, e3⟩ := yc_no (val := (-1)) hm (by decide +kernel) hr hI' hp t1 t2
      exact ⟨r, v, P', al', Or.inr ⟨fun h => by have : w2.toInt < yc_lv v := h.2.1.2.2; omega, e1, rfl⟩, e2, e3, hp.1, hl⟩
    by_cases c6 : 6 < yc_pv v
    · have hH : z_gh (z_strs (z_G xs)) [0] al (z_H0c.set 90 ((z_hg 90).1, (z_hg 90).2.1, none, ((z_hg 90).2.2.2.set 44 (.inl (0, 0, 0, 7, 7))))) P := z_gh_name hI.1 t2.2 rfl rfl rfl (yc_ti (x := Int32.ofInt v.2) (by show 7 ≤ yc_pv v; omega) (by show yc_pv v ≤ 7; omega))
      obtain ⟨rv, P', al', X, hm, hr, hI', hp, hl⟩ := z_usePostN (K := z_Kk418) (ts := [.inl (0, 0, 0, (-2147483648), 2147483647), .inl (0, 0, 0, (-2147483648), 2147483647), .inl (0, 0, 0, (-2147483648), 2147483647)]) (vs := [.int w0, .int w1, .int w2]) (F := []) (bd := []) (N := [0]) (HE := (z_H0c.set 90 ((z_hg 90).1, (z_hg 90).2.1, none, ((z_hg 90).2.2.2.set 44 (.inl (0, 0, 0, 7, 7)))))) rfl z_Kn418 rfl rfl (by decide +kernel) rfl rfl hI.1 (fun q hq => by cases hq) hI hH ha hlen ⟨z_tI_ok _, z_tI_ok _, z_tI_ok _, trivial⟩
      obtain ⟨r, e1, e2, e3⟩ := yc_no (val := (-1)) hm (by decide +kernel) hr hI' hp t1 t2
      exact ⟨r, v, P', al', Or.inr ⟨fun h => by have : yc_pv v ≤ 6 := h.2.2; omega, e1, rfl⟩, e2, e3, hp.1, hl⟩
    have hH0 : z_gh (z_strs (z_G xs)) [0, yc_pv v, w1.toInt, w2.toInt, yc_lv v] al (z_H0c.set 90 ((z_hg 90).1, (z_hg 90).2.1, none, ((z_hg 90).2.2.2.set 44 (.inl (1, 0, 0, 0, 6))))) P := z_gh_name (hI.1.mono ⟨_, rfl⟩) t2.2 rfl rfl rfl (yc_tn (k := 1) (x := Int32.ofInt v.2) rfl hpv.1 (by show yc_pv v ≤ 6; omega))
    have hH1 := z_gh_name (A := ((z_hg 90).1, (z_hg 90).2.1, none, ((z_hg 90).2.2.2.set 44 (.inl (1, 0, 0, 0, 6))))) (tok := (.inl (4, 0, 0, 0, 24))) hH0 t2.1.2.2.2.1 rfl rfl rfl (yc_tn (k := 4) (x := Int32.ofInt v.1.2.2.1) rfl hlv.1 hlv.2)
    rw [List.set_set] at hH1
    have hH : z_gh (z_strs (z_G xs)) [0, yc_pv v, w1.toInt, w2.toInt, yc_lv v] al (z_H0c.set 90 ((z_hg 90).1, (z_hg 90).2.1, none, (((z_hg 90).2.2.2.set 44 (.inl (1, 0, 0, 0, 6))).set 5 (.inl (4, 0, 0, 0, 24))))) P := hH1
    obtain ⟨rv, P', al', X, hm, hr, hI', hp, hl⟩ := z_usePostN (K := z_Kk417) (ts := [.inl (0, 0, 0, (-60), 60), .inl (2, 0, 0, 0, 23), .inl (3, 0, 0, 0, 23)]) (vs := [.int w0, .int w1, .int w2]) (F := [(1, 1, 0), (2, 3, 0), (3, 4, 1), (2, 4, 1)]) (bd := [(1, 1, 0), (2, 2, 0), (3, 3, 0), (4, 4, 0)]) (N := [0, yc_pv v, w1.toInt, w2.toInt, yc_lv v]) (HE := (z_H0c.set 90 ((z_hg 90).1, (z_hg 90).2.1, none, (((z_hg 90).2.2.2.set 44 (.inl (1, 0, 0, 0, 6))).set 5 (.inl (4, 0, 0, 0, 24)))))) (yc_bN5 _ _ _ _) z_Kn417 rfl rfl (by decide +kernel) rfl rfl (hI.1.mono ⟨_, rfl⟩) (fun q hq => by
      simp only [List.mem_cons, List.not_mem_nil, or_false] at hq
      rcases hq with rfl | rfl | rfl | rfl
      · exact ⟨_, _, rfl, rfl, by show yc_pv v + 0 ≤ yc_pv v; omega⟩
      · exact ⟨_, _, rfl, rfl, by show w1.toInt + 0 ≤ w2.toInt; omega⟩
      · exact ⟨_, _, rfl, rfl, by show w2.toInt + 1 ≤ yc_lv v; omega⟩
      · exact ⟨_, _, rfl, rfl, by show w1.toInt + 1 ≤ yc_lv v; omega⟩) hI hH ha hlen ⟨yc_ti (by omega) (by omega), yc_tn (k := 2) rfl (by omega) (by omega), yc_tn (k := 3) rfl (by omega) (by omega), trivial⟩
    have hck : ((z_Kk417).2.2.2.2.1.all fun X => yc_isa 1 0 X.1 && ((ye_pM X && yc_isp X 90 44 1 1) && yc_pC X)) = true := by decide +kernel
    have h := List.all_eq_true.mp hck X hm
    rw [Bool.and_eq_true, Bool.and_eq_true, Bool.and_eq_true] at h
    obtain ⟨h1, ⟨h2, h3⟩, h4⟩ := h
    obtain ⟨r, e1, e2⟩ := yc_isa_ok (by decide) h1 (w := yc_pv v) rfl hp.2.2.2.1
    subst e1
    exact ⟨r, (v.1, yc_pv v + 1), P', al', Or.inl ⟨(show yc_okB v w0 w1 w2 from ⟨⟨by omega, by omega⟩, ⟨by omega, by omega, by omega⟩, by omega⟩), by show r.toInt = yc_pv v; omega, rfl⟩, hr, ⟨hI', yc_pC_ok hp h4 t1, ⟨ye_pM_ok hp h2 t2.1, yc_isp_ok (by decide) h3 (w := yc_pv v) rfl hp t2.2⟩⟩, hp.1, hl⟩
theorem ye_holeM : z_ToldH xs 264 90 true ye_SpHo := by
  intro al P a u v w0 b ⟨hI, t1, t2⟩ ha hlen hb
  have b0 := w0.le_toInt
  have d0 := w0.toInt_lt
  have hpv := yc_tp_in hI.1 t2.2 rfl rfl rfl
  have p0 : 0 ≤ yc_pv v ∧ yc_pv v ≤ 7 := hpv
  by_cases c1 : w0.toInt < 1
  · obtain ⟨rv, P', al', X, hm, hr, hI', hp, hl⟩ := z_usePostN (K := z_Kk422) (ts := [.inl (0, 0, 0, (-2147483648), 0), .inl (0, 0, 0, 0, 1)]) (vs := [.int w0, .int b]) (F := []) (bd := []) (N := [0]) (HE := z_H0c) rfl z_Kn422 rfl rfl (by decide +kernel) rfl rfl hI.1 (fun q hq => by cases hq) hI hI.1 ha hlen ⟨yc_ti (by omega) (by omega), yc_ti (by omega) (by omega), trivial⟩
    obtain ⟨r, e1, e2, e3⟩ := yc_no (val := (-1)) hm (by decide +kernel) hr hI' hp t1 t2
    exact ⟨r, v, P', al', Or.inr ⟨fun h => by have : 1 ≤ w0.toInt := h.1.1; omega, e1, rfl⟩, e2, e3, hp.1, hl⟩
  by_cases c2 : 60 < w0.toInt
  · obtain ⟨rv, P', al', X, hm, hr, hI', hp, hl⟩ := z_usePostN (K := z_Kk423) (ts := [.inl (0, 0, 0, 61, 2147483647), .inl (0, 0, 0, 0, 1)]) (vs := [.int w0, .int b]) (F := []) (bd := []) (N := [0]) (HE := z_H0c) rfl z_Kn423 rfl rfl (by decide +kernel) rfl rfl hI.1 (fun q hq => by cases hq) hI hI.1 ha hlen ⟨yc_ti (by omega) (by omega), yc_ti (by omega) (by omega), trivial⟩
    obtain ⟨r, e1, e2, e3⟩ := yc_no (val := (-1)) hm (by decide +kernel) hr hI' hp t1 t2
    exact ⟨r, v, P', al', Or.inr ⟨fun h => by have : w0.toInt ≤ 60 := h.1.2; omega, e1, rfl⟩, e2, e3, hp.1, hl⟩
  by_cases c3 : 6 < yc_pv v
  · have hH : z_gh (z_strs (z_G xs)) [0] al (z_H0c.set 90 ((z_hg 90).1, (z_hg 90).2.1, none, ((z_hg 90).2.2.2.set 44 (.inl (0, 0, 0, 7, 7))))) P := z_gh_name hI.1 t2.2 rfl rfl rfl (yc_ti (x := Int32.ofInt v.2) (by show 7 ≤ yc_pv v; omega) (by show yc_pv v ≤ 7; omega))
    obtain ⟨rv, P', al', X, hm, hr, hI', hp, hl⟩ := z_usePostN (K := z_Kk425) (ts := [.inl (0, 0, 0, (-2147483648), 2147483647), .inl (0, 0, 0, 0, 1)]) (vs := [.int w0, .int b]) (F := []) (bd := []) (N := [0]) (HE := (z_H0c.set 90 ((z_hg 90).1, (z_hg 90).2.1, none, ((z_hg 90).2.2.2.set 44 (.inl (0, 0, 0, 7, 7)))))) rfl z_Kn425 rfl rfl (by decide +kernel) rfl rfl hI.1 (fun q hq => by cases hq) hI hH ha hlen ⟨z_tI_ok _, yc_ti (by omega) (by omega), trivial⟩
    obtain ⟨r, e1, e2, e3⟩ := yc_no (val := (-1)) hm (by decide +kernel) hr hI' hp t1 t2
    exact ⟨r, v, P', al', Or.inr ⟨fun h => by have : yc_pv v ≤ 6 := h.2; omega, e1, rfl⟩, e2, e3, hp.1, hl⟩
  have hH : z_gh (z_strs (z_G xs)) [0, yc_pv v] al (z_H0c.set 90 ((z_hg 90).1, (z_hg 90).2.1, none, ((z_hg 90).2.2.2.set 44 (.inl (1, 0, 0, 0, 6))))) P := z_gh_name (hI.1.mono ⟨_, rfl⟩) t2.2 rfl rfl rfl (yc_tn (k := 1) (x := Int32.ofInt v.2) rfl hpv.1 (by show yc_pv v ≤ 6; omega))
  obtain ⟨rv, P', al', X, hm, hr, hI', hp, hl⟩ := z_usePostN (K := z_Kk424) (ts := [.inl (0, 0, 0, 1, 60), .inl (0, 0, 0, 0, 1)]) (vs := [.int w0, .int b]) (F := [(1, 1, 0)]) (bd := [(1, 1, 0)]) (N := [0, yc_pv v]) (HE := (z_H0c.set 90 ((z_hg 90).1, (z_hg 90).2.1, none, ((z_hg 90).2.2.2.set 44 (.inl (1, 0, 0, 0, 6)))))) (yc_bN2 _) z_Kn424 rfl rfl (by decide +kernel) rfl rfl (hI.1.mono ⟨_, rfl⟩) (fun q hq => by rw [List.mem_singleton] at hq; subst hq; exact ⟨_, _, rfl, rfl, by show yc_pv v + 0 ≤ yc_pv v; omega⟩) hI hH ha hlen ⟨yc_ti (by omega) (by omega), yc_ti (by omega) (by omega), trivial⟩
  have hck : ((z_Kk424).2.2.2.2.1.all fun X => yc_isa 1 0 X.1 && ((ye_pM X && yc_isp X 90 44 1 1) && yc_pC X)) = true := by decide +kernel
  have h := List.all_eq_true.mp hck X hm
  rw [Bool.and_eq_true, Bool.and_eq_true, Bool.and_eq_true] at h
  obtain ⟨h1, ⟨h2, h3⟩, h4⟩ := h
  obtain ⟨r, e1, e2⟩ := yc_isa_ok (by decide) h1 (w := yc_pv v) rfl hp.2.2.2.1
  subst e1
  exact ⟨r, (v.1, yc_pv v + 1), P', al', Or.inl ⟨(show yc_okH v w0 from ⟨⟨by omega, by omega⟩, by omega⟩), by show r.toInt = yc_pv v; omega, rfl⟩, hr, ⟨hI', yc_pC_ok hp h4 t1, ⟨ye_pM_ok hp h2 t2.1, yc_isp_ok (by decide) h3 (w := yc_pv v) rfl hp t2.2⟩⟩, hp.1, hl⟩
end YCPS
