/-! odds, told on both sides. -/
section YCOD
variable {xs : List Int32}
def yc_sv (g : yc_G) : Int := (Int32.ofInt g.1.2.1).toInt
def yc_nv (g : yc_G) : Int := (Int32.ofInt g.2).toInt
def yc_okO (g : yc_G) (w0 w1 w2 w3 : Int32) : Prop := (0 ≤ w0.toInt ∧ w0.toInt < yc_sv g) ∧ (0 ≤ w1.toInt ∧ w1.toInt < yc_nv g) ∧ (0 ≤ w2.toInt ∧ w2.toInt ≤ w3.toInt ∧ w3.toInt < yc_lv g)
def ye_SpOd (g : yc_G) (ws : List Int32) (r : Int32) (w : yc_G) : Prop := w = g ∧ ((yc_okO g (ws.getD 0 0) (ws.getD 1 0) (ws.getD 2 0) (ws.getD 3 0) ∧ r.toInt = 0) ∨ (¬ yc_okO g (ws.getD 0 0) (ws.getD 1 0) (ws.getD 2 0) (ws.getD 3 0) ∧ r.toInt = -1))
theorem ye_SpOd_det {g : yc_G} {ws : List Int32} {r r' : Int32} {w w' : yc_G} (h : ye_SpOd g ws r w) (h' : ye_SpOd g ws r' w') : r = r' ∧ w = w' := by
  refine ⟨?_, by rw [h.1, h'.1]⟩
  rcases h.2 with ⟨a1, a4⟩ | ⟨a1, a4⟩ <;> rcases h'.2 with ⟨c1, c4⟩ | ⟨c1, c4⟩
  · exact Int32.toInt_inj.mp (by omega)
  · exact absurd a1 c1
  · exact absurd c1 a1
  · exact Int32.toInt_inj.mp (by omega)
theorem ye_oddsC : z_Told xs 125 13 false ye_SpOd 4 := by
  intro al P a u v ws ⟨hI, t1, t2⟩ ha hlen hws
  match ws, hws with
  | [w0, w1, w2, w3], _ =>
    have b0 := w0.le_toInt
    have d0 := w0.toInt_lt
    have b1 := w1.le_toInt
    have d1 := w1.toInt_lt
    have b2 := w2.le_toInt
    have d2 := w2.toInt_lt
    have b3 := w3.le_toInt
    have d3 := w3.toInt_lt
    have hlv := yc_tp_in hI.1 t1.1.2.2.2.1 rfl rfl rfl
    have hsv := yc_tp_in hI.1 t1.1.2.2.1 rfl rfl rfl
    have l0 : 1 ≤ yc_lv u ∧ yc_lv u ≤ 24 := hlv
    have s0 : 0 ≤ yc_sv u ∧ yc_sv u ≤ 10 := hsv
    by_cases c1 : w0.toInt < 0
    · have hq0 : z_gh (z_strs (z_G xs)) [0] al z_H0c P := hI.1
      have hH : z_gh (z_strs (z_G xs)) [0] al z_H0c P := hq0
      obtain ⟨rv, P', al', X, hm, hr, hI', hp, hl⟩ := z_usePostN (K := z_Kk364) (ts := [.inl (0, 0, 0, (-2147483648), (-1)), .inl (0, 0, 0, (-2147483648), 2147483647), .inl (0, 0, 0, (-2147483648), 2147483647), .inl (0, 0, 0, (-2147483648), 2147483647)]) (vs := [.int w0, .int w1, .int w2, .int w3]) (F := []) (bd := []) (N := [0]) (HE := z_H0c) rfl z_Kn364 rfl rfl (by decide +kernel) rfl rfl hq0 (fun q hq => by cases hq) hI hH ha hlen ⟨yc_ti (by omega) (by omega), z_tI_ok _, z_tI_ok _, z_tI_ok _, trivial⟩
      obtain ⟨r, e1, e2, e3⟩ := yc_no (val := (-1)) hm (by decide +kernel) hr hI' hp t1 t2
      exact ⟨r, u, P', al', ⟨rfl, Or.inr ⟨fun h => by have : 0 ≤ w0.toInt := h.1.1; omega, e1⟩⟩, e2, e3, hp.1, hl⟩
    by_cases c2 : yc_sv u ≤ w0.toInt
    · have hq0 : z_gh (z_strs (z_G xs)) [0, yc_sv u, w0.toInt] al z_H0c P := (hI.1.mono ⟨_, rfl⟩)
      have hq1 := z_gh_name (A := z_hg 18) (tok := (.inl (1, 0, 0, 0, 10))) hq0 t1.1.2.2.1 rfl rfl rfl (yc_tn (k := 1) (x := Int32.ofInt u.1.2.1) rfl hsv.1 hsv.2)
      have hH : z_gh (z_strs (z_G xs)) [0, yc_sv u, w0.toInt] al (z_H0c.set 18 ((z_hg 18).1, (z_hg 18).2.1, none, ((z_hg 18).2.2.2.set 5 (.inl (1, 0, 0, 0, 10))))) P := hq1
      obtain ⟨rv, P', al', X, hm, hr, hI', hp, hl⟩ := z_usePostN (K := z_Kk365) (ts := [.inl (2, 0, 0, (-2147483648), 2147483647), .inl (0, 0, 0, (-2147483648), 2147483647), .inl (0, 0, 0, (-2147483648), 2147483647), .inl (0, 0, 0, (-2147483648), 2147483647)]) (vs := [.int w0, .int w1, .int w2, .int w3]) (F := [(1, 2, 0)]) (bd := [(1, 1, 0), (2, 2, 0)]) (N := [0, yc_sv u, w0.toInt]) (HE := (z_H0c.set 18 ((z_hg 18).1, (z_hg 18).2.1, none, ((z_hg 18).2.2.2.set 5 (.inl (1, 0, 0, 0, 10)))))) (yc_bN3 _ _) z_Kn365 rfl rfl (by decide +kernel) rfl rfl hq0 (fun q hq => by rw [List.mem_singleton] at hq; subst hq; exact ⟨_, _, rfl, rfl, by show yc_sv u + 0 ≤ w0.toInt; omega⟩) hI hH ha hlen ⟨yc_tn (k := 2) rfl (by omega) (by omega), z_tI_ok _, z_tI_ok _, z_tI_ok _, trivial⟩
      obtain ⟨r, e1, e2, e3⟩ := yc_no (val := (-1)) hm (by decide +kernel) hr hI' hp t1 t2
      exact ⟨r, u, P', al', ⟨rfl, Or.inr ⟨fun h => by have : w0.toInt < yc_sv u := h.1.2; omega, e1⟩⟩, e2, e3, hp.1, hl⟩
    by_cases c3 : w1.toInt < 0
    · have hq0 : z_gh (z_strs (z_G xs)) [0] al z_H0c P := hI.1
      have hH : z_gh (z_strs (z_G xs)) [0] al z_H0c P := hq0
      obtain ⟨rv, P', al', X, hm, hr, hI', hp, hl⟩ := z_usePostN (K := z_Kk359) (ts := [.inl (0, 0, 0, (-2147483648), 2147483647), .inl (0, 0, 0, (-2147483648), (-1)), .inl (0, 0, 0, (-2147483648), 2147483647), .inl (0, 0, 0, (-2147483648), 2147483647)]) (vs := [.int w0, .int w1, .int w2, .int w3]) (F := []) (bd := []) (N := [0]) (HE := z_H0c) rfl z_Kn359 rfl rfl (by decide +kernel) rfl rfl hq0 (fun q hq => by cases hq) hI hH ha hlen ⟨z_tI_ok _, yc_ti (by omega) (by omega), z_tI_ok _, z_tI_ok _, trivial⟩
      obtain ⟨r, e1, e2, e3⟩ := yc_no (val := (-1)) hm (by decide +kernel) hr hI' hp t1 t2
      exact ⟨r, u, P', al', ⟨rfl, Or.inr ⟨fun h => by have : 0 ≤ w1.toInt := h.2.1.1; omega, e1⟩⟩, e2, e3, hp.1, hl⟩
    by_cases c4 : w2.toInt < 0
    · have hq0 : z_gh (z_strs (z_G xs)) [0] al z_H0c P := hI.1
      have hH : z_gh (z_strs (z_G xs)) [0] al z_H0c P := hq0
      obtain ⟨rv, P', al', X, hm, hr, hI', hp, hl⟩ := z_usePostN (K := z_Kk357) (ts := [.inl (0, 0, 0, (-2147483648), 2147483647), .inl (0, 0, 0, (-2147483648), 2147483647), .inl (0, 0, 0, (-2147483648), (-1)), .inl (0, 0, 0, (-2147483648), 2147483647)]) (vs := [.int w0, .int w1, .int w2, .int w3]) (F := []) (bd := []) (N := [0]) (HE := z_H0c) rfl z_Kn357 rfl rfl (by decide +kernel) rfl rfl hq0 (fun q hq => by cases hq) hI hH ha hlen ⟨z_tI_ok _, z_tI_ok _, yc_ti (by omega) (by omega), z_tI_ok _, trivial⟩
      obtain ⟨r, e1, e2, e3⟩ := yc_no (val := (-1)) hm (by decide +kernel) hr hI' hp t1 t2
      exact ⟨r, u, P', al', ⟨rfl, Or.inr ⟨fun h => by have : 0 ≤ w2.toInt := h.2.2.1; omega, e1⟩⟩, e2, e3, hp.1, hl⟩
    by_cases c5 : w3.toInt < w2.toInt
    · have hq0 : z_gh (z_strs (z_G xs)) [0, w3.toInt, w2.toInt] al z_H0c P := (hI.1.mono ⟨_, rfl⟩)
      have hH : z_gh (z_strs (z_G xs)) [0, w3.toInt, w2.toInt] al z_H0c P := hq0
      obtain ⟨rv, P', al', X, hm, hr, hI', hp, hl⟩ := z_usePostN (K := z_Kk358) (ts := [.inl (0, 0, 0, (-2147483648), 2147483647), .inl (0, 0, 0, (-2147483648), 2147483647), .inl (2, 0, 0, (-2147483648), 2147483647), .inl (1, 0, 0, (-2147483648), 2147483647)]) (vs := [.int w0, .int w1, .int w2, .int w3]) (F := [(1, 2, 1)]) (bd := [(1, 1, 0), (2, 2, 0)]) (N := [0, w3.toInt, w2.toInt]) (HE := z_H0c) (yc_bN3 _ _) z_Kn358 rfl rfl (by decide +kernel) rfl rfl hq0 (fun q hq => by rw [List.mem_singleton] at hq; subst hq; exact ⟨_, _, rfl, rfl, by show w3.toInt + 1 ≤ w2.toInt; omega⟩) hI hH ha hlen ⟨z_tI_ok _, z_tI_ok _, yc_tn (k := 2) rfl (by omega) (by omega), yc_tn (k := 1) rfl (by omega) (by omega), trivial⟩
      obtain ⟨r, e1, e2, e3⟩ := yc_no (val := (-1)) hm (by decide +kernel) hr hI' hp t1 t2
      exact ⟨r, u, P', al', ⟨rfl, Or.inr ⟨fun h => by have : w2.toInt ≤ w3.toInt := h.2.2.2.1; omega, e1⟩⟩, e2, e3, hp.1, hl⟩
    by_cases c6 : yc_lv u ≤ w3.toInt
    · have hq0 : z_gh (z_strs (z_G xs)) [0, yc_lv u, w3.toInt] al z_H0c P := (hI.1.mono ⟨_, rfl⟩)
      have hq1 := z_gh_name (A := z_hg 18) (tok := (.inl (1, 0, 0, 1, 24))) hq0 t1.1.2.2.2.1 rfl rfl rfl (yc_tn (k := 1) (x := Int32.ofInt u.1.2.2.1) rfl hlv.1 hlv.2)
      have hH : z_gh (z_strs (z_G xs)) [0, yc_lv u, w3.toInt] al (z_H0c.set 18 ((z_hg 18).1, (z_hg 18).2.1, none, ((z_hg 18).2.2.2.set 6 (.inl (1, 0, 0, 1, 24))))) P := hq1
      obtain ⟨rv, P', al', X, hm, hr, hI', hp, hl⟩ := z_usePostN (K := z_Kk366) (ts := [.inl (0, 0, 0, (-2147483648), 2147483647), .inl (0, 0, 0, (-2147483648), 2147483647), .inl (0, 0, 0, (-2147483648), 2147483647), .inl (2, 0, 0, (-2147483648), 2147483647)]) (vs := [.int w0, .int w1, .int w2, .int w3]) (F := [(1, 2, 0)]) (bd := [(1, 1, 0), (2, 2, 0)]) (N := [0, yc_lv u, w3.toInt]) (HE := (z_H0c.set 18 ((z_hg 18).1, (z_hg 18).2.1, none, ((z_hg 18).2.2.2.set 6 (.inl (1, 0, 0, 1, 24)))))) (yc_bN3 _ _) z_Kn366 rfl rfl (by decide +kernel) rfl rfl hq0 (fun q hq => by rw [List.mem_singleton] at hq; subst hq; exact ⟨_, _, rfl, rfl, by show yc_lv u + 0 ≤ w3.toInt; omega⟩) hI hH ha hlen ⟨z_tI_ok _, z_tI_ok _, z_tI_ok _, yc_tn (k := 2) rfl (by omega) (by omega), trivial⟩
      obtain ⟨r, e1, e2, e3⟩ := yc_no (val := (-1)) hm (by decide +kernel) hr hI' hp t1 t2
      exact ⟨r, u, P', al', ⟨rfl, Or.inr ⟨fun h => by have : w3.toInt < yc_lv u := h.2.2.2.2; omega, e1⟩⟩, e2, e3, hp.1, hl⟩
    obtain ⟨aO, aG, cO, h5, h6, hne, hcO, hal, hf, q, hq, hq3⟩ := t1.2
    have htp : z_tp cO 3 al P (ye_v u.2) := ⟨aO, q, hal, hf, hq, hq3⟩
    have hnv : 0 ≤ yc_nv u ∧ yc_nv u ≤ 10 := by
      rcases hcO with rfl | rfl
      · exact yc_tp_in hI.1 htp rfl rfl rfl
      · exact yc_tp_in hI.1 htp rfl rfl rfl
    by_cases c7 : yc_nv u ≤ w1.toInt
    · rcases hcO with rfl | rfl
      · have hq0 : z_gh (z_strs (z_G xs)) [0, yc_nv u, w1.toInt] al z_H0c P := (hI.1.mono ⟨_, rfl⟩)
        have hq1 := z_gh_name (A := z_hg 13) (tok := (.inr (.inr (false, [53])))) hq0 h5 rfl rfl rfl (Or.inr ⟨aO, 53, rfl, hal, List.mem_singleton_self _⟩)
        have hq2 := z_gh_name (A := z_hg 53) (tok := (.inl (1, 0, 0, 0, 10))) hq1 htp rfl rfl rfl (yc_tn (k := 1) (x := Int32.ofInt u.2) rfl hnv.1 hnv.2)
        have hH : z_gh (z_strs (z_G xs)) [0, yc_nv u, w1.toInt] al ((z_H0c.set 13 ((z_hg 13).1, (z_hg 13).2.1, none, ((z_hg 13).2.2.2.set 5 (.inr (.inr (false, [53])))))).set 53 ((z_hg 53).1, (z_hg 53).2.1, none, ((z_hg 53).2.2.2.set 3 (.inl (1, 0, 0, 0, 10))))) P := hq2
        obtain ⟨rv, P', al', X, hm, hr, hI', hp, hl⟩ := z_usePostN (K := z_Kk360) (ts := [.inl (0, 0, 0, (-2147483648), 2147483647), .inl (2, 0, 0, (-2147483648), 2147483647), .inl (0, 0, 0, (-2147483648), 2147483647), .inl (0, 0, 0, (-2147483648), 2147483647)]) (vs := [.int w0, .int w1, .int w2, .int w3]) (F := [(1, 2, 0)]) (bd := [(1, 1, 0), (2, 2, 0)]) (N := [0, yc_nv u, w1.toInt]) (HE := ((z_H0c.set 13 ((z_hg 13).1, (z_hg 13).2.1, none, ((z_hg 13).2.2.2.set 5 (.inr (.inr (false, [53])))))).set 53 ((z_hg 53).1, (z_hg 53).2.1, none, ((z_hg 53).2.2.2.set 3 (.inl (1, 0, 0, 0, 10)))))) (yc_bN3 _ _) z_Kn360 rfl rfl (by decide +kernel) rfl rfl hq0 (fun q hq => by rw [List.mem_singleton] at hq; subst hq; exact ⟨_, _, rfl, rfl, by show yc_nv u + 0 ≤ w1.toInt; omega⟩) hI hH ha hlen ⟨z_tI_ok _, yc_tn (k := 2) rfl (by omega) (by omega), z_tI_ok _, z_tI_ok _, trivial⟩
        obtain ⟨r, e1, e2, e3⟩ := yc_no (val := (-1)) hm (by decide +kernel) hr hI' hp t1 t2
        exact ⟨r, u, P', al', ⟨rfl, Or.inr ⟨fun h => by have : w1.toInt < yc_nv u := h.2.1.2; omega, e1⟩⟩, e2, e3, hp.1, hl⟩
      · have hq0 : z_gh (z_strs (z_G xs)) [0, yc_nv u, w1.toInt] al z_H0c P := (hI.1.mono ⟨_, rfl⟩)
        have hq1 := z_gh_name (A := z_hg 13) (tok := (.inr (.inr (false, [57])))) hq0 h5 rfl rfl rfl (Or.inr ⟨aO, 57, rfl, hal, List.mem_singleton_self _⟩)
        have hq2 := z_gh_name (A := z_hg 57) (tok := (.inl (1, 0, 0, 0, 10))) hq1 htp rfl rfl rfl (yc_tn (k := 1) (x := Int32.ofInt u.2) rfl hnv.1 hnv.2)
        have hH : z_gh (z_strs (z_G xs)) [0, yc_nv u, w1.toInt] al ((z_H0c.set 13 ((z_hg 13).1, (z_hg 13).2.1, none, ((z_hg 13).2.2.2.set 5 (.inr (.inr (false, [57])))))).set 57 ((z_hg 57).1, (z_hg 57).2.1, none, ((z_hg 57).2.2.2.set 3 (.inl (1, 0, 0, 0, 10))))) P := hq2
        obtain ⟨rv, P', al', X, hm, hr, hI', hp, hl⟩ := z_usePostN (K := z_Kk361) (ts := [.inl (0, 0, 0, (-2147483648), 2147483647), .inl (2, 0, 0, (-2147483648), 2147483647), .inl (0, 0, 0, (-2147483648), 2147483647), .inl (0, 0, 0, (-2147483648), 2147483647)]) (vs := [.int w0, .int w1, .int w2, .int w3]) (F := [(1, 2, 0)]) (bd := [(1, 1, 0), (2, 2, 0)]) (N := [0, yc_nv u, w1.toInt]) (HE := ((z_H0c.set 13 ((z_hg 13).1, (z_hg 13).2.1, none, ((z_hg 13).2.2.2.set 5 (.inr (.inr (false, [57])))))).set 57 ((z_hg 57).1, (z_hg 57).2.1, none, ((z_hg 57).2.2.2.set 3 (.inl (1, 0, 0, 0, 10)))))) (yc_bN3 _ _) z_Kn361 rfl rfl (by decide +kernel) rfl rfl hq0 (fun q hq => by rw [List.mem_singleton] at hq; subst hq; exact ⟨_, _, rfl, rfl, by show yc_nv u + 0 ≤ w1.toInt; omega⟩) hI hH ha hlen ⟨z_tI_ok _, yc_tn (k := 2) rfl (by omega) (by omega), z_tI_ok _, z_tI_ok _, trivial⟩
        obtain ⟨r, e1, e2, e3⟩ := yc_no (val := (-1)) hm (by decide +kernel) hr hI' hp t1 t2
        exact ⟨r, u, P', al', ⟨rfl, Or.inr ⟨fun h => by have : w1.toInt < yc_nv u := h.2.1.2; omega, e1⟩⟩, e2, e3, hp.1, hl⟩
    rcases hcO with rfl | rfl
    · have hq0 : z_gh (z_strs (z_G xs)) [0, w0.toInt, yc_sv u, w1.toInt, yc_nv u, w2.toInt, w3.toInt, yc_lv u] al z_H0c P := (hI.1.mono ⟨_, rfl⟩)
      have hq1 := z_gh_name (A := z_hg 13) (tok := (.inr (.inr (false, [53])))) hq0 h5 rfl rfl rfl (Or.inr ⟨aO, 53, rfl, hal, List.mem_singleton_self _⟩)
      have hq2 := z_gh_name (A := z_hg 18) (tok := (.inl (2, 0, 0, 0, 10))) hq1 t1.1.2.2.1 rfl rfl rfl (yc_tn (k := 2) (x := Int32.ofInt u.1.2.1) rfl hsv.1 hsv.2)
      have hq3 := z_gh_name (A := ((z_hg 18).1, (z_hg 18).2.1, none, ((z_hg 18).2.2.2.set 5 (.inl (2, 0, 0, 0, 10))))) (tok := (.inl (7, 0, 0, 1, 24))) hq2 t1.1.2.2.2.1 rfl rfl rfl (yc_tn (k := 7) (x := Int32.ofInt u.1.2.2.1) rfl hlv.1 hlv.2)
      rw [List.set_set] at hq3
      have hq4 := z_gh_name (A := z_hg 53) (tok := (.inl (4, 0, 0, 0, 10))) hq3 htp rfl rfl rfl (yc_tn (k := 4) (x := Int32.ofInt u.2) rfl hnv.1 hnv.2)
      have hH : z_gh (z_strs (z_G xs)) [0, w0.toInt, yc_sv u, w1.toInt, yc_nv u, w2.toInt, w3.toInt, yc_lv u] al (((z_H0c.set 13 ((z_hg 13).1, (z_hg 13).2.1, none, ((z_hg 13).2.2.2.set 5 (.inr (.inr (false, [53])))))).set 18 ((z_hg 18).1, (z_hg 18).2.1, none, (((z_hg 18).2.2.2.set 5 (.inl (2, 0, 0, 0, 10))).set 6 (.inl (7, 0, 0, 1, 24))))).set 53 ((z_hg 53).1, (z_hg 53).2.1, none, ((z_hg 53).2.2.2.set 3 (.inl (4, 0, 0, 0, 10))))) P := hq4
      obtain ⟨rv, P', al', X, hm, hr, hI', hp, hl⟩ := z_usePostN (K := z_Kk362) (ts := [.inl (1, 0, 0, 0, 9), .inl (3, 0, 0, 0, 9), .inl (5, 0, 0, 0, 23), .inl (6, 0, 0, 0, 23)]) (vs := [.int w0, .int w1, .int w2, .int w3]) (F := [(1, 2, 1), (3, 4, 1), (5, 6, 0), (6, 7, 1), (5, 7, 1)]) (bd := [(1, 1, 0), (2, 2, 0), (3, 3, 0), (4, 4, 0), (5, 5, 0), (6, 6, 0), (7, 7, 0)]) (N := [0, w0.toInt, yc_sv u, w1.toInt, yc_nv u, w2.toInt, w3.toInt, yc_lv u]) (HE := (((z_H0c.set 13 ((z_hg 13).1, (z_hg 13).2.1, none, ((z_hg 13).2.2.2.set 5 (.inr (.inr (false, [53])))))).set 18 ((z_hg 18).1, (z_hg 18).2.1, none, (((z_hg 18).2.2.2.set 5 (.inl (2, 0, 0, 0, 10))).set 6 (.inl (7, 0, 0, 1, 24))))).set 53 ((z_hg 53).1, (z_hg 53).2.1, none, ((z_hg 53).2.2.2.set 3 (.inl (4, 0, 0, 0, 10)))))) (yc_bN8 _ _ _ _ _ _ _) z_Kn362 rfl rfl (by decide +kernel) rfl rfl hq0 (fun q hq => by
        simp only [List.mem_cons, List.not_mem_nil, or_false] at hq
        rcases hq with rfl | rfl | rfl | rfl | rfl
        · exact ⟨_, _, rfl, rfl, by show w0.toInt + 1 ≤ yc_sv u; omega⟩
        · exact ⟨_, _, rfl, rfl, by show w1.toInt + 1 ≤ yc_nv u; omega⟩
        · exact ⟨_, _, rfl, rfl, by show w2.toInt + 0 ≤ w3.toInt; omega⟩
        · exact ⟨_, _, rfl, rfl, by show w3.toInt + 1 ≤ yc_lv u; omega⟩
        · exact ⟨_, _, rfl, rfl, by show w2.toInt + 1 ≤ yc_lv u; omega⟩) hI hH ha hlen ⟨yc_tn (k := 1) rfl (by omega) (by omega), yc_tn (k := 3) rfl (by omega) (by omega), yc_tn (k := 5) rfl (by omega) (by omega), yc_tn (k := 6) rfl (by omega) (by omega), trivial⟩
      obtain ⟨r, e1, e2, e3⟩ := yc_no (val := 0) hm (by decide +kernel) hr hI' hp t1 t2
      exact ⟨r, u, P', al', ⟨rfl, Or.inl ⟨(show yc_okO u w0 w1 w2 w3 from ⟨⟨by omega, by omega⟩, ⟨by omega, by omega⟩, ⟨by omega, by omega, by omega⟩⟩), e1⟩⟩, e2, e3, hp.1, hl⟩
    · have hq0 : z_gh (z_strs (z_G xs)) [0, w0.toInt, yc_sv u, w1.toInt, yc_nv u, w2.toInt, w3.toInt, yc_lv u] al z_H0c P := (hI.1.mono ⟨_, rfl⟩)
      have hq1 := z_gh_name (A := z_hg 13) (tok := (.inr (.inr (false, [57])))) hq0 h5 rfl rfl rfl (Or.inr ⟨aO, 57, rfl, hal, List.mem_singleton_self _⟩)
      have hq2 := z_gh_name (A := z_hg 18) (tok := (.inl (2, 0, 0, 0, 10))) hq1 t1.1.2.2.1 rfl rfl rfl (yc_tn (k := 2) (x := Int32.ofInt u.1.2.1) rfl hsv.1 hsv.2)
      have hq3 := z_gh_name (A := ((z_hg 18).1, (z_hg 18).2.1, none, ((z_hg 18).2.2.2.set 5 (.inl (2, 0, 0, 0, 10))))) (tok := (.inl (7, 0, 0, 1, 24))) hq2 t1.1.2.2.2.1 rfl rfl rfl (yc_tn (k := 7) (x := Int32.ofInt u.1.2.2.1) rfl hlv.1 hlv.2)
      rw [List.set_set] at hq3
      have hq4 := z_gh_name (A := z_hg 57) (tok := (.inl (4, 0, 0, 0, 10))) hq3 htp rfl rfl rfl (yc_tn (k := 4) (x := Int32.ofInt u.2) rfl hnv.1 hnv.2)
      have hH : z_gh (z_strs (z_G xs)) [0, w0.toInt, yc_sv u, w1.toInt, yc_nv u, w2.toInt, w3.toInt, yc_lv u] al (((z_H0c.set 13 ((z_hg 13).1, (z_hg 13).2.1, none, ((z_hg 13).2.2.2.set 5 (.inr (.inr (false, [57])))))).set 18 ((z_hg 18).1, (z_hg 18).2.1, none, (((z_hg 18).2.2.2.set 5 (.inl (2, 0, 0, 0, 10))).set 6 (.inl (7, 0, 0, 1, 24))))).set 57 ((z_hg 57).1, (z_hg 57).2.1, none, ((z_hg 57).2.2.2.set 3 (.inl (4, 0, 0, 0, 10))))) P := hq4
      obtain ⟨rv, P', al', X, hm, hr, hI', hp, hl⟩ := z_usePostN (K := z_Kk363) (ts := [.inl (1, 0, 0, 0, 9), .inl (3, 0, 0, 0, 9), .inl (5, 0, 0, 0, 23), .inl (6, 0, 0, 0, 23)]) (vs := [.int w0, .int w1, .int w2, .int w3]) (F := [(1, 2, 1), (3, 4, 1), (5, 6, 0), (6, 7, 1), (5, 7, 1)]) (bd := [(1, 1, 0), (2, 2, 0), (3, 3, 0), (4, 4, 0), (5, 5, 0), (6, 6, 0), (7, 7, 0)]) (N := [0, w0.toInt, yc_sv u, w1.toInt, yc_nv u, w2.toInt, w3.toInt, yc_lv u]) (HE := (((z_H0c.set 13 ((z_hg 13).1, (z_hg 13).2.1, none, ((z_hg 13).2.2.2.set 5 (.inr (.inr (false, [57])))))).set 18 ((z_hg 18).1, (z_hg 18).2.1, none, (((z_hg 18).2.2.2.set 5 (.inl (2, 0, 0, 0, 10))).set 6 (.inl (7, 0, 0, 1, 24))))).set 57 ((z_hg 57).1, (z_hg 57).2.1, none, ((z_hg 57).2.2.2.set 3 (.inl (4, 0, 0, 0, 10)))))) (yc_bN8 _ _ _ _ _ _ _) z_Kn363 rfl rfl (by decide +kernel) rfl rfl hq0 (fun q hq => by
        simp only [List.mem_cons, List.not_mem_nil, or_false] at hq
        rcases hq with rfl | rfl | rfl | rfl | rfl
        · exact ⟨_, _, rfl, rfl, by show w0.toInt + 1 ≤ yc_sv u; omega⟩
        · exact ⟨_, _, rfl, rfl, by show w1.toInt + 1 ≤ yc_nv u; omega⟩
        · exact ⟨_, _, rfl, rfl, by show w2.toInt + 0 ≤ w3.toInt; omega⟩
        · exact ⟨_, _, rfl, rfl, by show w3.toInt + 1 ≤ yc_lv u; omega⟩
        · exact ⟨_, _, rfl, rfl, by show w2.toInt + 1 ≤ yc_lv u; omega⟩) hI hH ha hlen ⟨yc_tn (k := 1) rfl (by omega) (by omega), yc_tn (k := 3) rfl (by omega) (by omega), yc_tn (k := 5) rfl (by omega) (by omega), yc_tn (k := 6) rfl (by omega) (by omega), trivial⟩
      obtain ⟨r, e1, e2, e3⟩ := yc_no (val := 0) hm (by decide +kernel) hr hI' hp t1 t2
      exact ⟨r, u, P', al', ⟨rfl, Or.inl ⟨(show yc_okO u w0 w1 w2 w3 from ⟨⟨by omega, by omega⟩, ⟨by omega, by omega⟩, ⟨by omega, by omega, by omega⟩⟩), e1⟩⟩, e2, e3, hp.1, hl⟩
theorem ye_oddsM : z_Told xs 247 90 true ye_SpOd 4 := by
  intro al P a u v ws ⟨hI, t1, t2⟩ ha hlen hws
  match ws, hws with
  | [w0, w1, w2, w3], _ =>
    have b0 := w0.le_toInt
    have d0 := w0.toInt_lt
    have b1 := w1.le_toInt
    have d1 := w1.toInt_lt
    have b2 := w2.le_toInt
    have d2 := w2.toInt_lt
    have b3 := w3.le_toInt
    have d3 := w3.toInt_lt
    have hlv := yc_tp_in hI.1 t2.1.2.2.2.1 rfl rfl rfl
    have hsv := yc_tp_in hI.1 t2.1.2.2.1 rfl rfl rfl
    have l0 : 0 ≤ yc_lv v ∧ yc_lv v ≤ 24 := hlv
    have s0 : 0 ≤ yc_sv v ∧ yc_sv v ≤ 10 := hsv
    have hnv := yc_tp_in hI.1 t2.2 rfl rfl rfl
    have n0 : 0 ≤ yc_nv v ∧ yc_nv v ≤ 10 := hnv
    by_cases c1 : w0.toInt < 0
    · have hq0 : z_gh (z_strs (z_G xs)) [0] al z_H0c P := hI.1
      have hH : z_gh (z_strs (z_G xs)) [0] al z_H0c P := hq0
      obtain ⟨rv, P', al', X, hm, hr, hI', hp, hl⟩ := z_usePostN (K := z_Kk412) (ts := [.inl (0, 0, 0, (-2147483648), (-1)), .inl (0, 0, 0, (-2147483648), 2147483647), .inl (0, 0, 0, (-2147483648), 2147483647), .inl (0, 0, 0, (-2147483648), 2147483647)]) (vs := [.int w0, .int w1, .int w2, .int w3]) (F := []) (bd := []) (N := [0]) (HE := z_H0c) rfl z_Kn412 rfl rfl (by decide +kernel) rfl rfl hq0 (fun q hq => by cases hq) hI hH ha hlen ⟨yc_ti (by omega) (by omega), z_tI_ok _, z_tI_ok _, z_tI_ok _, trivial⟩
      obtain ⟨r, e1, e2, e3⟩ := yc_no (val := (-1)) hm (by decide +kernel) hr hI' hp t1 t2
      exact ⟨r, v, P', al', ⟨rfl, Or.inr ⟨fun h => by have : 0 ≤ w0.toInt := h.1.1; omega, e1⟩⟩, e2, e3, hp.1, hl⟩
    by_cases c2 : yc_sv v ≤ w0.toInt
    · have hq0 : z_gh (z_strs (z_G xs)) [0, yc_sv v, w0.toInt] al z_H0c P := (hI.1.mono ⟨_, rfl⟩)
      have hq1 := z_gh_name (A := z_hg 90) (tok := (.inl (1, 0, 0, 0, 10))) hq0 t2.1.2.2.1 rfl rfl rfl (yc_tn (k := 1) (x := Int32.ofInt v.1.2.1) rfl hsv.1 hsv.2)
      have hH : z_gh (z_strs (z_G xs)) [0, yc_sv v, w0.toInt] al (z_H0c.set 90 ((z_hg 90).1, (z_hg 90).2.1, none, ((z_hg 90).2.2.2.set 0 (.inl (1, 0, 0, 0, 10))))) P := hq1
      obtain ⟨rv, P', al', X, hm, hr, hI', hp, hl⟩ := z_usePostN (K := z_Kk413) (ts := [.inl (2, 0, 0, (-2147483648), 2147483647), .inl (0, 0, 0, (-2147483648), 2147483647), .inl (0, 0, 0, (-2147483648), 2147483647), .inl (0, 0, 0, (-2147483648), 2147483647)]) (vs := [.int w0, .int w1, .int w2, .int w3]) (F := [(1, 2, 0)]) (bd := [(1, 1, 0), (2, 2, 0)]) (N := [0, yc_sv v, w0.toInt]) (HE := (z_H0c.set 90 ((z_hg 90).1, (z_hg 90).2.1, none, ((z_hg 90).2.2.2.set 0 (.inl (1, 0, 0, 0, 10)))))) (yc_bN3 _ _) z_Kn413 rfl rfl (by decide +kernel) rfl rfl hq0 (fun q hq => by rw [List.mem_singleton] at hq; subst hq; exact ⟨_, _, rfl, rfl, by show yc_sv v + 0 ≤ w0.toInt; omega⟩) hI hH ha hlen ⟨yc_tn (k := 2) rfl (by omega) (by omega), z_tI_ok _, z_tI_ok _, z_tI_ok _, trivial⟩
      obtain ⟨r, e1, e2, e3⟩ := yc_no (val := (-1)) hm (by decide +kernel) hr hI' hp t1 t2
      exact ⟨r, v, P', al', ⟨rfl, Or.inr ⟨fun h => by have : w0.toInt < yc_sv v := h.1.2; omega, e1⟩⟩, e2, e3, hp.1, hl⟩
    by_cases c3 : w1.toInt < 0
    · have hq0 : z_gh (z_strs (z_G xs)) [0] al z_H0c P := hI.1
      have hH : z_gh (z_strs (z_G xs)) [0] al z_H0c P := hq0
      obtain ⟨rv, P', al', X, hm, hr, hI', hp, hl⟩ := z_usePostN (K := z_Kk409) (ts := [.inl (0, 0, 0, (-2147483648), 2147483647), .inl (0, 0, 0, (-2147483648), (-1)), .inl (0, 0, 0, (-2147483648), 2147483647), .inl (0, 0, 0, (-2147483648), 2147483647)]) (vs := [.int w0, .int w1, .int w2, .int w3]) (F := []) (bd := []) (N := [0]) (HE := z_H0c) rfl z_Kn409 rfl rfl (by decide +kernel) rfl rfl hq0 (fun q hq => by cases hq) hI hH ha hlen ⟨z_tI_ok _, yc_ti (by omega) (by omega), z_tI_ok _, z_tI_ok _, trivial⟩
      obtain ⟨r, e1, e2, e3⟩ := yc_no (val := (-1)) hm (by decide +kernel) hr hI' hp t1 t2
      exact ⟨r, v, P', al', ⟨rfl, Or.inr ⟨fun h => by have : 0 ≤ w1.toInt := h.2.1.1; omega, e1⟩⟩, e2, e3, hp.1, hl⟩
    by_cases c4 : w2.toInt < 0
    · have hq0 : z_gh (z_strs (z_G xs)) [0] al z_H0c P := hI.1
      have hH : z_gh (z_strs (z_G xs)) [0] al z_H0c P := hq0
      obtain ⟨rv, P', al', X, hm, hr, hI', hp, hl⟩ := z_usePostN (K := z_Kk407) (ts := [.inl (0, 0, 0, (-2147483648), 2147483647), .inl (0, 0, 0, (-2147483648), 2147483647), .inl (0, 0, 0, (-2147483648), (-1)), .inl (0, 0, 0, (-2147483648), 2147483647)]) (vs := [.int w0, .int w1, .int w2, .int w3]) (F := []) (bd := []) (N := [0]) (HE := z_H0c) rfl z_Kn407 rfl rfl (by decide +kernel) rfl rfl hq0 (fun q hq => by cases hq) hI hH ha hlen ⟨z_tI_ok _, z_tI_ok _, yc_ti (by omega) (by omega), z_tI_ok _, trivial⟩
      obtain ⟨r, e1, e2, e3⟩ := yc_no (val := (-1)) hm (by decide +kernel) hr hI' hp t1 t2
      exact ⟨r, v, P', al', ⟨rfl, Or.inr ⟨fun h => by have : 0 ≤ w2.toInt := h.2.2.1; omega, e1⟩⟩, e2, e3, hp.1, hl⟩
    by_cases c5 : w3.toInt < w2.toInt
    · have hq0 : z_gh (z_strs (z_G xs)) [0, w3.toInt, w2.toInt] al z_H0c P := (hI.1.mono ⟨_, rfl⟩)
      have hH : z_gh (z_strs (z_G xs)) [0, w3.toInt, w2.toInt] al z_H0c P := hq0
      obtain ⟨rv, P', al', X, hm, hr, hI', hp, hl⟩ := z_usePostN (K := z_Kk408) (ts := [.inl (0, 0, 0, (-2147483648), 2147483647), .inl (0, 0, 0, (-2147483648), 2147483647), .inl (2, 0, 0, (-2147483648), 2147483647), .inl (1, 0, 0, (-2147483648), 2147483647)]) (vs := [.int w0, .int w1, .int w2, .int w3]) (F := [(1, 2, 1)]) (bd := [(1, 1, 0), (2, 2, 0)]) (N := [0, w3.toInt, w2.toInt]) (HE := z_H0c) (yc_bN3 _ _) z_Kn408 rfl rfl (by decide +kernel) rfl rfl hq0 (fun q hq => by rw [List.mem_singleton] at hq; subst hq; exact ⟨_, _, rfl, rfl, by show w3.toInt + 1 ≤ w2.toInt; omega⟩) hI hH ha hlen ⟨z_tI_ok _, z_tI_ok _, yc_tn (k := 2) rfl (by omega) (by omega), yc_tn (k := 1) rfl (by omega) (by omega), trivial⟩
      obtain ⟨r, e1, e2, e3⟩ := yc_no (val := (-1)) hm (by decide +kernel) hr hI' hp t1 t2
      exact ⟨r, v, P', al', ⟨rfl, Or.inr ⟨fun h => by have : w2.toInt ≤ w3.toInt := h.2.2.2.1; omega, e1⟩⟩, e2, e3, hp.1, hl⟩
    by_cases c6 : yc_lv v ≤ w3.toInt
    · have hq0 : z_gh (z_strs (z_G xs)) [0, yc_lv v, w3.toInt] al z_H0c P := (hI.1.mono ⟨_, rfl⟩)
      have hq1 := z_gh_name (A := z_hg 90) (tok := (.inl (1, 0, 0, 0, 24))) hq0 t2.1.2.2.2.1 rfl rfl rfl (yc_tn (k := 1) (x := Int32.ofInt v.1.2.2.1) rfl hlv.1 hlv.2)
      have hH : z_gh (z_strs (z_G xs)) [0, yc_lv v, w3.toInt] al (z_H0c.set 90 ((z_hg 90).1, (z_hg 90).2.1, none, ((z_hg 90).2.2.2.set 5 (.inl (1, 0, 0, 0, 24))))) P := hq1
      obtain ⟨rv, P', al', X, hm, hr, hI', hp, hl⟩ := z_usePostN (K := z_Kk414) (ts := [.inl (0, 0, 0, (-2147483648), 2147483647), .inl (0, 0, 0, (-2147483648), 2147483647), .inl (0, 0, 0, (-2147483648), 2147483647), .inl (2, 0, 0, (-2147483648), 2147483647)]) (vs := [.int w0, .int w1, .int w2, .int w3]) (F := [(1, 2, 0)]) (bd := [(1, 1, 0), (2, 2, 0)]) (N := [0, yc_lv v, w3.toInt]) (HE := (z_H0c.set 90 ((z_hg 90).1, (z_hg 90).2.1, none, ((z_hg 90).2.2.2.set 5 (.inl (1, 0, 0, 0, 24)))))) (yc_bN3 _ _) z_Kn414 rfl rfl (by decide +kernel) rfl rfl hq0 (fun q hq => by rw [List.mem_singleton] at hq; subst hq; exact ⟨_, _, rfl, rfl, by show yc_lv v + 0 ≤ w3.toInt; omega⟩) hI hH ha hlen ⟨z_tI_ok _, z_tI_ok _, z_tI_ok _, yc_tn (k := 2) rfl (by omega) (by omega), trivial⟩
      obtain ⟨r, e1, e2, e3⟩ := yc_no (val := (-1)) hm (by decide +kernel) hr hI' hp t1 t2
      exact ⟨r, v, P', al', ⟨rfl, Or.inr ⟨fun h => by have : w3.toInt < yc_lv v := h.2.2.2.2; omega, e1⟩⟩, e2, e3, hp.1, hl⟩
    by_cases c7 : yc_nv v ≤ w1.toInt
    · have hq0 : z_gh (z_strs (z_G xs)) [0, yc_nv v, w1.toInt] al z_H0c P := (hI.1.mono ⟨_, rfl⟩)
      have hq1 := z_gh_name (A := z_hg 90) (tok := (.inl (1, 0, 0, 0, 10))) hq0 t2.2 rfl rfl rfl (yc_tn (k := 1) (x := Int32.ofInt v.2) rfl hnv.1 hnv.2)
      have hH : z_gh (z_strs (z_G xs)) [0, yc_nv v, w1.toInt] al (z_H0c.set 90 ((z_hg 90).1, (z_hg 90).2.1, none, ((z_hg 90).2.2.2.set 21 (.inl (1, 0, 0, 0, 10))))) P := hq1
      obtain ⟨rv, P', al', X, hm, hr, hI', hp, hl⟩ := z_usePostN (K := z_Kk410) (ts := [.inl (0, 0, 0, (-2147483648), 2147483647), .inl (2, 0, 0, (-2147483648), 2147483647), .inl (0, 0, 0, (-2147483648), 2147483647), .inl (0, 0, 0, (-2147483648), 2147483647)]) (vs := [.int w0, .int w1, .int w2, .int w3]) (F := [(1, 2, 0)]) (bd := [(1, 1, 0), (2, 2, 0)]) (N := [0, yc_nv v, w1.toInt]) (HE := (z_H0c.set 90 ((z_hg 90).1, (z_hg 90).2.1, none, ((z_hg 90).2.2.2.set 21 (.inl (1, 0, 0, 0, 10)))))) (yc_bN3 _ _) z_Kn410 rfl rfl (by decide +kernel) rfl rfl hq0 (fun q hq => by rw [List.mem_singleton] at hq; subst hq; exact ⟨_, _, rfl, rfl, by show yc_nv v + 0 ≤ w1.toInt; omega⟩) hI hH ha hlen ⟨z_tI_ok _, yc_tn (k := 2) rfl (by omega) (by omega), z_tI_ok _, z_tI_ok _, trivial⟩
      obtain ⟨r, e1, e2, e3⟩ := yc_no (val := (-1)) hm (by decide +kernel) hr hI' hp t1 t2
      exact ⟨r, v, P', al', ⟨rfl, Or.inr ⟨fun h => by have : w1.toInt < yc_nv v := h.2.1.2; omega, e1⟩⟩, e2, e3, hp.1, hl⟩
    have hq0 : z_gh (z_strs (z_G xs)) [0, w0.toInt, yc_sv v, w1.toInt, yc_nv v, w2.toInt, w3.toInt, yc_lv v] al z_H0c P := (hI.1.mono ⟨_, rfl⟩)
    have hq1 := z_gh_name (A := z_hg 90) (tok := (.inl (2, 0, 0, 0, 10))) hq0 t2.1.2.2.1 rfl rfl rfl (yc_tn (k := 2) (x := Int32.ofInt v.1.2.1) rfl hsv.1 hsv.2)
    have hq2 := z_gh_name (A := ((z_hg 90).1, (z_hg 90).2.1, none, ((z_hg 90).2.2.2.set 0 (.inl (2, 0, 0, 0, 10))))) (tok := (.inl (4, 0, 0, 0, 10))) hq1 t2.2 rfl rfl rfl (yc_tn (k := 4) (x := Int32.ofInt v.2) rfl hnv.1 hnv.2)
    rw [List.set_set] at hq2
    have hq3 := z_gh_name (A := ((z_hg 90).1, (z_hg 90).2.1, none, (((z_hg 90).2.2.2.set 0 (.inl (2, 0, 0, 0, 10))).set 21 (.inl (4, 0, 0, 0, 10))))) (tok := (.inl (7, 0, 0, 0, 24))) hq2 t2.1.2.2.2.1 rfl rfl rfl (yc_tn (k := 7) (x := Int32.ofInt v.1.2.2.1) rfl hlv.1 hlv.2)
    rw [List.set_set] at hq3
    have hH : z_gh (z_strs (z_G xs)) [0, w0.toInt, yc_sv v, w1.toInt, yc_nv v, w2.toInt, w3.toInt, yc_lv v] al (z_H0c.set 90 ((z_hg 90).1, (z_hg 90).2.1, none, ((((z_hg 90).2.2.2.set 0 (.inl (2, 0, 0, 0, 10))).set 21 (.inl (4, 0, 0, 0, 10))).set 5 (.inl (7, 0, 0, 0, 24))))) P := hq3
    obtain ⟨rv, P', al', X, hm, hr, hI', hp, hl⟩ := z_usePostN (K := z_Kk411) (ts := [.inl (1, 0, 0, 0, 9), .inl (3, 0, 0, 0, 9), .inl (5, 0, 0, 0, 23), .inl (6, 0, 0, 0, 23)]) (vs := [.int w0, .int w1, .int w2, .int w3]) (F := [(1, 2, 1), (3, 4, 1), (5, 6, 0), (6, 7, 1), (5, 7, 1)]) (bd := [(1, 1, 0), (2, 2, 0), (3, 3, 0), (4, 4, 0), (5, 5, 0), (6, 6, 0), (7, 7, 0)]) (N := [0, w0.toInt, yc_sv v, w1.toInt, yc_nv v, w2.toInt, w3.toInt, yc_lv v]) (HE := (z_H0c.set 90 ((z_hg 90).1, (z_hg 90).2.1, none, ((((z_hg 90).2.2.2.set 0 (.inl (2, 0, 0, 0, 10))).set 21 (.inl (4, 0, 0, 0, 10))).set 5 (.inl (7, 0, 0, 0, 24)))))) (yc_bN8 _ _ _ _ _ _ _) z_Kn411 rfl rfl (by decide +kernel) rfl rfl hq0 (fun q hq => by
      simp only [List.mem_cons, List.not_mem_nil, or_false] at hq
      rcases hq with rfl | rfl | rfl | rfl | rfl
      · exact ⟨_, _, rfl, rfl, by show w0.toInt + 1 ≤ yc_sv v; omega⟩
      · exact ⟨_, _, rfl, rfl, by show w1.toInt + 1 ≤ yc_nv v; omega⟩
      · exact ⟨_, _, rfl, rfl, by show w2.toInt + 0 ≤ w3.toInt; omega⟩
      · exact ⟨_, _, rfl, rfl, by show w3.toInt + 1 ≤ yc_lv v; omega⟩
      · exact ⟨_, _, rfl, rfl, by show w2.toInt + 1 ≤ yc_lv v; omega⟩) hI hH ha hlen ⟨yc_tn (k := 1) rfl (by omega) (by omega), yc_tn (k := 3) rfl (by omega) (by omega), yc_tn (k := 5) rfl (by omega) (by omega), yc_tn (k := 6) rfl (by omega) (by omega), trivial⟩
    obtain ⟨r, e1, e2, e3⟩ := yc_no (val := 0) hm (by decide +kernel) hr hI' hp t1 t2
    exact ⟨r, v, P', al', ⟨rfl, Or.inl ⟨(show yc_okO v w0 w1 w2 w3 from ⟨⟨by omega, by omega⟩, ⟨by omega, by omega⟩, ⟨by omega, by omega, by omega⟩⟩), e1⟩⟩, e2, e3, hp.1, hl⟩
end YCOD
