/-! keep and again, told on both sides. -/
section YCKP
variable {xs : List Int32}
def yc_k1 (g : yc_G) (i : Nat) : yc_G := (g.1, (fun k => if k = i then 1 else g.2.1 k, fun k => if k = i then yc_lv g else g.2.2 k))
def ye_SpKp (g : yc_G) (ws : List Int32) (r : Int32) (w : yc_G) : Prop := (∃ i : Nat, i < 3 ∧ (ws.getD 0 0).toInt = (i : Int) ∧ r.toInt = 1 ∧ w = yc_k1 g i) ∨ (¬ (0 ≤ (ws.getD 0 0).toInt ∧ (ws.getD 0 0).toInt ≤ 2) ∧ r.toInt = 0 ∧ w = g)
theorem ye_SpKp_det {g : yc_G} {ws : List Int32} {r r' : Int32} {w w' : yc_G} (h : ye_SpKp g ws r w) (h' : ye_SpKp g ws r' w') : r = r' ∧ w = w' := by
  rcases h with ⟨i, a1, a2, a3, a4⟩ | ⟨a1, a3, a4⟩ <;> rcases h' with ⟨k, c1, c2, c3, c4⟩ | ⟨c1, c3, c4⟩
  · have : i = k := by omega
    subst this
    exact ⟨Int32.toInt_inj.mp (by omega), by rw [a4, c4]⟩
  · exact absurd ⟨by omega, by omega⟩ c1
  · exact absurd ⟨by omega, by omega⟩ a1
  · exact ⟨Int32.toInt_inj.mp (by omega), by rw [a4, c4]⟩
def yc_kq (g : yc_G) (i : Nat) : Prop := g.2.1 i = 1 ∧ g.2.2 i = yc_lv g
def ye_SpAg (g : yc_G) (ws : List Int32) (r : Int32) (w : yc_G) : Prop := w = g ∧ ((∃ i : Nat, i < 3 ∧ (ws.getD 0 0).toInt = (i : Int) ∧ yc_kq g i ∧ r.toInt = 1) ∨ (¬ (∃ i : Nat, i < 3 ∧ (ws.getD 0 0).toInt = (i : Int) ∧ yc_kq g i) ∧ r.toInt = 0))
theorem ye_SpAg_det {g : yc_G} {ws : List Int32} {r r' : Int32} {w w' : yc_G} (h : ye_SpAg g ws r w) (h' : ye_SpAg g ws r' w') : r = r' ∧ w = w' := by
  refine ⟨?_, by rw [h.1, h'.1]⟩
  rcases h.2 with ⟨i, a1, a2, a3, a4⟩ | ⟨a1, a4⟩ <;> rcases h'.2 with ⟨k, c1, c2, c3, c4⟩ | ⟨c1, c4⟩
  · exact Int32.toInt_inj.mp (by omega)
  · exact absurd ⟨i, a1, a2, a3⟩ c1
  · exact absurd ⟨k, c1, c2, c3⟩ a1
  · exact Int32.toInt_inj.mp (by omega)
theorem yc_kb1 {g : yc_G} {i : Nat} (h : yc_kb g.2) (hl : 0 ≤ yc_lv g ∧ yc_lv g ≤ 24) : yc_kb (yc_k1 g i).2 := fun k hk => by
  show ((if k = i then 1 else g.2.1 k) = 0 ∨ (if k = i then 1 else g.2.1 k) = 1) ∧ 0 ≤ (if k = i then yc_lv g else g.2.2 k) ∧ (if k = i then yc_lv g else g.2.2 k) ≤ 24
  by_cases c : k = i
  · rw [if_pos c, if_pos c]
    exact ⟨Or.inr rfl, by omega, by omega⟩
  · rw [if_neg c, if_neg c]
    exact h k hk
theorem yc_kv1 {g : yc_G} {i : Nat} : yc_kv (yc_k1 g i).2 i = yc_lv g := by
  show (if (if i = i then (1 : Int) else g.2.1 i) = 0 then 0 else (if i = i then yc_lv g else g.2.2 i)) = yc_lv g
  rw [if_pos rfl, if_pos rfl, if_neg (by decide)]
theorem yc_kv2 {g : yc_G} {i k : Nat} (h : k ≠ i) : yc_kv (yc_k1 g i).2 k = yc_kv g.2 k := by
  show (if (if k = i then (1 : Int) else g.2.1 k) = 0 then 0 else (if k = i then yc_lv g else g.2.2 k)) = _
  rw [if_neg h, if_neg h]
  rfl
theorem yc_k1a {g : yc_G} {i : Nat} : (yc_k1 g i).2.1 i = 1 := if_pos rfl
theorem yc_k1b {g : yc_G} {i : Nat} : (yc_k1 g i).2.2 i = yc_lv g := if_pos rfl
theorem yc_k1c {g : yc_G} {i k : Nat} (h : k ≠ i) : (yc_k1 g i).2.1 k = g.2.1 k := if_neg h
theorem yc_k1d {g : yc_G} {i k : Nat} (h : k ≠ i) : (yc_k1 g i).2.2 k = g.2.2 k := if_neg h
theorem yc_kvb {g : yc_Y} (h : yc_kb g) {i : Nat} (hi : i < 3) : 0 ≤ yc_kv g i ∧ yc_kv g i ≤ 24 := by
  have := h i hi
  unfold yc_kv
  split <;> omega
theorem ye_keepC : z_Told xs 178 13 false ye_SpKp 1 := by
  intro al P a u v ws ⟨hI, t1, t2⟩ ha hlen hws
  match ws, hws with
  | [w0], _ =>
    have b0 := w0.le_toInt
    have d0 := w0.toInt_lt
    have hlv := yc_tp_in hI.1 t1.1.2.2.2.1 rfl rfl rfl
    have l0 : 1 ≤ yc_lv u ∧ yc_lv u ≤ 24 := hlv
    obtain ⟨kb, kt⟩ := t1.2
    by_cases c1 : w0.toInt < 0
    · have hq0 : z_gh (z_strs (z_G xs)) [0] al z_H0c P := hI.1
      have hH : z_gh (z_strs (z_G xs)) [0] al z_H0c P := hq0
      obtain ⟨rv, P', al', X, hm, hr, hI', hp, hl⟩ := z_usePostN (K := z_Kk385) (ts := [.inl (0, 0, 0, (-2147483648), (-1))]) (vs := [.int w0]) (F := []) (bd := []) (N := [0]) (HE := z_H0c) rfl z_Kn385 rfl rfl (by decide +kernel) rfl rfl hq0 (fun q hq => by cases hq) hI hH ha hlen ⟨yc_ti (by omega) (by omega), trivial⟩
      obtain ⟨r, e1, e2, e3⟩ := yc_no (val := 0) hm (by decide +kernel) hr hI' hp t1 t2
      exact ⟨r, u, P', al', Or.inr ⟨fun h => by have : 0 ≤ w0.toInt := h.1; omega, e1, rfl⟩, e2, e3, hp.1, hl⟩
    by_cases c2 : 2 < w0.toInt
    · have hq0 : z_gh (z_strs (z_G xs)) [0] al z_H0c P := hI.1
      have hH : z_gh (z_strs (z_G xs)) [0] al z_H0c P := hq0
      obtain ⟨rv, P', al', X, hm, hr, hI', hp, hl⟩ := z_usePostN (K := z_Kk378) (ts := [.inl (0, 0, 0, 3, 2147483647)]) (vs := [.int w0]) (F := []) (bd := []) (N := [0]) (HE := z_H0c) rfl z_Kn378 rfl rfl (by decide +kernel) rfl rfl hq0 (fun q hq => by cases hq) hI hH ha hlen ⟨yc_ti (by omega) (by omega), trivial⟩
      obtain ⟨r, e1, e2, e3⟩ := yc_no (val := 0) hm (by decide +kernel) hr hI' hp t1 t2
      exact ⟨r, u, P', al', Or.inr ⟨fun h => by have : w0.toInt ≤ 2 := h.2; omega, e1, rfl⟩, e2, e3, hp.1, hl⟩
    have c3 : w0.toInt = 0 ∨ w0.toInt = 1 ∨ w0.toInt = 2 := by omega
    rcases c3 with c3 | c3 | c3
    · have hq0 : z_gh (z_strs (z_G xs)) [0, yc_lv u] al z_H0c P := (hI.1.mono ⟨_, rfl⟩)
      have hq1 := z_gh_name (A := z_hg 18) (tok := (.inl (1, 0, 0, 1, 24))) hq0 t1.1.2.2.2.1 rfl rfl rfl (yc_tn (k := 1) (x := Int32.ofInt u.1.2.2.1) rfl hlv.1 hlv.2)
      have hH : z_gh (z_strs (z_G xs)) [0, yc_lv u] al (z_H0c.set 18 ((z_hg 18).1, (z_hg 18).2.1, none, ((z_hg 18).2.2.2.set 6 (.inl (1, 0, 0, 1, 24))))) P := hq1
      obtain ⟨rv, P', al', X, hm, hr, hI', hp, hl⟩ := z_usePostN (K := z_Kk380) (ts := [.inl (0, 0, 0, 0, 0)]) (vs := [.int w0]) (F := [(1, 1, 0)]) (bd := [(1, 1, 0)]) (N := [0, yc_lv u]) (HE := (z_H0c.set 18 ((z_hg 18).1, (z_hg 18).2.1, none, ((z_hg 18).2.2.2.set 6 (.inl (1, 0, 0, 1, 24)))))) (yc_bN2 _) z_Kn380 rfl rfl (by decide +kernel) rfl rfl hq0 (fun q hq => by rw [List.mem_singleton] at hq; subst hq; exact ⟨_, _, rfl, rfl, by show yc_lv u + 0 ≤ yc_lv u; omega⟩) hI hH ha hlen ⟨yc_ti (by omega) (by omega), trivial⟩
      have hck : ((z_Kk380).2.2.2.2.1.all fun X => yc_isc 1 X.1 && ((ye_pC X && (yc_isp X 35 5 1 0 && (z_nw X 41 5 && z_nw X 47 5))) && yc_pM X)) = true := by decide +kernel
      have h := List.all_eq_true.mp hck X hm
      simp only [Bool.and_eq_true] at h
      obtain ⟨h1, ⟨h2, h3, h4, h5⟩, h6⟩ := h
      obtain ⟨r, e1, e2⟩ := yc_isc_ok h1 hp.2.2.2.1
      subst e1
      have k0 := yc_isp_ok (by decide) h3 (w := yc_lv u) rfl hp (kt 0 (by decide))
      rw [Int.add_zero] at k0
      refine ⟨r, yc_k1 u 0, P', al', Or.inl ⟨0, by decide, c3, e2, rfl⟩, hr, ⟨hI', ⟨ye_pC_ok hp h2 t1.1, (show yc_kb (yc_k1 u 0).2 from yc_kb1 kb ⟨by omega, l0.2⟩), fun k hk => ?_⟩, yc_pM_ok hp h6 t2⟩, hp.1, hl⟩
      match k, hk with
      | 0, _ => show z_tp (35 + 6 * 0) 5 al' P' (ye_v (yc_kv (yc_k1 u 0).2 0)); rw [yc_kv1]; exact k0
      | 1, _ => show z_tp (35 + 6 * 1) 5 al' P' (ye_v (yc_kv (yc_k1 u 0).2 1)); rw [yc_kv2 (by decide)]; exact z_nw_ok hp h4 (kt 1 (by decide))
      | 2, _ => show z_tp (35 + 6 * 2) 5 al' P' (ye_v (yc_kv (yc_k1 u 0).2 2)); rw [yc_kv2 (by decide)]; exact z_nw_ok hp h5 (kt 2 (by decide))
      | k + 3, h => exact absurd h (by omega)
    · have hq0 : z_gh (z_strs (z_G xs)) [0, yc_lv u] al z_H0c P := (hI.1.mono ⟨_, rfl⟩)
      have hq1 := z_gh_name (A := z_hg 18) (tok := (.inl (1, 0, 0, 1, 24))) hq0 t1.1.2.2.2.1 rfl rfl rfl (yc_tn (k := 1) (x := Int32.ofInt u.1.2.2.1) rfl hlv.1 hlv.2)
      have hH : z_gh (z_strs (z_G xs)) [0, yc_lv u] al (z_H0c.set 18 ((z_hg 18).1, (z_hg 18).2.1, none, ((z_hg 18).2.2.2.set 6 (.inl (1, 0, 0, 1, 24))))) P := hq1
      obtain ⟨rv, P', al', X, hm, hr, hI', hp, hl⟩ := z_usePostN (K := z_Kk382) (ts := [.inl (0, 0, 0, 1, 1)]) (vs := [.int w0]) (F := [(1, 1, 0)]) (bd := [(1, 1, 0)]) (N := [0, yc_lv u]) (HE := (z_H0c.set 18 ((z_hg 18).1, (z_hg 18).2.1, none, ((z_hg 18).2.2.2.set 6 (.inl (1, 0, 0, 1, 24)))))) (yc_bN2 _) z_Kn382 rfl rfl (by decide +kernel) rfl rfl hq0 (fun q hq => by rw [List.mem_singleton] at hq; subst hq; exact ⟨_, _, rfl, rfl, by show yc_lv u + 0 ≤ yc_lv u; omega⟩) hI hH ha hlen ⟨yc_ti (by omega) (by omega), trivial⟩
      have hck : ((z_Kk382).2.2.2.2.1.all fun X => yc_isc 1 X.1 && ((ye_pC X && (yc_isp X 41 5 1 0 && (z_nw X 35 5 && z_nw X 47 5))) && yc_pM X)) = true := by decide +kernel
      have h := List.all_eq_true.mp hck X hm
      simp only [Bool.and_eq_true] at h
      obtain ⟨h1, ⟨h2, h3, h4, h5⟩, h6⟩ := h
      obtain ⟨r, e1, e2⟩ := yc_isc_ok h1 hp.2.2.2.1
      subst e1
      have k0 := yc_isp_ok (by decide) h3 (w := yc_lv u) rfl hp (kt 1 (by decide))
      rw [Int.add_zero] at k0
      refine ⟨r, yc_k1 u 1, P', al', Or.inl ⟨1, by decide, c3, e2, rfl⟩, hr, ⟨hI', ⟨ye_pC_ok hp h2 t1.1, (show yc_kb (yc_k1 u 1).2 from yc_kb1 kb ⟨by omega, l0.2⟩), fun k hk => ?_⟩, yc_pM_ok hp h6 t2⟩, hp.1, hl⟩
      match k, hk with
      | 0, _ => show z_tp (35 + 6 * 0) 5 al' P' (ye_v (yc_kv (yc_k1 u 1).2 0)); rw [yc_kv2 (by decide)]; exact z_nw_ok hp h4 (kt 0 (by decide))
      | 1, _ => show z_tp (35 + 6 * 1) 5 al' P' (ye_v (yc_kv (yc_k1 u 1).2 1)); rw [yc_kv1]; exact k0
      | 2, _ => show z_tp (35 + 6 * 2) 5 al' P' (ye_v (yc_kv (yc_k1 u 1).2 2)); rw [yc_kv2 (by decide)]; exact z_nw_ok hp h5 (kt 2 (by decide))
      | k + 3, h => exact absurd h (by omega)
    · have hq0 : z_gh (z_strs (z_G xs)) [0, yc_lv u] al z_H0c P := (hI.1.mono ⟨_, rfl⟩)
      have hq1 := z_gh_name (A := z_hg 18) (tok := (.inl (1, 0, 0, 1, 24))) hq0 t1.1.2.2.2.1 rfl rfl rfl (yc_tn (k := 1) (x := Int32.ofInt u.1.2.2.1) rfl hlv.1 hlv.2)
      have hH : z_gh (z_strs (z_G xs)) [0, yc_lv u] al (z_H0c.set 18 ((z_hg 18).1, (z_hg 18).2.1, none, ((z_hg 18).2.2.2.set 6 (.inl (1, 0, 0, 1, 24))))) P := hq1
      obtain ⟨rv, P', al', X, hm, hr, hI', hp, hl⟩ := z_usePostN (K := z_Kk384) (ts := [.inl (0, 0, 0, 2, 2)]) (vs := [.int w0]) (F := [(1, 1, 0)]) (bd := [(1, 1, 0)]) (N := [0, yc_lv u]) (HE := (z_H0c.set 18 ((z_hg 18).1, (z_hg 18).2.1, none, ((z_hg 18).2.2.2.set 6 (.inl (1, 0, 0, 1, 24)))))) (yc_bN2 _) z_Kn384 rfl rfl (by decide +kernel) rfl rfl hq0 (fun q hq => by rw [List.mem_singleton] at hq; subst hq; exact ⟨_, _, rfl, rfl, by show yc_lv u + 0 ≤ yc_lv u; omega⟩) hI hH ha hlen ⟨yc_ti (by omega) (by omega), trivial⟩
      have hck : ((z_Kk384).2.2.2.2.1.all fun X => yc_isc 1 X.1 && ((ye_pC X && (yc_isp X 47 5 1 0 && (z_nw X 35 5 && z_nw X 41 5))) && yc_pM X)) = true := by decide +kernel
      have h := List.all_eq_true.mp hck X hm
      simp only [Bool.and_eq_true] at h
      obtain ⟨h1, ⟨h2, h3, h4, h5⟩, h6⟩ := h
      obtain ⟨r, e1, e2⟩ := yc_isc_ok h1 hp.2.2.2.1
      subst e1
      have k0 := yc_isp_ok (by decide) h3 (w := yc_lv u) rfl hp (kt 2 (by decide))
      rw [Int.add_zero] at k0
      refine ⟨r, yc_k1 u 2, P', al', Or.inl ⟨2, by decide, c3, e2, rfl⟩, hr, ⟨hI', ⟨ye_pC_ok hp h2 t1.1, (show yc_kb (yc_k1 u 2).2 from yc_kb1 kb ⟨by omega, l0.2⟩), fun k hk => ?_⟩, yc_pM_ok hp h6 t2⟩, hp.1, hl⟩
      match k, hk with
      | 0, _ => show z_tp (35 + 6 * 0) 5 al' P' (ye_v (yc_kv (yc_k1 u 2).2 0)); rw [yc_kv2 (by decide)]; exact z_nw_ok hp h4 (kt 0 (by decide))
      | 1, _ => show z_tp (35 + 6 * 1) 5 al' P' (ye_v (yc_kv (yc_k1 u 2).2 1)); rw [yc_kv2 (by decide)]; exact z_nw_ok hp h5 (kt 1 (by decide))
      | 2, _ => show z_tp (35 + 6 * 2) 5 al' P' (ye_v (yc_kv (yc_k1 u 2).2 2)); rw [yc_kv1]; exact k0
      | k + 3, h => exact absurd h (by omega)
theorem ye_againC : z_Told xs 180 13 false ye_SpAg 1 := by
  intro al P a u v ws ⟨hI, t1, t2⟩ ha hlen hws
  match ws, hws with
  | [w0], _ =>
    have b0 := w0.le_toInt
    have d0 := w0.toInt_lt
    have hlv := yc_tp_in hI.1 t1.1.2.2.2.1 rfl rfl rfl
    have l0 : 1 ≤ yc_lv u ∧ yc_lv u ≤ 24 := hlv
    obtain ⟨kb, kt⟩ := t1.2
    by_cases c1 : w0.toInt < 0
    · have hq0 : z_gh (z_strs (z_G xs)) [0] al z_H0c P := hI.1
      have hH : z_gh (z_strs (z_G xs)) [0] al z_H0c P := hq0
      obtain ⟨rv, P', al', X, hm, hr, hI', hp, hl⟩ := z_usePostN (K := z_Kk400) (ts := [.inl (0, 0, 0, (-2147483648), (-1))]) (vs := [.int w0]) (F := []) (bd := []) (N := [0]) (HE := z_H0c) rfl z_Kn400 rfl rfl (by decide +kernel) rfl rfl hq0 (fun q hq => by cases hq) hI hH ha hlen ⟨yc_ti (by omega) (by omega), trivial⟩
      obtain ⟨r, e1, e2, e3⟩ := yc_no (val := 0) hm (by decide +kernel) hr hI' hp t1 t2
      exact ⟨r, u, P', al', ⟨rfl, Or.inr ⟨fun ⟨i, i1, i2, i3⟩ => by have i2 : w0.toInt = (i : Int) := i2; omega, e1⟩⟩, e2, e3, hp.1, hl⟩
    by_cases c2 : 2 < w0.toInt
    · have hq0 : z_gh (z_strs (z_G xs)) [0] al z_H0c P := hI.1
      have hH : z_gh (z_strs (z_G xs)) [0] al z_H0c P := hq0
      obtain ⟨rv, P', al', X, hm, hr, hI', hp, hl⟩ := z_usePostN (K := z_Kk390) (ts := [.inl (0, 0, 0, 3, 2147483647)]) (vs := [.int w0]) (F := []) (bd := []) (N := [0]) (HE := z_H0c) rfl z_Kn390 rfl rfl (by decide +kernel) rfl rfl hq0 (fun q hq => by cases hq) hI hH ha hlen ⟨yc_ti (by omega) (by omega), trivial⟩
      obtain ⟨r, e1, e2, e3⟩ := yc_no (val := 0) hm (by decide +kernel) hr hI' hp t1 t2
      exact ⟨r, u, P', al', ⟨rfl, Or.inr ⟨fun ⟨i, i1, i2, i3⟩ => by have i2 : w0.toInt = (i : Int) := i2; omega, e1⟩⟩, e2, e3, hp.1, hl⟩
    have c3 : w0.toInt = 0 ∨ w0.toInt = 1 ∨ w0.toInt = 2 := by omega
    rcases c3 with c3 | c3 | c3
    · have kbi := kb 0 (by decide)
      have kvb := yc_kvb kb (i := 0) (by decide)
      have hkv : (Int32.ofInt (yc_kv u.2 0)).toInt = (yc_kv u.2 0) := ye_to (by omega) (by omega)
      have hkq : yc_kq u 0 ↔ yc_kv u.2 0 = yc_lv u := by
        unfold yc_kq yc_kv
        split <;> constructor <;> intro h <;> omega
      by_cases c4 : (yc_kv u.2 0) < yc_lv u
      · have hq0 : z_gh (z_strs (z_G xs)) [0, (Int32.ofInt (yc_kv u.2 0)).toInt, yc_lv u] al z_H0c P := (hI.1.mono ⟨_, rfl⟩)
        have hq1 := z_gh_name (A := z_hg 18) (tok := (.inl (2, 0, 0, 1, 24))) hq0 t1.1.2.2.2.1 rfl rfl rfl (yc_tn (k := 2) (x := Int32.ofInt u.1.2.2.1) rfl hlv.1 hlv.2)
        have hq2 := z_gh_name (A := z_hg 35) (tok := (.inl (1, 0, 0, 0, 24))) hq1 (kt 0 (by decide)) rfl rfl rfl (yc_tn (k := 1) (x := Int32.ofInt (yc_kv u.2 0)) rfl (by omega) (by omega))
        have hH : z_gh (z_strs (z_G xs)) [0, (Int32.ofInt (yc_kv u.2 0)).toInt, yc_lv u] al ((z_H0c.set 18 ((z_hg 18).1, (z_hg 18).2.1, none, ((z_hg 18).2.2.2.set 6 (.inl (2, 0, 0, 1, 24))))).set 35 ((z_hg 35).1, (z_hg 35).2.1, none, ((z_hg 35).2.2.2.set 5 (.inl (1, 0, 0, 0, 24))))) P := hq2
        obtain ⟨rv, P', al', X, hm, hr, hI', hp, hl⟩ := z_usePostN (K := z_Kk397) (ts := [.inl (0, 0, 0, 0, 0)]) (vs := [.int w0]) (F := [(1, 2, 1)]) (bd := [(1, 1, 0), (2, 2, 0)]) (N := [0, (Int32.ofInt (yc_kv u.2 0)).toInt, yc_lv u]) (HE := ((z_H0c.set 18 ((z_hg 18).1, (z_hg 18).2.1, none, ((z_hg 18).2.2.2.set 6 (.inl (2, 0, 0, 1, 24))))).set 35 ((z_hg 35).1, (z_hg 35).2.1, none, ((z_hg 35).2.2.2.set 5 (.inl (1, 0, 0, 0, 24)))))) (yc_bN3 _ _) z_Kn397 rfl rfl (by decide +kernel) rfl rfl hq0 (fun q hq => by rw [List.mem_singleton] at hq; subst hq; exact ⟨_, _, rfl, rfl, by show (Int32.ofInt (yc_kv u.2 0)).toInt + 1 ≤ yc_lv u; omega⟩) hI hH ha hlen ⟨yc_ti (by omega) (by omega), trivial⟩
        obtain ⟨r, e1, e2, e3⟩ := yc_no (val := 0) hm (by decide +kernel) hr hI' hp t1 t2
        exact ⟨r, u, P', al', ⟨rfl, Or.inr ⟨fun ⟨i, i1, i2, i3⟩ => by
            have i2 : w0.toInt = (i : Int) := i2
            have : i = 0 := by omega
            subst this
            have := hkq.mp i3
            omega, e1⟩⟩, e2, e3, hp.1, hl⟩
      by_cases c5 : yc_lv u < (yc_kv u.2 0)
      · have hq0 : z_gh (z_strs (z_G xs)) [0, yc_lv u, (Int32.ofInt (yc_kv u.2 0)).toInt] al z_H0c P := (hI.1.mono ⟨_, rfl⟩)
        have hq1 := z_gh_name (A := z_hg 18) (tok := (.inl (1, 0, 0, 1, 24))) hq0 t1.1.2.2.2.1 rfl rfl rfl (yc_tn (k := 1) (x := Int32.ofInt u.1.2.2.1) rfl hlv.1 hlv.2)
        have hq2 := z_gh_name (A := z_hg 35) (tok := (.inl (2, 0, 0, 0, 24))) hq1 (kt 0 (by decide)) rfl rfl rfl (yc_tn (k := 2) (x := Int32.ofInt (yc_kv u.2 0)) rfl (by omega) (by omega))
        have hH : z_gh (z_strs (z_G xs)) [0, yc_lv u, (Int32.ofInt (yc_kv u.2 0)).toInt] al ((z_H0c.set 18 ((z_hg 18).1, (z_hg 18).2.1, none, ((z_hg 18).2.2.2.set 6 (.inl (1, 0, 0, 1, 24))))).set 35 ((z_hg 35).1, (z_hg 35).2.1, none, ((z_hg 35).2.2.2.set 5 (.inl (2, 0, 0, 0, 24))))) P := hq2
        obtain ⟨rv, P', al', X, hm, hr, hI', hp, hl⟩ := z_usePostN (K := z_Kk394) (ts := [.inl (0, 0, 0, 0, 0)]) (vs := [.int w0]) (F := [(1, 2, 1)]) (bd := [(1, 1, 0), (2, 2, 0)]) (N := [0, yc_lv u, (Int32.ofInt (yc_kv u.2 0)).toInt]) (HE := ((z_H0c.set 18 ((z_hg 18).1, (z_hg 18).2.1, none, ((z_hg 18).2.2.2.set 6 (.inl (1, 0, 0, 1, 24))))).set 35 ((z_hg 35).1, (z_hg 35).2.1, none, ((z_hg 35).2.2.2.set 5 (.inl (2, 0, 0, 0, 24)))))) (yc_bN3 _ _) z_Kn394 rfl rfl (by decide +kernel) rfl rfl hq0 (fun q hq => by rw [List.mem_singleton] at hq; subst hq; exact ⟨_, _, rfl, rfl, by show yc_lv u + 1 ≤ (Int32.ofInt (yc_kv u.2 0)).toInt; omega⟩) hI hH ha hlen ⟨yc_ti (by omega) (by omega), trivial⟩
        obtain ⟨r, e1, e2, e3⟩ := yc_no (val := 0) hm (by decide +kernel) hr hI' hp t1 t2
        exact ⟨r, u, P', al', ⟨rfl, Or.inr ⟨fun ⟨i, i1, i2, i3⟩ => by
            have i2 : w0.toInt = (i : Int) := i2
            have : i = 0 := by omega
            subst this
            have := hkq.mp i3
            omega, e1⟩⟩, e2, e3, hp.1, hl⟩
      have hq0 : z_gh (z_strs (z_G xs)) [0, yc_lv u] al z_H0c P := (hI.1.mono ⟨_, rfl⟩)
      have hq1 := z_gh_name (A := z_hg 18) (tok := (.inl (1, 0, 0, 1, 24))) hq0 t1.1.2.2.2.1 rfl rfl rfl (yc_tn (k := 1) (x := Int32.ofInt u.1.2.2.1) rfl hlv.1 hlv.2)
      have hq2 := z_gh_name (A := z_hg 35) (tok := (.inl (1, 0, 0, 1, 24))) hq1 (kt 0 (by decide)) rfl rfl rfl (yc_tn (k := 1) (x := Int32.ofInt (yc_kv u.2 0)) (by show some (yc_lv u) = some _; congr 1; omega) (by omega) (by omega))
      have hH : z_gh (z_strs (z_G xs)) [0, yc_lv u] al ((z_H0c.set 18 ((z_hg 18).1, (z_hg 18).2.1, none, ((z_hg 18).2.2.2.set 6 (.inl (1, 0, 0, 1, 24))))).set 35 ((z_hg 35).1, (z_hg 35).2.1, none, ((z_hg 35).2.2.2.set 5 (.inl (1, 0, 0, 1, 24))))) P := hq2
      obtain ⟨rv, P', al', X, hm, hr, hI', hp, hl⟩ := z_usePostN (K := z_Kk391) (ts := [.inl (0, 0, 0, 0, 0)]) (vs := [.int w0]) (F := [(1, 1, 0)]) (bd := [(1, 1, 0)]) (N := [0, yc_lv u]) (HE := ((z_H0c.set 18 ((z_hg 18).1, (z_hg 18).2.1, none, ((z_hg 18).2.2.2.set 6 (.inl (1, 0, 0, 1, 24))))).set 35 ((z_hg 35).1, (z_hg 35).2.1, none, ((z_hg 35).2.2.2.set 5 (.inl (1, 0, 0, 1, 24)))))) (yc_bN2 _) z_Kn391 rfl rfl (by decide +kernel) rfl rfl hq0 (fun q hq => by rw [List.mem_singleton] at hq; subst hq; exact ⟨_, _, rfl, rfl, by show yc_lv u + 0 ≤ yc_lv u; omega⟩) hI hH ha hlen ⟨yc_ti (by omega) (by omega), trivial⟩
      obtain ⟨r, e1, e2, e3⟩ := yc_no (val := 1) hm (by decide +kernel) hr hI' hp t1 t2
      exact ⟨r, u, P', al', ⟨rfl, Or.inl ⟨0, by decide, c3, hkq.mpr (by omega), e1⟩⟩, e2, e3, hp.1, hl⟩
    · have kbi := kb 1 (by decide)
      have kvb := yc_kvb kb (i := 1) (by decide)
      have hkv : (Int32.ofInt (yc_kv u.2 1)).toInt = (yc_kv u.2 1) := ye_to (by omega) (by omega)
      have hkq : yc_kq u 1 ↔ yc_kv u.2 1 = yc_lv u := by
        unfold yc_kq yc_kv
        split <;> constructor <;> intro h <;> omega
      by_cases c4 : (yc_kv u.2 1) < yc_lv u
      · have hq0 : z_gh (z_strs (z_G xs)) [0, (Int32.ofInt (yc_kv u.2 1)).toInt, yc_lv u] al z_H0c P := (hI.1.mono ⟨_, rfl⟩)
        have hq1 := z_gh_name (A := z_hg 18) (tok := (.inl (2, 0, 0, 1, 24))) hq0 t1.1.2.2.2.1 rfl rfl rfl (yc_tn (k := 2) (x := Int32.ofInt u.1.2.2.1) rfl hlv.1 hlv.2)
        have hq2 := z_gh_name (A := z_hg 41) (tok := (.inl (1, 0, 0, 0, 24))) hq1 (kt 1 (by decide)) rfl rfl rfl (yc_tn (k := 1) (x := Int32.ofInt (yc_kv u.2 1)) rfl (by omega) (by omega))
        have hH : z_gh (z_strs (z_G xs)) [0, (Int32.ofInt (yc_kv u.2 1)).toInt, yc_lv u] al ((z_H0c.set 18 ((z_hg 18).1, (z_hg 18).2.1, none, ((z_hg 18).2.2.2.set 6 (.inl (2, 0, 0, 1, 24))))).set 41 ((z_hg 41).1, (z_hg 41).2.1, none, ((z_hg 41).2.2.2.set 5 (.inl (1, 0, 0, 0, 24))))) P := hq2
        obtain ⟨rv, P', al', X, hm, hr, hI', hp, hl⟩ := z_usePostN (K := z_Kk398) (ts := [.inl (0, 0, 0, 1, 1)]) (vs := [.int w0]) (F := [(1, 2, 1)]) (bd := [(1, 1, 0), (2, 2, 0)]) (N := [0, (Int32.ofInt (yc_kv u.2 1)).toInt, yc_lv u]) (HE := ((z_H0c.set 18 ((z_hg 18).1, (z_hg 18).2.1, none, ((z_hg 18).2.2.2.set 6 (.inl (2, 0, 0, 1, 24))))).set 41 ((z_hg 41).1, (z_hg 41).2.1, none, ((z_hg 41).2.2.2.set 5 (.inl (1, 0, 0, 0, 24)))))) (yc_bN3 _ _) z_Kn398 rfl rfl (by decide +kernel) rfl rfl hq0 (fun q hq => by rw [List.mem_singleton] at hq; subst hq; exact ⟨_, _, rfl, rfl, by show (Int32.ofInt (yc_kv u.2 1)).toInt + 1 ≤ yc_lv u; omega⟩) hI hH ha hlen ⟨yc_ti (by omega) (by omega), trivial⟩
        obtain ⟨r, e1, e2, e3⟩ := yc_no (val := 0) hm (by decide +kernel) hr hI' hp t1 t2
        exact ⟨r, u, P', al', ⟨rfl, Or.inr ⟨fun ⟨i, i1, i2, i3⟩ => by
            have i2 : w0.toInt = (i : Int) := i2
            have : i = 1 := by omega
            subst this
            have := hkq.mp i3
            omega, e1⟩⟩, e2, e3, hp.1, hl⟩
      by_cases c5 : yc_lv u < (yc_kv u.2 1)
      · have hq0 : z_gh (z_strs (z_G xs)) [0, yc_lv u, (Int32.ofInt (yc_kv u.2 1)).toInt] al z_H0c P := (hI.1.mono ⟨_, rfl⟩)
        have hq1 := z_gh_name (A := z_hg 18) (tok := (.inl (1, 0, 0, 1, 24))) hq0 t1.1.2.2.2.1 rfl rfl rfl (yc_tn (k := 1) (x := Int32.ofInt u.1.2.2.1) rfl hlv.1 hlv.2)
        have hq2 := z_gh_name (A := z_hg 41) (tok := (.inl (2, 0, 0, 0, 24))) hq1 (kt 1 (by decide)) rfl rfl rfl (yc_tn (k := 2) (x := Int32.ofInt (yc_kv u.2 1)) rfl (by omega) (by omega))
        have hH : z_gh (z_strs (z_G xs)) [0, yc_lv u, (Int32.ofInt (yc_kv u.2 1)).toInt] al ((z_H0c.set 18 ((z_hg 18).1, (z_hg 18).2.1, none, ((z_hg 18).2.2.2.set 6 (.inl (1, 0, 0, 1, 24))))).set 41 ((z_hg 41).1, (z_hg 41).2.1, none, ((z_hg 41).2.2.2.set 5 (.inl (2, 0, 0, 0, 24))))) P := hq2
        obtain ⟨rv, P', al', X, hm, hr, hI', hp, hl⟩ := z_usePostN (K := z_Kk395) (ts := [.inl (0, 0, 0, 1, 1)]) (vs := [.int w0]) (F := [(1, 2, 1)]) (bd := [(1, 1, 0), (2, 2, 0)]) (N := [0, yc_lv u, (Int32.ofInt (yc_kv u.2 1)).toInt]) (HE := ((z_H0c.set 18 ((z_hg 18).1, (z_hg 18).2.1, none, ((z_hg 18).2.2.2.set 6 (.inl (1, 0, 0, 1, 24))))).set 41 ((z_hg 41).1, (z_hg 41).2.1, none, ((z_hg 41).2.2.2.set 5 (.inl (2, 0, 0, 0, 24)))))) (yc_bN3 _ _) z_Kn395 rfl rfl (by decide +kernel) rfl rfl hq0 (fun q hq => by rw [List.mem_singleton] at hq; subst hq; exact ⟨_, _, rfl, rfl, by show yc_lv u + 1 ≤ (Int32.ofInt (yc_kv u.2 1)).toInt; omega⟩) hI hH ha hlen ⟨yc_ti (by omega) (by omega), trivial⟩
        obtain ⟨r, e1, e2, e3⟩ := yc_no (val := 0) hm (by decide +kernel) hr hI' hp t1 t2
        exact ⟨r, u, P', al', ⟨rfl, Or.inr ⟨fun ⟨i, i1, i2, i3⟩ => by
            have i2 : w0.toInt = (i : Int) := i2
            have : i = 1 := by omega
            subst this
            have := hkq.mp i3
            omega, e1⟩⟩, e2, e3, hp.1, hl⟩
      have hq0 : z_gh (z_strs (z_G xs)) [0, yc_lv u] al z_H0c P := (hI.1.mono ⟨_, rfl⟩)
      have hq1 := z_gh_name (A := z_hg 18) (tok := (.inl (1, 0, 0, 1, 24))) hq0 t1.1.2.2.2.1 rfl rfl rfl (yc_tn (k := 1) (x := Int32.ofInt u.1.2.2.1) rfl hlv.1 hlv.2)
      have hq2 := z_gh_name (A := z_hg 41) (tok := (.inl (1, 0, 0, 1, 24))) hq1 (kt 1 (by decide)) rfl rfl rfl (yc_tn (k := 1) (x := Int32.ofInt (yc_kv u.2 1)) (by show some (yc_lv u) = some _; congr 1; omega) (by omega) (by omega))
      have hH : z_gh (z_strs (z_G xs)) [0, yc_lv u] al ((z_H0c.set 18 ((z_hg 18).1, (z_hg 18).2.1, none, ((z_hg 18).2.2.2.set 6 (.inl (1, 0, 0, 1, 24))))).set 41 ((z_hg 41).1, (z_hg 41).2.1, none, ((z_hg 41).2.2.2.set 5 (.inl (1, 0, 0, 1, 24))))) P := hq2
      obtain ⟨rv, P', al', X, hm, hr, hI', hp, hl⟩ := z_usePostN (K := z_Kk392) (ts := [.inl (0, 0, 0, 1, 1)]) (vs := [.int w0]) (F := [(1, 1, 0)]) (bd := [(1, 1, 0)]) (N := [0, yc_lv u]) (HE := ((z_H0c.set 18 ((z_hg 18).1, (z_hg 18).2.1, none, ((z_hg 18).2.2.2.set 6 (.inl (1, 0, 0, 1, 24))))).set 41 ((z_hg 41).1, (z_hg 41).2.1, none, ((z_hg 41).2.2.2.set 5 (.inl (1, 0, 0, 1, 24)))))) (yc_bN2 _) z_Kn392 rfl rfl (by decide +kernel) rfl rfl hq0 (fun q hq => by rw [List.mem_singleton] at hq; subst hq; exact ⟨_, _, rfl, rfl, by show yc_lv u + 0 ≤ yc_lv u; omega⟩) hI hH ha hlen ⟨yc_ti (by omega) (by omega), trivial⟩
      obtain ⟨r, e1, e2, e3⟩ := yc_no (val := 1) hm (by decide +kernel) hr hI' hp t1 t2
      exact ⟨r, u, P', al', ⟨rfl, Or.inl ⟨1, by decide, c3, hkq.mpr (by omega), e1⟩⟩, e2, e3, hp.1, hl⟩
    · have kbi := kb 2 (by decide)
      have kvb := yc_kvb kb (i := 2) (by decide)
      have hkv : (Int32.ofInt (yc_kv u.2 2)).toInt = (yc_kv u.2 2) := ye_to (by omega) (by omega)
      have hkq : yc_kq u 2 ↔ yc_kv u.2 2 = yc_lv u := by
        unfold yc_kq yc_kv
        split <;> constructor <;> intro h <;> omega
      by_cases c4 : (yc_kv u.2 2) < yc_lv u
      · have hq0 : z_gh (z_strs (z_G xs)) [0, (Int32.ofInt (yc_kv u.2 2)).toInt, yc_lv u] al z_H0c P := (hI.1.mono ⟨_, rfl⟩)
        have hq1 := z_gh_name (A := z_hg 18) (tok := (.inl (2, 0, 0, 1, 24))) hq0 t1.1.2.2.2.1 rfl rfl rfl (yc_tn (k := 2) (x := Int32.ofInt u.1.2.2.1) rfl hlv.1 hlv.2)
        have hq2 := z_gh_name (A := z_hg 47) (tok := (.inl (1, 0, 0, 0, 24))) hq1 (kt 2 (by decide)) rfl rfl rfl (yc_tn (k := 1) (x := Int32.ofInt (yc_kv u.2 2)) rfl (by omega) (by omega))
        have hH : z_gh (z_strs (z_G xs)) [0, (Int32.ofInt (yc_kv u.2 2)).toInt, yc_lv u] al ((z_H0c.set 18 ((z_hg 18).1, (z_hg 18).2.1, none, ((z_hg 18).2.2.2.set 6 (.inl (2, 0, 0, 1, 24))))).set 47 ((z_hg 47).1, (z_hg 47).2.1, none, ((z_hg 47).2.2.2.set 5 (.inl (1, 0, 0, 0, 24))))) P := hq2
        obtain ⟨rv, P', al', X, hm, hr, hI', hp, hl⟩ := z_usePostN (K := z_Kk399) (ts := [.inl (0, 0, 0, 2, 2)]) (vs := [.int w0]) (F := [(1, 2, 1)]) (bd := [(1, 1, 0), (2, 2, 0)]) (N := [0, (Int32.ofInt (yc_kv u.2 2)).toInt, yc_lv u]) (HE := ((z_H0c.set 18 ((z_hg 18).1, (z_hg 18).2.1, none, ((z_hg 18).2.2.2.set 6 (.inl (2, 0, 0, 1, 24))))).set 47 ((z_hg 47).1, (z_hg 47).2.1, none, ((z_hg 47).2.2.2.set 5 (.inl (1, 0, 0, 0, 24)))))) (yc_bN3 _ _) z_Kn399 rfl rfl (by decide +kernel) rfl rfl hq0 (fun q hq => by rw [List.mem_singleton] at hq; subst hq; exact ⟨_, _, rfl, rfl, by show (Int32.ofInt (yc_kv u.2 2)).toInt + 1 ≤ yc_lv u; omega⟩) hI hH ha hlen ⟨yc_ti (by omega) (by omega), trivial⟩
        obtain ⟨r, e1, e2, e3⟩ := yc_no (val := 0) hm (by decide +kernel) hr hI' hp t1 t2
        exact ⟨r, u, P', al', ⟨rfl, Or.inr ⟨fun ⟨i, i1, i2, i3⟩ => by
            have i2 : w0.toInt = (i : Int) := i2
            have : i = 2 := by omega
            subst this
            have := hkq.mp i3
            omega, e1⟩⟩, e2, e3, hp.1, hl⟩
      by_cases c5 : yc_lv u < (yc_kv u.2 2)
      · have hq0 : z_gh (z_strs (z_G xs)) [0, yc_lv u, (Int32.ofInt (yc_kv u.2 2)).toInt] al z_H0c P := (hI.1.mono ⟨_, rfl⟩)
        have hq1 := z_gh_name (A := z_hg 18) (tok := (.inl (1, 0, 0, 1, 24))) hq0 t1.1.2.2.2.1 rfl rfl rfl (yc_tn (k := 1) (x := Int32.ofInt u.1.2.2.1) rfl hlv.1 hlv.2)
        have hq2 := z_gh_name (A := z_hg 47) (tok := (.inl (2, 0, 0, 0, 24))) hq1 (kt 2 (by decide)) rfl rfl rfl (yc_tn (k := 2) (x := Int32.ofInt (yc_kv u.2 2)) rfl (by omega) (by omega))
        have hH : z_gh (z_strs (z_G xs)) [0, yc_lv u, (Int32.ofInt (yc_kv u.2 2)).toInt] al ((z_H0c.set 18 ((z_hg 18).1, (z_hg 18).2.1, none, ((z_hg 18).2.2.2.set 6 (.inl (1, 0, 0, 1, 24))))).set 47 ((z_hg 47).1, (z_hg 47).2.1, none, ((z_hg 47).2.2.2.set 5 (.inl (2, 0, 0, 0, 24))))) P := hq2
        obtain ⟨rv, P', al', X, hm, hr, hI', hp, hl⟩ := z_usePostN (K := z_Kk396) (ts := [.inl (0, 0, 0, 2, 2)]) (vs := [.int w0]) (F := [(1, 2, 1)]) (bd := [(1, 1, 0), (2, 2, 0)]) (N := [0, yc_lv u, (Int32.ofInt (yc_kv u.2 2)).toInt]) (HE := ((z_H0c.set 18 ((z_hg 18).1, (z_hg 18).2.1, none, ((z_hg 18).2.2.2.set 6 (.inl (1, 0, 0, 1, 24))))).set 47 ((z_hg 47).1, (z_hg 47).2.1, none, ((z_hg 47).2.2.2.set 5 (.inl (2, 0, 0, 0, 24)))))) (yc_bN3 _ _) z_Kn396 rfl rfl (by decide +kernel) rfl rfl hq0 (fun q hq => by rw [List.mem_singleton] at hq; subst hq; exact ⟨_, _, rfl, rfl, by show yc_lv u + 1 ≤ (Int32.ofInt (yc_kv u.2 2)).toInt; omega⟩) hI hH ha hlen ⟨yc_ti (by omega) (by omega), trivial⟩
        obtain ⟨r, e1, e2, e3⟩ := yc_no (val := 0) hm (by decide +kernel) hr hI' hp t1 t2
        exact ⟨r, u, P', al', ⟨rfl, Or.inr ⟨fun ⟨i, i1, i2, i3⟩ => by
            have i2 : w0.toInt = (i : Int) := i2
            have : i = 2 := by omega
            subst this
            have := hkq.mp i3
            omega, e1⟩⟩, e2, e3, hp.1, hl⟩
      have hq0 : z_gh (z_strs (z_G xs)) [0, yc_lv u] al z_H0c P := (hI.1.mono ⟨_, rfl⟩)
      have hq1 := z_gh_name (A := z_hg 18) (tok := (.inl (1, 0, 0, 1, 24))) hq0 t1.1.2.2.2.1 rfl rfl rfl (yc_tn (k := 1) (x := Int32.ofInt u.1.2.2.1) rfl hlv.1 hlv.2)
      have hq2 := z_gh_name (A := z_hg 47) (tok := (.inl (1, 0, 0, 1, 24))) hq1 (kt 2 (by decide)) rfl rfl rfl (yc_tn (k := 1) (x := Int32.ofInt (yc_kv u.2 2)) (by show some (yc_lv u) = some _; congr 1; omega) (by omega) (by omega))
      have hH : z_gh (z_strs (z_G xs)) [0, yc_lv u] al ((z_H0c.set 18 ((z_hg 18).1, (z_hg 18).2.1, none, ((z_hg 18).2.2.2.set 6 (.inl (1, 0, 0, 1, 24))))).set 47 ((z_hg 47).1, (z_hg 47).2.1, none, ((z_hg 47).2.2.2.set 5 (.inl (1, 0, 0, 1, 24))))) P := hq2
      obtain ⟨rv, P', al', X, hm, hr, hI', hp, hl⟩ := z_usePostN (K := z_Kk393) (ts := [.inl (0, 0, 0, 2, 2)]) (vs := [.int w0]) (F := [(1, 1, 0)]) (bd := [(1, 1, 0)]) (N := [0, yc_lv u]) (HE := ((z_H0c.set 18 ((z_hg 18).1, (z_hg 18).2.1, none, ((z_hg 18).2.2.2.set 6 (.inl (1, 0, 0, 1, 24))))).set 47 ((z_hg 47).1, (z_hg 47).2.1, none, ((z_hg 47).2.2.2.set 5 (.inl (1, 0, 0, 1, 24)))))) (yc_bN2 _) z_Kn393 rfl rfl (by decide +kernel) rfl rfl hq0 (fun q hq => by rw [List.mem_singleton] at hq; subst hq; exact ⟨_, _, rfl, rfl, by show yc_lv u + 0 ≤ yc_lv u; omega⟩) hI hH ha hlen ⟨yc_ti (by omega) (by omega), trivial⟩
      obtain ⟨r, e1, e2, e3⟩ := yc_no (val := 1) hm (by decide +kernel) hr hI' hp t1 t2
      exact ⟨r, u, P', al', ⟨rfl, Or.inl ⟨2, by decide, c3, hkq.mpr (by omega), e1⟩⟩, e2, e3, hp.1, hl⟩
theorem ye_keepM : z_Told xs 286 90 true ye_SpKp 1 := by
  intro al P a u v ws ⟨hI, t1, t2⟩ ha hlen hws
  match ws, hws with
  | [w0], _ =>
    have b0 := w0.le_toInt
    have d0 := w0.toInt_lt
    have hlv := yc_tp_in hI.1 t2.1.2.2.2.1 rfl rfl rfl
    have l0 : 0 ≤ yc_lv v ∧ yc_lv v ≤ 24 := hlv
    obtain ⟨kb, kt⟩ := t2.2
    by_cases c1 : w0.toInt < 0
    · have hq0 : z_gh (z_strs (z_G xs)) [0] al z_H0c P := hI.1
      have hH : z_gh (z_strs (z_G xs)) [0] al z_H0c P := hq0
      obtain ⟨rv, P', al', X, hm, hr, hI', hp, hl⟩ := z_usePostN (K := z_Kk430) (ts := [.inl (0, 0, 0, (-2147483648), (-1))]) (vs := [.int w0]) (F := []) (bd := []) (N := [0]) (HE := z_H0c) rfl z_Kn430 rfl rfl (by decide +kernel) rfl rfl hq0 (fun q hq => by cases hq) hI hH ha hlen ⟨yc_ti (by omega) (by omega), trivial⟩
      obtain ⟨r, e1, e2, e3⟩ := yc_no (val := 0) hm (by decide +kernel) hr hI' hp t1 t2
      exact ⟨r, v, P', al', Or.inr ⟨fun h => by have : 0 ≤ w0.toInt := h.1; omega, e1, rfl⟩, e2, e3, hp.1, hl⟩
    by_cases c2 : 2 < w0.toInt
    · have hq0 : z_gh (z_strs (z_G xs)) [0] al z_H0c P := hI.1
      have hH : z_gh (z_strs (z_G xs)) [0] al z_H0c P := hq0
      obtain ⟨rv, P', al', X, hm, hr, hI', hp, hl⟩ := z_usePostN (K := z_Kk426) (ts := [.inl (0, 0, 0, 3, 2147483647)]) (vs := [.int w0]) (F := []) (bd := []) (N := [0]) (HE := z_H0c) rfl z_Kn426 rfl rfl (by decide +kernel) rfl rfl hq0 (fun q hq => by cases hq) hI hH ha hlen ⟨yc_ti (by omega) (by omega), trivial⟩
      obtain ⟨r, e1, e2, e3⟩ := yc_no (val := 0) hm (by decide +kernel) hr hI' hp t1 t2
      exact ⟨r, v, P', al', Or.inr ⟨fun h => by have : w0.toInt ≤ 2 := h.2; omega, e1, rfl⟩, e2, e3, hp.1, hl⟩
    have c3 : w0.toInt = 0 ∨ w0.toInt = 1 ∨ w0.toInt = 2 := by omega
    rcases c3 with c3 | c3 | c3
    · have hq0 : z_gh (z_strs (z_G xs)) [0, yc_lv v, (Int32.ofInt (v.2.1 1)).toInt, (Int32.ofInt (v.2.1 2)).toInt, (Int32.ofInt (v.2.2 1)).toInt, (Int32.ofInt (v.2.2 2)).toInt] al z_H0c P := (hI.1.mono ⟨_, rfl⟩)
      have hq1 := z_gh_name (A := z_hg 90) (tok := (.inl (1, 0, 0, 0, 24))) hq0 t2.1.2.2.2.1 rfl rfl rfl (yc_tn (k := 1) (x := Int32.ofInt v.1.2.2.1) rfl hlv.1 hlv.2)
      have hq2 := z_gh_name (A := z_hg 119) (tok := (.inl (2, 0, 0, 0, 1))) hq1 (kt 1 (by decide)).1 rfl rfl rfl (yc_tn (k := 2) (x := Int32.ofInt (v.2.1 1)) rfl (by rw [ye_to (by have := kb 1 (by decide); omega) (by have := kb 1 (by decide); omega)]; have := kb 1 (by decide); omega) (by rw [ye_to (by have := kb 1 (by decide); omega) (by have := kb 1 (by decide); omega)]; have := kb 1 (by decide); omega))
      have hq3 := z_gh_name (A := ((z_hg 119).1, (z_hg 119).2.1, none, ((z_hg 119).2.2.2.set 1 (.inl (2, 0, 0, 0, 1))))) (tok := (.inl (3, 0, 0, 0, 1))) hq2 (kt 2 (by decide)).1 rfl rfl rfl (yc_tn (k := 3) (x := Int32.ofInt (v.2.1 2)) rfl (by rw [ye_to (by have := kb 2 (by decide); omega) (by have := kb 2 (by decide); omega)]; have := kb 2 (by decide); omega) (by rw [ye_to (by have := kb 2 (by decide); omega) (by have := kb 2 (by decide); omega)]; have := kb 2 (by decide); omega))
      rw [List.set_set] at hq3
      have hq4 := z_gh_name (A := z_hg 121) (tok := (.inl (4, 0, 0, 0, 24))) hq3 (kt 1 (by decide)).2 rfl rfl rfl (yc_tn (k := 4) (x := Int32.ofInt (v.2.2 1)) rfl (by rw [ye_to (by have := kb 1 (by decide); omega) (by have := kb 1 (by decide); omega)]; have := kb 1 (by decide); omega) (by rw [ye_to (by have := kb 1 (by decide); omega) (by have := kb 1 (by decide); omega)]; have := kb 1 (by decide); omega))
      have hq5 := z_gh_name (A := ((z_hg 121).1, (z_hg 121).2.1, none, ((z_hg 121).2.2.2.set 1 (.inl (4, 0, 0, 0, 24))))) (tok := (.inl (5, 0, 0, 0, 24))) hq4 (kt 2 (by decide)).2 rfl rfl rfl (yc_tn (k := 5) (x := Int32.ofInt (v.2.2 2)) rfl (by rw [ye_to (by have := kb 2 (by decide); omega) (by have := kb 2 (by decide); omega)]; have := kb 2 (by decide); omega) (by rw [ye_to (by have := kb 2 (by decide); omega) (by have := kb 2 (by decide); omega)]; have := kb 2 (by decide); omega))
      rw [List.set_set] at hq5
      have hH : z_gh (z_strs (z_G xs)) [0, yc_lv v, (Int32.ofInt (v.2.1 1)).toInt, (Int32.ofInt (v.2.1 2)).toInt, (Int32.ofInt (v.2.2 1)).toInt, (Int32.ofInt (v.2.2 2)).toInt] al (((z_H0c.set 90 ((z_hg 90).1, (z_hg 90).2.1, none, ((z_hg 90).2.2.2.set 5 (.inl (1, 0, 0, 0, 24))))).set 119 ((z_hg 119).1, (z_hg 119).2.1, none, (((z_hg 119).2.2.2.set 1 (.inl (2, 0, 0, 0, 1))).set 2 (.inl (3, 0, 0, 0, 1))))).set 121 ((z_hg 121).1, (z_hg 121).2.1, none, (((z_hg 121).2.2.2.set 1 (.inl (4, 0, 0, 0, 24))).set 2 (.inl (5, 0, 0, 0, 24))))) P := hq5
      obtain ⟨rv, P', al', X, hm, hr, hI', hp, hl⟩ := z_usePostN (K := z_Kk427) (ts := [.inl (0, 0, 0, 0, 0)]) (vs := [.int w0]) (F := [(1, 1, 0), (2, 2, 0), (3, 3, 0), (4, 4, 0), (5, 5, 0)]) (bd := [(1, 1, 0), (2, 2, 0), (3, 3, 0), (4, 4, 0), (5, 5, 0)]) (N := [0, yc_lv v, (Int32.ofInt (v.2.1 1)).toInt, (Int32.ofInt (v.2.1 2)).toInt, (Int32.ofInt (v.2.2 1)).toInt, (Int32.ofInt (v.2.2 2)).toInt]) (HE := (((z_H0c.set 90 ((z_hg 90).1, (z_hg 90).2.1, none, ((z_hg 90).2.2.2.set 5 (.inl (1, 0, 0, 0, 24))))).set 119 ((z_hg 119).1, (z_hg 119).2.1, none, (((z_hg 119).2.2.2.set 1 (.inl (2, 0, 0, 0, 1))).set 2 (.inl (3, 0, 0, 0, 1))))).set 121 ((z_hg 121).1, (z_hg 121).2.1, none, (((z_hg 121).2.2.2.set 1 (.inl (4, 0, 0, 0, 24))).set 2 (.inl (5, 0, 0, 0, 24)))))) (yc_bN6 _ _ _ _ _) z_Kn427 rfl rfl (by decide +kernel) rfl rfl hq0 (fun q hq => by
        simp only [List.mem_cons, List.not_mem_nil, or_false] at hq
        rcases hq with rfl | rfl | rfl | rfl | rfl
        · exact ⟨_, _, rfl, rfl, by show yc_lv v + 0 ≤ yc_lv v; omega⟩
        · exact ⟨_, _, rfl, rfl, by show (Int32.ofInt (v.2.1 1)).toInt + 0 ≤ (Int32.ofInt (v.2.1 1)).toInt; omega⟩
        · exact ⟨_, _, rfl, rfl, by show (Int32.ofInt (v.2.1 2)).toInt + 0 ≤ (Int32.ofInt (v.2.1 2)).toInt; omega⟩
        · exact ⟨_, _, rfl, rfl, by show (Int32.ofInt (v.2.2 1)).toInt + 0 ≤ (Int32.ofInt (v.2.2 1)).toInt; omega⟩
        · exact ⟨_, _, rfl, rfl, by show (Int32.ofInt (v.2.2 2)).toInt + 0 ≤ (Int32.ofInt (v.2.2 2)).toInt; omega⟩) hI hH ha hlen ⟨yc_ti (by omega) (by omega), trivial⟩
      have hck : ((z_Kk427).2.2.2.2.1.all fun X => yc_isc 1 X.1 && ((ye_pM X && (yc_isd X 119 0 1 && (yc_isq X 121 0 1 0 && (yc_isq X 119 1 2 0 && (yc_isq X 119 2 3 0 && (yc_isq X 121 1 4 0 && yc_isq X 121 2 5 0)))))) && yc_pC X)) = true := by decide +kernel
      have h := List.all_eq_true.mp hck X hm
      simp only [Bool.and_eq_true] at h
      obtain ⟨h1, ⟨h2, h3, h4, h5, h6, h7, h8⟩, h9⟩ := h
      obtain ⟨r, e1, e2⟩ := yc_isc_ok h1 hp.2.2.2.1
      subst e1
      have q1 := yc_isd_ok h3 hp (kt 0 (by decide)).1
      have q2 := yc_isq_ok (by decide) h4 (w := yc_lv v) rfl hp (kt 0 (by decide)).2
      have q3 := yc_isq_ok (by decide) h5 (w := (Int32.ofInt (v.2.1 1)).toInt) rfl hp (kt 1 (by decide)).1
      have q4 := yc_isq_ok (by decide) h6 (w := (Int32.ofInt (v.2.1 2)).toInt) rfl hp (kt 2 (by decide)).1
      have q5 := yc_isq_ok (by decide) h7 (w := (Int32.ofInt (v.2.2 1)).toInt) rfl hp (kt 1 (by decide)).2
      have q6 := yc_isq_ok (by decide) h8 (w := (Int32.ofInt (v.2.2 2)).toInt) rfl hp (kt 2 (by decide)).2
      rw [Int.add_zero] at q2
      rw [Int.add_zero, ← ye_of] at q3 q4 q5 q6
      refine ⟨r, yc_k1 v 0, P', al', Or.inl ⟨0, by decide, c3, e2, rfl⟩, hr, ⟨hI', yc_pC_ok hp h9 t1, ⟨ye_pM_ok hp h2 t2.1, (show yc_kb (yc_k1 v 0).2 from yc_kb1 kb ⟨by omega, l0.2⟩), fun k hk => ?_⟩⟩, hp.1, hl⟩
      match k, hk with
      | 0, _ => show z_tp 119 0 al' P' (ye_v ((yc_k1 v 0).2.1 0)) ∧ z_tp 121 0 al' P' (ye_v ((yc_k1 v 0).2.2 0)); rw [yc_k1a, yc_k1b]; exact ⟨q1, q2⟩
      | 1, _ => show z_tp 119 1 al' P' (ye_v ((yc_k1 v 0).2.1 1)) ∧ z_tp 121 1 al' P' (ye_v ((yc_k1 v 0).2.2 1)); rw [yc_k1c (by decide), yc_k1d (by decide)]; exact ⟨q3, q5⟩
      | 2, _ => show z_tp 119 2 al' P' (ye_v ((yc_k1 v 0).2.1 2)) ∧ z_tp 121 2 al' P' (ye_v ((yc_k1 v 0).2.2 2)); rw [yc_k1c (by decide), yc_k1d (by decide)]; exact ⟨q4, q6⟩
      | k + 3, h => exact absurd h (by omega)
    · have hq0 : z_gh (z_strs (z_G xs)) [0, yc_lv v, (Int32.ofInt (v.2.1 0)).toInt, (Int32.ofInt (v.2.1 2)).toInt, (Int32.ofInt (v.2.2 0)).toInt, (Int32.ofInt (v.2.2 2)).toInt] al z_H0c P := (hI.1.mono ⟨_, rfl⟩)
      have hq1 := z_gh_name (A := z_hg 90) (tok := (.inl (1, 0, 0, 0, 24))) hq0 t2.1.2.2.2.1 rfl rfl rfl (yc_tn (k := 1) (x := Int32.ofInt v.1.2.2.1) rfl hlv.1 hlv.2)
      have hq2 := z_gh_name (A := z_hg 119) (tok := (.inl (2, 0, 0, 0, 1))) hq1 (kt 0 (by decide)).1 rfl rfl rfl (yc_tn (k := 2) (x := Int32.ofInt (v.2.1 0)) rfl (by rw [ye_to (by have := kb 0 (by decide); omega) (by have := kb 0 (by decide); omega)]; have := kb 0 (by decide); omega) (by rw [ye_to (by have := kb 0 (by decide); omega) (by have := kb 0 (by decide); omega)]; have := kb 0 (by decide); omega))
      have hq3 := z_gh_name (A := ((z_hg 119).1, (z_hg 119).2.1, none, ((z_hg 119).2.2.2.set 0 (.inl (2, 0, 0, 0, 1))))) (tok := (.inl (3, 0, 0, 0, 1))) hq2 (kt 2 (by decide)).1 rfl rfl rfl (yc_tn (k := 3) (x := Int32.ofInt (v.2.1 2)) rfl (by rw [ye_to (by have := kb 2 (by decide); omega) (by have := kb 2 (by decide); omega)]; have := kb 2 (by decide); omega) (by rw [ye_to (by have := kb 2 (by decide); omega) (by have := kb 2 (by decide); omega)]; have := kb 2 (by decide); omega))
      rw [List.set_set] at hq3
      have hq4 := z_gh_name (A := z_hg 121) (tok := (.inl (4, 0, 0, 0, 24))) hq3 (kt 0 (by decide)).2 rfl rfl rfl (yc_tn (k := 4) (x := Int32.ofInt (v.2.2 0)) rfl (by rw [ye_to (by have := kb 0 (by decide); omega) (by have := kb 0 (by decide); omega)]; have := kb 0 (by decide); omega) (by rw [ye_to (by have := kb 0 (by decide); omega) (by have := kb 0 (by decide); omega)]; have := kb 0 (by decide); omega))
      have hq5 := z_gh_name (A := ((z_hg 121).1, (z_hg 121).2.1, none, ((z_hg 121).2.2.2.set 0 (.inl (4, 0, 0, 0, 24))))) (tok := (.inl (5, 0, 0, 0, 24))) hq4 (kt 2 (by decide)).2 rfl rfl rfl (yc_tn (k := 5) (x := Int32.ofInt (v.2.2 2)) rfl (by rw [ye_to (by have := kb 2 (by decide); omega) (by have := kb 2 (by decide); omega)]; have := kb 2 (by decide); omega) (by rw [ye_to (by have := kb 2 (by decide); omega) (by have := kb 2 (by decide); omega)]; have := kb 2 (by decide); omega))
      rw [List.set_set] at hq5
      have hH : z_gh (z_strs (z_G xs)) [0, yc_lv v, (Int32.ofInt (v.2.1 0)).toInt, (Int32.ofInt (v.2.1 2)).toInt, (Int32.ofInt (v.2.2 0)).toInt, (Int32.ofInt (v.2.2 2)).toInt] al (((z_H0c.set 90 ((z_hg 90).1, (z_hg 90).2.1, none, ((z_hg 90).2.2.2.set 5 (.inl (1, 0, 0, 0, 24))))).set 119 ((z_hg 119).1, (z_hg 119).2.1, none, (((z_hg 119).2.2.2.set 0 (.inl (2, 0, 0, 0, 1))).set 2 (.inl (3, 0, 0, 0, 1))))).set 121 ((z_hg 121).1, (z_hg 121).2.1, none, (((z_hg 121).2.2.2.set 0 (.inl (4, 0, 0, 0, 24))).set 2 (.inl (5, 0, 0, 0, 24))))) P := hq5
      obtain ⟨rv, P', al', X, hm, hr, hI', hp, hl⟩ := z_usePostN (K := z_Kk428) (ts := [.inl (0, 0, 0, 1, 1)]) (vs := [.int w0]) (F := [(1, 1, 0), (2, 2, 0), (3, 3, 0), (4, 4, 0), (5, 5, 0)]) (bd := [(1, 1, 0), (2, 2, 0), (3, 3, 0), (4, 4, 0), (5, 5, 0)]) (N := [0, yc_lv v, (Int32.ofInt (v.2.1 0)).toInt, (Int32.ofInt (v.2.1 2)).toInt, (Int32.ofInt (v.2.2 0)).toInt, (Int32.ofInt (v.2.2 2)).toInt]) (HE := (((z_H0c.set 90 ((z_hg 90).1, (z_hg 90).2.1, none, ((z_hg 90).2.2.2.set 5 (.inl (1, 0, 0, 0, 24))))).set 119 ((z_hg 119).1, (z_hg 119).2.1, none, (((z_hg 119).2.2.2.set 0 (.inl (2, 0, 0, 0, 1))).set 2 (.inl (3, 0, 0, 0, 1))))).set 121 ((z_hg 121).1, (z_hg 121).2.1, none, (((z_hg 121).2.2.2.set 0 (.inl (4, 0, 0, 0, 24))).set 2 (.inl (5, 0, 0, 0, 24)))))) (yc_bN6 _ _ _ _ _) z_Kn428 rfl rfl (by decide +kernel) rfl rfl hq0 (fun q hq => by
        simp only [List.mem_cons, List.not_mem_nil, or_false] at hq
        rcases hq with rfl | rfl | rfl | rfl | rfl
        · exact ⟨_, _, rfl, rfl, by show yc_lv v + 0 ≤ yc_lv v; omega⟩
        · exact ⟨_, _, rfl, rfl, by show (Int32.ofInt (v.2.1 0)).toInt + 0 ≤ (Int32.ofInt (v.2.1 0)).toInt; omega⟩
        · exact ⟨_, _, rfl, rfl, by show (Int32.ofInt (v.2.1 2)).toInt + 0 ≤ (Int32.ofInt (v.2.1 2)).toInt; omega⟩
        · exact ⟨_, _, rfl, rfl, by show (Int32.ofInt (v.2.2 0)).toInt + 0 ≤ (Int32.ofInt (v.2.2 0)).toInt; omega⟩
        · exact ⟨_, _, rfl, rfl, by show (Int32.ofInt (v.2.2 2)).toInt + 0 ≤ (Int32.ofInt (v.2.2 2)).toInt; omega⟩) hI hH ha hlen ⟨yc_ti (by omega) (by omega), trivial⟩
      have hck : ((z_Kk428).2.2.2.2.1.all fun X => yc_isc 1 X.1 && ((ye_pM X && (yc_isd X 119 1 1 && (yc_isq X 121 1 1 0 && (yc_isq X 119 0 2 0 && (yc_isq X 119 2 3 0 && (yc_isq X 121 0 4 0 && yc_isq X 121 2 5 0)))))) && yc_pC X)) = true := by decide +kernel
      have h := List.all_eq_true.mp hck X hm
      simp only [Bool.and_eq_true] at h
      obtain ⟨h1, ⟨h2, h3, h4, h5, h6, h7, h8⟩, h9⟩ := h
      obtain ⟨r, e1, e2⟩ := yc_isc_ok h1 hp.2.2.2.1
      subst e1
      have q1 := yc_isd_ok h3 hp (kt 1 (by decide)).1
      have q2 := yc_isq_ok (by decide) h4 (w := yc_lv v) rfl hp (kt 1 (by decide)).2
      have q3 := yc_isq_ok (by decide) h5 (w := (Int32.ofInt (v.2.1 0)).toInt) rfl hp (kt 0 (by decide)).1
      have q4 := yc_isq_ok (by decide) h6 (w := (Int32.ofInt (v.2.1 2)).toInt) rfl hp (kt 2 (by decide)).1
      have q5 := yc_isq_ok (by decide) h7 (w := (Int32.ofInt (v.2.2 0)).toInt) rfl hp (kt 0 (by decide)).2
      have q6 := yc_isq_ok (by decide) h8 (w := (Int32.ofInt (v.2.2 2)).toInt) rfl hp (kt 2 (by decide)).2
      rw [Int.add_zero] at q2
      rw [Int.add_zero, ← ye_of] at q3 q4 q5 q6
      refine ⟨r, yc_k1 v 1, P', al', Or.inl ⟨1, by decide, c3, e2, rfl⟩, hr, ⟨hI', yc_pC_ok hp h9 t1, ⟨ye_pM_ok hp h2 t2.1, (show yc_kb (yc_k1 v 1).2 from yc_kb1 kb ⟨by omega, l0.2⟩), fun k hk => ?_⟩⟩, hp.1, hl⟩
      match k, hk with
      | 0, _ => show z_tp 119 0 al' P' (ye_v ((yc_k1 v 1).2.1 0)) ∧ z_tp 121 0 al' P' (ye_v ((yc_k1 v 1).2.2 0)); rw [yc_k1c (by decide), yc_k1d (by decide)]; exact ⟨q3, q5⟩
      | 1, _ => show z_tp 119 1 al' P' (ye_v ((yc_k1 v 1).2.1 1)) ∧ z_tp 121 1 al' P' (ye_v ((yc_k1 v 1).2.2 1)); rw [yc_k1a, yc_k1b]; exact ⟨q1, q2⟩
      | 2, _ => show z_tp 119 2 al' P' (ye_v ((yc_k1 v 1).2.1 2)) ∧ z_tp 121 2 al' P' (ye_v ((yc_k1 v 1).2.2 2)); rw [yc_k1c (by decide), yc_k1d (by decide)]; exact ⟨q4, q6⟩
      | k + 3, h => exact absurd h (by omega)
    · have hq0 : z_gh (z_strs (z_G xs)) [0, yc_lv v, (Int32.ofInt (v.2.1 0)).toInt, (Int32.ofInt (v.2.1 1)).toInt, (Int32.ofInt (v.2.2 0)).toInt, (Int32.ofInt (v.2.2 1)).toInt] al z_H0c P := (hI.1.mono ⟨_, rfl⟩)
      have hq1 := z_gh_name (A := z_hg 90) (tok := (.inl (1, 0, 0, 0, 24))) hq0 t2.1.2.2.2.1 rfl rfl rfl (yc_tn (k := 1) (x := Int32.ofInt v.1.2.2.1) rfl hlv.1 hlv.2)
      have hq2 := z_gh_name (A := z_hg 119) (tok := (.inl (2, 0, 0, 0, 1))) hq1 (kt 0 (by decide)).1 rfl rfl rfl (yc_tn (k := 2) (x := Int32.ofInt (v.2.1 0)) rfl (by rw [ye_to (by have := kb 0 (by decide); omega) (by have := kb 0 (by decide); omega)]; have := kb 0 (by decide); omega) (by rw [ye_to (by have := kb 0 (by decide); omega) (by have := kb 0 (by decide); omega)]; have := kb 0 (by decide); omega))
      have hq3 := z_gh_name (A := ((z_hg 119).1, (z_hg 119).2.1, none, ((z_hg 119).2.2.2.set 0 (.inl (2, 0, 0, 0, 1))))) (tok := (.inl (3, 0, 0, 0, 1))) hq2 (kt 1 (by decide)).1 rfl rfl rfl (yc_tn (k := 3) (x := Int32.ofInt (v.2.1 1)) rfl (by rw [ye_to (by have := kb 1 (by decide); omega) (by have := kb 1 (by decide); omega)]; have := kb 1 (by decide); omega) (by rw [ye_to (by have := kb 1 (by decide); omega) (by have := kb 1 (by decide); omega)]; have := kb 1 (by decide); omega))
      rw [List.set_set] at hq3
      have hq4 := z_gh_name (A := z_hg 121) (tok := (.inl (4, 0, 0, 0, 24))) hq3 (kt 0 (by decide)).2 rfl rfl rfl (yc_tn (k := 4) (x := Int32.ofInt (v.2.2 0)) rfl (by rw [ye_to (by have := kb 0 (by decide); omega) (by have := kb 0 (by decide); omega)]; have := kb 0 (by decide); omega) (by rw [ye_to (by have := kb 0 (by decide); omega) (by have := kb 0 (by decide); omega)]; have := kb 0 (by decide); omega))
      have hq5 := z_gh_name (A := ((z_hg 121).1, (z_hg 121).2.1, none, ((z_hg 121).2.2.2.set 0 (.inl (4, 0, 0, 0, 24))))) (tok := (.inl (5, 0, 0, 0, 24))) hq4 (kt 1 (by decide)).2 rfl rfl rfl (yc_tn (k := 5) (x := Int32.ofInt (v.2.2 1)) rfl (by rw [ye_to (by have := kb 1 (by decide); omega) (by have := kb 1 (by decide); omega)]; have := kb 1 (by decide); omega) (by rw [ye_to (by have := kb 1 (by decide); omega) (by have := kb 1 (by decide); omega)]; have := kb 1 (by decide); omega))
      rw [List.set_set] at hq5
      have hH : z_gh (z_strs (z_G xs)) [0, yc_lv v, (Int32.ofInt (v.2.1 0)).toInt, (Int32.ofInt (v.2.1 1)).toInt, (Int32.ofInt (v.2.2 0)).toInt, (Int32.ofInt (v.2.2 1)).toInt] al (((z_H0c.set 90 ((z_hg 90).1, (z_hg 90).2.1, none, ((z_hg 90).2.2.2.set 5 (.inl (1, 0, 0, 0, 24))))).set 119 ((z_hg 119).1, (z_hg 119).2.1, none, (((z_hg 119).2.2.2.set 0 (.inl (2, 0, 0, 0, 1))).set 1 (.inl (3, 0, 0, 0, 1))))).set 121 ((z_hg 121).1, (z_hg 121).2.1, none, (((z_hg 121).2.2.2.set 0 (.inl (4, 0, 0, 0, 24))).set 1 (.inl (5, 0, 0, 0, 24))))) P := hq5
      obtain ⟨rv, P', al', X, hm, hr, hI', hp, hl⟩ := z_usePostN (K := z_Kk429) (ts := [.inl (0, 0, 0, 2, 2)]) (vs := [.int w0]) (F := [(1, 1, 0), (2, 2, 0), (3, 3, 0), (4, 4, 0), (5, 5, 0)]) (bd := [(1, 1, 0), (2, 2, 0), (3, 3, 0), (4, 4, 0), (5, 5, 0)]) (N := [0, yc_lv v, (Int32.ofInt (v.2.1 0)).toInt, (Int32.ofInt (v.2.1 1)).toInt, (Int32.ofInt (v.2.2 0)).toInt, (Int32.ofInt (v.2.2 1)).toInt]) (HE := (((z_H0c.set 90 ((z_hg 90).1, (z_hg 90).2.1, none, ((z_hg 90).2.2.2.set 5 (.inl (1, 0, 0, 0, 24))))).set 119 ((z_hg 119).1, (z_hg 119).2.1, none, (((z_hg 119).2.2.2.set 0 (.inl (2, 0, 0, 0, 1))).set 1 (.inl (3, 0, 0, 0, 1))))).set 121 ((z_hg 121).1, (z_hg 121).2.1, none, (((z_hg 121).2.2.2.set 0 (.inl (4, 0, 0, 0, 24))).set 1 (.inl (5, 0, 0, 0, 24)))))) (yc_bN6 _ _ _ _ _) z_Kn429 rfl rfl (by decide +kernel) rfl rfl hq0 (fun q hq => by
        simp only [List.mem_cons, List.not_mem_nil, or_false] at hq
        rcases hq with rfl | rfl | rfl | rfl | rfl
        · exact ⟨_, _, rfl, rfl, by show yc_lv v + 0 ≤ yc_lv v; omega⟩
        · exact ⟨_, _, rfl, rfl, by show (Int32.ofInt (v.2.1 0)).toInt + 0 ≤ (Int32.ofInt (v.2.1 0)).toInt; omega⟩
        · exact ⟨_, _, rfl, rfl, by show (Int32.ofInt (v.2.1 1)).toInt + 0 ≤ (Int32.ofInt (v.2.1 1)).toInt; omega⟩
        · exact ⟨_, _, rfl, rfl, by show (Int32.ofInt (v.2.2 0)).toInt + 0 ≤ (Int32.ofInt (v.2.2 0)).toInt; omega⟩
        · exact ⟨_, _, rfl, rfl, by show (Int32.ofInt (v.2.2 1)).toInt + 0 ≤ (Int32.ofInt (v.2.2 1)).toInt; omega⟩) hI hH ha hlen ⟨yc_ti (by omega) (by omega), trivial⟩
      have hck : ((z_Kk429).2.2.2.2.1.all fun X => yc_isc 1 X.1 && ((ye_pM X && (yc_isd X 119 2 1 && (yc_isq X 121 2 1 0 && (yc_isq X 119 0 2 0 && (yc_isq X 119 1 3 0 && (yc_isq X 121 0 4 0 && yc_isq X 121 1 5 0)))))) && yc_pC X)) = true := by decide +kernel
      have h := List.all_eq_true.mp hck X hm
      simp only [Bool.and_eq_true] at h
      obtain ⟨h1, ⟨h2, h3, h4, h5, h6, h7, h8⟩, h9⟩ := h
      obtain ⟨r, e1, e2⟩ := yc_isc_ok h1 hp.2.2.2.1
      subst e1
      have q1 := yc_isd_ok h3 hp (kt 2 (by decide)).1
      have q2 := yc_isq_ok (by decide) h4 (w := yc_lv v) rfl hp (kt 2 (by decide)).2
      have q3 := yc_isq_ok (by decide) h5 (w := (Int32.ofInt (v.2.1 0)).toInt) rfl hp (kt 0 (by decide)).1
      have q4 := yc_isq_ok (by decide) h6 (w := (Int32.ofInt (v.2.1 1)).toInt) rfl hp (kt 1 (by decide)).1
      have q5 := yc_isq_ok (by decide) h7 (w := (Int32.ofInt (v.2.2 0)).toInt) rfl hp (kt 0 (by decide)).2
      have q6 := yc_isq_ok (by decide) h8 (w := (Int32.ofInt (v.2.2 1)).toInt) rfl hp (kt 1 (by decide)).2
      rw [Int.add_zero] at q2
      rw [Int.add_zero, ← ye_of] at q3 q4 q5 q6
      refine ⟨r, yc_k1 v 2, P', al', Or.inl ⟨2, by decide, c3, e2, rfl⟩, hr, ⟨hI', yc_pC_ok hp h9 t1, ⟨ye_pM_ok hp h2 t2.1, (show yc_kb (yc_k1 v 2).2 from yc_kb1 kb ⟨by omega, l0.2⟩), fun k hk => ?_⟩⟩, hp.1, hl⟩
      match k, hk with
      | 0, _ => show z_tp 119 0 al' P' (ye_v ((yc_k1 v 2).2.1 0)) ∧ z_tp 121 0 al' P' (ye_v ((yc_k1 v 2).2.2 0)); rw [yc_k1c (by decide), yc_k1d (by decide)]; exact ⟨q3, q5⟩
      | 1, _ => show z_tp 119 1 al' P' (ye_v ((yc_k1 v 2).2.1 1)) ∧ z_tp 121 1 al' P' (ye_v ((yc_k1 v 2).2.2 1)); rw [yc_k1c (by decide), yc_k1d (by decide)]; exact ⟨q4, q6⟩
      | 2, _ => show z_tp 119 2 al' P' (ye_v ((yc_k1 v 2).2.1 2)) ∧ z_tp 121 2 al' P' (ye_v ((yc_k1 v 2).2.2 2)); rw [yc_k1a, yc_k1b]; exact ⟨q1, q2⟩
      | k + 3, h => exact absurd h (by omega)
theorem ye_againM : z_Told xs 287 90 true ye_SpAg 1 := by
  intro al P a u v ws ⟨hI, t1, t2⟩ ha hlen hws
  match ws, hws with
  | [w0], _ =>
    have b0 := w0.le_toInt
    have d0 := w0.toInt_lt
    have hlv := yc_tp_in hI.1 t2.1.2.2.2.1 rfl rfl rfl
    have l0 : 0 ≤ yc_lv v ∧ yc_lv v ≤ 24 := hlv
    obtain ⟨kb, kt⟩ := t2.2
    by_cases c1 : w0.toInt < 0
    · have hq0 : z_gh (z_strs (z_G xs)) [0] al z_H0c P := hI.1
      have hH : z_gh (z_strs (z_G xs)) [0] al z_H0c P := hq0
      obtain ⟨rv, P', al', X, hm, hr, hI', hp, hl⟩ := z_usePostN (K := z_Kk442) (ts := [.inl (0, 0, 0, (-2147483648), (-1))]) (vs := [.int w0]) (F := []) (bd := []) (N := [0]) (HE := z_H0c) rfl z_Kn442 rfl rfl (by decide +kernel) rfl rfl hq0 (fun q hq => by cases hq) hI hH ha hlen ⟨yc_ti (by omega) (by omega), trivial⟩
      obtain ⟨r, e1, e2, e3⟩ := yc_no (val := 0) hm (by decide +kernel) hr hI' hp t1 t2
      exact ⟨r, v, P', al', ⟨rfl, Or.inr ⟨fun ⟨i, i1, i2, i3⟩ => by have i2 : w0.toInt = (i : Int) := i2; omega, e1⟩⟩, e2, e3, hp.1, hl⟩
    by_cases c2 : 2 < w0.toInt
    · have hq0 : z_gh (z_strs (z_G xs)) [0] al z_H0c P := hI.1
      have hH : z_gh (z_strs (z_G xs)) [0] al z_H0c P := hq0
      obtain ⟨rv, P', al', X, hm, hr, hI', hp, hl⟩ := z_usePostN (K := z_Kk432) (ts := [.inl (0, 0, 0, 3, 2147483647)]) (vs := [.int w0]) (F := []) (bd := []) (N := [0]) (HE := z_H0c) rfl z_Kn432 rfl rfl (by decide +kernel) rfl rfl hq0 (fun q hq => by cases hq) hI hH ha hlen ⟨yc_ti (by omega) (by omega), trivial⟩
      obtain ⟨r, e1, e2, e3⟩ := yc_no (val := 0) hm (by decide +kernel) hr hI' hp t1 t2
      exact ⟨r, v, P', al', ⟨rfl, Or.inr ⟨fun ⟨i, i1, i2, i3⟩ => by have i2 : w0.toInt = (i : Int) := i2; omega, e1⟩⟩, e2, e3, hp.1, hl⟩
    have c3 : w0.toInt = 0 ∨ w0.toInt = 1 ∨ w0.toInt = 2 := by omega
    rcases c3 with c3 | c3 | c3
    · have kbi := kb 0 (by decide)
      have hkv : (Int32.ofInt (v.2.2 0)).toInt = (v.2.2 0) := ye_to (by omega) (by omega)
      by_cases c0 : v.2.1 0 = 0
      · have hq0 : z_gh (z_strs (z_G xs)) [0] al z_H0c P := hI.1
        have hq1 := z_gh_name (A := z_hg 119) (tok := (.inl (0, 0, 0, 0, 0))) hq0 (kt 0 (by decide)).1 rfl rfl rfl (yc_ti (x := Int32.ofInt (v.2.1 0)) (by rw [ye_to (by omega) (by omega)]; omega) (by rw [ye_to (by omega) (by omega)]; omega))
        have hH : z_gh (z_strs (z_G xs)) [0] al (z_H0c.set 119 ((z_hg 119).1, (z_hg 119).2.1, none, ((z_hg 119).2.2.2.set 0 (.inl (0, 0, 0, 0, 0))))) P := hq1
        obtain ⟨rv, P', al', X, hm, hr, hI', hp, hl⟩ := z_usePostN (K := z_Kk443) (ts := [.inl (0, 0, 0, 0, 0)]) (vs := [.int w0]) (F := []) (bd := []) (N := [0]) (HE := (z_H0c.set 119 ((z_hg 119).1, (z_hg 119).2.1, none, ((z_hg 119).2.2.2.set 0 (.inl (0, 0, 0, 0, 0)))))) rfl z_Kn443 rfl rfl (by decide +kernel) rfl rfl hq0 (fun q hq => by cases hq) hI hH ha hlen ⟨yc_ti (by omega) (by omega), trivial⟩
        obtain ⟨r, e1, e2, e3⟩ := yc_no (val := 0) hm (by decide +kernel) hr hI' hp t1 t2
        exact ⟨r, v, P', al', ⟨rfl, Or.inr ⟨fun ⟨i, i1, i2, i3⟩ => by
            have i2 : w0.toInt = (i : Int) := i2
            have : i = 0 := by omega
            subst this
            have j1 : v.2.1 0 = 1 := i3.1
            have j2 : v.2.2 0 = yc_lv v := i3.2
            omega, e1⟩⟩, e2, e3, hp.1, hl⟩
      by_cases c4 : (v.2.2 0) < yc_lv v
      · have hq0 : z_gh (z_strs (z_G xs)) [0, (Int32.ofInt (v.2.2 0)).toInt, yc_lv v] al z_H0c P := (hI.1.mono ⟨_, rfl⟩)
        have hq1 := z_gh_name (A := z_hg 90) (tok := (.inl (2, 0, 0, 0, 24))) hq0 t2.1.2.2.2.1 rfl rfl rfl (yc_tn (k := 2) (x := Int32.ofInt v.1.2.2.1) rfl hlv.1 hlv.2)
        have hq2 := z_gh_name (A := z_hg 119) (tok := (.inl (0, 0, 0, 1, 1))) hq1 (kt 0 (by decide)).1 rfl rfl rfl (yc_ti (x := Int32.ofInt (v.2.1 0)) (by rw [ye_to (by omega) (by omega)]; omega) (by rw [ye_to (by omega) (by omega)]; omega))
        have hq3 := z_gh_name (A := z_hg 121) (tok := (.inl (1, 0, 0, 0, 24))) hq2 (kt 0 (by decide)).2 rfl rfl rfl (yc_tn (k := 1) (x := Int32.ofInt (v.2.2 0)) rfl (by omega) (by omega))
        have hH : z_gh (z_strs (z_G xs)) [0, (Int32.ofInt (v.2.2 0)).toInt, yc_lv v] al (((z_H0c.set 90 ((z_hg 90).1, (z_hg 90).2.1, none, ((z_hg 90).2.2.2.set 5 (.inl (2, 0, 0, 0, 24))))).set 119 ((z_hg 119).1, (z_hg 119).2.1, none, ((z_hg 119).2.2.2.set 0 (.inl (0, 0, 0, 1, 1))))).set 121 ((z_hg 121).1, (z_hg 121).2.1, none, ((z_hg 121).2.2.2.set 0 (.inl (1, 0, 0, 0, 24))))) P := hq3
        obtain ⟨rv, P', al', X, hm, hr, hI', hp, hl⟩ := z_usePostN (K := z_Kk439) (ts := [.inl (0, 0, 0, 0, 0)]) (vs := [.int w0]) (F := [(1, 2, 1)]) (bd := [(1, 1, 0), (2, 2, 0)]) (N := [0, (Int32.ofInt (v.2.2 0)).toInt, yc_lv v]) (HE := (((z_H0c.set 90 ((z_hg 90).1, (z_hg 90).2.1, none, ((z_hg 90).2.2.2.set 5 (.inl (2, 0, 0, 0, 24))))).set 119 ((z_hg 119).1, (z_hg 119).2.1, none, ((z_hg 119).2.2.2.set 0 (.inl (0, 0, 0, 1, 1))))).set 121 ((z_hg 121).1, (z_hg 121).2.1, none, ((z_hg 121).2.2.2.set 0 (.inl (1, 0, 0, 0, 24)))))) (yc_bN3 _ _) z_Kn439 rfl rfl (by decide +kernel) rfl rfl hq0 (fun q hq => by rw [List.mem_singleton] at hq; subst hq; exact ⟨_, _, rfl, rfl, by show (Int32.ofInt (v.2.2 0)).toInt + 1 ≤ yc_lv v; omega⟩) hI hH ha hlen ⟨yc_ti (by omega) (by omega), trivial⟩
        obtain ⟨r, e1, e2, e3⟩ := yc_no (val := 0) hm (by decide +kernel) hr hI' hp t1 t2
        exact ⟨r, v, P', al', ⟨rfl, Or.inr ⟨fun ⟨i, i1, i2, i3⟩ => by
            have i2 : w0.toInt = (i : Int) := i2
            have : i = 0 := by omega
            subst this
            have j1 : v.2.1 0 = 1 := i3.1
            have j2 : v.2.2 0 = yc_lv v := i3.2
            omega, e1⟩⟩, e2, e3, hp.1, hl⟩
      by_cases c5 : yc_lv v < (v.2.2 0)
      · have hq0 : z_gh (z_strs (z_G xs)) [0, yc_lv v, (Int32.ofInt (v.2.2 0)).toInt] al z_H0c P := (hI.1.mono ⟨_, rfl⟩)
        have hq1 := z_gh_name (A := z_hg 90) (tok := (.inl (1, 0, 0, 0, 24))) hq0 t2.1.2.2.2.1 rfl rfl rfl (yc_tn (k := 1) (x := Int32.ofInt v.1.2.2.1) rfl hlv.1 hlv.2)
        have hq2 := z_gh_name (A := z_hg 119) (tok := (.inl (0, 0, 0, 1, 1))) hq1 (kt 0 (by decide)).1 rfl rfl rfl (yc_ti (x := Int32.ofInt (v.2.1 0)) (by rw [ye_to (by omega) (by omega)]; omega) (by rw [ye_to (by omega) (by omega)]; omega))
        have hq3 := z_gh_name (A := z_hg 121) (tok := (.inl (2, 0, 0, 0, 24))) hq2 (kt 0 (by decide)).2 rfl rfl rfl (yc_tn (k := 2) (x := Int32.ofInt (v.2.2 0)) rfl (by omega) (by omega))
        have hH : z_gh (z_strs (z_G xs)) [0, yc_lv v, (Int32.ofInt (v.2.2 0)).toInt] al (((z_H0c.set 90 ((z_hg 90).1, (z_hg 90).2.1, none, ((z_hg 90).2.2.2.set 5 (.inl (1, 0, 0, 0, 24))))).set 119 ((z_hg 119).1, (z_hg 119).2.1, none, ((z_hg 119).2.2.2.set 0 (.inl (0, 0, 0, 1, 1))))).set 121 ((z_hg 121).1, (z_hg 121).2.1, none, ((z_hg 121).2.2.2.set 0 (.inl (2, 0, 0, 0, 24))))) P := hq3
        obtain ⟨rv, P', al', X, hm, hr, hI', hp, hl⟩ := z_usePostN (K := z_Kk436) (ts := [.inl (0, 0, 0, 0, 0)]) (vs := [.int w0]) (F := [(1, 2, 1)]) (bd := [(1, 1, 0), (2, 2, 0)]) (N := [0, yc_lv v, (Int32.ofInt (v.2.2 0)).toInt]) (HE := (((z_H0c.set 90 ((z_hg 90).1, (z_hg 90).2.1, none, ((z_hg 90).2.2.2.set 5 (.inl (1, 0, 0, 0, 24))))).set 119 ((z_hg 119).1, (z_hg 119).2.1, none, ((z_hg 119).2.2.2.set 0 (.inl (0, 0, 0, 1, 1))))).set 121 ((z_hg 121).1, (z_hg 121).2.1, none, ((z_hg 121).2.2.2.set 0 (.inl (2, 0, 0, 0, 24)))))) (yc_bN3 _ _) z_Kn436 rfl rfl (by decide +kernel) rfl rfl hq0 (fun q hq => by rw [List.mem_singleton] at hq; subst hq; exact ⟨_, _, rfl, rfl, by show yc_lv v + 1 ≤ (Int32.ofInt (v.2.2 0)).toInt; omega⟩) hI hH ha hlen ⟨yc_ti (by omega) (by omega), trivial⟩
        obtain ⟨r, e1, e2, e3⟩ := yc_no (val := 0) hm (by decide +kernel) hr hI' hp t1 t2
        exact ⟨r, v, P', al', ⟨rfl, Or.inr ⟨fun ⟨i, i1, i2, i3⟩ => by
            have i2 : w0.toInt = (i : Int) := i2
            have : i = 0 := by omega
            subst this
            have j1 : v.2.1 0 = 1 := i3.1
            have j2 : v.2.2 0 = yc_lv v := i3.2
            omega, e1⟩⟩, e2, e3, hp.1, hl⟩
      have hq0 : z_gh (z_strs (z_G xs)) [0, yc_lv v] al z_H0c P := (hI.1.mono ⟨_, rfl⟩)
      have hq1 := z_gh_name (A := z_hg 90) (tok := (.inl (1, 0, 0, 0, 24))) hq0 t2.1.2.2.2.1 rfl rfl rfl (yc_tn (k := 1) (x := Int32.ofInt v.1.2.2.1) rfl hlv.1 hlv.2)
      have hq2 := z_gh_name (A := z_hg 119) (tok := (.inl (0, 0, 0, 1, 1))) hq1 (kt 0 (by decide)).1 rfl rfl rfl (yc_ti (x := Int32.ofInt (v.2.1 0)) (by rw [ye_to (by omega) (by omega)]; omega) (by rw [ye_to (by omega) (by omega)]; omega))
      have hq3 := z_gh_name (A := z_hg 121) (tok := (.inl (1, 0, 0, 0, 24))) hq2 (kt 0 (by decide)).2 rfl rfl rfl (yc_tn (k := 1) (x := Int32.ofInt (v.2.2 0)) (by show some (yc_lv v) = some _; congr 1; omega) (by omega) (by omega))
      have hH : z_gh (z_strs (z_G xs)) [0, yc_lv v] al (((z_H0c.set 90 ((z_hg 90).1, (z_hg 90).2.1, none, ((z_hg 90).2.2.2.set 5 (.inl (1, 0, 0, 0, 24))))).set 119 ((z_hg 119).1, (z_hg 119).2.1, none, ((z_hg 119).2.2.2.set 0 (.inl (0, 0, 0, 1, 1))))).set 121 ((z_hg 121).1, (z_hg 121).2.1, none, ((z_hg 121).2.2.2.set 0 (.inl (1, 0, 0, 0, 24))))) P := hq3
      obtain ⟨rv, P', al', X, hm, hr, hI', hp, hl⟩ := z_usePostN (K := z_Kk433) (ts := [.inl (0, 0, 0, 0, 0)]) (vs := [.int w0]) (F := [(1, 1, 0)]) (bd := [(1, 1, 0)]) (N := [0, yc_lv v]) (HE := (((z_H0c.set 90 ((z_hg 90).1, (z_hg 90).2.1, none, ((z_hg 90).2.2.2.set 5 (.inl (1, 0, 0, 0, 24))))).set 119 ((z_hg 119).1, (z_hg 119).2.1, none, ((z_hg 119).2.2.2.set 0 (.inl (0, 0, 0, 1, 1))))).set 121 ((z_hg 121).1, (z_hg 121).2.1, none, ((z_hg 121).2.2.2.set 0 (.inl (1, 0, 0, 0, 24)))))) (yc_bN2 _) z_Kn433 rfl rfl (by decide +kernel) rfl rfl hq0 (fun q hq => by rw [List.mem_singleton] at hq; subst hq; exact ⟨_, _, rfl, rfl, by show yc_lv v + 0 ≤ yc_lv v; omega⟩) hI hH ha hlen ⟨yc_ti (by omega) (by omega), trivial⟩
      obtain ⟨r, e1, e2, e3⟩ := yc_no (val := 1) hm (by decide +kernel) hr hI' hp t1 t2
      exact ⟨r, v, P', al', ⟨rfl, Or.inl ⟨0, by decide, c3, (show yc_kq v 0 from ⟨by omega, by omega⟩), e1⟩⟩, e2, e3, hp.1, hl⟩
    · have kbi := kb 1 (by decide)
      have hkv : (Int32.ofInt (v.2.2 1)).toInt = (v.2.2 1) := ye_to (by omega) (by omega)
      by_cases c0 : v.2.1 1 = 0
      · have hq0 : z_gh (z_strs (z_G xs)) [0] al z_H0c P := hI.1
        have hq1 := z_gh_name (A := z_hg 119) (tok := (.inl (0, 0, 0, 0, 0))) hq0 (kt 1 (by decide)).1 rfl rfl rfl (yc_ti (x := Int32.ofInt (v.2.1 1)) (by rw [ye_to (by omega) (by omega)]; omega) (by rw [ye_to (by omega) (by omega)]; omega))
        have hH : z_gh (z_strs (z_G xs)) [0] al (z_H0c.set 119 ((z_hg 119).1, (z_hg 119).2.1, none, ((z_hg 119).2.2.2.set 1 (.inl (0, 0, 0, 0, 0))))) P := hq1
        obtain ⟨rv, P', al', X, hm, hr, hI', hp, hl⟩ := z_usePostN (K := z_Kk444) (ts := [.inl (0, 0, 0, 1, 1)]) (vs := [.int w0]) (F := []) (bd := []) (N := [0]) (HE := (z_H0c.set 119 ((z_hg 119).1, (z_hg 119).2.1, none, ((z_hg 119).2.2.2.set 1 (.inl (0, 0, 0, 0, 0)))))) rfl z_Kn444 rfl rfl (by decide +kernel) rfl rfl hq0 (fun q hq => by cases hq) hI hH ha hlen ⟨yc_ti (by omega) (by omega), trivial⟩
        obtain ⟨r, e1, e2, e3⟩ := yc_no (val := 0) hm (by decide +kernel) hr hI' hp t1 t2
        exact ⟨r, v, P', al', ⟨rfl, Or.inr ⟨fun ⟨i, i1, i2, i3⟩ => by
            have i2 : w0.toInt = (i : Int) := i2
            have : i = 1 := by omega
            subst this
            have j1 : v.2.1 1 = 1 := i3.1
            have j2 : v.2.2 1 = yc_lv v := i3.2
            omega, e1⟩⟩, e2, e3, hp.1, hl⟩
      by_cases c4 : (v.2.2 1) < yc_lv v
      · have hq0 : z_gh (z_strs (z_G xs)) [0, (Int32.ofInt (v.2.2 1)).toInt, yc_lv v] al z_H0c P := (hI.1.mono ⟨_, rfl⟩)
        have hq1 := z_gh_name (A := z_hg 90) (tok := (.inl (2, 0, 0, 0, 24))) hq0 t2.1.2.2.2.1 rfl rfl rfl (yc_tn (k := 2) (x := Int32.ofInt v.1.2.2.1) rfl hlv.1 hlv.2)
        have hq2 := z_gh_name (A := z_hg 119) (tok := (.inl (0, 0, 0, 1, 1))) hq1 (kt 1 (by decide)).1 rfl rfl rfl (yc_ti (x := Int32.ofInt (v.2.1 1)) (by rw [ye_to (by omega) (by omega)]; omega) (by rw [ye_to (by omega) (by omega)]; omega))
        have hq3 := z_gh_name (A := z_hg 121) (tok := (.inl (1, 0, 0, 0, 24))) hq2 (kt 1 (by decide)).2 rfl rfl rfl (yc_tn (k := 1) (x := Int32.ofInt (v.2.2 1)) rfl (by omega) (by omega))
        have hH : z_gh (z_strs (z_G xs)) [0, (Int32.ofInt (v.2.2 1)).toInt, yc_lv v] al (((z_H0c.set 90 ((z_hg 90).1, (z_hg 90).2.1, none, ((z_hg 90).2.2.2.set 5 (.inl (2, 0, 0, 0, 24))))).set 119 ((z_hg 119).1, (z_hg 119).2.1, none, ((z_hg 119).2.2.2.set 1 (.inl (0, 0, 0, 1, 1))))).set 121 ((z_hg 121).1, (z_hg 121).2.1, none, ((z_hg 121).2.2.2.set 1 (.inl (1, 0, 0, 0, 24))))) P := hq3
        obtain ⟨rv, P', al', X, hm, hr, hI', hp, hl⟩ := z_usePostN (K := z_Kk440) (ts := [.inl (0, 0, 0, 1, 1)]) (vs := [.int w0]) (F := [(1, 2, 1)]) (bd := [(1, 1, 0), (2, 2, 0)]) (N := [0, (Int32.ofInt (v.2.2 1)).toInt, yc_lv v]) (HE := (((z_H0c.set 90 ((z_hg 90).1, (z_hg 90).2.1, none, ((z_hg 90).2.2.2.set 5 (.inl (2, 0, 0, 0, 24))))).set 119 ((z_hg 119).1, (z_hg 119).2.1, none, ((z_hg 119).2.2.2.set 1 (.inl (0, 0, 0, 1, 1))))).set 121 ((z_hg 121).1, (z_hg 121).2.1, none, ((z_hg 121).2.2.2.set 1 (.inl (1, 0, 0, 0, 24)))))) (yc_bN3 _ _) z_Kn440 rfl rfl (by decide +kernel) rfl rfl hq0 (fun q hq => by rw [List.mem_singleton] at hq; subst hq; exact ⟨_, _, rfl, rfl, by show (Int32.ofInt (v.2.2 1)).toInt + 1 ≤ yc_lv v; omega⟩) hI hH ha hlen ⟨yc_ti (by omega) (by omega), trivial⟩
        obtain ⟨r, e1, e2, e3⟩ := yc_no (val := 0) hm (by decide +kernel) hr hI' hp t1 t2
        exact ⟨r, v, P', al', ⟨rfl, Or.inr ⟨fun ⟨i, i1, i2, i3⟩ => by
            have i2 : w0.toInt = (i : Int) := i2
            have : i = 1 := by omega
            subst this
            have j1 : v.2.1 1 = 1 := i3.1
            have j2 : v.2.2 1 = yc_lv v := i3.2
            omega, e1⟩⟩, e2, e3, hp.1, hl⟩
      by_cases c5 : yc_lv v < (v.2.2 1)
      · have hq0 : z_gh (z_strs (z_G xs)) [0, yc_lv v, (Int32.ofInt (v.2.2 1)).toInt] al z_H0c P := (hI.1.mono ⟨_, rfl⟩)
        have hq1 := z_gh_name (A := z_hg 90) (tok := (.inl (1, 0, 0, 0, 24))) hq0 t2.1.2.2.2.1 rfl rfl rfl (yc_tn (k := 1) (x := Int32.ofInt v.1.2.2.1) rfl hlv.1 hlv.2)
        have hq2 := z_gh_name (A := z_hg 119) (tok := (.inl (0, 0, 0, 1, 1))) hq1 (kt 1 (by decide)).1 rfl rfl rfl (yc_ti (x := Int32.ofInt (v.2.1 1)) (by rw [ye_to (by omega) (by omega)]; omega) (by rw [ye_to (by omega) (by omega)]; omega))
        have hq3 := z_gh_name (A := z_hg 121) (tok := (.inl (2, 0, 0, 0, 24))) hq2 (kt 1 (by decide)).2 rfl rfl rfl (yc_tn (k := 2) (x := Int32.ofInt (v.2.2 1)) rfl (by omega) (by omega))
        have hH : z_gh (z_strs (z_G xs)) [0, yc_lv v, (Int32.ofInt (v.2.2 1)).toInt] al (((z_H0c.set 90 ((z_hg 90).1, (z_hg 90).2.1, none, ((z_hg 90).2.2.2.set 5 (.inl (1, 0, 0, 0, 24))))).set 119 ((z_hg 119).1, (z_hg 119).2.1, none, ((z_hg 119).2.2.2.set 1 (.inl (0, 0, 0, 1, 1))))).set 121 ((z_hg 121).1, (z_hg 121).2.1, none, ((z_hg 121).2.2.2.set 1 (.inl (2, 0, 0, 0, 24))))) P := hq3
        obtain ⟨rv, P', al', X, hm, hr, hI', hp, hl⟩ := z_usePostN (K := z_Kk437) (ts := [.inl (0, 0, 0, 1, 1)]) (vs := [.int w0]) (F := [(1, 2, 1)]) (bd := [(1, 1, 0), (2, 2, 0)]) (N := [0, yc_lv v, (Int32.ofInt (v.2.2 1)).toInt]) (HE := (((z_H0c.set 90 ((z_hg 90).1, (z_hg 90).2.1, none, ((z_hg 90).2.2.2.set 5 (.inl (1, 0, 0, 0, 24))))).set 119 ((z_hg 119).1, (z_hg 119).2.1, none, ((z_hg 119).2.2.2.set 1 (.inl (0, 0, 0, 1, 1))))).set 121 ((z_hg 121).1, (z_hg 121).2.1, none, ((z_hg 121).2.2.2.set 1 (.inl (2, 0, 0, 0, 24)))))) (yc_bN3 _ _) z_Kn437 rfl rfl (by decide +kernel) rfl rfl hq0 (fun q hq => by rw [List.mem_singleton] at hq; subst hq; exact ⟨_, _, rfl, rfl, by show yc_lv v + 1 ≤ (Int32.ofInt (v.2.2 1)).toInt; omega⟩) hI hH ha hlen ⟨yc_ti (by omega) (by omega), trivial⟩
        obtain ⟨r, e1, e2, e3⟩ := yc_no (val := 0) hm (by decide +kernel) hr hI' hp t1 t2
        exact ⟨r, v, P', al', ⟨rfl, Or.inr ⟨fun ⟨i, i1, i2, i3⟩ => by
            have i2 : w0.toInt = (i : Int) := i2
            have : i = 1 := by omega
            subst this
            have j1 : v.2.1 1 = 1 := i3.1
            have j2 : v.2.2 1 = yc_lv v := i3.2
            omega, e1⟩⟩, e2, e3, hp.1, hl⟩
      have hq0 : z_gh (z_strs (z_G xs)) [0, yc_lv v] al z_H0c P := (hI.1.mono ⟨_, rfl⟩)
      have hq1 := z_gh_name (A := z_hg 90) (tok := (.inl (1, 0, 0, 0, 24))) hq0 t2.1.2.2.2.1 rfl rfl rfl (yc_tn (k := 1) (x := Int32.ofInt v.1.2.2.1) rfl hlv.1 hlv.2)
      have hq2 := z_gh_name (A := z_hg 119) (tok := (.inl (0, 0, 0, 1, 1))) hq1 (kt 1 (by decide)).1 rfl rfl rfl (yc_ti (x := Int32.ofInt (v.2.1 1)) (by rw [ye_to (by omega) (by omega)]; omega) (by rw [ye_to (by omega) (by omega)]; omega))
      have hq3 := z_gh_name (A := z_hg 121) (tok := (.inl (1, 0, 0, 0, 24))) hq2 (kt 1 (by decide)).2 rfl rfl rfl (yc_tn (k := 1) (x := Int32.ofInt (v.2.2 1)) (by show some (yc_lv v) = some _; congr 1; omega) (by omega) (by omega))
      have hH : z_gh (z_strs (z_G xs)) [0, yc_lv v] al (((z_H0c.set 90 ((z_hg 90).1, (z_hg 90).2.1, none, ((z_hg 90).2.2.2.set 5 (.inl (1, 0, 0, 0, 24))))).set 119 ((z_hg 119).1, (z_hg 119).2.1, none, ((z_hg 119).2.2.2.set 1 (.inl (0, 0, 0, 1, 1))))).set 121 ((z_hg 121).1, (z_hg 121).2.1, none, ((z_hg 121).2.2.2.set 1 (.inl (1, 0, 0, 0, 24))))) P := hq3
      obtain ⟨rv, P', al', X, hm, hr, hI', hp, hl⟩ := z_usePostN (K := z_Kk434) (ts := [.inl (0, 0, 0, 1, 1)]) (vs := [.int w0]) (F := [(1, 1, 0)]) (bd := [(1, 1, 0)]) (N := [0, yc_lv v]) (HE := (((z_H0c.set 90 ((z_hg 90).1, (z_hg 90).2.1, none, ((z_hg 90).2.2.2.set 5 (.inl (1, 0, 0, 0, 24))))).set 119 ((z_hg 119).1, (z_hg 119).2.1, none, ((z_hg 119).2.2.2.set 1 (.inl (0, 0, 0, 1, 1))))).set 121 ((z_hg 121).1, (z_hg 121).2.1, none, ((z_hg 121).2.2.2.set 1 (.inl (1, 0, 0, 0, 24)))))) (yc_bN2 _) z_Kn434 rfl rfl (by decide +kernel) rfl rfl hq0 (fun q hq => by rw [List.mem_singleton] at hq; subst hq; exact ⟨_, _, rfl, rfl, by show yc_lv v + 0 ≤ yc_lv v; omega⟩) hI hH ha hlen ⟨yc_ti (by omega) (by omega), trivial⟩
      obtain ⟨r, e1, e2, e3⟩ := yc_no (val := 1) hm (by decide +kernel) hr hI' hp t1 t2
      exact ⟨r, v, P', al', ⟨rfl, Or.inl ⟨1, by decide, c3, (show yc_kq v 1 from ⟨by omega, by omega⟩), e1⟩⟩, e2, e3, hp.1, hl⟩
    · have kbi := kb 2 (by decide)
      have hkv : (Int32.ofInt (v.2.2 2)).toInt = (v.2.2 2) := ye_to (by omega) (by omega)
      by_cases c0 : v.2.1 2 = 0
      · have hq0 : z_gh (z_strs (z_G xs)) [0] al z_H0c P := hI.1
        have hq1 := z_gh_name (A := z_hg 119) (tok := (.inl (0, 0, 0, 0, 0))) hq0 (kt 2 (by decide)).1 rfl rfl rfl (yc_ti (x := Int32.ofInt (v.2.1 2)) (by rw [ye_to (by omega) (by omega)]; omega) (by rw [ye_to (by omega) (by omega)]; omega))
        have hH : z_gh (z_strs (z_G xs)) [0] al (z_H0c.set 119 ((z_hg 119).1, (z_hg 119).2.1, none, ((z_hg 119).2.2.2.set 2 (.inl (0, 0, 0, 0, 0))))) P := hq1
        obtain ⟨rv, P', al', X, hm, hr, hI', hp, hl⟩ := z_usePostN (K := z_Kk445) (ts := [.inl (0, 0, 0, 2, 2)]) (vs := [.int w0]) (F := []) (bd := []) (N := [0]) (HE := (z_H0c.set 119 ((z_hg 119).1, (z_hg 119).2.1, none, ((z_hg 119).2.2.2.set 2 (.inl (0, 0, 0, 0, 0)))))) rfl z_Kn445 rfl rfl (by decide +kernel) rfl rfl hq0 (fun q hq => by cases hq) hI hH ha hlen ⟨yc_ti (by omega) (by omega), trivial⟩
        obtain ⟨r, e1, e2, e3⟩ := yc_no (val := 0) hm (by decide +kernel) hr hI' hp t1 t2
        exact ⟨r, v, P', al', ⟨rfl, Or.inr ⟨fun ⟨i, i1, i2, i3⟩ => by
            have i2 : w0.toInt = (i : Int) := i2
            have : i = 2 := by omega
            subst this
            have j1 : v.2.1 2 = 1 := i3.1
            have j2 : v.2.2 2 = yc_lv v := i3.2
            omega, e1⟩⟩, e2, e3, hp.1, hl⟩
      by_cases c4 : (v.2.2 2) < yc_lv v
      · have hq0 : z_gh (z_strs (z_G xs)) [0, (Int32.ofInt (v.2.2 2)).toInt, yc_lv v] al z_H0c P := (hI.1.mono ⟨_, rfl⟩)
        have hq1 := z_gh_name (A := z_hg 90) (tok := (.inl (2, 0, 0, 0, 24))) hq0 t2.1.2.2.2.1 rfl rfl rfl (yc_tn (k := 2) (x := Int32.ofInt v.1.2.2.1) rfl hlv.1 hlv.2)
        have hq2 := z_gh_name (A := z_hg 119) (tok := (.inl (0, 0, 0, 1, 1))) hq1 (kt 2 (by decide)).1 rfl rfl rfl (yc_ti (x := Int32.ofInt (v.2.1 2)) (by rw [ye_to (by omega) (by omega)]; omega) (by rw [ye_to (by omega) (by omega)]; omega))
        have hq3 := z_gh_name (A := z_hg 121) (tok := (.inl (1, 0, 0, 0, 24))) hq2 (kt 2 (by decide)).2 rfl rfl rfl (yc_tn (k := 1) (x := Int32.ofInt (v.2.2 2)) rfl (by omega) (by omega))
        have hH : z_gh (z_strs (z_G xs)) [0, (Int32.ofInt (v.2.2 2)).toInt, yc_lv v] al (((z_H0c.set 90 ((z_hg 90).1, (z_hg 90).2.1, none, ((z_hg 90).2.2.2.set 5 (.inl (2, 0, 0, 0, 24))))).set 119 ((z_hg 119).1, (z_hg 119).2.1, none, ((z_hg 119).2.2.2.set 2 (.inl (0, 0, 0, 1, 1))))).set 121 ((z_hg 121).1, (z_hg 121).2.1, none, ((z_hg 121).2.2.2.set 2 (.inl (1, 0, 0, 0, 24))))) P := hq3
        obtain ⟨rv, P', al', X, hm, hr, hI', hp, hl⟩ := z_usePostN (K := z_Kk441) (ts := [.inl (0, 0, 0, 2, 2)]) (vs := [.int w0]) (F := [(1, 2, 1)]) (bd := [(1, 1, 0), (2, 2, 0)]) (N := [0, (Int32.ofInt (v.2.2 2)).toInt, yc_lv v]) (HE := (((z_H0c.set 90 ((z_hg 90).1, (z_hg 90).2.1, none, ((z_hg 90).2.2.2.set 5 (.inl (2, 0, 0, 0, 24))))).set 119 ((z_hg 119).1, (z_hg 119).2.1, none, ((z_hg 119).2.2.2.set 2 (.inl (0, 0, 0, 1, 1))))).set 121 ((z_hg 121).1, (z_hg 121).2.1, none, ((z_hg 121).2.2.2.set 2 (.inl (1, 0, 0, 0, 24)))))) (yc_bN3 _ _) z_Kn441 rfl rfl (by decide +kernel) rfl rfl hq0 (fun q hq => by rw [List.mem_singleton] at hq; subst hq; exact ⟨_, _, rfl, rfl, by show (Int32.ofInt (v.2.2 2)).toInt + 1 ≤ yc_lv v; omega⟩) hI hH ha hlen ⟨yc_ti (by omega) (by omega), trivial⟩
        obtain ⟨r, e1, e2, e3⟩ := yc_no (val := 0) hm (by decide +kernel) hr hI' hp t1 t2
        exact ⟨r, v, P', al', ⟨rfl, Or.inr ⟨fun ⟨i, i1, i2, i3⟩ => by
            have i2 : w0.toInt = (i : Int) := i2
            have : i = 2 := by omega
            subst this
            have j1 : v.2.1 2 = 1 := i3.1
            have j2 : v.2.2 2 = yc_lv v := i3.2
            omega, e1⟩⟩, e2, e3, hp.1, hl⟩
      by_cases c5 : yc_lv v < (v.2.2 2)
      · have hq0 : z_gh (z_strs (z_G xs)) [0, yc_lv v, (Int32.ofInt (v.2.2 2)).toInt] al z_H0c P := (hI.1.mono ⟨_, rfl⟩)
        have hq1 := z_gh_name (A := z_hg 90) (tok := (.inl (1, 0, 0, 0, 24))) hq0 t2.1.2.2.2.1 rfl rfl rfl (yc_tn (k := 1) (x := Int32.ofInt v.1.2.2.1) rfl hlv.1 hlv.2)
        have hq2 := z_gh_name (A := z_hg 119) (tok := (.inl (0, 0, 0, 1, 1))) hq1 (kt 2 (by decide)).1 rfl rfl rfl (yc_ti (x := Int32.ofInt (v.2.1 2)) (by rw [ye_to (by omega) (by omega)]; omega) (by rw [ye_to (by omega) (by omega)]; omega))
        have hq3 := z_gh_name (A := z_hg 121) (tok := (.inl (2, 0, 0, 0, 24))) hq2 (kt 2 (by decide)).2 rfl rfl rfl (yc_tn (k := 2) (x := Int32.ofInt (v.2.2 2)) rfl (by omega) (by omega))
        have hH : z_gh (z_strs (z_G xs)) [0, yc_lv v, (Int32.ofInt (v.2.2 2)).toInt] al (((z_H0c.set 90 ((z_hg 90).1, (z_hg 90).2.1, none, ((z_hg 90).2.2.2.set 5 (.inl (1, 0, 0, 0, 24))))).set 119 ((z_hg 119).1, (z_hg 119).2.1, none, ((z_hg 119).2.2.2.set 2 (.inl (0, 0, 0, 1, 1))))).set 121 ((z_hg 121).1, (z_hg 121).2.1, none, ((z_hg 121).2.2.2.set 2 (.inl (2, 0, 0, 0, 24))))) P := hq3
        obtain ⟨rv, P', al', X, hm, hr, hI', hp, hl⟩ := z_usePostN (K := z_Kk438) (ts := [.inl (0, 0, 0, 2, 2)]) (vs := [.int w0]) (F := [(1, 2, 1)]) (bd := [(1, 1, 0), (2, 2, 0)]) (N := [0, yc_lv v, (Int32.ofInt (v.2.2 2)).toInt]) (HE := (((z_H0c.set 90 ((z_hg 90).1, (z_hg 90).2.1, none, ((z_hg 90).2.2.2.set 5 (.inl (1, 0, 0, 0, 24))))).set 119 ((z_hg 119).1, (z_hg 119).2.1, none, ((z_hg 119).2.2.2.set 2 (.inl (0, 0, 0, 1, 1))))).set 121 ((z_hg 121).1, (z_hg 121).2.1, none, ((z_hg 121).2.2.2.set 2 (.inl (2, 0, 0, 0, 24)))))) (yc_bN3 _ _) z_Kn438 rfl rfl (by decide +kernel) rfl rfl hq0 (fun q hq => by rw [List.mem_singleton] at hq; subst hq; exact ⟨_, _, rfl, rfl, by show yc_lv v + 1 ≤ (Int32.ofInt (v.2.2 2)).toInt; omega⟩) hI hH ha hlen ⟨yc_ti (by omega) (by omega), trivial⟩
        obtain ⟨r, e1, e2, e3⟩ := yc_no (val := 0) hm (by decide +kernel) hr hI' hp t1 t2
        exact ⟨r, v, P', al', ⟨rfl, Or.inr ⟨fun ⟨i, i1, i2, i3⟩ => by
            have i2 : w0.toInt = (i : Int) := i2
            have : i = 2 := by omega
            subst this
            have j1 : v.2.1 2 = 1 := i3.1
            have j2 : v.2.2 2 = yc_lv v := i3.2
            omega, e1⟩⟩, e2, e3, hp.1, hl⟩
      have hq0 : z_gh (z_strs (z_G xs)) [0, yc_lv v] al z_H0c P := (hI.1.mono ⟨_, rfl⟩)
      have hq1 := z_gh_name (A := z_hg 90) (tok := (.inl (1, 0, 0, 0, 24))) hq0 t2.1.2.2.2.1 rfl rfl rfl (yc_tn (k := 1) (x := Int32.ofInt v.1.2.2.1) rfl hlv.1 hlv.2)
      have hq2 := z_gh_name (A := z_hg 119) (tok := (.inl (0, 0, 0, 1, 1))) hq1 (kt 2 (by decide)).1 rfl rfl rfl (yc_ti (x := Int32.ofInt (v.2.1 2)) (by rw [ye_to (by omega) (by omega)]; omega) (by rw [ye_to (by omega) (by omega)]; omega))
      have hq3 := z_gh_name (A := z_hg 121) (tok := (.inl (1, 0, 0, 0, 24))) hq2 (kt 2 (by decide)).2 rfl rfl rfl (yc_tn (k := 1) (x := Int32.ofInt (v.2.2 2)) (by show some (yc_lv v) = some _; congr 1; omega) (by omega) (by omega))
      have hH : z_gh (z_strs (z_G xs)) [0, yc_lv v] al (((z_H0c.set 90 ((z_hg 90).1, (z_hg 90).2.1, none, ((z_hg 90).2.2.2.set 5 (.inl (1, 0, 0, 0, 24))))).set 119 ((z_hg 119).1, (z_hg 119).2.1, none, ((z_hg 119).2.2.2.set 2 (.inl (0, 0, 0, 1, 1))))).set 121 ((z_hg 121).1, (z_hg 121).2.1, none, ((z_hg 121).2.2.2.set 2 (.inl (1, 0, 0, 0, 24))))) P := hq3
      obtain ⟨rv, P', al', X, hm, hr, hI', hp, hl⟩ := z_usePostN (K := z_Kk435) (ts := [.inl (0, 0, 0, 2, 2)]) (vs := [.int w0]) (F := [(1, 1, 0)]) (bd := [(1, 1, 0)]) (N := [0, yc_lv v]) (HE := (((z_H0c.set 90 ((z_hg 90).1, (z_hg 90).2.1, none, ((z_hg 90).2.2.2.set 5 (.inl (1, 0, 0, 0, 24))))).set 119 ((z_hg 119).1, (z_hg 119).2.1, none, ((z_hg 119).2.2.2.set 2 (.inl (0, 0, 0, 1, 1))))).set 121 ((z_hg 121).1, (z_hg 121).2.1, none, ((z_hg 121).2.2.2.set 2 (.inl (1, 0, 0, 0, 24)))))) (yc_bN2 _) z_Kn435 rfl rfl (by decide +kernel) rfl rfl hq0 (fun q hq => by rw [List.mem_singleton] at hq; subst hq; exact ⟨_, _, rfl, rfl, by show yc_lv v + 0 ≤ yc_lv v; omega⟩) hI hH ha hlen ⟨yc_ti (by omega) (by omega), trivial⟩
      obtain ⟨r, e1, e2, e3⟩ := yc_no (val := 1) hm (by decide +kernel) hr hI' hp t1 t2
      exact ⟨r, v, P', al', ⟨rfl, Or.inl ⟨2, by decide, c3, (show yc_kq v 2 from ⟨by omega, by omega⟩), e1⟩⟩, e2, e3, hp.1, hl⟩
end YCKP
