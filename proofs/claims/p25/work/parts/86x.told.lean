/-! sign and end, told exactly on both sides. -/
section YTLD
variable {xs : List Int32} {al : Nat → Option Nat} {P : z_H} {a : Nat} {u : ye_Gs}
theorem ye_int1 {N : List Int} {t : z_tk} {v : Value} (h : z_gv N al (.inl t) v) : ∃ e : Int, v = ye_v e ∧ z_lo t ≤ e ∧ e ≤ z_hi t := by
  obtain ⟨x, rfl, h1, h2⟩ := z_int1 h
  exact ⟨x.toInt, ye_of x, h1, h2⟩
/-- the class's object and its signs -/
theorem ye_getC (hI : z_In xs al P) (hg : ye_RC u al P) (ha : al a = some 13) : ∃ (aS aT : Nat) (xv vs : List Value) (p lim mo : Int), P[a]? = some (0, xv) ∧ a < z_far ∧ xv.length = 18 ∧ z_all2 (z_gv [0] al) (z_hg 13).2.2.2 xv ∧ xv[0]? = some (.ref aS) ∧ al aS = some 14 ∧ aS < z_far ∧ P[aS]? = some (1, [.ref aT, ye_v u.2, ye_v p, ye_v lim, ye_v mo]) ∧ al aT = some 15 ∧ aT < z_far ∧ P[aT]? = some (102, vs) ∧ ye_tx u.1 u.2 0 255 vs := by
  obtain ⟨h1, -, xv, h2, h3, -⟩ := z_plr hI.1 ha (A := z_hg 13) rfl rfl
  have h3 := h3 rfl
  obtain ⟨w0, g0, g1⟩ := h3.get (i := 0) rfl
  obtain ⟨aS, rfl, hS⟩ := z_ref1 g1
  obtain ⟨k1, k2, sv, k3, k4, -⟩ := z_plr hI.1 hS (A := z_hg 14) rfl rfl
  have k4 : z_all2 (z_gv [0] al) [.inr (.inr (false, [15])), .inl (0, 0, 0, 0, 80), .inl (0, 0, 0, 0, 2147483647), .inl (0, 0, 0, 0, 76), .inl (0, 0, 0, 0, 1)] sv := k4 rfl
  match sv, k3, k4 with
  | [s0, s1, s2, s3, s4], k3, ⟨q0, q1, q2, q3, q4, _⟩ =>
    obtain ⟨aT, rfl, hT⟩ := z_ref1 q0
    obtain ⟨e2, rfl, -, -⟩ := ye_int1 q2
    obtain ⟨e3, rfl, -, -⟩ := ye_int1 q3
    obtain ⟨e4, rfl, -, -⟩ := ye_int1 q4
    obtain ⟨hn, ⟨a1, r1, m1, m2, m3, m4⟩, ⟨a2, r2, n1, n2, n3, n4⟩⟩ := hg
    have : a1 = aS := k2 rfl a1 m1
    subst this
    cases k3.symm.trans m3
    have m4 : some s1 = some (ye_v u.2) := m4
    cases m4
    obtain ⟨f1, f2, tv, f3, -⟩ := z_plr hI.1 hT (A := z_hg 15) rfl rfl
    have : a2 = aT := f2 rfl a2 n1
    subst this
    cases f3.symm.trans n3
    exact ⟨a1, a2, xv, tv, e2, e3, e4, h2, h1, h3.len.symm, h3, g0, m1, m2, k3, n1, n2, f3, n4⟩
/-- the reference's object -/
theorem ye_getM (hI : z_In xs al P) (hg : ye_RM u al P) (ha : al a = some 90) : ∃ (aB : Nat) (F : Nat → Value) (bs : List Value), P[a]? = some (10, ye_fl F) ∧ a < z_far ∧ (∀ k t, k < 56 → (z_hg 90).2.2.2[k]? = some t → z_gv [0] al t (F k)) ∧ F 10 = .ref aB ∧ F 11 = ye_v u.2 ∧ al aB = some 97 ∧ aB < z_far ∧ P[aB]? = some (101, bs) ∧ ye_tx u.1 u.2 (-128) 127 bs := by
  obtain ⟨h1, h0, mv, h2, h3, -⟩ := z_plr hI.1 ha (A := z_hg 90) rfl rfl
  have h3 := h3 rfl
  have hl : mv.length = 56 := h3.len.symm
  have hF := ye_flo hl
  have hat : ∀ k t, k < 56 → (z_hg 90).2.2.2[k]? = some t → z_gv [0] al t (mv.getD k .null) := fun k t hk ht => by
    obtain ⟨b, e1, e2⟩ := h3.get ht
    have : mv.getD k .null = b := by rw [List.getD_eq_getElem?_getD, e1]; rfl
    rw [this]
    exact e2
  obtain ⟨aB, hB0, hB⟩ := z_ref1 (hat 10 _ (by decide) rfl)
  obtain ⟨hn, ⟨a1, r1, m1, m2, m3, m4⟩, ⟨a2, r2, n1, n2, n3, n4⟩⟩ := hg
  have : a1 = a := h0 rfl a1 m1
  subst this
  cases h2.symm.trans m3
  have m4 : mv[11]? = some (ye_v u.2) := m4
  obtain ⟨f1, f2, tv, f3, -⟩ := z_plr hI.1 hB (A := z_hg 97) rfl rfl
  have : a2 = aB := f2 rfl a2 n1
  subst this
  cases f3.symm.trans n3
  refine ⟨a2, fun k => mv.getD k .null, tv, by rw [← hF]; exact h2, h1, hat, hB0, ?_, n1, n2, f3, n4⟩
  show mv.getD 11 .null = _
  rw [List.getD_eq_getElem?_getD, m4]
  rfl
theorem ye_RC_of {g : ye_Gs} {aS aT : Nat} {r vs : List Value} {t1 t2 : Nat} (hn : 0 ≤ g.2 ∧ g.2 ≤ 80) (h1 : al aS = some 14) (f1 : aS < z_far) (h2 : P[aS]? = some (t1, r)) (h3 : r[1]? = some (ye_v g.2)) (h4 : al aT = some 15) (f4 : aT < z_far) (h5 : P[aT]? = some (t2, vs)) (h6 : ye_tx g.1 g.2 0 255 vs) : ye_RC g al P := ⟨hn, ⟨aS, _, h1, f1, h2, h3⟩, ⟨aT, _, h4, f4, h5, h6⟩⟩
theorem ye_RM_of {g : ye_Gs} {aM aB : Nat} {F : Nat → Value} {bs : List Value} {t2 : Nat} (hn : 0 ≤ g.2 ∧ g.2 ≤ 80) (h1 : al aM = some 90) (f1 : aM < z_far) (h2 : P[aM]? = some (10, ye_fl F)) (h3 : F 11 = ye_v g.2) (h4 : al aB = some 97) (f4 : aB < z_far) (h5 : P[aB]? = some (t2, bs)) (h6 : ye_tx g.1 g.2 (-128) 127 bs) : ye_RM g al P := ⟨hn, ⟨aM, _, h1, f1, h2, ye_flg rfl h3⟩, ⟨aB, _, h4, f4, h5, h6⟩⟩
theorem ye_tx_le {T : Int → Int} {n m lo hi : Int} {vs : List Value} (h : ye_tx T n lo hi vs) (hm : m ≤ n) : ye_tx T m lo hi vs := ⟨h.1, fun i h0 h1 => h.2 i h0 (by omega)⟩
theorem ye_i32 {a b : Int} {r : Int32} (h : Value.int r = ye_v a) (h1 : -2147483648 ≤ a) (h2 : a < 2147483648) : r.toInt = a := by
  have h : Value.int r = Value.int (Int32.ofInt a) := h
  injection h with h
  rw [h, ye_to h1 h2]
theorem ye_one {ws : List Int32} (h : ws.length = 1) : ∃ w, ws = [w] := by
  match ws, h with
  | [w], _ => exact ⟨w, rfl⟩
/-- sign -/
def ye_SpS (g : ye_Gs) (ws : List Int32) (r : Int32) (w : ye_Gs) : Prop := (g.2 ≤ 76 ∧ r.toInt = g.2 + 4 ∧ w = (ye_T4 g.1 g.2 (ws.getD 0 0), g.2 + 4)) ∨ (77 ≤ g.2 ∧ r.toInt = -1 ∧ w = g)
theorem ye_SpS_det {g : ye_Gs} {ws : List Int32} {r r' : Int32} {w w' : ye_Gs} (h : ye_SpS g ws r w) (h' : ye_SpS g ws r' w') : r = r' ∧ w = w' := by
  rcases h with ⟨a1, a2, a3⟩ | ⟨a1, a2, a3⟩ <;> rcases h' with ⟨c1, c2, c3⟩ | ⟨c1, c2, c3⟩
  · exact ⟨Int32.toInt_inj.mp (by omega), by rw [a3, c3]⟩
  · exact absurd a1 (by omega)
  · exact absurd a1 (by omega)
  · exact ⟨Int32.toInt_inj.mp (by omega), by rw [a3, c3]⟩
theorem ye_signC {ws : List Int32} (hI : z_In xs al P) (hg : ye_RC u al P) (ha : al a = some 13) (hw : ws.length = 1) : ∃ (r : Int32) (w : ye_Gs) (P' : z_H), ye_SpS u ws r w ∧ z_Runs (z_G xs) 799 9 (0, lv_args 0 (.ref a :: ws.map Value.int), [], P, 0, 0) (some (.int r)) P' ∧ ∀ al' : Nat → Option Nat, (∀ a c, al a = some c → al' a = some c) → ye_RC w al' P' := by
  obtain ⟨x, rfl⟩ := ye_one hw
  have hn := hg.1
  obtain ⟨aS, aT, xv, vs, p, lim, mo, hX, fX, hxl, -, x0, hS, fS, hPS, hT, fT, hPT, htx⟩ := ye_getC hI hg ha
  obtain ⟨r, P', hr, hR⟩ := ye_Csign (xs := xs) (d := 799) (x := x) hPS fS hPT fT htx hn hX fX x0 (by decide)
  rcases hR with ⟨b1, rfl, vs', b2, b3, b4, b5⟩ | ⟨b1, rfl, rfl⟩
  · refine ⟨Int32.ofInt (u.2 + 4), (ye_T4 u.1 u.2 x, u.2 + 4), P', Or.inl ⟨by omega, ye_to (by omega) (by omega), rfl⟩, hr, fun al' hm => ?_⟩
    exact ye_RC_of ⟨by show 0 ≤ u.2 + 4; omega, by show u.2 + 4 ≤ 80; omega⟩ (hm _ _ hS) fS b2 rfl (hm _ _ hT) fT b3 b4
  · exact ⟨Int32.ofInt (-1), u, P', Or.inr ⟨by omega, by decide, rfl⟩, hr, fun al' hm => ye_RC_of hn (hm _ _ hS) fS hPS rfl (hm _ _ hT) fT hPT htx⟩
theorem ye_signM {ws : List Int32} (hI : z_In xs al P) (hg : ye_RM u al P) (ha : al a = some 90) (hw : ws.length = 1) : ∃ (r : Int32) (w : ye_Gs) (P' : z_H), ye_SpS u ws r w ∧ z_Runs (z_G xs) 799 188 (0, lv_args 0 (.ref a :: ws.map Value.int), [], P, 0, 0) (some (.int r)) P' ∧ ∀ al' : Nat → Option Nat, (∀ a c, al a = some c → al' a = some c) → ye_RM w al' P' := by
  obtain ⟨x, rfl⟩ := ye_one hw
  have hn := hg.1
  obtain ⟨aB, F, bs, hM, fM, -, k10, k11, hB, fB, hPB, htx⟩ := ye_getM hI hg ha
  obtain ⟨r, P', hr, F', c1, c2, c3, hR⟩ := ye_Msign (xs := xs) (d := 799) (x := x) hM fM k10 k11 hPB fB htx hn
  rcases hR with ⟨b1, rfl, b2, bs', b3, b4⟩ | ⟨b1, rfl, b2, b3⟩
  · refine ⟨Int32.ofInt (u.2 + 4), (ye_T4 u.1 u.2 x, u.2 + 4), P', Or.inl ⟨by omega, ye_to (by omega) (by omega), rfl⟩, hr, fun al' hm => ?_⟩
    exact ye_RM_of ⟨by show 0 ≤ u.2 + 4; omega, by show u.2 + 4 ≤ 80; omega⟩ (hm _ _ ha) fM c1 b2 (hm _ _ hB) fB b3 b4
  · exact ⟨Int32.ofInt (-1), u, P', Or.inr ⟨by omega, by decide, rfl⟩, hr, fun al' hm => ye_RM_of hn (hm _ _ ha) fM c1 b2 (hm _ _ hB) fB b3 htx⟩
/-- end -/
def ye_SpE (g : ye_Gs) (ws : List Int32) (r : Int32) (w : ye_Gs) : Prop := (0 ≤ (ws.getD 0 0).toInt ∧ (ws.getD 0 0).toInt ≤ g.2 ∧ r.toInt = 1 ∧ w = (g.1, (ws.getD 0 0).toInt)) ∨ (¬ (0 ≤ (ws.getD 0 0).toInt ∧ (ws.getD 0 0).toInt ≤ g.2) ∧ r.toInt = 0 ∧ w = g)
theorem ye_SpE_det {g : ye_Gs} {ws : List Int32} {r r' : Int32} {w w' : ye_Gs} (h : ye_SpE g ws r w) (h' : ye_SpE g ws r' w') : r = r' ∧ w = w' := by
  rcases h with ⟨a1, a2, a3, a4⟩ | ⟨a1, a3, a4⟩ <;> rcases h' with ⟨c1, c2, c3, c4⟩ | ⟨c1, c3, c4⟩
  · exact ⟨Int32.toInt_inj.mp (by omega), by rw [a4, c4]⟩
  · exact absurd ⟨a1, a2⟩ c1
  · exact absurd ⟨c1, c2⟩ a1
  · exact ⟨Int32.toInt_inj.mp (by omega), by rw [a4, c4]⟩
theorem ye_endC {ws : List Int32} (hI : z_In xs al P) (hg : ye_RC u al P) (ha : al a = some 13) (hw : ws.length = 1) : ∃ (r : Int32) (w : ye_Gs) (P' : z_H), ye_SpE u ws r w ∧ z_Runs (z_G xs) 799 11 (0, lv_args 0 (.ref a :: ws.map Value.int), [], P, 0, 0) (some (.int r)) P' ∧ ∀ al' : Nat → Option Nat, (∀ a c, al a = some c → al' a = some c) → ye_RC w al' P' := by
  obtain ⟨x, rfl⟩ := ye_one hw
  have hn := hg.1
  have b1 := x.le_toInt
  have b2 := x.toInt_lt
  obtain ⟨aS, aT, xv, vs, p, lim, mo, hX, fX, hxl, -, x0, hS, fS, hPS, hT, fT, hPT, htx⟩ := ye_getC hI hg ha
  obtain ⟨r, P', hr, hR⟩ := ye_Cend (xs := xs) (d := 799) (n := x.toInt) hPS fS hn ⟨by omega, by omega⟩ hX fX x0 (by decide)
  have ex : ([x] : List Int32).map Value.int = [ye_v x.toInt] := by rw [← ye_of]; rfl
  rw [ex]
  rcases hR with ⟨c1, c2, rfl, c3, c4⟩ | ⟨c1, rfl, rfl⟩
  · refine ⟨Int32.ofInt 1, (u.1, x.toInt), P', Or.inl ⟨c1, c2, by decide, rfl⟩, hr, fun al' hm => ?_⟩
    exact ye_RC_of ⟨c1, by show x.toInt ≤ 80; omega⟩ (hm _ _ hS) fS c3 rfl (hm _ _ hT) fT (ye_kp c4 (ye_n1 (ye_ne hPT hPS (by decide))) hPT) (ye_tx_le htx c2)
  · exact ⟨Int32.ofInt 0, u, P', Or.inr ⟨c1, by decide, rfl⟩, hr, fun al' hm => ye_RC_of hn (hm _ _ hS) fS hPS rfl (hm _ _ hT) fT hPT htx⟩
theorem ye_endM {ws : List Int32} (hI : z_In xs al P) (hg : ye_RM u al P) (ha : al a = some 90) (hw : ws.length = 1) : ∃ (r : Int32) (w : ye_Gs) (P' : z_H), ye_SpE u ws r w ∧ z_Runs (z_G xs) 799 189 (0, lv_args 0 (.ref a :: ws.map Value.int), [], P, 0, 0) (some (.int r)) P' ∧ ∀ al' : Nat → Option Nat, (∀ a c, al a = some c → al' a = some c) → ye_RM w al' P' := by
  obtain ⟨x, rfl⟩ := ye_one hw
  have hn := hg.1
  have b1 := x.le_toInt
  have b2 := x.toInt_lt
  obtain ⟨aB, F, bs, hM, fM, -, k10, k11, hB, fB, hPB, htx⟩ := ye_getM hI hg ha
  obtain ⟨r, P', hr, F', c1, c2, c3, hR⟩ := ye_Mend (xs := xs) (d := 799) (n := x.toInt) hM fM k11 hn ⟨by omega, by omega⟩ (by decide)
  have ex : ([x] : List Int32).map Value.int = [ye_v x.toInt] := by rw [← ye_of]; rfl
  rw [ex]
  have hPB' := ye_kp c3 (ye_n1 (ye_ne hPB hM (by decide))) hPB
  rcases hR with ⟨d1, d2, rfl, d3⟩ | ⟨d1, rfl, d3⟩
  · refine ⟨Int32.ofInt 1, (u.1, x.toInt), P', Or.inl ⟨d1, d2, by decide, rfl⟩, hr, fun al' hm => ?_⟩
    exact ye_RM_of ⟨d1, by show x.toInt ≤ 80; omega⟩ (hm _ _ ha) fM c1 d3 (hm _ _ hB) fB hPB' (ye_tx_le htx d2)
  · exact ⟨Int32.ofInt 0, u, P', Or.inr ⟨d1, by decide, rfl⟩, hr, fun al' hm => ye_RM_of hn (hm _ _ ha) fM c1 d3 (hm _ _ hB) fB hPB' htx⟩
end YTLD
