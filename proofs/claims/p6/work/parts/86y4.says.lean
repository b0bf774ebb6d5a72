/-! says, told exactly on both sides. -/
section YTSY
variable {xs : List Int32} {al : Nat → Option Nat} {P : z_H} {a : Nat} {u : ye_Gs}
/-- a formula -/
theorem ye_getF {b c c1 c2 : Nat} {t1 : z_av} {k1 : z_tk} (hI : z_In xs al P) (hb : al b = some c) (hA : z_H0c[c]? = some (8, (true, true), none, [.inr (.inr (false, [c1])), .inr (.inr (false, [c2])), .inl k1])) (h1 : z_H0c[c1]? = some (103, (true, true), some 40, [t1])) : ∃ (aC aK : Nat) (n : Int) (cv : List Value), b < z_far ∧ P[b]? = some (8, [.ref aC, .ref aK, ye_v n]) ∧ aC < z_far ∧ P[aC]? = some (103, cv) ∧ cv.length = 40 := by
  obtain ⟨f1, -, gv, f2, f3, -⟩ := z_plr hI.1 hb hA rfl
  have f3 : z_all2 (z_gv [0] al) [.inr (.inr (false, [c1])), .inr (.inr (false, [c2])), .inl k1] gv := f3 rfl
  match gv, f2, f3 with
  | [g0, g1, g2], f2, ⟨q0, q1, q2, _⟩ =>
    obtain ⟨aC, rfl, e1⟩ := z_ref1 q0
    obtain ⟨aK, rfl, e2⟩ := z_ref1 q1
    obtain ⟨n, rfl, -, -⟩ := ye_int1 q2
    obtain ⟨a1, cv, a2, a3⟩ := ye_getA hI e1 h1
    exact ⟨aC, aK, n, cv, f1, f2, a1, a2, a3⟩
theorem yx_a_bd {T : Int → Int} {n v : Int} (hn : 0 ≤ n ∧ n ≤ 80) : -100 ≤ yx_a T n v ∧ yx_a T n v ≤ 0 := by
  have hl : 0 ≤ yq_lim n 40 ∧ yq_lim n 40 ≤ 40 := by
    unfold yq_lim
    split <;> omega
  have b := yx_bd (T := T) (L := yx_L v) hl.1
  unfold yx_a
  split
  · omega
  · split <;> omega
def ye_SpY (g : ye_Gs) (ws : List Int32) (r : Int32) (w : ye_Gs) : Prop := r.toInt = yx_a g.1 g.2 (ws.getD 0 0).toInt ∧ w = ye_z g
theorem ye_SpY_det {g : ye_Gs} {ws : List Int32} {r r' : Int32} {w w' : ye_Gs} (h : ye_SpY g ws r w) (h' : ye_SpY g ws r' w') : r = r' ∧ w = w' := ⟨Int32.toInt_inj.mp (by rw [h.1, h'.1]), by rw [h.2, h'.2]⟩
theorem ye_saysC {ws : List Int32} (hI : z_In xs al P) (hg : ye_RC u al P) (ha : al a = some 13) (hw : ws.length = 1) : ∃ (r : Int32) (w : ye_Gs) (P' : z_H), ye_SpY u ws r w ∧ z_Runs (z_G xs) 799 46 (0, lv_args 0 (.ref a :: ws.map Value.int), [], P, 0, 0) (some (.int r)) P' ∧ ∀ al' : Nat → Option Nat, (∀ a c, al a = some c → al' a = some c) → ye_RC w al' P' := by
  obtain ⟨x, rfl⟩ := ye_one hw
  have hn := hg.1
  have b1 := x.le_toInt
  have b2 := x.toInt_lt
  obtain ⟨aS, aT, xv, vs, p, lim, mo, hX, fX, hxl, hx3, x0, hS, fS, hPS, hT, fT, hPT, htx⟩ := ye_getC hI hg ha
  obtain ⟨w7, e7, g7⟩ := hx3.get (i := 7) rfl
  obtain ⟨aQ, rfl, hQ⟩ := z_ref1 g7
  obtain ⟨fQ, -, qv, hPQ, hqv, -⟩ := z_plr hI.1 hQ (A := z_hg 61) rfl rfl
  have hqv : z_all2 (z_gv [0] al) [.inr (.inr (false, [62])), .inr (.inr (false, [63, 66, 69, 72, 75])), .inr (.inr (false, [78])), .inl (0, 0, 0, (-1), 2)] qv := hqv rfl
  match qv, hPQ, hqv with
  | [q0, q1, q2, q3], hPQ, ⟨g0, g1, g2, g3, _⟩ =>
    obtain ⟨aU, rfl, hU⟩ := z_ref1 g0
    obtain ⟨ch, rfl, -, -⟩ := ye_int1 g3
    rcases g1 with ⟨-, g1⟩ | ⟨aF, cF, rfl, hF, hcF⟩
    · cases g1
    have hfm : ∃ (aC aK : Nat) (n : Int) (cv : List Value), aF < z_far ∧ P[aF]? = some (8, [.ref aC, .ref aK, ye_v n]) ∧ aC < z_far ∧ P[aC]? = some (103, cv) ∧ cv.length = 40 := by
      have hcF : cF ∈ [63, 66, 69, 72, 75] := hcF
      simp only [List.mem_cons, List.not_mem_nil, or_false] at hcF
      rcases hcF with rfl | rfl | rfl | rfl | rfl
      · exact ye_getF hI hF rfl rfl
      · exact ye_getF hI hF rfl rfl
      · exact ye_getF hI hF rfl rfl
      · exact ye_getF hI hF rfl rfl
      · exact ye_getF hI hF rfl rfl
    obtain ⟨aC, aK, n, cv, fF, hPF, fC, hPC, hcl⟩ := hfm
    obtain ⟨fU, -, uv, hPU, huv, -⟩ := z_plr hI.1 hU (A := z_hg 62) rfl rfl
    have huv := huv rfl
    have hug : 0 ≤ x.toInt ∧ x.toInt ≤ 3 → ∃ g : Nat, uv[x.toInt.toNat]? = some (.ref g) := fun hv => by
      have hk : x.toInt.toNat = 0 ∨ x.toInt.toNat = 1 ∨ x.toInt.toNat = 2 ∨ x.toInt.toNat = 3 := by omega
      have hget : ∃ t, (z_hg 62).2.2.2[x.toInt.toNat]? = some t ∧ t = .inr (.inr (false, [63, 66, 69, 72, 75])) := by
        rcases hk with h | h | h | h <;> rw [h] <;> exact ⟨_, rfl, rfl⟩
      obtain ⟨t, ht, rfl⟩ := hget
      obtain ⟨b, hb, hg⟩ := huv.get ht
      rcases hg with ⟨-, hg⟩ | ⟨g, c2, rfl, -, -⟩
      · cases hg
      · exact ⟨g, hb⟩
    obtain ⟨r, P', hr, rfl, ⟨a', lim', mo', c1⟩, c4⟩ := yg_Csays (xs := xs) (d := 799) (v := x.toInt) fS fT fF fC htx hn hPS hPT hPF hPC hcl hPQ fQ hPU fU hug huv.len.symm hX fX x0 e7 ⟨b1, by omega⟩ (by decide)
    have ex : ([x] : List Int32).map Value.int = [ye_v x.toInt] := by rw [← ye_of]; rfl
    obtain ⟨b3, b4⟩ := yx_a_bd (T := u.1) (v := x.toInt) hn
    rw [ex]
    refine ⟨Int32.ofInt (yx_a u.1 u.2 x.toInt), ye_z u, P', ⟨ye_to (by omega) (by omega), rfl⟩, hr, fun al' hm => ?_⟩
    have hPT' : P'[aT]? = some (102, vs) := ye_kp c4 (by simp only [List.mem_cons, List.not_mem_nil, or_false, not_or]; exact ⟨ye_ne hPT hPS (by decide), ye_ne hPT hPF (by decide), ye_ne hPT hPC (by decide), ye_ne hPT hPQ (by decide), ye_ne hPT hPU (by decide)⟩) hPT
    exact ye_RC_of (g := ye_z u) ⟨Int.le_refl _, by show (0 : Int) ≤ 80; decide⟩ (hm _ _ hS) fS c1 rfl (hm _ _ hT) fT hPT' (ye_tx_0 htx)
theorem ye_saysM {ws : List Int32} (hI : z_In xs al P) (hg : ye_RM u al P) (ha : al a = some 90) (hw : ws.length = 1) : ∃ (r : Int32) (w : ye_Gs) (P' : z_H), ye_SpY u ws r w ∧ z_Runs (z_G xs) 799 202 (0, lv_args 0 (.ref a :: ws.map Value.int), [], P, 0, 0) (some (.int r)) P' ∧ ∀ al' : Nat → Option Nat, (∀ a c, al a = some c → al' a = some c) → ye_RM w al' P' := by
  obtain ⟨x, rfl⟩ := ye_one hw
  have hn := hg.1
  have b1 := x.le_toInt
  have b2 := x.toInt_lt
  obtain ⟨aB, F, bs, hM, fM, hF, k10, k11, hB, fB, hPB, htx⟩ := ye_getM hI hg ha
  obtain ⟨aA, k27, hA⟩ := z_ref1 (hF 27 _ (by decide) rfl)
  obtain ⟨aZ, k28, hZ⟩ := z_ref1 (hF 28 _ (by decide) rfl)
  obtain ⟨fA, -, av, hPA, -, hav⟩ := z_plr hI.1 hA (A := z_hg 104) rfl rfl
  obtain ⟨hal, t, ht, hall⟩ := hav 4 rfl
  obtain ⟨fZ, -, zv, hPZ, hzv, -⟩ := z_plr hI.1 hZ (A := z_hg 106) rfl rfl
  have hzv := hzv rfl
  have hag : ∃ aR : Nat, aR ≠ aB ∧ (0 ≤ x.toInt ∧ x.toInt ≤ 3 → av[x.toInt.toNat]? = some (.ref aR) ∧ ∃ rv, P[aR]? = some (101, rv) ∧ aR < z_far ∧ rv.length = 40 ∧ aR ≠ aB) := by
    by_cases hv : 0 ≤ x.toInt ∧ x.toInt ≤ 3
    · have hlt : x.toInt.toNat < av.length := by omega
      have ht : [(.inr (.inr (false, [105])) : z_av)] = [t] := ht
      cases ht
      rcases hall _ (List.getElem_mem hlt) with ⟨-, hg⟩ | ⟨g, c2, e1, e2, e3⟩
      · cases hg
      · have e3 : c2 ∈ [105] := e3
        rw [List.mem_singleton] at e3
        subst e3
        obtain ⟨fR, -, rv, hPR, -, hrv⟩ := z_plr hI.1 e2 (A := z_hg 105) rfl rfl
        have n1 : g ≠ aB := ye_alne e2 hB (by decide)
        exact ⟨g, n1, fun _ => ⟨by rw [List.getElem?_eq_getElem hlt, e1], rv, hPR, fR, (hrv 40 rfl).1, n1⟩⟩
    · exact ⟨a, ye_ne hM hPB (by decide), fun h => absurd h hv⟩
  obtain ⟨aR, nRB, hag⟩ := hag
  obtain ⟨r, P', hr, rfl, F', c1, c2, c3, c4⟩ := yg_Msays (xs := xs) (d := 799) (v := x.toInt) (lim := if u.2 ≤ 40 then u.2 else 40) hM fM k10 k11 k27 k28 hPB fB htx hn hPA fA hPZ fZ hzv.len.symm hag ⟨b1, by omega⟩ rfl (by decide)
  have ex : ([x] : List Int32).map Value.int = [ye_v x.toInt] := by rw [← ye_of]; rfl
  obtain ⟨b3, b4⟩ := yx_a_bd (T := u.1) (v := x.toInt) hn
  rw [ex]
  refine ⟨Int32.ofInt (yx_a u.1 u.2 x.toInt), ye_z u, P', ⟨ye_to (by omega) (by omega), rfl⟩, hr, fun al' hm => ?_⟩
  have hPB' : P'[aB]? = some (101, bs) := ye_kp c4 (by simp only [List.mem_cons, List.not_mem_nil, or_false, not_or]; exact ⟨ye_ne hPB hM (by decide), Ne.symm nRB, ye_ne hPB hPZ (by decide)⟩) hPB
  exact ye_RM_of (g := ye_z u) ⟨Int.le_refl _, by show (0 : Int) ≤ 80; decide⟩ (hm _ _ ha) fM c1 c3 (hm _ _ hB) fB hPB' (ye_tx_0 htx)
end YTSY
