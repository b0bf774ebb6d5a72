/-! Weights of SORTS told, behind the reference's barn. -/
section YWTS
variable {xs : List Int32} {al al' : Nat → Option Nat} {P P' : z_H} {a : Nat} {g : ye_Gs}
def yb_wt (S : yb_S) : Prop := ∀ i, 0 ≤ i → i < S.1 → 1 ≤ S.2.2.2.1 i ∧ S.2.2.2.1 i ≤ 2147483647
theorem yq_num_in {T : Int → Int} {lim lo hi p : Int} {k : Nat} (h : (yq_num T lim k lo hi p).1 = true) : lo ≤ (yq_num T lim k lo hi p).2.2 ∧ (yq_num T lim k lo hi p).2.2 ≤ hi := by
  unfold yq_num at h ⊢
  by_cases c1 : (yq_dg T lim k p 0).1 = p
  · rw [if_pos c1] at h
    cases h
  · rw [if_neg c1] at h ⊢
    by_cases c2 : (yq_dg T lim k p 0).2 < lo ∨ hi < (yq_dg T lim k p 0).2
    · rw [if_pos c2] at h
      cases h
    · rw [if_neg c2]
      exact ⟨by show lo ≤ (yq_dg T lim k p 0).2; omega, by show (yq_dg T lim k p 0).2 ≤ hi; omega⟩
theorem yb_so_n1 {T : Int → Int} {lim p : Int} (h : (yb_so T lim p).1 = true) : (yb_n1 T lim p).1 = true := by
  unfold yb_so at h
  by_cases c1 : yb_k T lim p = -1
  · rw [if_pos c1] at h
    cases h
  · rw [if_neg c1] at h
    unfold yb_s1 at h
    by_cases c2 : (yb_n1 T lim p).1 = true
    · exact c2
    · rw [if_neg c2] at h
      cases h
theorem yb_nx_wt {T : Int → Int} {lim p : Int} {S : yb_S} (h : (yb_l T lim p S.1).1 = true) (h0 : 0 ≤ S.1) (hw : yb_wt S) : yb_wt (yb_nx T lim p S) := by
  unfold yb_nx
  by_cases hc : p < lim ∧ T p = 121
  · rw [if_pos hc]
    exact fun i i0 i1 => hw i i0 i1
  · rw [if_neg hc]
    have hn : (yb_n1 T lim p).1 = true := by
      unfold yb_l at h
      rw [if_neg hc] at h
      by_cases c2 : 10 ≤ S.1
      · rw [if_pos c2] at h
        cases h
      · rw [if_neg c2] at h
        exact yb_so_n1 h
    have hn2 : 1 ≤ (yb_n1 T lim p).2.2 ∧ (yb_n1 T lim p).2.2 ≤ 99 := yq_num_in hn
    intro i i0 i1
    have i1 : i < S.1 + 1 := i1
    show 1 ≤ ye_put S.2.2.2.1 S.1 (yb_n1 T lim p).2.2 i ∧ ye_put S.2.2.2.1 S.1 (yb_n1 T lim p).2.2 i ≤ 2147483647
    unfold ye_put
    by_cases hi : i = S.1
    · rw [if_pos hi]
      omega
    · rw [if_neg hi]
      exact hw i i0 (by omega)
theorem yb_r_wt {T : Int → Int} {lim : Int} : ∀ (k : Nat) {n p : Int} {S : yb_S}, 0 ≤ S.1 → S.1 ≤ 10 → yb_wt S → yb_wt (yb_r T lim k n p S).2.2.2
  | 0, _, _, _, _, _, hw => hw
  | k + 1, n, p, S, h0, h1, hw => by
    rw [yb_r_u]
    by_cases hl : (yb_l T lim p S.1).1 = true
    · rw [if_pos hl]
      have b := yb_nx_bd hl h0 h1
      have hw' := yb_nx_wt hl h0 hw
      by_cases c2 : lim ≤ (yb_l T lim p S.1).2
      · rw [if_pos c2]
        exact hw'
      · rw [if_neg c2]
        by_cases c3 : T (yb_l T lim p S.1).2 = 59
        · rw [if_pos c3]
          exact yb_r_wt k b.1 b.2.1 hw'
        · rw [if_neg c3]
          exact hw'
    · rw [if_neg hl]
      exact hw
theorem yb_rd_wt {T : Int → Int} {lim : Int} {S : yb_S} (h0 : 0 ≤ S.1) (h1 : S.1 ≤ 10) (hw : yb_wt S) : yb_wt (yb_rd T lim S).2.2.2 := by
  unfold yb_rd
  by_cases hl : lim ≤ 0
  · rw [if_pos hl]
    exact hw
  · rw [if_neg hl]
    exact yb_r_wt 76 h0 h1 hw
theorem ye_arr_ex2 {n : Int} {vs : List Value} (hl : vs.length = 10) (hn : n ≤ 10) (h : ∀ j, j < vs.length → ∃ e, vs[j]? = some (ye_v e)) : ∃ f : Int → Int, ye_arr f n vs ∧ ∀ i, ∃ x : Int32, f i = x.toInt := by
  refine ⟨fun i => match vs[i.toNat]? with | some (.int x) => x.toInt | _ => 0, ⟨hl, fun i i0 i1 => ?_⟩, fun i => ?_⟩
  · obtain ⟨e, he⟩ := h i.toNat (by omega)
    have : vs[i.toNat]? = some (.int (Int32.ofInt e)) := he
    show vs[i.toNat]? = some (ye_v (match vs[i.toNat]? with | some (.int x) => x.toInt | _ => 0))
    rw [this]
    show some (Value.int (Int32.ofInt e)) = some (Value.int (Int32.ofInt (Int32.ofInt e).toInt))
    rw [Int32.ofInt_toInt]
  · show ∃ x : Int32, (match vs[i.toNat]? with | some (.int x) => x.toInt | _ => 0) = x.toInt
    split
    · exact ⟨_, rfl⟩
    · exact ⟨0, rfl⟩
/-- what is told of SORTS, out of the cells alone -/
theorem yb_exM (hI : z_In xs al P) (ha : al a = some 90) : ∃ k : yb_K, ye_BM k al P ∧ yb_wt (yb_S0 k) := by
  obtain ⟨f0, -, mv, hM, hz, -⟩ := z_plr hI.1 ha (A := z_hg 90) rfl rfl
  have hz := hz rfl
  obtain ⟨w0, e0, g0⟩ := hz.get (i := 0) rfl
  obtain ⟨s, rfl, s1, s2⟩ := ye_int1 g0
  have s1 : (0 : Int) ≤ s := s1
  have s2 : s ≤ (10 : Int) := s2
  obtain ⟨w5, e5, g5⟩ := hz.get (i := 5) rfl
  obtain ⟨y, rfl, -, -⟩ := ye_int1 g5
  obtain ⟨w1, e1, g1⟩ := hz.get (i := 1) rfl
  obtain ⟨aK, rfl, hK⟩ := z_ref1 g1
  obtain ⟨w2, e2, g2⟩ := hz.get (i := 2) rfl
  obtain ⟨aW, rfl, hW⟩ := z_ref1 g2
  obtain ⟨w3, e3, g3⟩ := hz.get (i := 3) rfl
  obtain ⟨aZ, rfl, hZ⟩ := z_ref1 g3
  obtain ⟨w4, e4, g4⟩ := hz.get (i := 4) rfl
  obtain ⟨aD, rfl, hD⟩ := z_ref1 g4
  obtain ⟨fK, -, kv, hPK, lK, iK⟩ := ye_rowu hI hK rfl rfl
  obtain ⟨fZ, -, zv, hPZ, lZ, iZ⟩ := ye_rowu hI hZ rfl rfl
  obtain ⟨fD, -, dv, hPD, lD, iD⟩ := ye_rowu hI hD rfl rfl
  obtain ⟨fW, -, wv, hPW, hwv, -⟩ := z_plr hI.1 hW (A := z_hg 92) rfl rfl
  have hwv := hwv rfl
  have lW : wv.length = 10 := hwv.len.symm
  obtain ⟨kd, yK⟩ := ye_arr_ex (n := s) lK s2 iK
  obtain ⟨zs, yZ⟩ := ye_arr_ex (n := s) lZ s2 iZ
  obtain ⟨dr, yD⟩ := ye_arr_ex (n := s) lD s2 iD
  obtain ⟨wt, yW, hwt⟩ := ye_arr_ex2 (n := s) lW s2 (ye_ints_of hwv (by decide +kernel))
  refine ⟨(s, y, kd, wt, zs, dr), ⟨⟨s1, s2⟩, ⟨a, _, ha, f0, hM, e0⟩, ⟨a, _, ha, f0, hM, e5⟩, ⟨aK, _, hK, fK, hPK, yK⟩, ⟨aW, _, hW, fW, hPW, yW⟩, ⟨aZ, _, hZ, fZ, hPZ, yZ⟩, ⟨aD, _, hD, fD, hPD, yD⟩⟩, fun i i0 i1 => ?_⟩
  have i1 : i < s := i1
  show 1 ≤ wt i ∧ wt i ≤ 2147483647
  obtain ⟨q, w, s', j1, j2, j3, j4⟩ := hI.2.2.1 a aW ha hW f0 fW
  cases hM.symm.trans j1
  cases hPW.symm.trans j2
  have j3 : mv[0]? = some (.int s') := j3
  have es : s'.toInt = s := ye_i32 (b := 0) (Option.some.inj (j3.symm.trans e0)) (by omega) (by omega)
  obtain ⟨x, k1, k2⟩ := j4 i.toNat (by omega)
  obtain ⟨x', hx'⟩ := hwt i
  have k3 : Value.int x = ye_v (wt i) := Option.some.inj (k1.symm.trans (yW.2 i i0 i1))
  rw [hx', ← ye_of] at k3
  injection k3 with k3
  subst k3
  rw [hx']
  have := x.toInt_lt
  omega
theorem z_jwM {rv : Option Value} (hI : z_In xs al P) (hg : ye_RM g al P) (ha : al a = some 90) (hr : z_Runs (z_G xs) 799 191 (0, lv_args 0 [.ref a], [], P, 0, 0) rv P') (hm : ∀ a c, al a = some c → al' a = some c) (hH : z_gh (z_strs (z_G xs)) [0] al' z_H0c P') : z_Jw al' P' := by
  obtain ⟨k, hk, hwt⟩ := yb_exM hI ha
  obtain ⟨r, w, P2, s1, s2, s3⟩ := ye_barnM (u := (g, k)) (ws := []) hI ⟨hg, hk⟩ ha rfl
  obtain ⟨-, e2⟩ := z_Runs_one hr s2
  subst e2
  have hB := (s3 al' hm).2
  have hw2 : ∀ i, 0 ≤ i → i < w.2.1 → 1 ≤ w.2.2.2.2.1 i ∧ w.2.2.2.2.1 i ≤ 2147483647 := by
    have hw : w.2 = if 0 ≤ yb_ans (g, k) then yb_new (g, k) else k := by rw [s1.2]
    rw [hw]
    by_cases hpos : 0 ≤ yb_ans (g, k)
    · rw [if_pos hpos]
      exact fun i i0 i1 => yb_rd_wt (T := g.1) (lim := yq_lim g.2 76) (S := yb_S0 k) hk.1.1 hk.1.2 hwt i i0 i1
    · rw [if_neg hpos]
      exact fun i i0 i1 => hwt i i0 i1
  intro a1 b1 h90 h92 f90 f92
  obtain ⟨hs, g0, -, -, g92, -, -⟩ := hB
  obtain ⟨-, u90, -⟩ := z_plr hH h90 (A := z_hg 90) rfl rfl
  obtain ⟨-, u92, -⟩ := z_plr hH h92 (A := z_hg 92) rfl rfl
  obtain ⟨a2, q, m1, m2, m3, m4⟩ := g0
  have ea : a2 = a1 := u90 rfl a2 m1
  subst ea
  obtain ⟨a3, p, n1, n2, n3, n4⟩ := g92
  have eb : a3 = b1 := u92 rfl a3 n1
  subst eb
  refine ⟨q, p, Int32.ofInt w.2.1, m3, n3, m4, fun i hi => ?_⟩
  rw [ye_to (by omega) (by omega)] at hi
  obtain ⟨v1, v2⟩ := hw2 i (by omega) hi
  have e : p.2[i]? = some (ye_v (w.2.2.2.2.1 i)) := n4.2 i (by omega) hi
  exact ⟨_, e, by rw [ye_to (by omega) (by omega)]; exact v1⟩
/-- a call, whatever the cells of old keep -/
theorem z_usePostJ {J : (Nat → Option Nat) → z_H → Prop} {K : z_Kc} {y cell : Nat} {ts : List z_av} {vs : List Value} (hK : z_cn (z_G xs) 12 J K) (hy : K.1 = y) (hE : K.2.2.1 = ((y, 0, z_alv 0 (.inr (.inr (false, [cell])) :: ts), [], 0, 0), [], z_H0c, 1, [], 900000)) (hX : (K.2.2.2.2.1.all fun X => z_okX (z_mc (z_G []) y) X) = true) (hd : Nat.ble K.2.1 799 = true) (hH : z_gh (z_strs (z_G xs)) [0] al z_H0c P) (hf : z_fr 12 al) (hj : J al P) (ha : al a = some cell) (hlen : P.length ≤ 900000) (hvs : z_all2 (z_gv [0] al) ts vs) :
    ∃ rv P' al' X, X ∈ K.2.2.2.2.1 ∧ z_Runs (z_G xs) 799 y (0, lv_args 0 (.ref a :: vs), [], P, 0, 0) rv P' ∧ (z_gh (z_strs (z_G xs)) [0] al' z_H0c P' ∧ z_fr 12 al' ∧ J al' P') ∧ z_post [0] al P X rv P' al' ∧ P'.length ≤ P.length + z_mc (z_G []) y := by
  subst hy
  have hS : z_gs (z_strs (z_G xs)) [0] al K.2.2.1 (K.1, 0, lv_args 0 (.ref a :: vs), [], 0, 0) [] P := by
    rw [hE]
    exact ⟨⟨rfl, rfl, z_alv_ok ⟨Or.inr ⟨a, cell, rfl, ha, List.mem_singleton_self _⟩, hvs⟩, trivial, rfl, rfl⟩, trivial, hH, rfl, fun q hq => (by cases hq), hlen⟩
  obtain ⟨rv, P', al', X, hX', hr, hj', hp⟩ := hK (d := 799) (Nat.le_of_ble_eq_true hd) hS hf hj
  have hok := List.all_eq_true.mp hX X hX'
  unfold z_okX at hok
  rw [Bool.and_eq_true] at hok
  obtain ⟨hg, hok⟩ := hok
  split at hok
  rotate_left
  · cases hok
  rename_i R hR
  have hgh := z_ptc_gh (N := [0]) (m := 1) (bd := []) (iv := fun _ => none) (strs := z_strs (z_G xs)) (fun k q h => by cases h) hR hH (by rw [z_bN0]; exact hp) (fun c A' hx => z_ptc_in hR hx)
  have p1 := hp.1
  refine ⟨rv, P', al', X, hX', hr, ⟨z_hl0_gh hok hgh, fun j hj => p1 _ _ (hf j hj), hj'⟩, hp, ?_⟩
  have := Nat.le_of_ble_eq_true hg
  have := hp.2.2.2.2.2.2
  omega
end YWTS
