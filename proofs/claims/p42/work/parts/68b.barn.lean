/-! barn once more: the place of the next sign has a name at every place of the loop's body. -/
section ZMKW
def z_Tgc : z_Tg := (z_Tg0.1, z_Tg0.2.1, z_Tg0.2.2.1, (fun x => bif Nat.beq x 191 then [(90, 18)] else z_Tg0.2.2.2.1 x), z_Tg0.2.2.2.2.1, z_Tgb.2.2.2.2.2)
theorem z_gpC : z_Gap z_Tgc z_Jg := z_gap_Jg z_gapc rfl
/-- barn: eleven starts -/
theorem z_hbarn2 {xs : List Int32} {W D : z_Ws} {hs : List (Nat × Nat)} {Ks : List z_Kc} {Ds : List z_ce} (K : z_Kc) (hd : z_jdg D = true) (hKs : ∀ K' ∈ Ks, z_cn (z_G xs) 12 z_Jg K') (hall : (Ds.all fun C => z_cok3 (z_G []) W D z_Tgc 12 1 Ks (z_QX (z_lbk K.2.2.1 K.2.2.2.1) 1 900000 W K.2.2.2.2.1) (z_atl hs) [] Ds 30000 C) = true) (hD : z_wsub D W = true) (hK4 : K.2.2.2.1 = [])
    (hst : ∀ k : Nat, k < 11 → ∃ R : List (Nat × Nat × Int), Ds[k]? = some (K.2.1, ((K.1, 0, [(0, .inr (.inr (false, [90])))], [], 0, 0), [], (z_H0c.set 90 (z_s90 k)).set 92 (z_s92 k), 1, [], 900000), [], R)) (hX : (K.2.2.2.2.1.all z_xjw) = true) (h90 : (z_hg 90).2.2.2[0]? = some (.inl (0, 0, 0, 0, 10))) (h902 : (z_hg 90).2.2.2[2]? = some (.inr (.inr (false, [92])))) (hA : z_H0c[90]? = some (z_hg 90)) (A1 : (z_hg 90).1 = 10) (A2 : (z_hg 90).2.1 = (true, true)) (A3 : (z_hg 90).2.2.1 = none) (hB : z_H0c[92]? = some (z_hg 92)) (B1 : (z_hg 92).1 = 103) (B2 : (z_hg 92).2.1 = (true, true)) (B3 : (z_hg 92).2.2.1 = none) (B4 : (z_hg 92).2.2.2 = List.replicate 10 (.inl (0, 0, 0, 0, 99))) :
    z_cn (z_G xs) 12 z_J (K.1, K.2.1, ((K.1, 0, [(0, .inr (.inr (false, [90])))], [], 0, 0), [], z_H0c, 1, [], 900000), [], K.2.2.2.2.1, none) := by
  intro N al l P d hd' hS hf hj
  have hlen : N.length = 1 := hS.2.2.2.1.symm
  obtain ⟨⟨a1, a2, a3, a4, a5, a6⟩, b1, hH, b3, b4, b5⟩ := id hS
  obtain ⟨v, h0, hv⟩ := a3 0 _ rfl
  obtain ⟨aM, rfl, haM⟩ := z_ref1 hv
  obtain ⟨fM, uM, fl, hM, hz, -⟩ := z_plr hH haM hA (by rw [A2])
  rw [A1] at hM
  have uM := uM (by rw [A2])
  have hz := hz A3
  obtain ⟨w0, q0, g0⟩ := hz.get h90
  obtain ⟨s, rfl, s1, s2⟩ := z_int1 g0
  have s1 : 0 ≤ s.toInt := s1
  have s2 : s.toInt ≤ 10 := s2
  obtain ⟨w2, q2, g2⟩ := hz.get h902
  obtain ⟨aW, rfl, haW⟩ := z_ref1 g2
  obtain ⟨fW, uW, wl, hW, hzW, -⟩ := z_plr hH haW hB (by rw [B2])
  rw [B1] at hW
  have uW := uW (by rw [B2])
  have hzW := hzW B3
  rw [B4] at hzW
  obtain ⟨k, hk⟩ : ∃ k : Nat, s.toInt = (k : Int) := ⟨s.toInt.toNat, by omega⟩
  obtain ⟨q, w, s', j1, j2, j3, j4⟩ := hj.1 aM aW haM haW fM fW
  cases hM.symm.trans j1
  cases hW.symm.trans j2
  have j3 : fl[0]? = some (.int s') := j3
  cases q0.symm.trans j3
  obtain ⟨R, hR⟩ := hst k (by omega)
  have hwl : wl.length = 10 := by have := hzW.len; simpa using this.symm
  have hgh : z_gh (z_strs (z_G xs)) N al ((z_H0c.set 90 (z_s90 k)).set 92 (z_s92 k)) P := by
    intro a c hac
    obtain ⟨q, A, e1, e2, ⟨e3, e4⟩, e5, e6⟩ := hH a c hac
    by_cases h2 : c = 92
    · subst h2
      have := uW a hac
      subst this
      rw [z_lkn fW hW] at e1
      cases e1
      refine ⟨_, z_s92 k, z_lkn fW hW, List.getElem?_set_self (by rw [List.length_set]; exact (List.getElem?_eq_some_iff.mp hB).1), ⟨rfl, ?_⟩, fun _ => uW, fun _ => fW⟩
      refine z_all2_pw (by show ((List.range 10).map _).length = wl.length; rw [hwl]; rfl) fun i t b hi hb => ?_
      have hb : wl[i]? = some b := hb
      have hi10 : i < 10 := by rw [← hwl]; exact (List.getElem?_eq_some_iff.mp hb).1
      have hi : ((List.range 10).map fun i => (.inl (0, 0, 0, (if i < k then (1 : Int) else 0), 99) : z_av))[i]? = some t := hi
      rw [List.getElem?_map, List.getElem?_range hi10] at hi
      cases hi
      obtain ⟨b', hb', hg⟩ := hzW.get (i := i) (a := .inl (0, 0, 0, 0, 99)) (by rw [List.getElem?_replicate, if_pos hi10])
      cases hb.symm.trans hb'
      obtain ⟨x, rfl, x1, x2⟩ := z_int1 hg
      have x1 : 0 ≤ x.toInt := x1
      have x2 : x.toInt ≤ 99 := x2
      by_cases hik : i < k
      · obtain ⟨x', hx', hx1⟩ := j4 i (by omega)
        have hx' : wl[i]? = some (.int x') := hx'
        cases hb.symm.trans hx'
        exact ⟨x, rfl, by show (if i < k then (1 : Int) else 0) ≤ _; rw [if_pos hik]; exact hx1, x2, Or.inl rfl⟩
      · exact ⟨x, rfl, by show (if i < k then (1 : Int) else 0) ≤ _; rw [if_neg hik]; exact x1, x2, Or.inl rfl⟩
    by_cases h9 : c = 90
    · subst h9
      have := uM a hac
      subst this
      rw [z_lkn fM hM] at e1
      cases e1
      refine ⟨_, z_s90 k, z_lkn fM hM, by rw [List.getElem?_set_ne (by decide), List.getElem?_set_self (List.getElem?_eq_some_iff.mp hA).1], ⟨rfl, ?_⟩, fun _ => uM, fun _ => fM⟩
      show z_all2 (z_gv N al) (((z_hg 90).2.2.2).set 0 (.inl (0, 0, 0, k, k))) fl
      refine z_all2_set_l hz fun b hb => ?_
      cases q0.symm.trans hb
      exact ⟨s, rfl, by show (k : Int) ≤ _; omega, by show _ ≤ (k : Int); omega, Or.inl rfl⟩
    · exact ⟨q, A, e1, by rw [List.getElem?_set_ne (fun q => h2 q.symm), List.getElem?_set_ne (fun q => h9 q.symm)]; exact e2, ⟨e3, e4⟩, e5, e6⟩
  have hSk : z_gs (z_strs (z_G xs)) N al ((K.1, 0, [(0, .inr (.inr (false, [90])))], [], 0, 0), [], (z_H0c.set 90 (z_s90 k)).set 92 (z_s92 k), 1, [], 900000) (K.1, 0, l, [], 0, 0) [] P := ⟨⟨rfl, rfl, a3, trivial, rfl, rfl⟩, trivial, hgh, b3, b4, b5⟩
  have hd'' : K.2.1 ≤ d := hd'
  have := z_body (G := z_G xs) (J := z_Jg) (e := d - K.2.1) (l := l) (y := K.1) (Es := []) (Ds := Ds) (fu := 30000) (at_ := z_atl hs) (Xs := K.2.2.2.2.1) (z_Jok_g hd) hD z_gpC (fun K' hK' => z_cn_ok (hKs K' hK')) (fun D hD => by cases hD) (fun D hD => by cases hD)
    (C := (K.2.1, ((K.1, 0, [(0, .inr (.inr (false, [90])))], [], 0, 0), [], (z_H0c.set 90 (z_s90 k)).set 92 (z_s92 k), 1, [], 900000), [], R))
    (fun C' hC' => by
      have h := z_cok3_setS (s := (z_strl, xs)) (List.all_eq_true.mp hall C' hC')
      rw [hK4] at h
      rw [hlen]
      exact h) (List.mem_of_getElem? hR) hSk hf hj.2
  have h1 : z_prm (z_G xs) z_Jg N al K.2.2.2.2.1 (K.2.1 + (d - K.2.1)) K.1 l P := this
  rw [show K.2.1 + (d - K.2.1) = d by omega] at h1
  obtain ⟨rv, P', al', X, k1, k2, k3, k4⟩ := h1
  exact ⟨rv, P', al', X, k1, k2, ⟨z_xjw_ok (List.all_eq_true.mp hX X k1) k4, k3⟩, k4⟩
end ZMKW
