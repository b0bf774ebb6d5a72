/-! barn put in; the three that throw. -/
section ZMKZ
theorem z_all2_pw {α β : Type} {R : α → β → Prop} : ∀ {as : List α} {bs : List β}, as.length = bs.length → (∀ (i : Nat) (t : α) (b : β), as[i]? = some t → bs[i]? = some b → R t b) → z_all2 R as bs
  | [], [], _, _ => trivial
  | a :: as, b :: bs, hl, h => ⟨h 0 a b rfl rfl, z_all2_pw (by simpa using hl) fun i t b hi hb => h (i + 1) t b (by simpa using hi) (by simpa using hb)⟩
  | [], _ :: _, hl, _ => by simp at hl
  | _ :: _, [], hl, _ => by simp at hl
def z_s90 (k : Nat) : z_ac_ := (10, (true, true), none, ((z_hg 90).2.2.2).set 0 (.inl (0, 0, 0, k, k)))
def z_s92 (k : Nat) : z_ac_ := (103, (true, true), none, (List.range 10).map fun i => .inl (0, 0, 0, (if i < k then 1 else 0), 99))
def z_xjw (X : z_Xe) : Bool := match z_xget X.2.1 90, z_xget X.2.1 92 with
  | some (.inr ps), some (.inl A') => (match z_pget ps 0 with
    | some (.inl t) => A'.2.2.1.isNone && (List.range (z_hi t).toNat).all fun i => match A'.2.2.2[i]? with
      | some (.inl u) => z_ile 1 (z_lo u)
      | _ => false
    | _ => false)
  | _, _ => false
theorem z_xjw_ok {N : List Int} {al al' : Nat → Option Nat} {P P' : z_H} {X : z_Xe} {rv : Option Value} (h : z_xjw X = true) (hp : z_post N al P X rv P' al') : z_Jw al' P' := by
  unfold z_xjw at h
  split at h
  rotate_left
  · cases h
  rename_i ps A' h90 h92
  split at h
  rotate_left
  · cases h
  rename_i t ht
  rw [Bool.and_eq_true, Option.isNone_iff_eq_none] at h
  obtain ⟨hn, hall⟩ := h
  obtain ⟨-, -, -, -, p5, p6, -⟩ := hp
  intro a b ha hb fa fb
  obtain ⟨q, hq, hqe⟩ := p6 90 ps h90 a ha
  obtain ⟨w0, hw0, hg0⟩ := hqe 0 _ (z_pget_mem ht)
  obtain ⟨s, rfl, s1, s2⟩ := z_int1 hg0
  obtain ⟨-, ⟨w, hw, hw1, hw2⟩, -⟩ := p5 92 A' h92 b hb
  rw [hn] at hw2
  have hw2 : z_all2 (z_gv N al') A'.2.2.2 w.2 := hw2
  refine ⟨q, w, s, hq, hw, hw0, fun i hi => ?_⟩
  have h1 := List.all_eq_true.mp hall i (List.mem_range.mpr (by omega))
  split at h1
  · rename_i u hu
    obtain ⟨v, hv, hgv⟩ := hw2.get hu
    obtain ⟨x, rfl, x1, -⟩ := z_int1 hgv
    exact ⟨x, hv, Int.le_trans (z_ile_t h1) x1⟩
  · cases h1
/-- barn: eleven starts -/
theorem z_hbarn {xs : List Int32} {W D : z_Ws} {hs : List (Nat × Nat)} {Ks : List z_Kc} {Ds : List z_ce} (K : z_Kc) (hd : z_jdg D = true) (hKs : ∀ K' ∈ Ks, z_cn (z_G xs) 12 z_Jg K') (hall : (Ds.all fun C => z_cok3 (z_G []) W D z_Tgb 12 1 Ks (z_QX (z_lbk K.2.2.1 K.2.2.2.1) 1 900000 W K.2.2.2.2.1) (z_atl hs) [] Ds 30000 C) = true) (hD : z_wsub D W = true) (hK4 : K.2.2.2.1 = [])
    (hst : ∀ k : Nat, k < 11 → ∃ R : List (Nat × Nat × Int), Ds[k]? = some (K.2.1, ((K.1, 0, [(0, .inr (.inr (false, [90])))], [], 0, 0), [], (z_H0c.set 90 (z_s90 k)).set 92 (z_s92 k), 1, [], 900000), [], R)) (hX : (K.2.2.2.2.1.all z_xjw) = true) (h90 : (z_hg 90).2.2.2[0]? = some (.inl (0, 0, 0, 0, 10))) (h902 : (z_hg 90).2.2.2[2]? = some (.inr (.inr (false, [92])))) (hA : z_H0c[90]? = some (z_hg 90)) (A1 : (z_hg 90).1 = 10) (A2 : (z_hg 90).2.1 = (true, true)) (A3 : (z_hg 90).2.2.1 = none) (hB : z_H0c[92]? = some (z_hg 92)) (B1 : (z_hg 92).1 = 103) (B2 : (z_hg 92).2.1 = (true, true)) (B3 : (z_hg 92).2.2.1 = none) (B4 : (z_hg 92).2.2.2 = List.replicate 10 (.inl (0, 0, 0, 0, 99))) :
    z_cn (z_G xs) 12 z_J (K.1, K.2.1, ((K.1, 0, [(0, .inr (.inr (false, [90])))], [], 0, 0), [], z_H0c, 1, [], 900000), [], K.2.2.2.2.1, none) := by
  intro N al l P d hd' hS hf hj
  have hlen : N.length = 1 := hS.2.2.2.1.symm
  obtain ⟨⟨a1, a2, a3, a4, a5, a6⟩, b1, hH, b3, b4, b5⟩ := id hS
  obtain ⟨v, h0, hv⟩ := a3 0 _ rfl
  obtain ⟨aM, rfl, haM⟩ := z_ref1 hv
  obtain ⟨fM, uM, fl, hM, hz, -⟩ := z_plr hH haM hA (by rw [A2])
  rw [A1] at hM
  have uM := uM (by rw [A2])
  have hz := hz A3
  obtain ⟨w0, q0, g0⟩ := hz.get h90
  obtain ⟨s, rfl, s1, s2⟩ := z_int1 g0
  have s1 : 0 ≤ s.toInt := s1
  have s2 : s.toInt ≤ 10 := s2
  obtain ⟨w2, q2, g2⟩ := hz.get h902
  obtain ⟨aW, rfl, haW⟩ := z_ref1 g2
  obtain ⟨fW, uW, wl, hW, hzW, -⟩ := z_plr hH haW hB (by rw [B2])
  rw [B1] at hW
  have uW := uW (by rw [B2])
  have hzW := hzW B3
  rw [B4] at hzW
  obtain ⟨k, hk⟩ : ∃ k : Nat, s.toInt = (k : Int) := ⟨s.toInt.toNat, by omega⟩
  obtain ⟨q, w, s', j1, j2, j3, j4⟩ := hj.1 aM aW haM haW fM fW
  cases hM.symm.trans j1
  cases hW.symm.trans j2
  have j3 : fl[0]? = some (.int s') := j3
  cases q0.symm.trans j3
  obtain ⟨R, hR⟩ := hst k (by omega)
  have hwl : wl.length = 10 := by have := hzW.len; simpa using this.symm
  have hgh : z_gh (z_strs (z_G xs)) N al ((z_H0c.set 90 (z_s90 k)).set 92 (z_s92 k)) P := by
    intro a c hac
    obtain ⟨q, A, e1, e2, ⟨e3, e4⟩, e5, e6⟩ := hH a c hac
    by_cases h2 : c = 92
    · subst h2
      have := uW a hac
      subst this
      rw [z_lkn fW hW] at e1
      cases e1
      refine ⟨_, z_s92 k, z_lkn fW hW, List.getElem?_set_self (by rw [List.length_set]; exact (List.getElem?_eq_some_iff.mp hB).1), ⟨rfl, ?_⟩, fun _ => uW, fun _ => fW⟩
      refine z_all2_pw (by show ((List.range 10).map _).length = wl.length; rw [hwl]; rfl) fun i t b hi hb => ?_
      have hb : wl[i]? = some b := hb
      have hi10 : i < 10 := by rw [← hwl]; exact (List.getElem?_eq_some_iff.mp hb).1
      have hi : ((List.range 10).map fun i => (.inl (0, 0, 0, (if i < k then (1 : Int) else 0), 99) : z_av))[i]? = some t := hi
      rw [List.getElem?_map, List.getElem?_range hi10] at hi
      cases hi
      obtain ⟨b', hb', hg⟩ := hzW.get (i := i) (a := .inl (0, 0, 0, 0, 99)) (by rw [List.getElem?_replicate, if_pos hi10])
      cases hb.symm.trans hb'
      obtain ⟨x, rfl, x1, x2⟩ := z_int1 hg
      have x1 : 0 ≤ x.toInt := x1
      have x2 : x.toInt ≤ 99 := x2
      by_cases hik : i < k
      · obtain ⟨x', hx', hx1⟩ := j4 i (by omega)
        have hx' : wl[i]? = some (.int x') := hx'
        cases hb.symm.trans hx'
        exact ⟨x, rfl, by show (if i < k then (1 : Int) else 0) ≤ _; rw [if_pos hik]; exact hx1, x2, Or.inl rfl⟩
      · exact ⟨x, rfl, by show (if i < k then (1 : Int) else 0) ≤ _; rw [if_neg hik]; exact x1, x2, Or.inl rfl⟩
    by_cases h9 : c = 90
    · subst h9
      have := uM a hac
      subst this
      rw [z_lkn fM hM] at e1
      cases e1
      refine ⟨_, z_s90 k, z_lkn fM hM, by rw [List.getElem?_set_ne (by decide), List.getElem?_set_self (List.getElem?_eq_some_iff.mp hA).1], ⟨rfl, ?_⟩, fun _ => uM, fun _ => fM⟩
      show z_all2 (z_gv N al) (((z_hg 90).2.2.2).set 0 (.inl (0, 0, 0, k, k))) fl
      refine z_all2_set_l hz fun b hb => ?_
      cases q0.symm.trans hb
      exact ⟨s, rfl, by show (k : Int) ≤ _; omega, by show _ ≤ (k : Int); omega, Or.inl rfl⟩
    · exact ⟨q, A, e1, by rw [List.getElem?_set_ne (fun q => h2 q.symm), List.getElem?_set_ne (fun q => h9 q.symm)]; exact e2, ⟨e3, e4⟩, e5, e6⟩
  have hSk : z_gs (z_strs (z_G xs)) N al ((K.1, 0, [(0, .inr (.inr (false, [90])))], [], 0, 0), [], (z_H0c.set 90 (z_s90 k)).set 92 (z_s92 k), 1, [], 900000) (K.1, 0, l, [], 0, 0) [] P := ⟨⟨rfl, rfl, a3, trivial, rfl, rfl⟩, trivial, hgh, b3, b4, b5⟩
  have hd'' : K.2.1 ≤ d := hd'
  have := z_body (G := z_G xs) (J := z_Jg) (e := d - K.2.1) (l := l) (y := K.1) (Es := []) (Ds := Ds) (fu := 30000) (at_ := z_atl hs) (Xs := K.2.2.2.2.1) (z_Jok_g hd) hD z_gpB (fun K' hK' => z_cn_ok (hKs K' hK')) (fun D hD => by cases hD) (fun D hD => by cases hD)
    (C := (K.2.1, ((K.1, 0, [(0, .inr (.inr (false, [90])))], [], 0, 0), [], (z_H0c.set 90 (z_s90 k)).set 92 (z_s92 k), 1, [], 900000), [], R))
    (fun C' hC' => by
      have h := z_cok3_setS (s := (z_strl, xs)) (List.all_eq_true.mp hall C' hC')
      rw [hK4] at h
      rw [hlen]
      exact h) (List.mem_of_getElem? hR) hSk hf hj.2
  have h1 : z_prm (z_G xs) z_Jg N al K.2.2.2.2.1 (K.2.1 + (d - K.2.1)) K.1 l P := this
  rw [show K.2.1 + (d - K.2.1) = d by omega] at h1
  obtain ⟨rv, P', al', X, k1, k2, k3, k4⟩ := h1
  exact ⟨rv, P', al', X, k1, k2, ⟨z_xjw_ok (List.all_eq_true.mp hX X k1) k4, k3⟩, k4⟩
/-- partial runs carry backwards, calls in one too -/
theorem z_PF_clo5 {G : z_Pg} {Ψ : Nat → z_Fr → z_H → Prop} : z_Clo5 G (fun d f rest P => z_PF G Ψ rest f d P) := by
  obtain ⟨c1, c2, c3, -⟩ := z_PF_clo (G := G) (Ψ := Ψ)
  refine ⟨c1, c2, c3, ?_⟩
  intro d y f rest P P1 as rst rv hd hn hr h
  cases rest with
  | nil =>
    obtain ⟨q', h1, h2⟩ := h
    exact ⟨q', z_To_call hn hr h1, h2⟩
  | cons g rest =>
    obtain ⟨r0, P0, h1, h2⟩ := h
    exact ⟨r0, P0, z_Runs_call hn hr h1, h2⟩
theorem z_Clo5_or {G : z_Pg} {Φ Φ' : Nat → z_Fr → List z_Fr → z_H → Prop} (h : z_Clo5 G Φ) (h' : z_Clo5 G Φ') : z_Clo5 G (fun d f rest P => Φ d f rest P ∨ Φ' d f rest P) :=
  ⟨fun a b => b.imp (h.1 a) (h'.1 a), fun a b c => c.imp (h.2.1 a b) (h'.2.1 a b), fun a b => b.imp (h.2.2.1 a) (h'.2.2.1 a), fun a b c e => e.imp (h.2.2.2 a b c) (h'.2.2.2 a b c)⟩
/-- where a method stands that is about to throw -/
def z_thrAt (xs : List Int32) (d y pcE : Nat) (al : Nat → Option Nat) (l : z_L) (P : z_H) (W : z_Ws) : Prop := ∃ q9 N1 al1, z_To (z_G xs) d y (0, l, [], P, 0, 0) q9 ∧ q9.1 = pcE ∧ q9.2.2.1 = [] ∧ q9.2.2.2.2 = (0, 0) ∧ z_gh (z_strs (z_G xs)) N1 al1 z_H0c q9.2.2.2.1 ∧ N1.length = 1 ∧ z_fr 12 al1 ∧ z_J al1 q9.2.2.2.1 ∧ (∀ a c, al a = some c → al1 a = some c) ∧ q9.2.2.2.1.length ≤ P.length ∧ z_same W al P q9.2.2.2.1
theorem z_hthr {xs : List Int32} {W D : z_Ws} {hs : List (Nat × Nat)} {Ks : List z_Kc} {R : List (Nat × Nat × Int)} {E : z_ce} {pcE : Nat} {LE : List (Nat × z_av)} (K : z_Kc) (Ds : List z_ce) (hd : z_jd D = true) (hKs : ∀ K' ∈ Ks, z_cn (z_G xs) 12 z_J K') (hall : (Ds.all fun C => z_cok3 (z_G []) W D z_Tg0 12 1 Ks (z_QX (z_lbk K.2.2.1 K.2.2.2.1) 1 900000 W K.2.2.2.2.1) (z_atl hs) [E] Ds 30000 C) = true) (hD : z_wsub D W = true) (hC : Ds.head? = some (K.2.1, K.2.2.1, K.2.2.2.1, R)) (hn : K.2.2.1.2.2.2.1 = 1) (hB : K.2.2.1.2.2.2.2.2 = 900000) (hE : E.2.1 = ((K.1, pcE, LE, [], 0, 0), [], z_H0c, 1, [], 900000)) (hM : ∃ us, z_mts3 (K.2.1, K.2.2.1, K.2.2.2.1, R) R = some us)
    {N : List Int} {al : Nat → Option Nat} {l : z_L} {P : z_H} {d : Nat} (hd' : K.2.1 ≤ d) (hS : z_gs (z_strs (z_G xs)) N al K.2.2.1 (K.1, 0, l, [], 0, 0) [] P) (hf : z_fr 12 al) (hj : z_J al P) : z_prm (z_G xs) z_J N al K.2.2.2.2.1 d K.1 l P ∨ z_thrAt xs d K.1 pcE al l P W := by
  have hlen : N.length = 1 := by rw [← hn]; exact hS.2.2.2.1.symm
  obtain ⟨us, hus⟩ := hM
  have hI : z_Iv z_J W N N.length al P 900000 N al P K.2.2.1.2.2.2.2.2 := ⟨Nat.le_refl _, fun _ _ _ => rfl, fun _ _ k => k, fun _ _ k => Or.inl k, z_same_rf hS.2.2.1, hj, by rw [hB]; exact Nat.le_refl _⟩
  have hcut := z_cut3 (G := z_G xs) (Q := z_QX (z_lbk K.2.2.1 K.2.2.2.1) N.length 900000 W K.2.2.2.2.1) (at_ := z_atl hs) (Es := [E]) (Ds := Ds) (fu := 30000) (g := N.length) (w0 := N) (al0 := al) (P0 := P) (B0 := 900000) (e := d - K.2.1) (Ks := Ks)
    (Φ := fun d f rest P1 => (∃ rv P', z_RF (z_G xs) rest f d P1 rv P' ∧ ∃ al' X, X ∈ K.2.2.2.2.1 ∧ z_J al' P' ∧ z_post N al P X rv P' al') ∨ z_PF (z_G xs) (fun _ f P9 => f.1 = K.1 → f.2.1 = pcE ∧ f.2.2.2.1 = [] ∧ f.2.2.2.2 = (0, 0) ∧ ∃ N1 al1, z_gh (z_strs (z_G xs)) N1 al1 z_H0c P9 ∧ N1.length = 1 ∧ z_fr 12 al1 ∧ z_J al1 P9 ∧ (∀ a c, al a = some c → al1 a = some c) ∧ P9.length ≤ P.length ∧ z_same W al P P9) rest f d P1)
    (z_Clo5_or z_RF_clo5 z_PF_clo5) (z_Jok_d hd) hD z_gpT (fun K' hK' => z_cn_ok (hKs K' hK'))
    (fun {d f P1 r0 S t N1 al1} hn hq hS1 hf1 hI1 hr1 => by
      obtain ⟨X, h1, h2, h3⟩ := z_QX_ok (fun k l h1 _ h => z_lbk_ok hS h1 h) hq hS1 hf1 hI1 hr1
      exact Or.inl ⟨r0, P1, z_RF_end hn, al1, X, h1, h2, h3⟩)
    (fun D hD {N1 al1 f rest P1} hS1 hf1 hI1 => by
      rw [List.mem_singleton] at hD
      subst hD
      rw [hE] at hS1 hI1
      obtain ⟨⟨c1, c2, c3, c4, c5, c6⟩, c7, c8, c9, -, -⟩ := hS1
      match rest, c7 with
      | [], _ =>
      obtain ⟨fy, fpc, fl, fst, fc, fn⟩ := f
      have c2 : pcE = fpc := c2
      have c5 : 0 = fc := c5
      have c6 : 0 = fn := c6
      subst c2; subst c5; subst c6
      match fst, c4 with
      | [], _ =>
      have i7 : P1.length + 900000 ≤ P.length + 900000 := hI1.2.2.2.2.2.2
      exact Or.inr ⟨z_fs (fy, pcE, fl, [], 0, 0) P1, z_To_rf, fun _ => ⟨rfl, rfl, rfl, N1, al1, c8, c9.symm, hf1, hI1.2.2.2.2.2.1, hI1.2.2.1, Nat.le_of_add_le_add_right i7, hI1.2.2.2.2.1⟩⟩)
    (fun C' hC' => by
      have h := z_cok3_setS (s := (z_strl, xs)) (List.all_eq_true.mp hall C' hC')
      rw [hlen]
      exact h) _ (K.2.1, K.2.2.1, K.2.2.2.1, R) (List.mem_of_mem_head? hC) hus (Nat.le_refl _) hS hf hI
  have hcut : (∃ rv P', z_RF (z_G xs) [] (K.1, 0, l, [], 0, 0) (K.2.1 + (d - K.2.1)) P rv P' ∧ ∃ al' X, X ∈ K.2.2.2.2.1 ∧ z_J al' P' ∧ z_post N al P X rv P' al') ∨ z_PF (z_G xs) _ [] (K.1, 0, l, [], 0, 0) (K.2.1 + (d - K.2.1)) P := hcut
  rw [show K.2.1 + (d - K.2.1) = d by omega] at hcut
  rcases hcut with ⟨rv, P', h1, al', X, h2, h3, h4⟩ | ⟨q', h1, h2⟩
  · exact Or.inl ⟨rv, P', al', X, h2, h1, h3, h4⟩
  · obtain ⟨g1, g2, g3, N1, al1, g4, g5, g6, g7, g8, g9⟩ := h2 rfl
    exact Or.inr ⟨q', N1, al1, h1, g1, g2, g3, g4, g5, g6, g7, g8, g9⟩
end ZMKZ
