/-! marks, barn put in; the three that throw. -/
section ZMKY
theorem z_all2_at {α β : Type} {R : α → β → Prop} : ∀ {as : List α} {bs bs' : List β}, z_all2 R as bs → bs'.length = bs.length → (∀ (i : Nat) (t : α) (b : β), as[i]? = some t → bs'[i]? = some b → bs[i]? = some b ∨ R t b) → z_all2 R as bs'
  | [], [], [], _, _, _ => trivial
  | a :: as, b :: bs, b' :: bs', ⟨h1, h2⟩, hl, h => by
    refine ⟨?_, z_all2_at h2 (by simpa using hl) fun i t b hi hb => h (i + 1) t b (by simpa using hi) (by simpa using hb)⟩
    rcases h 0 a b' rfl rfl with k | k
    · cases k
      exact h1
    · exact k
  | [], [], _ :: _, _, hl, _ => by simp at hl
  | _ :: _, _ :: _, [], _, hl, _ => by simp at hl
  | [], _ :: _, _, h, _, _ => h.elim
  | _ :: _, [], _, h, _, _ => h.elim
theorem z_set_id {α : Type} {l : List α} {i : Nat} {a : α} (h : l[i]? = some a) : l.set i a = l := by
  refine List.ext_getElem? fun j => ?_
  by_cases hij : i = j
  · subst hij
    rw [List.getElem?_set_self (List.getElem?_eq_some_iff.mp h).1, h]
  · rw [List.getElem?_set_ne hij]
def z_mkD : z_Ws := [(90, some [13]), (98, none), (112, none)]
theorem z_mkH_same {al : Nat → Option Nat} {P1 P' : z_H} {aM aF aR : Nat} {fl L0 R0 L' : List Value} {r : Int32} {strs : z_Ss} {N : List Int} {AH : List z_ac_} (hH : z_gh strs N al AH P1) (haM : al aM = some 90) (haF : al aF = some 112) (haR : al aR = some 98) (hM : P1[aM]? = some (10, fl)) (hF : P1[aF]? = some (104, L0)) (hR : P1[aR]? = some (104, R0)) (h1 : L0.length = 125) (h2 : R0.length = 12) (hL : z_mok L') (h : z_mkH aM aF aR P1 P' fl L' r) : z_same z_mkD al P1 P' := by
  obtain ⟨g1, ⟨fl', g2, g3, g4, g5⟩, g6, ⟨R', g7, g8, g9⟩, g10⟩ := h
  intro a c hac hfar
  by_cases ha : a = aM
  · subst ha
    cases haM.symm.trans hac
    refine ⟨_, _, hM, g2, rfl, g3, fun e he => g5 e fun q => ?_⟩
    subst q
    cases he
  by_cases hb : a = aF
  · subst hb
    cases haF.symm.trans hac
    exact ⟨_, _, hF, g6, rfl, by rw [h1]; exact hL.1, fun e he => by cases he⟩
  by_cases hc : a = aR
  · subst hc
    cases haR.symm.trans hac
    exact ⟨_, _, hR, g7, rfl, by rw [h2]; exact g8, fun e he => by cases he⟩
  obtain ⟨q, A, k1, -⟩ := z_gh_near hH hac hfar
  exact ⟨q, q, k1, by rw [g10 a ha hb hc]; exact k1, rfl, rfl, fun _ _ => rfl⟩
theorem z_mkH_gh {al : Nat → Option Nat} {P1 P' : z_H} {aM aF aR : Nat} {fl L' : List Value} {r : Int32} {strs : z_Ss} {N : List Int} {H : List z_ac_} {A BF BR : z_ac_} {t13 : z_tk} (hH : z_gh strs N al H P1) (haM : al aM = some 90) (haF : al aF = some 112) (haR : al aR = some 98) (fM : aM < z_far) (fF : aF < z_far) (fR : aR < z_far) (hM : P1[aM]? = some (10, fl)) (hA : H[90]? = some A) (A1 : A.1 = 10) (A3 : A.2.2.1 = none) (f13 : A.2.2.2[13]? = some (.inl t13)) (t0 : t13.1 = 0) (t1 : z_lo t13 ≤ 0) (t2 : 4 ≤ z_hi t13)
    (hBF : H[112]? = some BF) (F1 : BF.1 = 104) (F3 : BF.2.2.1 = some 125) (F4 : BF.2.2.2 = [.inr (.inl (0, 0, 0, -9223372036854775808, 9223372036854775807))]) (hBR : H[98]? = some BR) (R1 : BR.1 = 104) (R3 : BR.2.2.1 = some 12) (R4 : BR.2.2.2 = [.inr (.inl (0, 0, 0, -9223372036854775808, 9223372036854775807))]) (hL : z_mok L') (r0 : 0 ≤ r.toInt) (r4 : r.toInt ≤ 4) (h : z_mkH aM aF aR P1 P' fl L' r) : z_gh strs N al H P' := by
  have hlong : ∀ v : Int64, z_gv N al (.inr (.inl (0, 0, 0, -9223372036854775808, 9223372036854775807))) (.long v) := fun v => by
    have h1 := v.le_toInt
    have h2 := v.toInt_lt
    exact ⟨v, rfl, by show (-9223372036854775808 : Int) ≤ _; omega, by show _ ≤ (9223372036854775807 : Int); omega, Or.inl rfl⟩
  obtain ⟨g1, ⟨fl', g2, g3, g4, g5⟩, g6, ⟨R', g7, g8, g9⟩, g10⟩ := h
  intro a c hac
  obtain ⟨q, A', e1, e2, ⟨e3, e4⟩, e5, e6⟩ := hH a c hac
  by_cases ha : a = aM
  · subst ha
    cases haM.symm.trans hac
    cases hA.symm.trans e2
    rw [z_lkn fM hM] at e1
    cases e1
    rw [A3] at e4
    have e4 : z_all2 (z_gv N al) A.2.2.2 fl := e4
    refine ⟨_, A, z_lkn fM g2, hA, ⟨A1, ?_⟩, e5, e6⟩
    rw [A3]
    refine z_all2_at e4 g3 fun i t b hi hb => ?_
    by_cases h13 : i = 13
    · subst h13
      cases f13.symm.trans hi
      cases g4.symm.trans hb
      exact Or.inr ⟨r, rfl, by omega, by omega, Or.inl t0⟩
    · have hb : fl'[i]? = some b := hb
      rw [g5 i h13] at hb
      exact Or.inl hb
  by_cases hb : a = aF
  · subst hb
    cases haF.symm.trans hac
    cases hBF.symm.trans e2
    refine ⟨_, BF, z_lkn fF g6, hBF, ⟨F1, ?_⟩, e5, e6⟩
    rw [F3]
    refine ⟨hL.1, _, F4, fun v hv => ?_⟩
    obtain ⟨i, hi⟩ := List.getElem?_of_mem hv
    have hlt := (List.getElem?_eq_some_iff.mp hi).1
    obtain ⟨u, hu⟩ := hL.2 i (by rw [← hL.1]; exact hlt)
    have hi : L'[i]? = some v := hi
    rw [hu] at hi
    cases hi
    exact hlong u
  by_cases hc : a = aR
  · subst hc
    cases haR.symm.trans hac
    cases hBR.symm.trans e2
    refine ⟨_, BR, z_lkn fR g7, hBR, ⟨R1, ?_⟩, e5, e6⟩
    rw [R3]
    refine ⟨g8, _, R4, fun v hv => ?_⟩
    obtain ⟨u, hu⟩ := g9 v hv
    rw [hu]
    exact hlong u
  refine ⟨q, A', ?_, e2, ⟨e3, e4⟩, e5, e6⟩
  unfold z_lk at e1 ⊢
  rw [g10 a ha hb hc]
  exact e1
/-- marks from 142 on -/
theorem z_hmarks {xs : List Int32} {E Z : z_ce} {H : List z_ac_} {LE : List (Nat × z_av)} {A BF BR BW : z_ac_} {t1 t2 t5 t13 tw : z_tk} {Xs : List z_Xe} {W : z_Ws} {N : List Int} {al : Nat → Option Nat} {P : z_H} {e : Nat} {N1 : List Int} {al1 : Nat → Option Nat} {f : z_Fr} {P1 : z_H}
    (eE : E.2.1 = ((256, 142, LE, [], 0, 0), [], H, 1, [], 900000)) (l0 : z_aget LE 0 = some (.inr (.inr (false, [90])))) (l1 : z_aget LE 1 = some (.inl t1)) (l11 : 1 ≤ z_lo t1) (l12 : z_hi t1 ≤ 4) (l2 : z_aget LE 2 = some (.inl t2)) (l21 : z_lo t2 = 25) (l22 : z_hi t2 = 25)
    (eZ : Z.2.1 = ((256, 450, [], [.inl (0, 0, 0, -2147483648, 2147483647)], 0, 0), [], H, 1, [], 900000)) (eD : E.1 = Z.1) (dd : Nat.ble 2 E.1 = true)
    (hA : H[90]? = some A) (A1 : A.1 = 10) (A2 : A.2.1 = (true, true)) (A3 : A.2.2.1 = none) (f5 : A.2.2.2[5]? = some (.inl t5)) (f51 : 0 ≤ z_lo t5) (f52 : z_hi t5 ≤ 24) (f43 : A.2.2.2[43]? = some (.inr (.inr (false, [112])))) (f41 : A.2.2.2[41]? = some (.inr (.inr (false, [110])))) (f12 : A.2.2.2[12]? = some (.inr (.inr (false, [98])))) (f13 : A.2.2.2[13]? = some (.inl t13)) (t0 : t13.1 = 0) (t13a : z_lo t13 ≤ 0) (t13b : 4 ≤ z_hi t13)
    (hBF : H[112]? = some BF) (F1 : BF.1 = 104) (F2 : BF.2.1 = (true, true)) (F3 : BF.2.2.1 = some 125) (F4 : BF.2.2.2 = [.inr (.inl (0, 0, 0, -9223372036854775808, 9223372036854775807))]) (hBR : H[98]? = some BR) (R1 : BR.1 = 104) (R2 : BR.2.1 = (true, true)) (R3 : BR.2.2.1 = some 12) (R4 : BR.2.2.2 = [.inr (.inl (0, 0, 0, -9223372036854775808, 9223372036854775807))]) (hBW : H[110]? = some BW) (W1 : BW.1 = 103) (W2 : BW.2.1 = (true, true)) (W3 : BW.2.2.1 = some 625) (W4 : BW.2.2.2 = [.inl tw]) (W5 : 0 ≤ z_lo tw) (wD : z_wsub z_mkD W = true)
    (hS : z_gs (z_strs (z_G xs)) N1 al1 E.2.1 f [] P1) (hf : z_fr 12 al1) (hI : z_Iv z_J W N N.length al P 900000 N1 al1 P1 E.2.1.2.2.2.2.2)
    (hend : ∀ {f' : z_Fr} {P' : z_H}, z_gs (z_strs (z_G xs)) N1 al1 Z.2.1 f' [] P' → z_Iv z_J W N N.length al P 900000 N1 al1 P' Z.2.1.2.2.2.2.2 → ∃ rv P2 al' X, X ∈ Xs ∧ z_Runs (z_G xs) (Z.1 + e) f'.1 (z_fs f' P') rv P2 ∧ z_J al' P2 ∧ z_post N al P X rv P2 al') : ∃ rv P' al' X, X ∈ Xs ∧ z_Runs (z_G xs) (E.1 + e) f.1 (z_fs f P1) rv P' ∧ z_J al' P' ∧ z_post N al P X rv P' al' := by
  have dd := Nat.le_of_ble_eq_true dd
  rw [eE] at hS hI
  obtain ⟨⟨a1, a2, a3, a4, a5, a6⟩, -, hH, hlen, -, hB⟩ := id hS
  obtain ⟨fy, fpc, lc, fst, fc, fn⟩ := f
  have a1 : 256 = fy := a1
  have a2 : 142 = fpc := a2
  have a5 : 0 = fc := a5
  have a6 : 0 = fn := a6
  subst a1; subst a2; subst a5; subst a6
  match fst, a4 with
  | [], _ =>
  obtain ⟨v, hv0, hv⟩ := a3 0 _ l0
  obtain ⟨aM, rfl, haM⟩ := z_ref1 hv
  have hv0 : z_get lc 0 = some (.ref aM) := hv0
  obtain ⟨v, hv1, hv⟩ := a3 1 _ l1
  obtain ⟨k, rfl, k1, k2⟩ := z_int1 hv
  have hv1 : z_get lc 1 = some (.int k) := hv1
  obtain ⟨v, hv2, hv⟩ := a3 2 _ l2
  obtain ⟨w, rfl, w1, w2⟩ := z_int1 hv
  have hv2 : z_get lc 2 = some (.int w) := hv2
  obtain ⟨fM, -, fl, hM, hz, -⟩ := z_plr hH haM hA (by rw [A2])
  rw [A1] at hM
  have hz := hz A3
  obtain ⟨x5, q5, g5⟩ := hz.get f5
  obtain ⟨n, rfl, n1, n2⟩ := z_int1 g5
  obtain ⟨x43, q43, g43⟩ := hz.get f43
  obtain ⟨aF, rfl, haF⟩ := z_ref1 g43
  obtain ⟨x41, q41, g41⟩ := hz.get f41
  obtain ⟨aW, rfl, haW⟩ := z_ref1 g41
  obtain ⟨x12, q12, g12⟩ := hz.get f12
  obtain ⟨aR, rfl, haR⟩ := z_ref1 g12
  obtain ⟨x13, q13, g13⟩ := hz.get f13
  obtain ⟨r0, rfl, -, -⟩ := z_int1 g13
  obtain ⟨fF, -, L0, hF, -, hzF⟩ := z_plr hH haF hBF (by rw [F2])
  rw [F1] at hF
  obtain ⟨hF1, tF, htF, hF2⟩ := hzF _ F3
  rw [F4] at htF
  cases htF
  obtain ⟨fR, -, R0, hR, -, hzR⟩ := z_plr hH haR hBR (by rw [R2])
  rw [R1] at hR
  obtain ⟨hR1, tR, htR, hR2'⟩ := hzR _ R3
  rw [R4] at htR
  cases htR
  obtain ⟨fW, -, Wl, hW, -, hzW⟩ := z_plr hH haW hBW (by rw [W2])
  rw [W1] at hW
  obtain ⟨hW1, tW, htW, hW2⟩ := hzW _ W3
  rw [W4] at htW
  cases htW
  have hMF : aM ≠ aF := fun q => by rw [q, haF] at haM; cases haM
  have hMR : aM ≠ aR := fun q => by rw [q, haR] at haM; cases haM
  have hFR : aF ≠ aR := fun q => by rw [q, haR] at haF; cases haF
  have hWM : aW ≠ aM := fun q => by rw [q, haM] at haW; cases haW
  have hWF : aW ≠ aF := fun q => by rw [q, haF] at haW; cases haW
  have hWR : aW ≠ aR := fun q => by rw [q, haR] at haW; cases haW
  have hL0 : z_mok L0 := ⟨hF1, fun j hj => by
    obtain ⟨x, hx, -⟩ := hF2 _ (List.getElem_mem (l := L0) (n := j) (by rw [hF1]; exact hj))
    exact ⟨x, by rw [List.getElem?_eq_getElem (by rw [hF1]; exact hj), hx]⟩⟩
  have hWk : z_wok Wl := ⟨hW1, fun j hj => by
    obtain ⟨y, hy, y1, -⟩ := z_int1 (hW2 _ (List.getElem_mem (l := Wl) (n := j) (by rw [hW1]; exact hj)))
    exact ⟨y, by rw [List.getElem?_eq_getElem (by rw [hW1]; exact hj), hy], Int.le_trans W5 y1⟩⟩
  obtain ⟨nn, hn⟩ : ∃ nn : Nat, n.toInt = (nn : Int) := ⟨n.toInt.toNat, (Int.toNat_of_nonneg (Int.le_trans f51 n1)).symm⟩
  have hnn : nn ≤ 24 := by
    have := Int.le_trans n2 f52
    rw [hn] at this
    exact Int.ofNat_le.mp this
  have hw : w.toInt = 25 := Int.le_antisymm (by rw [← l22]; exact w2) (by rw [← l21]; exact w1)
  have k1' : 1 ≤ k.toInt := Int.le_trans l11 k1
  have k2' : k.toInt ≤ 4 := Int.le_trans k2 l12
  obtain ⟨K, hk⟩ : ∃ K : Nat, k.toInt = (K : Int) := ⟨k.toInt.toNat, (Int.toNat_of_nonneg (Int.le_trans (by decide) k1')).symm⟩
  rw [hk] at k1' k2'
  have hK1 : 1 ≤ K := Int.ofNat_le.mp k1'
  have hK : K ≤ 4 := Int.ofNat_le.mp k2'
  have hd : 1 ≤ E.1 + e := Nat.le_trans (by decide) (Nat.le_trans dd (Nat.le_add_right _ _))
  have hlF : aF < P1.length := (List.getElem?_eq_some_iff.mp hF).1
  have key : z_Rh (z_G xs) (E.1 + e) 256 (fun q => ∃ (l : z_L) (v : Int32) (P' : z_H) (L' : List Value) (r : Int32), q = (450, l, [.int v], P', 0, 0) ∧ z_mkH aM aF aR P1 P' fl L' r ∧ z_mok L' ∧ 0 ≤ r.toInt ∧ r.toInt ≤ 4) (142, lc, [], P1, 0, 0) := by
    refine z_mk142 hv0 hv1 hv2 fun l h0 h1 h2 h3 => ?_
    have e0 := z_set_id hF
    refine (fun h => by rw [e0] at h; exact h : z_Rh (z_G xs) (E.1 + e) 256 (fun q => ∃ (l : z_L) (v : Int32) (P' : z_H) (L' : List Value) (r : Int32), q = (450, l, [.int v], P', 0, 0) ∧ z_mkH aM aF aR P1 P' fl L' r ∧ z_mok L' ∧ 0 ≤ r.toInt ∧ r.toInt ≤ 4) (144, l, [], P1.set aF (104, L0), 0, 0) → _) ?_
    refine z_mkout hd hM fM hlF fF hW fW q5 q43 q41 (fun q => hMF q.symm) (fun q => hWF q.symm) hWk hn hnn hw hk hK (fun l L' hL' hp h0 h1 h2 => ?_) (K + 1) 0 (Nat.add_zero _) rfl hL0 (fun m' a' q _ => absurd q (Nat.not_lt_zero _)) h0 h1 h2 h3
    have hM2 : (P1.set aF (104, L'))[aM]? = some (10, fl) := by rw [List.getElem?_set_ne (fun q => hMF q.symm)]; exact hM
    have hF2 : (P1.set aF (104, L'))[aF]? = some (104, L') := List.getElem?_set_self hlF
    have hR2 : (P1.set aF (104, L'))[aR]? = some (104, R0) := by rw [List.getElem?_set_ne hFR]; exact hR
    refine z_mkB0 h0 h1 h2 fun l h0 h1 h2 h3 h4 => ?_
    refine z_mkbst hM2 fM hF2 fF q43 hL' (fun m' q => (hp m' 0 q (Nat.zero_le _)).1) hw hk hK (fun l m B hm hBK hb h0 h2 h3 => ?_) K 1 0 rfl rfl rfl (Nat.zero_le _) (Or.inl (Nat.zero_le _)) (fun _ => Nat.le_refl _) h0 h1 h2 h3 h4
    refine z_mkT h0 h2 h3 hM2 fM hR2 q12 q13 (fun q => hMR q.symm) hd (by rw [hR1]; decide) fun l h0 h2 h3 h4 h5 => ?_
    have hH1 : z_mkH aM aF aR P1 ((P1.set aF (104, L')).set aM (10, fl.set 13 (.int (Int32.ofInt 0)))) fl L' (Int32.ofInt 0) := by
      have hlM : aM < (P1.set aF (104, L')).length := (List.getElem?_eq_some_iff.mp hM2).1
      refine ⟨by rw [List.length_set, List.length_set], ⟨_, List.getElem?_set_self hlM, List.length_set .., List.getElem?_set_self (List.getElem?_eq_some_iff.mp q13).1, fun e' he => List.getElem?_set_ne (fun q => he q.symm)⟩, by rw [List.getElem?_set_ne hMF]; exact hF2, ⟨R0, by rw [List.getElem?_set_ne hMR]; exact hR2, hR1, fun x hx => ?_⟩, fun a p1 p2 p3 => ?_⟩
      · obtain ⟨u, hu, -⟩ := hR2' x hx
        exact ⟨u, hu⟩
      · rw [List.getElem?_set_ne (fun q => p1 q.symm), List.getElem?_set_ne (fun q => p2 q.symm)]
    have hM3 : ((P1.set aF (104, L')).set aM (10, fl.set 13 (.int (Int32.ofInt 0))))[aM]? = some (10, fl.set 13 (.int (Int32.ofInt 0))) := List.getElem?_set_self (List.getElem?_eq_some_iff.mp hM2).1
    have hR3 : ((P1.set aF (104, L')).set aM (10, fl.set 13 (.int (Int32.ofInt 0))))[aR]? = some (104, R0) := by rw [List.getElem?_set_ne hMR]; exact hR2
    have hH2 := z_mkH_tell (r' := Int32.ofInt 0 + Int32.ofInt 1) (v := m.toInt64) (j := 0) hH1 hM3 hR3 hMF hMR hFR
    have hB4 : B ≤ 4 := Nat.le_trans hBK hK
    refine z_mkse (K := K) (B := B) hd fM fF fW hW q43 q41 q12 hMF hMR hFR hWM hWF hWR hL' hWk hnn hw (fun m' a' _ q1 q2 => hp m' a' q1 q2) hm hB4 (fun l v P r hH' r1 r2 => z_rh_end ⟨l, v, P, L', r, rfl, hH', hL', r1, r2⟩) B 0 hm rfl (Nat.zero_le _) hB4 hBK (by decide) ?_ (fun _ => by decide) hb hH2 h0 h2 h3 h4 h5
    rw [show (Int32.ofInt 0 + Int32.ofInt 1).toInt = 1 from rfl]
    omega
  obtain ⟨q1, hto, l, v, P', L', r, rfl, hHH, hL', r1, r2⟩ := key
  have hgh := z_mkH_gh hH haM haF haR fM fF fR hM hA A1 A3 f13 t0 t13a t13b hBF F1 F3 F4 hBR R1 R3 R4 hL' r1 r2 hHH
  have hsm := z_mkH_same hH haM haF haR hM hF hR hF1 hR1 hL' hHH
  have hZ : z_gs (z_strs (z_G xs)) N1 al1 Z.2.1 (256, 450, l, [.int v], 0, 0) [] P' := by
    rw [eZ]
    have b1 := v.le_toInt
    have b2 := v.toInt_lt
    exact ⟨⟨rfl, rfl, fun i t ht => (by cases ht), ⟨⟨v, rfl, by show (-2147483648 : Int) ≤ _; omega, by show _ ≤ (2147483647 : Int); omega, Or.inl rfl⟩, trivial⟩, rfl, rfl⟩, trivial, hgh, hlen, fun q hq => (by cases hq), by show P'.length ≤ 900000; rw [hHH.1]; exact hB⟩
  have hI2 : z_Iv z_J W N N.length al P 900000 N1 al1 P' Z.2.1.2.2.2.2.2 := by
    have hI' : z_Iv z_J W N N.length al P 900000 N1 al1 P1 900000 := hI
    have := z_Iv_st (X := []) (B' := 900000) (z_Jok_d (D := z_mkD) rfl) wD hI' (fun _ _ k => k) (fun _ _ k => Or.inl k) hsm (by rw [hHH.1]; exact Nat.le_refl _)
    rw [List.append_nil] at this
    rw [eZ]
    exact this
  obtain ⟨rv, P2, al', X, hX, hr, j1, j2⟩ := hend hZ hI2
  rw [← eD] at hr
  exact ⟨rv, P2, al', X, hX, z_To_runs hto hr, j1, j2⟩
end ZMKY
