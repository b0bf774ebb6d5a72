/-! marks from 142 on: its loops put together. -/
section ZMK2
def z_eg (L : List Value) (j : Nat) : Int := match L[j]? with
  | some (.long v) => v.toInt
  | _ => 0
def z_ew (W : List Value) (j : Nat) : Int := match W[j]? with
  | some (.int v) => v.toInt
  | _ => 0
theorem z_eg_at {L : List Value} {j : Nat} {v : Int64} (h : L[j]? = some (.long v)) : z_eg L j = v.toInt := by
  unfold z_eg
  rw [h]
theorem z_ew_at {L : List Value} {j : Nat} {v : Int32} (h : L[j]? = some (.int v)) : z_ew L j = v.toInt := by
  unfold z_ew
  rw [h]
def z_mok (L : List Value) : Prop := L.length = 125 ∧ ∀ j, j < 125 → ∃ v : Int64, L[j]? = some (.long v)
def z_wok (W : List Value) : Prop := W.length = 625 ∧ ∀ j, j < 625 → ∃ y : Int32, W[j]? = some (.int y) ∧ 0 ≤ y.toInt
theorem z_mok_set {L : List Value} {j : Nat} {v : Int64} (h : z_mok L) : z_mok (L.set j (.long v)) := by
  refine ⟨by rw [List.length_set]; exact h.1, fun i hi => ?_⟩
  by_cases hij : j = i
  · subst hij
    exact ⟨v, List.getElem?_set_self (by rw [h.1]; exact hi)⟩
  · rw [List.getElem?_set_ne hij]
    exact h.2 i hi
theorem z_eg_set {L : List Value} {j : Nat} {v : Int64} (h : z_mok L) (hj : j < 125) : z_eg (L.set j (.long v)) j = v.toInt := z_eg_at (List.getElem?_set_self (by rw [h.1]; exact hj))
theorem z_eg_setn {L : List Value} {i j : Nat} {v : Value} (h : j ≠ i) : z_eg (L.set j v) i = z_eg L i := by
  unfold z_eg
  rw [List.getElem?_set_ne h]
/-- what holds of an entry -/
def z_Pe (nn : Nat) (W L : List Value) (m a : Nat) : Prop :=
  -1 ≤ z_eg L (25 * m + a) ∧ z_eg L (25 * m + a) ≤ m * 2147483647 ∧ (1 ≤ m → z_eg L (25 * m + a) = -1 ∨ ∃ b, a < b ∧ b ≤ nn ∧ z_eg L (25 * (m - 1) + b) ≠ -1 ∧ z_ew W (25 * a + b) + z_eg L (25 * (m - 1) + b) = z_eg L (25 * m + a))
theorem z_Pe_fr {nn : Nat} {W L L' : List Value} {m a : Nat} (h : z_Pe nn W L m a) (h1 : z_eg L' (25 * m + a) = z_eg L (25 * m + a)) (h2 : ∀ b, b ≤ nn → 1 ≤ m → z_eg L' (25 * (m - 1) + b) = z_eg L (25 * (m - 1) + b)) : z_Pe nn W L' m a := by
  obtain ⟨g1, g2, g3⟩ := h
  refine ⟨by rw [h1]; exact g1, by rw [h1]; exact g2, fun hm => ?_⟩
  rcases g3 hm with g | ⟨b, k1, k2, k3, k4⟩
  · exact Or.inl (by rw [h1]; exact g)
  · exact Or.inr ⟨b, k1, k2, by rw [h2 b k2 hm]; exact k3, by rw [h1, h2 b k2 hm]; exact k4⟩
theorem z_ix1 {w m b : Int32} {mm bb : Nat} (hw : w.toInt = 25) (hm : m.toInt = (mm : Int)) (hb : b.toInt = (bb : Int)) (h1 : mm ≤ 30) (h2 : bb ≤ 30) : (w * m + b).toInt = ((25 * mm + bb : Nat) : Int) := by
  have e := z_ml32 (a := w) (b := m) hw (by omega) (by omega)
  rw [z_ad32 (by omega) (by omega), e]
  omega
theorem z_m1 {m : Int32} {mm : Nat} (hm : m.toInt = (mm : Int)) (h0 : 1 ≤ mm) : (m - Int32.ofInt 1).toInt = ((mm - 1 : Nat) : Int) := by
  have := m.toInt_lt
  rw [z_sb32 (by rw [z_1t]; omega) (by rw [z_1t]; omega), z_1t]
  omega
theorem z_p1 {m : Int32} {mm : Nat} (hm : m.toInt = (mm : Int)) (h0 : mm ≤ 100) : (m + Int32.ofInt 1).toInt = ((mm + 1 : Nat) : Int) := by
  rw [z_ad32 (by rw [z_1t]; omega) (by rw [z_1t]; omega), z_1t]
  omega
theorem z_ix2 {w m b : Int32} {mm bb : Nat} (hw : w.toInt = 25) (hm : m.toInt = (mm : Int)) (h0 : 1 ≤ mm) (hb : b.toInt = (bb : Int)) (h1 : mm ≤ 30) (h2 : bb ≤ 30) : (w * (m - Int32.ofInt 1) + b).toInt = ((25 * (mm - 1) + bb : Nat) : Int) := z_ix1 hw (z_m1 hm h0) hb (by omega) h2
theorem z_ix0 {w m : Int32} {mm : Nat} (hw : w.toInt = 25) (hm : m.toInt = (mm : Int)) (h1 : mm ≤ 30) : (w * m).toInt = ((25 * mm : Nat) : Int) := by
  rw [z_ml32 (a := w) (b := m) hw (by omega) (by omega)]
  omega
theorem z_nq1 {x : Int} {mm : Nat} (h : x = ((mm + 1 : Nat) : Int)) (h1 : mm ≠ 0) : 1 < x := by omega
theorem z_nq2 {x : Int} {mm : Nat} (h : x = ((mm + 1 : Nat) : Int)) (h1 : mm = 0) : x ≤ 1 := by omega
theorem z_nq0 {x : Int} (h : x = ((0 : Nat) : Int)) : x ≤ 1 := by omega
theorem z_nq3 {r r' : Int} (h : r' = r + 1) (h1 : 1 ≤ r) : 1 ≤ r' := by omega
theorem z_nq4 {r r' : Int} {mm : Nat} (h : r' = r + 1) (h1 : r + ((mm + 1 : Nat) : Int) ≤ 5) : r' + (mm : Int) ≤ 5 := by omega
theorem z_nq5 {r : Int} {mm : Nat} (h1 : r + ((mm + 1 : Nat) : Int) ≤ 5) : r ≤ 4 := by omega
theorem z_nq6 {r : Int} {mm m : Nat} (h : 1 ≤ r) (h1 : r + ((mm + 1 : Nat) : Int) ≤ 5) (hm : m = 12) : ∃ j : Nat, r = (j : Int) ∧ j < m := ⟨r.toNat, by omega, by omega⟩
theorem z_nq7 {r : Int} (h : 1 ≤ r) : 0 ≤ r := by omega
theorem z_nq8 {B c : Nat} (h : B ≤ 4) (hc : c = 125) : 25 * B < c := by omega
theorem z_nq9 {x : Int} {mm : Nat} (h : x ≤ (mm : Int) * 2147483647) (h1 : mm ≤ 4) : x ≤ 4 * 2147483647 := by omega
theorem z_nqa {bs aa : Nat} (h : aa < bs) : bs - (aa + 1) + (aa + 1) = bs := by omega
theorem z_kdec {k : Int32} {mm : Nat} (hk : k.toInt = ((mm + 1 : Nat) : Int)) : (k + Int32.ofInt (-1)).toInt = (mm : Int) := by
  have := k.toInt_lt
  rw [z_ad32 (by rw [show (Int32.ofInt (-1)).toInt = -1 from rfl]; omega) (by rw [show (Int32.ofInt (-1)).toInt = -1 from rfl]; omega), show (Int32.ofInt (-1)).toInt = -1 from rfl]
  omega
theorem z_rinc {r : Int32} (h0 : 1 ≤ r.toInt) (h : r.toInt ≤ 4) : (r + Int32.ofInt 1).toInt = r.toInt + 1 := by
  rw [z_ad32 (by rw [z_1t]; omega) (by rw [z_1t]; omega), z_1t]
variable {xs : List Int32} {d aM aF aW aR : Nat} {P : z_H} {fl L W R : List Value} {n k w m a b r : Int32} {s v : Int64} {Ψ : z_S → Prop} {nn mm aa K : Nat}
/-- the innermost loop -/
theorem z_mkin (hd : 1 ≤ d) (hM : P[aM]? = some (10, fl)) (fM : aM < z_far) (hF : P[aF]? = some (104, L)) (fF : aF < z_far) (hW : P[aW]? = some (103, W)) (fW : aW < z_far) (q5 : fl[5]? = some (.int n)) (q43 : fl[43]? = some (.ref aF)) (q41 : fl[41]? = some (.ref aW)) (hL : z_mok L) (hWk : z_wok W) (hn : n.toInt = (nn : Int)) (hnn : nn ≤ 24) (hw : w.toInt = 25) (hm : m.toInt = (mm : Int)) (hmm : mm ≤ 4) (ha : a.toInt = (aa : Int)) (haa : aa ≤ nn) (hrow : ∀ b, b ≤ nn → 1 ≤ mm → z_Pe nn W L (mm - 1) b)
    (kk : ∀ l s, z_get l 0 = some (.ref aM) → z_get l 1 = some (.int k) → z_get l 2 = some (.int w) → z_get l 3 = some (.int m) → z_get l 4 = some (.int a) → z_get l 5 = some (.long s) → -1 ≤ s.toInt → s.toInt ≤ mm * 2147483647 → (1 ≤ mm → s.toInt = -1 ∨ ∃ b, aa < b ∧ b ≤ nn ∧ z_eg L (25 * (mm - 1) + b) ≠ -1 ∧ z_ew W (25 * aa + b) + z_eg L (25 * (mm - 1) + b) = s.toInt) → z_Rh (z_G xs) d 256 Ψ (254, l, [], P, 0, 0)) :
    ∀ (r bb : Nat) {l : z_L} {s : Int64} {b : Int32}, r + bb = nn + 1 → aa < bb → z_get l 0 = some (.ref aM) → z_get l 1 = some (.int k) → z_get l 2 = some (.int w) → z_get l 3 = some (.int m) → z_get l 4 = some (.int a) → z_get l 5 = some (.long s) → z_get l 7 = some (.int b) → b.toInt = (bb : Int) → -1 ≤ s.toInt → s.toInt ≤ mm * 2147483647 → (1 ≤ mm → s.toInt = -1 ∨ ∃ b, aa < b ∧ b < bb ∧ z_eg L (25 * (mm - 1) + b) ≠ -1 ∧ z_ew W (25 * aa + b) + z_eg L (25 * (mm - 1) + b) = s.toInt) → z_Rh (z_G xs) d 256 Ψ (188, l, [], P, 0, 0) := by
  intro r
  induction r with
  | zero =>
    intro bb l s b hr hb h0 h1 h2 h3 h4 h5 h7 hbb s1 s2 s3
    refine z_mk3e h0 h1 h2 h3 h4 h5 h7 hM fM q5 (by omega) fun l h0 h1 h2 h3 h4 h5 => kk l s h0 h1 h2 h3 h4 h5 s1 s2 fun hm1 => ?_
    rcases s3 hm1 with g | ⟨b', k1, k2, k3⟩
    · exact Or.inl g
    · exact Or.inr ⟨b', k1, by omega, k3⟩
  | succ r ih =>
    intro bb l s b hr hb h0 h1 h2 h3 h4 h5 h7 hbb s1 s2 s3
    by_cases hm0 : mm = 0
    · exact z_mk3f h0 h1 h2 h3 h4 h5 h7 hM fM q5 (by omega) (by omega) fun l h0 h1 h2 h3 h4 h5 => kk l s h0 h1 h2 h3 h4 h5 s1 s2 fun hm1 => by omega
    have hm1 : 1 ≤ mm := by omega
    obtain ⟨v, hv⟩ := hL.2 (25 * (mm - 1) + bb) (by omega)
    have hve := z_eg_at hv
    have hi := z_ix2 hw hm hm1 hbb (by omega) (by omega)
    by_cases hx : v.toInt = -1
    · refine z_mk3a h0 h1 h2 h3 h4 h5 h7 hM fM q5 hF fF q43 (by omega) (by omega) hi hv hx fun l h0 h1 h2 h3 h4 h5 h7 => ih (bb + 1) (by omega) (by omega) h0 h1 h2 h3 h4 h5 h7 (z_p1 hbb (by omega)) s1 s2 fun hm1 => ?_
      rcases s3 hm1 with g | ⟨b', k1, k2, k3⟩
      · exact Or.inl g
      · exact Or.inr ⟨b', k1, by omega, k3⟩
    · obtain ⟨y, hy, y0⟩ := hWk.2 (25 * aa + bb) (by omega)
      have hye := z_ew_at hy
      have y1 := y.toInt_lt
      obtain ⟨p1, p2, -⟩ := hrow bb (by omega) hm1
      rw [hve] at p1 p2
      have p3 : ((mm - 1 : Nat) : Int) * 2147483647 = mm * 2147483647 - 2147483647 := by omega
      rw [p3] at p2
      have hsum : (y.toInt64 + v).toInt = y.toInt + v.toInt := by
        rw [z_ad64 (by rw [z_i64]; omega) (by rw [z_i64]; omega), z_i64]
      refine z_mk3b h0 h1 h2 h3 h4 h5 h7 hM fM q5 hF fF q43 hW fW q41 hd (by omega) (by omega) hi hv hx (z_ix1 hw ha hbb (by omega) (by omega)) hy fun l u hu h0 h1 h2 h3 h4 h5 h7 => ?_
      rw [hsum] at hu
      refine ih (bb + 1) (by omega) (by omega) h0 h1 h2 h3 h4 h5 h7 (z_p1 hbb (by omega)) (by omega) (by omega) fun hm1 => ?_
      by_cases hc : s.toInt ≤ y.toInt + v.toInt
      · exact Or.inr ⟨bb, hb, by omega, by rw [hve]; exact hx, by rw [hye, hve]; omega⟩
      · rcases s3 hm1 with g | ⟨b', k1, k2, k3, k4⟩
        · omega
        · exact Or.inr ⟨b', k1, by omega, k3, by rw [k4]; omega⟩
/-- the middle loop -/
theorem z_mkmid (hd : 1 ≤ d) (hM : P[aM]? = some (10, fl)) (fM : aM < z_far) (hlF : aF < P.length) (fF : aF < z_far) (hW : P[aW]? = some (103, W)) (fW : aW < z_far) (q5 : fl[5]? = some (.int n)) (q43 : fl[43]? = some (.ref aF)) (q41 : fl[41]? = some (.ref aW)) (hFM : aF ≠ aM) (hFW : aF ≠ aW) (hWk : z_wok W) (hn : n.toInt = (nn : Int)) (hnn : nn ≤ 24) (hw : w.toInt = 25) (hm : m.toInt = (mm : Int)) (hmm : mm ≤ 4)
    (kk : ∀ l L', z_mok L' → (∀ m' a', m' ≤ mm → a' ≤ nn → z_Pe nn W L' m' a') → z_get l 0 = some (.ref aM) → z_get l 1 = some (.int k) → z_get l 2 = some (.int w) → z_get l 3 = some (.int (m + Int32.ofInt 1)) → z_Rh (z_G xs) d 256 Ψ (144, l, [], P.set aF (104, L'), 0, 0)) :
    ∀ (A : Nat) {l : z_L} {L : List Value} {a : Int32}, A ≤ nn + 1 → a.toInt = (A : Int) - 1 → z_mok L → (∀ m' a', m' < mm → a' ≤ nn → z_Pe nn W L m' a') → (∀ a', A ≤ a' → a' ≤ nn → z_Pe nn W L mm a') → z_get l 0 = some (.ref aM) → z_get l 1 = some (.int k) → z_get l 2 = some (.int w) → z_get l 3 = some (.int m) → z_get l 4 = some (.int a) → z_Rh (z_G xs) d 256 Ψ (155, l, [], P.set aF (104, L), 0, 0) := by
  intro A
  induction A with
  | zero =>
    intro l L a hA ha hL hp hq h0 h1 h2 h3 h4
    refine z_mk2e h0 h1 h2 h3 h4 (by omega) fun l h0 h1 h2 h3 => kk l L hL (fun m' a' k1 k2 => ?_) h0 h1 h2 h3
    by_cases hc : m' < mm
    · exact hp m' a' hc k2
    · have : m' = mm := by omega
      subst this
      exact hq a' (Nat.zero_le _) k2
  | succ A ih =>
    intro l L a hA ha hL hp hq h0 h1 h2 h3 h4
    have ha : a.toInt = (A : Int) := by omega
    have hM' : (P.set aF (104, L))[aM]? = some (10, fl) := by rw [List.getElem?_set_ne hFM]; exact hM
    have hW' : (P.set aF (104, L))[aW]? = some (103, W) := by rw [List.getElem?_set_ne hFW]; exact hW
    have hF' : (P.set aF (104, L))[aF]? = some (104, L) := List.getElem?_set_self hlF
    have hrow : ∀ b, b ≤ nn → 1 ≤ mm → z_Pe nn W L (mm - 1) b := fun b k1 k2 => hp (mm - 1) b (by omega) k1
    have hi := z_ix1 hw hm ha (by omega) (by omega)
    have go : ∀ (l : z_L) (s : Int64), z_get l 0 = some (.ref aM) → z_get l 1 = some (.int k) → z_get l 2 = some (.int w) → z_get l 3 = some (.int m) → z_get l 4 = some (.int a) → z_get l 5 = some (.long s) → z_get l 7 = some (.int (a + Int32.ofInt 1)) → -1 ≤ s.toInt → s.toInt ≤ mm * 2147483647 → (1 ≤ mm → s.toInt = -1) → z_Rh (z_G xs) d 256 Ψ (188, l, [], P.set aF (104, L), 0, 0) := by
      intro l s h0 h1 h2 h3 h4 h5 h7 s1 s2 s3
      refine z_mkin hd hM' fM hF' fF hW' fW q5 q43 q41 hL hWk hn hnn hw hm hmm ha (by omega) hrow (fun l s h0 h1 h2 h3 h4 h5 s1 s2 s3 => ?_) (nn - A) (A + 1) (by omega) (by omega) h0 h1 h2 h3 h4 h5 h7 (z_p1 ha (by omega)) s1 s2 (fun q => Or.inl (s3 q))
      refine z_mk4 h0 h1 h2 h3 h4 h5 hM' fM hF' fF q43 hi (by rw [hL.1]; omega) fun l h0 h1 h2 h3 h4 => ?_
      rw [List.set_set]
      have hj : 25 * mm + A < 125 := by omega
      have key : ∀ m' a', m' < mm → a' ≤ nn → z_Pe nn W (L.set (25 * mm + A) (.long s)) m' a' := fun m' a' k1 k2 => z_Pe_fr (hp m' a' k1 k2) (z_eg_setn (by omega)) fun b k3 k4 => z_eg_setn (by omega)
      refine ih (by omega) ?_ (z_mok_set hL) key (fun a' k1 k2 => ?_) h0 h1 h2 h3 h4
      · rw [z_ad32 (by rw [show (Int32.ofInt (-1)).toInt = -1 from rfl]; omega) (by rw [show (Int32.ofInt (-1)).toInt = -1 from rfl]; omega), show (Int32.ofInt (-1)).toInt = -1 from rfl]
        omega
      · by_cases hc : a' = A
        · subst hc
          have e := z_eg_set (v := s) hL hj
          refine ⟨by rw [e]; exact s1, by rw [e]; exact s2, fun q => ?_⟩
          rw [e]
          rcases s3 q with g | ⟨b', k3, k4, k5, k6⟩
          · exact Or.inl g
          · have e2 : z_eg (L.set (25 * mm + a') (.long s)) (25 * (mm - 1) + b') = z_eg L (25 * (mm - 1) + b') := z_eg_setn (by omega)
            exact Or.inr ⟨b', k3, k4, by rw [e2]; exact k5, by rw [e2]; exact k6⟩
        · exact z_Pe_fr (hq a' (by omega) k2) (z_eg_setn (by omega)) fun b k3 k4 => z_eg_setn (by omega)
    have m0 : 0 ≤ (mm : Int) * 2147483647 := by omega
    by_cases he : a.toInt = n.toInt
    · by_cases hm0 : m.toInt = 0
      · exact z_mk2a h0 h1 h2 h3 h4 hM' fM q5 (by omega) he hm0 fun l h0 h1 h2 h3 h4 h5 h7 => go l _ h0 h1 h2 h3 h4 h5 h7 (by decide) (by rw [show (Int64.ofNat 0).toInt = 0 from rfl]; omega) (fun q => by omega)
      · exact z_mk2b h0 h1 h2 h3 h4 hM' fM q5 (by omega) he hm0 fun l h0 h1 h2 h3 h4 h5 h7 => go l _ h0 h1 h2 h3 h4 h5 h7 (by decide) (by rw [z_n1t]; omega) (fun q => z_n1t)
    · exact z_mk2c h0 h1 h2 h3 h4 hM' fM q5 (by omega) he fun l h0 h1 h2 h3 h4 h5 h7 => go l _ h0 h1 h2 h3 h4 h5 h7 (by decide) (by rw [z_n1t]; omega) (fun q => z_n1t)
/-- the outermost loop -/
theorem z_mkout (hd : 1 ≤ d) (hM : P[aM]? = some (10, fl)) (fM : aM < z_far) (hlF : aF < P.length) (fF : aF < z_far) (hW : P[aW]? = some (103, W)) (fW : aW < z_far) (q5 : fl[5]? = some (.int n)) (q43 : fl[43]? = some (.ref aF)) (q41 : fl[41]? = some (.ref aW)) (hFM : aF ≠ aM) (hFW : aF ≠ aW) (hWk : z_wok W) (hn : n.toInt = (nn : Int)) (hnn : nn ≤ 24) (hw : w.toInt = 25) (hk : k.toInt = (K : Int)) (hK : K ≤ 4)
    (kk : ∀ l L', z_mok L' → (∀ m' a', m' ≤ K → a' ≤ nn → z_Pe nn W L' m' a') → z_get l 0 = some (.ref aM) → z_get l 1 = some (.int k) → z_get l 2 = some (.int w) → z_Rh (z_G xs) d 256 Ψ (279, l, [], P.set aF (104, L'), 0, 0)) :
    ∀ (r mm : Nat) {l : z_L} {L : List Value} {m : Int32}, r + mm = K + 1 → m.toInt = (mm : Int) → z_mok L → (∀ m' a', m' < mm → a' ≤ nn → z_Pe nn W L m' a') → z_get l 0 = some (.ref aM) → z_get l 1 = some (.int k) → z_get l 2 = some (.int w) → z_get l 3 = some (.int m) → z_Rh (z_G xs) d 256 Ψ (144, l, [], P.set aF (104, L), 0, 0) := by
  intro r
  induction r with
  | zero =>
    intro mm l L m hr hm hL hp h0 h1 h2 h3
    exact z_mk1e h0 h1 h2 h3 (by omega) fun l h0 h1 h2 h3 => kk l L hL (fun m' a' k1 k2 => hp m' a' (by omega) k2) h0 h1 h2
  | succ r ih =>
    intro mm l L m hr hm hL hp h0 h1 h2 h3
    have hM' : (P.set aF (104, L))[aM]? = some (10, fl) := by rw [List.getElem?_set_ne hFM]; exact hM
    refine z_mk1 h0 h1 h2 h3 hM' fM q5 (by omega) fun l h0 h1 h2 h3 h4 => ?_
    exact z_mkmid hd hM fM hlF fF hW fW q5 q43 q41 hFM hFW hWk hn hnn hw hm (by omega) (fun l L' hL' hp' h0 h1 h2 h3 => ih (mm + 1) (by omega) (z_p1 hm (by omega)) hL' (fun m' a' k1 k2 => hp' m' a' (by omega) k2) h0 h1 h2 h3) (nn + 1) (Nat.le_refl _) (by omega) hL hp (fun a' k1 k2 => by omega) h0 h1 h2 h3 h4
/-- how many marks are best -/
theorem z_mkbst (hM : P[aM]? = some (10, fl)) (fM : aM < z_far) (hF : P[aF]? = some (104, L)) (fF : aF < z_far) (q43 : fl[43]? = some (.ref aF)) (hL : z_mok L) (hp : ∀ m', m' ≤ K → -1 ≤ z_eg L (25 * m')) (hw : w.toInt = 25) (hk : k.toInt = (K : Int)) (hK : K ≤ 4)
    (kk : ∀ l m (B : Nat), m.toInt = (B : Int) → B ≤ K → (B ≤ 1 ∨ z_eg L (25 * B) ≠ -1) → z_get l 0 = some (.ref aM) → z_get l 2 = some (.int w) → z_get l 3 = some (.int m) → z_Rh (z_G xs) d 256 Ψ (324, l, [], P, 0, 0)) :
    ∀ (r mm B : Nat) {l : z_L} {m a : Int32}, r + mm = K + 1 → a.toInt = (mm : Int) → m.toInt = (B : Int) → B ≤ K → (B ≤ 1 ∨ z_eg L (25 * B) ≠ -1) → (B = 0 → mm ≤ 1) → z_get l 0 = some (.ref aM) → z_get l 1 = some (.int k) → z_get l 2 = some (.int w) → z_get l 3 = some (.int m) → z_get l 4 = some (.int a) → z_Rh (z_G xs) d 256 Ψ (284, l, [], P, 0, 0) := by
  intro r
  induction r with
  | zero =>
    intro mm B l m a hr ha hm hB hb h0' h0 h1 h2 h3 h4
    exact z_mkBe h0 h1 h2 h3 h4 (by omega) fun l h0 h1 h2 h3 => kk l m B hm hB hb h0 h2 h3
  | succ r ih =>
    intro mm B l m a hr ha hm hB hb h0' h0 h1 h2 h3 h4
    by_cases hB0 : B = 0
    · exact z_mkB1 h0 h1 h2 h3 h4 (by omega) (by omega) fun l h0 h1 h2 h3 h4 => ih (mm + 1) mm (by omega) (z_p1 ha (by omega)) ha (by omega) (Or.inl (h0' hB0)) (fun q => by omega) h0 h1 h2 h3 h4
    · obtain ⟨v, hv⟩ := hL.2 (25 * mm) (by omega)
      obtain ⟨s, hs⟩ := hL.2 (25 * B) (by omega)
      have e1 := z_eg_at hv
      have e2 := z_eg_at hs
      have p := hp B hB
      by_cases hx : s.toInt < v.toInt
      · exact z_mkB2 h0 h1 h2 h3 h4 hM fM hF fF q43 (by omega) (by omega) (z_ix0 hw ha (by omega)) hv (z_ix0 hw hm (by omega)) hs hx fun l h0 h1 h2 h3 h4 => ih (mm + 1) mm (by omega) (z_p1 ha (by omega)) ha (by omega) (Or.inr (by omega)) (fun q => by omega) h0 h1 h2 h3 h4
      · exact z_mkB3 h0 h1 h2 h3 h4 hM fM hF fF q43 (by omega) (by omega) (z_ix0 hw ha (by omega)) hv (z_ix0 hw hm (by omega)) hs (by omega) fun l h0 h1 h2 h3 h4 => ih (mm + 1) B (by omega) (z_p1 ha (by omega)) hm hB hb (fun q => by omega) h0 h1 h2 h3 h4
/-- the search for one mark -/
theorem z_mkwh (hM : P[aM]? = some (10, fl)) (fM : aM < z_far) (hF : P[aF]? = some (104, L)) (fF : aF < z_far) (hW : P[aW]? = some (103, W)) (fW : aW < z_far) (q43 : fl[43]? = some (.ref aF)) (q41 : fl[41]? = some (.ref aW)) (hL : z_mok L) (hWk : z_wok W) (hnn : nn ≤ 24) (hw : w.toInt = 25) (hk : k.toInt = (mm : Int)) (hmm : mm ≤ 4) (hm1 : 1 ≤ mm) (ha : a.toInt = (aa : Int)) (haa : aa ≤ nn) (hb1 : ∀ b, b ≤ nn → z_eg L (25 * (mm - 1) + b) ≤ 4 * 2147483647) (hb0 : ∀ b, b ≤ nn → -1 ≤ z_eg L (25 * (mm - 1) + b)) {bs : Nat} (hbs : bs ≤ nn) (hc1 : z_eg L (25 * (mm - 1) + bs) ≠ -1) (hc2 : z_ew W (25 * aa + bs) + z_eg L (25 * (mm - 1) + bs) = z_eg L (25 * mm + aa))
    (kk : ∀ l b (bb : Nat), b.toInt = (bb : Int) → aa < bb → bb ≤ nn → z_eg L (25 * (mm - 1) + bb) ≠ -1 → z_get l 0 = some (.ref aM) → z_get l 2 = some (.int w) → z_get l 3 = some (.int m) → z_get l 4 = some (.int a) → z_get l 5 = some (.int k) → z_get l 6 = some (.int b) → z_Rh (z_G xs) d 256 Ψ (424, l, [], P, 0, 0)) :
    ∀ (r bb : Nat) {l : z_L} {b : Int32}, r + bb = bs → aa < bb → b.toInt = (bb : Int) → z_get l 0 = some (.ref aM) → z_get l 2 = some (.int w) → z_get l 3 = some (.int m) → z_get l 4 = some (.int a) → z_get l 5 = some (.int k) → z_get l 6 = some (.int b) → z_Rh (z_G xs) d 256 Ψ (353, l, [], P, 0, 0) := by
  have sum : ∀ {bb : Nat} {v : Int64} {y : Int32}, bb ≤ nn → L[25 * (mm - 1) + bb]? = some (.long v) → 0 ≤ y.toInt → (y.toInt64 + v).toInt = y.toInt + v.toInt := by
    intro bb v y hbb hv y0
    have p1 := hb1 bb hbb
    have p0 := hb0 bb hbb
    rw [z_eg_at hv] at p0 p1
    have y1 := y.toInt_lt
    rw [z_ad64 (by rw [z_i64]; omega) (by rw [z_i64]; omega), z_i64]
  have hi3 := z_ix1 hw hk ha (by omega) (by omega)
  obtain ⟨s, hs⟩ := hL.2 (25 * mm + aa) (by omega)
  have hse := z_eg_at hs
  intro r
  induction r with
  | zero =>
    intro bb l b hr hab hbb h0 h2 h3 h4 h5 h6
    have hr : bb = bs := by omega
    subst hr
    obtain ⟨v, hv⟩ := hL.2 (25 * (mm - 1) + bb) (by omega)
    have hve := z_eg_at hv
    obtain ⟨y, hy, y0⟩ := hWk.2 (25 * aa + bb) (by omega)
    have hye := z_ew_at hy
    have e := sum hbs hv y0
    exact z_mkW4 h0 h2 h3 h4 h5 h6 hM fM hF fF q43 hW fW q41 (z_ix2 hw hk hm1 hbb (by omega) (by omega)) hv (by omega) (z_ix1 hw ha hbb (by omega) (by omega)) hy hi3 hs (by omega) fun l h0 h2 h3 h4 h5 h6 => kk l b bb hbb hab hbs hc1 h0 h2 h3 h4 h5 h6
  | succ r ih =>
    intro bb l b hr hab hbb h0 h2 h3 h4 h5 h6
    obtain ⟨v, hv⟩ := hL.2 (25 * (mm - 1) + bb) (by omega)
    have hve := z_eg_at hv
    have hi := z_ix2 hw hk hm1 hbb (by omega) (by omega)
    by_cases hx : v.toInt = -1
    · exact z_mkW2 h0 h2 h3 h4 h5 h6 hM fM hF fF q43 hi hv hx fun l h0 h2 h3 h4 h5 h6 => ih (bb + 1) (by omega) (by omega) (z_p1 hbb (by omega)) h0 h2 h3 h4 h5 h6
    obtain ⟨y, hy, y0⟩ := hWk.2 (25 * aa + bb) (by omega)
    have hi2 := z_ix1 hw ha hbb (by omega) (by omega)
    by_cases he : (y.toInt64 + v).toInt = s.toInt
    · exact z_mkW4 h0 h2 h3 h4 h5 h6 hM fM hF fF q43 hW fW q41 hi hv hx hi2 hy hi3 hs he fun l h0 h2 h3 h4 h5 h6 => kk l b bb hbb hab (by omega) (by rw [hve]; exact hx) h0 h2 h3 h4 h5 h6
    · exact z_mkW3 h0 h2 h3 h4 h5 h6 hM fM hF fF q43 hW fW q41 hi hv hx hi2 hy hi3 hs he fun l h0 h2 h3 h4 h5 h6 => ih (bb + 1) (by omega) (by omega) (z_p1 hbb (by omega)) h0 h2 h3 h4 h5 h6
/-- the cells behind: how many are told, the row, the table of the most -/
def z_mkH (aM aF aR : Nat) (P0 P : z_H) (fl0 L : List Value) (r : Int32) : Prop := P.length = P0.length ∧ (∃ fl, P[aM]? = some (10, fl) ∧ fl.length = fl0.length ∧ fl[13]? = some (.int r) ∧ ∀ e, e ≠ 13 → fl[e]? = fl0[e]?) ∧ P[aF]? = some (104, L) ∧ (∃ R, P[aR]? = some (104, R) ∧ R.length = 12 ∧ ∀ x ∈ R, ∃ v : Int64, x = .long v) ∧ ∀ a, a ≠ aM → a ≠ aF → a ≠ aR → P[a]? = P0[a]?
theorem z_mkH_tell {P0 P : z_H} {fl0 fl L R : List Value} {r r' : Int32} {v : Int64} {j : Nat} (h : z_mkH aM aF aR P0 P fl0 L r) (hM : P[aM]? = some (10, fl)) (hR : P[aR]? = some (104, R)) (hMF : aM ≠ aF) (hMR : aM ≠ aR) (hFR : aF ≠ aR) : z_mkH aM aF aR P0 ((P.set aR (104, R.set j (.long v))).set aM (10, fl.set 13 (.int r'))) fl0 L r' := by
  obtain ⟨h1, ⟨fl', h2, h3, h4, h5⟩, h6, ⟨R', h7, h8, h9⟩, h10⟩ := h
  cases hM.symm.trans h2
  cases hR.symm.trans h7
  have hl : aM < (P.set aR (104, R.set j (.long v))).length := by rw [List.length_set]; exact (List.getElem?_eq_some_iff.mp hM).1
  refine ⟨by rw [List.length_set, List.length_set]; exact h1, ⟨fl.set 13 (.int r'), List.getElem?_set_self hl, by rw [List.length_set]; exact h3, List.getElem?_set_self (List.getElem?_eq_some_iff.mp h4).1, fun e he => by rw [List.getElem?_set_ne (fun q => he q.symm)]; exact h5 e he⟩, ?_, ⟨R.set j (.long v), ?_, by rw [List.length_set]; exact h8, fun x hx => ?_⟩, fun a a1 a2 a3 => ?_⟩
  · rw [List.getElem?_set_ne hMF, List.getElem?_set_ne (fun q => hFR q.symm)]
    exact h6
  · rw [List.getElem?_set_ne hMR, List.getElem?_set_self (List.getElem?_eq_some_iff.mp hR).1]
  · rcases List.mem_or_eq_of_mem_set hx with hx | hx
    · exact h9 x hx
    · exact ⟨v, hx⟩
  · rw [List.getElem?_set_ne (fun q => a1 q.symm), List.getElem?_set_ne (fun q => a3 q.symm)]
    exact h10 a a1 a2 a3
/-- the marks told, the end -/
theorem z_mkse (hd : 1 ≤ d) {P0 : z_H} {fl0 : List Value} (fM : aM < z_far) (fF : aF < z_far) (fW : aW < z_far) (hW0 : P0[aW]? = some (103, W)) (q43 : fl0[43]? = some (.ref aF)) (q41 : fl0[41]? = some (.ref aW)) (q12 : fl0[12]? = some (.ref aR)) (hMF : aM ≠ aF) (hMR : aM ≠ aR) (hFR : aF ≠ aR) (hWM : aW ≠ aM) (hWF : aW ≠ aF) (hWR : aW ≠ aR) (hL : z_mok L) (hWk : z_wok W) (hnn : nn ≤ 24) (hw : w.toInt = 25) (hp : ∀ m' a', m' ≤ 4 → m' ≤ K → a' ≤ nn → z_Pe nn W L m' a') {B : Nat} (hm : m.toInt = (B : Int)) (hBK : B ≤ 4)
    (kk : ∀ l v P r, z_mkH aM aF aR P0 P fl0 L r → 0 ≤ r.toInt → r.toInt ≤ 4 → z_Rh (z_G xs) d 256 Ψ (450, l, [.int v], P, 0, 0)) :
    ∀ (mm aa : Nat) {l : z_L} {P : z_H} {k a r : Int32}, k.toInt = (mm : Int) → a.toInt = (aa : Int) → aa ≤ nn → mm ≤ 4 → mm ≤ K → 1 ≤ r.toInt → r.toInt + mm ≤ 5 → (mm = 0 → r.toInt ≤ 4) → (mm ≤ 1 ∨ z_eg L (25 * mm + aa) ≠ -1) → z_mkH aM aF aR P0 P fl0 L r → z_get l 0 = some (.ref aM) → z_get l 2 = some (.int w) → z_get l 3 = some (.int m) → z_get l 4 = some (.int a) → z_get l 5 = some (.int k) → z_Rh (z_G xs) d 256 Ψ (341, l, [], P, 0, 0) := by
  intro mm
  induction mm with
  | zero =>
    intro aa l P k a r hk ha haa h4' hK r1 r2 r3 hb hH h0 h2 h3 h4 h5
    obtain ⟨g1, ⟨fl, hM, g3, g4, g5⟩, hF, ⟨R, hR, g8, g9⟩, g10⟩ := id hH
    obtain ⟨v, hv⟩ := hL.2 (25 * B) (z_nq8 hBK rfl)
    exact z_mkW0 h0 h2 h3 h4 h5 hM fM hF fF (by rw [g5 43 (by decide)]; exact q43) (z_nq0 hk) (z_ix0 hw hm (Nat.le_trans hBK (by decide))) hv fun l _ _ _ _ _ => kk l _ P r hH (z_nq7 r1) (r3 rfl)
  | succ mm ih =>
    intro aa l P k a r hk ha haa h4' hK r1 r2 r3 hb hH h0 h2 h3 h4 h5
    obtain ⟨g1, ⟨fl, hM, g3, g4, g5⟩, hF, ⟨R, hR, g8, g9⟩, g10⟩ := id hH
    have hq43 : fl[43]? = some (.ref aF) := by rw [g5 43 (by decide)]; exact q43
    have hq41 : fl[41]? = some (.ref aW) := by rw [g5 41 (by decide)]; exact q41
    have hq12 : fl[12]? = some (.ref aR) := by rw [g5 12 (by decide)]; exact q12
    by_cases h1 : mm = 0
    · obtain ⟨v, hv⟩ := hL.2 (25 * B) (z_nq8 hBK rfl)
      exact z_mkW0 h0 h2 h3 h4 h5 hM fM hF fF hq43 (z_nq2 hk h1) (z_ix0 hw hm (Nat.le_trans hBK (by decide))) hv fun l _ _ _ _ _ => kk l _ P r hH (z_nq7 r1) (z_nq5 r2)
    have hW : P[aW]? = some (103, W) := by rw [g10 aW hWM hWF hWR]; exact hW0
    rcases hb with hb | hb
    · exact absurd (Nat.le_of_succ_le_succ hb) (fun q => h1 (Nat.le_zero.mp q))
    obtain ⟨-, -, p3⟩ := hp (mm + 1) aa h4' hK haa
    rcases p3 (Nat.succ_le_succ (Nat.zero_le _)) with p3 | ⟨bs, k1, k2, k3, k4⟩
    · exact absurd p3 hb
    refine z_mkW1 h0 h2 h3 h4 h5 (z_nq1 hk h1) fun l h0 h2 h3 h4 h5 h6 => ?_
    have em : mm + 1 - 1 = mm := Nat.add_sub_cancel mm 1
    have h4'' : mm ≤ 4 := Nat.le_of_succ_le h4'
    have hK' : mm ≤ K := Nat.le_of_succ_le hK
    refine z_mkwh hM fM hF fF hW fW hq43 hq41 hL hWk hnn hw hk h4' (Nat.succ_le_succ (Nat.zero_le _)) ha haa (fun b hb => ?_) (fun b hb => ?_) k2 k3 k4 (fun l b bb hbb k5 k6 k7 h0 h2 h3 h4 h5 h6 => ?_) (bs - (aa + 1)) (aa + 1) (z_nqa k1) (Nat.lt_succ_self _) (z_p1 ha (Nat.le_trans haa (Nat.le_trans hnn (by decide)))) h0 h2 h3 h4 h5 h6
    · rw [em]
      exact z_nq9 (hp mm b h4'' hK' hb).2.1 h4''
    · rw [em]
      exact (hp mm b h4'' hK' hb).1
    · obtain ⟨j, hj, hj2⟩ := z_nq6 r1 r2 g8
      refine z_mkW5 h0 h2 h3 h4 h5 h6 hM fM hR hq12 g4 (fun q => hMR q.symm) hd hj hj2 fun l h0 h2 h3 h4 h5 => ?_
      have e1 := z_rinc r1 (z_nq5 r2)
      rw [em] at k7
      exact ih bb (z_kdec hk) hbb k6 h4'' hK' (z_nq3 e1 r1) (z_nq4 e1 r2) (fun q => absurd q h1) (Or.inr k7) (z_mkH_tell hH hM hR hMF hMR hFR) h0 h2 h3 h4 h5
end ZMK2
