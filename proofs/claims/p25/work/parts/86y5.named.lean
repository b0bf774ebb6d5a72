/-! Calls by contracts whose start names or narrows things. -/
section YCNM
variable {xs : List Int32}
theorem z_gh_name {strs : z_Ss} {N : List Int} {al : Nat → Option Nat} {H : List z_ac_} {P : z_H} {c e : Nat} {v : Value} {A : z_ac_} {tok : z_av} (hH : z_gh strs N al H P) (h : z_tp c e al P v) (hA : H[c]? = some A) (hu : A.2.1.1 = true) (hz : A.2.2.1 = none) (hg : z_gv N al tok v) : z_gh strs N al (H.set c (A.1, A.2.1, none, A.2.2.2.set e tok)) P := by
  obtain ⟨a0, q0, h1, h2, h3, h4⟩ := h
  intro a c' hac
  obtain ⟨q, B, e1, e2, ⟨e3, e4⟩, e5, e6⟩ := hH a c' hac
  by_cases hc : c' = c
  · subst hc
    cases hA.symm.trans e2
    have := e5 hu a0 h1
    subst this
    rw [z_lkn h2 h3] at e1
    cases e1
    rw [hz] at e4
    have e4 : z_all2 (z_gv N al) A.2.2.2 q0.2 := e4
    refine ⟨q0, _, z_lkn h2 h3, List.getElem?_set_self (List.getElem?_eq_some_iff.mp hA).1, ⟨e3, ?_⟩, e5, e6⟩
    show z_all2 (z_gv N al) (A.2.2.2.set e tok) q0.2
    exact z_all2_set_l e4 fun b hb => by
      cases h4.symm.trans hb
      exact hg
  · exact ⟨q, B, e1, by rw [List.getElem?_set_ne (Ne.symm hc)]; exact e2, ⟨e3, e4⟩, e5, e6⟩
/-- what a place holds, out of the cells' kinds -/
theorem yc_tp_in {N : List Int} {strs : z_Ss} {al : Nat → Option Nat} {P : z_H} {c e : Nat} {g : Int} {tk : z_tk} (hH : z_gh strs N al z_H0c P) (h : z_tp c e al P (ye_v g)) (hz : (z_hg c).2.2.1 = none) (hA : z_H0c[c]? = some (z_hg c)) (he : (z_hg c).2.2.2[e]? = some (.inl tk)) : z_lo tk ≤ (Int32.ofInt g).toInt ∧ (Int32.ofInt g).toInt ≤ z_hi tk := by
  obtain ⟨a, q, h1, h2, h3, h4⟩ := h
  obtain ⟨q0, B, e1, e2, ⟨e3, e4⟩, e5, e6⟩ := hH a c h1
  rw [z_lkn h2 h3] at e1
  cases e1
  cases hA.symm.trans e2
  rw [hz] at e4
  have e4 : z_all2 (z_gv N al) (z_hg c).2.2.2 q.2 := e4
  obtain ⟨b, hb, hg⟩ := e4.get he
  cases h4.symm.trans hb
  obtain ⟨x, hx, g1, g2, -⟩ := hg
  have hx : Value.int (Int32.ofInt g) = Value.int x := hx
  injection hx with hx
  rw [hx]
  exact ⟨g1, g2⟩
def z_okXN (bd : z_bd) (n g : Nat) (X : z_Xe) : Bool := Nat.ble X.2.2 g && match z_ptc bd (fun _ => none) n X.2.1 z_H0c with
  | some R => z_hl0 R
  | none => false
/-- a call by a contract whose start names things -/
theorem z_usePostN {K : z_Kc} {y cell n : Nat} {F : List (Nat × Nat × Int)} {ts : List z_av} {bd : z_bd} {HE : List z_ac_} {N : List Int} {al : Nat → Option Nat} {P : z_H} {a : Nat} {vs : List Value} (hb : z_bN N bd n = N) (hK : z_cn (z_G xs) 12 z_J K) (hy : K.1 = y) (hE : K.2.2.1 = ((y, 0, z_alv 0 (.inr (.inr (false, [cell])) :: ts), [], 0, 0), [], HE, n, F, 900000)) (hX : (K.2.2.2.2.1.all fun X => z_okXN bd n (z_mc (z_G []) y) X) = true) (hd : Nat.ble K.2.1 799 = true) (hn : N.length = n) (hHN : z_gh (z_strs (z_G xs)) N al z_H0c P) (hF : z_gx N F) (hI : z_In xs al P) (hHE : z_gh (z_strs (z_G xs)) N al HE P) (ha : al a = some cell) (hlen : P.length ≤ 900000) (hvs : z_all2 (z_gv N al) ts vs) :
    ∃ rv P' al' X, X ∈ K.2.2.2.2.1 ∧ z_Runs (z_G xs) 799 y (0, lv_args 0 (.ref a :: vs), [], P, 0, 0) rv P' ∧ z_In xs al' P' ∧ z_post N al P X rv P' al' ∧ P'.length ≤ P.length + z_mc (z_G []) y := by
  obtain ⟨hH, hf, hj⟩ := hI
  subst hy
  have hS : z_gs (z_strs (z_G xs)) N al K.2.2.1 (K.1, 0, lv_args 0 (.ref a :: vs), [], 0, 0) [] P := by
    rw [hE]
    exact ⟨⟨rfl, rfl, z_alv_ok ⟨Or.inr ⟨a, cell, rfl, ha, List.mem_singleton_self _⟩, hvs⟩, trivial, rfl, rfl⟩, trivial, hHE, hn.symm, hF, hlen⟩
  obtain ⟨rv, P', al', X, hX', hr, hj', hp⟩ := hK (d := 799) (Nat.le_of_ble_eq_true hd) hS hf hj
  have hok := List.all_eq_true.mp hX X hX'
  unfold z_okXN at hok
  rw [Bool.and_eq_true] at hok
  obtain ⟨hg, hok⟩ := hok
  split at hok
  rotate_left
  · cases hok
  rename_i R hR
  have hR : z_ptc bd (fun _ => none) N.length X.2.1 z_H0c = some R := by rw [hn]; exact hR
  have hgh := z_ptc_gh (N := N) (m := N.length) (bd := bd) (iv := fun _ => none) (strs := z_strs (z_G xs)) (fun k q h => by cases h) hR hHN (by rw [hn, hb]; exact hp) (fun c A' hx => z_ptc_in hR hx)
  have p1 := hp.1
  refine ⟨rv, P', al', X, hX', hr, ⟨z_hl0_ghN hok hgh, fun j hj => p1 _ _ (hf j hj), hj'⟩, hp, ?_⟩
  have := Nat.le_of_ble_eq_true hg
  have := hp.2.2.2.2.2.2
  omega
/-- an answer told exactly: a number; a name and so much more -/
def yc_isc (v : Int) : Option z_av → Bool
  | some (.inl t) => z_ile v (z_lo t) && z_ile (z_hi t) v
  | _ => false
theorem yc_isc_ok {N : List Int} {al : Nat → Option Nat} {o : Option z_av} {rv : Option Value} {v : Int} (h : yc_isc v o = true) (k : z_go_ N al o rv) : ∃ u : Int32, rv = some (.int u) ∧ u.toInt = v := by
  unfold yc_isc at h
  split at h
  · rename_i t
    rw [Bool.and_eq_true] at h
    have h1 := z_ile_t h.1
    have h2 := z_ile_t h.2
    match rv, k with
    | some w, k =>
      obtain ⟨x, e, k1, k2, -⟩ := k
      exact ⟨x, by rw [e], by omega⟩
  · cases h
def yc_isn (k : Nat) (e : Int) (t : z_tk) : Bool := Nat.beq t.1 k && (z_ile e t.2.1 && z_ile t.2.2.1 e)
theorem yc_isn_ok {N : List Int} {k : Nat} {e v w : Int} {t : z_tk} (hk : k ≠ 0) (h : yc_isn k e t = true) (hN : N[k]? = some w) (hg : z_gi N t v) : v = w + e := by
  unfold yc_isn at h
  rw [Bool.and_eq_true, Bool.and_eq_true] at h
  have h1 := Nat.eq_of_beq_eq_true h.1
  have h2 := z_ile_t h.2.1
  have h3 := z_ile_t h.2.2
  obtain ⟨-, -, hg⟩ := hg
  rcases hg with hg | ⟨w', e1, e2, e3⟩
  · exact absurd (h1.symm.trans hg) hk
  · rw [h1, hN] at e1
    cases e1
    omega
def yc_isa (k : Nat) (e : Int) : Option z_av → Bool
  | some (.inl t) => yc_isn k e t
  | _ => false
theorem yc_isa_ok {N : List Int} {al : Nat → Option Nat} {o : Option z_av} {rv : Option Value} {k : Nat} {e w : Int} (hk : k ≠ 0) (h : yc_isa k e o = true) (hN : N[k]? = some w) (g : z_go_ N al o rv) : ∃ u : Int32, rv = some (.int u) ∧ u.toInt = w + e := by
  unfold yc_isa at h
  split at h
  · rename_i t
    match rv, g with
    | some y, g =>
      obtain ⟨x, ex, gx⟩ := g
      exact ⟨x, by rw [ex], yc_isn_ok hk h hN gx⟩
  · cases h
def yc_isp (X : z_Xe) (c e k : Nat) (d : Int) : Bool := match z_xget X.2.1 c with
  | some (.inr ps) => match z_pget ps e with
    | some (.inl t) => yc_isn k d t
    | _ => false
  | _ => false
theorem yc_isp_ok {X : z_Xe} {N : List Int} {al al' : Nat → Option Nat} {P P' : z_H} {rv : Option Value} {c e k : Nat} {d w : Int} {v : Value} (hk : k ≠ 0) (h : yc_isp X c e k d = true) (hN : N[k]? = some w) (hp : z_post N al P X rv P' al') (ht : z_tp c e al P v) : z_tp c e al' P' (ye_v (w + d)) := by
  unfold yc_isp at h
  split at h
  rotate_left
  · cases h
  rename_i ps hx
  split at h
  rotate_left
  · cases h
  rename_i t he
  obtain ⟨x, k1, k2⟩ := z_tp_set hp hx he ht
  have := yc_isn_ok hk h hN k2
  rw [← this, ← ye_of]
  exact k1
theorem yc_no {val : Int} {al al' : Nat → Option Nat} {P P' : z_H} {X : z_Xe} {Xs : List z_Xe} {N : List Int} {rv : Option Value} {u v : yc_G} {y : Nat} {l : z_L} (hm : X ∈ Xs) (hck : (Xs.all fun X => yc_isc val X.1 && (yc_pC X && yc_pM X)) = true) (hr : z_Runs (z_G xs) 799 y (0, l, [], P, 0, 0) rv P') (hI' : z_In xs al' P') (hp : z_post N al P X rv P' al') (t1 : yc_PC u al P) (t2 : yc_PM v al P) : ∃ r : Int32, r.toInt = val ∧ z_Runs (z_G xs) 799 y (0, l, [], P, 0, 0) (some (.int r)) P' ∧ z_In2 xs u v al' P' := by
  have h := List.all_eq_true.mp hck X hm
  rw [Bool.and_eq_true, Bool.and_eq_true] at h
  obtain ⟨r, e1, e2⟩ := yc_isc_ok h.1 hp.2.2.2.1
  subst e1
  exact ⟨r, e2, hr, hI', yc_pC_ok hp h.2.1 t1, yc_pM_ok hp h.2.2 t2⟩
/-- an element of a cell that an end tells whole: a name and so much more, a number -/
def yc_isq (X : z_Xe) (c e k : Nat) (d : Int) : Bool := match z_xget X.2.1 c with
  | some (.inl A) => A.2.2.1.isNone && match (A.2.2.2[e]? : Option z_av) with
    | some (.inl t) => yc_isn k d t
    | _ => false
  | _ => false
theorem yc_isq_ok {X : z_Xe} {N : List Int} {al al' : Nat → Option Nat} {P P' : z_H} {rv : Option Value} {c e k : Nat} {d w : Int} {v : Value} (hk : k ≠ 0) (h : yc_isq X c e k d = true) (hN : N[k]? = some w) (hp : z_post N al P X rv P' al') (ht : z_tp c e al P v) : z_tp c e al' P' (ye_v (w + d)) := by
  unfold yc_isq at h
  split at h
  rotate_left
  · cases h
  rename_i A hx
  rw [Bool.and_eq_true] at h
  obtain ⟨h0, h⟩ := h
  have h0 := Option.isNone_iff_eq_none.mp h0
  split at h
  rotate_left
  · cases h
  rename_i t he
  obtain ⟨a, q, h1, h2, h3, h4⟩ := ht
  obtain ⟨p1, -, -, -, p5, -⟩ := hp
  obtain ⟨k1, ⟨q', k2, k3, k4⟩, -⟩ := p5 c A hx a (p1 _ _ h1)
  rw [h0] at k4
  have k4 : z_all2 (z_gv N al') A.2.2.2 q'.2 := k4
  obtain ⟨b, hb, x, ex, gx⟩ := k4.get he
  subst ex
  have := yc_isn_ok hk h hN gx
  rw [← this, ← ye_of]
  exact ⟨a, q', p1 _ _ h1, k1, k2, hb⟩
def yc_isd (X : z_Xe) (c e : Nat) (d : Int) : Bool := match z_xget X.2.1 c with
  | some (.inl A) => A.2.2.1.isNone && match (A.2.2.2[e]? : Option z_av) with
    | some (.inl t) => z_ile d (z_lo t) && z_ile (z_hi t) d
    | _ => false
  | _ => false
theorem yc_isd_ok {X : z_Xe} {N : List Int} {al al' : Nat → Option Nat} {P P' : z_H} {rv : Option Value} {c e : Nat} {d : Int} {v : Value} (h : yc_isd X c e d = true) (hp : z_post N al P X rv P' al') (ht : z_tp c e al P v) : z_tp c e al' P' (ye_v d) := by
  unfold yc_isd at h
  split at h
  rotate_left
  · cases h
  rename_i A hx
  rw [Bool.and_eq_true] at h
  obtain ⟨h0, h⟩ := h
  have h0 := Option.isNone_iff_eq_none.mp h0
  split at h
  rotate_left
  · cases h
  rename_i t he
  rw [Bool.and_eq_true] at h
  have q1 := z_ile_t h.1
  have q2 := z_ile_t h.2
  obtain ⟨a, q, h1, h2, h3, h4⟩ := ht
  obtain ⟨p1, -, -, -, p5, -⟩ := hp
  obtain ⟨k1, ⟨q', k2, k3, k4⟩, -⟩ := p5 c A hx a (p1 _ _ h1)
  rw [h0] at k4
  have k4 : z_all2 (z_gv N al') A.2.2.2 q'.2 := k4
  obtain ⟨b, hb, x, ex, g1, g2, -⟩ := k4.get he
  subst ex
  have : x.toInt = d := by omega
  rw [← this, ← ye_of]
  exact ⟨a, q', p1 _ _ h1, k1, k2, hb⟩
theorem yc_bN3 (p q : Int) : z_bN [0, p, q] [(1, 1, 0), (2, 2, 0)] 3 = [0, p, q] := by
  show [0, p + 0, q + 0] = [0, p, q]
  rw [Int.add_zero, Int.add_zero]
theorem yc_bN2 (p : Int) : z_bN [0, p] [(1, 1, 0)] 2 = [0, p] := by
  show [0, p + 0] = [0, p]
  rw [Int.add_zero]
theorem yc_bN8 (p q r s t m k : Int) : z_bN [0, p, q, r, s, t, m, k] [(1, 1, 0), (2, 2, 0), (3, 3, 0), (4, 4, 0), (5, 5, 0), (6, 6, 0), (7, 7, 0)] 8 = [0, p, q, r, s, t, m, k] := by
  show [0, p + 0, q + 0, r + 0, s + 0, t + 0, m + 0, k + 0] = [0, p, q, r, s, t, m, k]
  simp only [Int.add_zero]
theorem yc_bN6 (p q r s t : Int) : z_bN [0, p, q, r, s, t] [(1, 1, 0), (2, 2, 0), (3, 3, 0), (4, 4, 0), (5, 5, 0)] 6 = [0, p, q, r, s, t] := by
  show [0, p + 0, q + 0, r + 0, s + 0, t + 0] = [0, p, q, r, s, t]
  simp only [Int.add_zero]
theorem yc_bN5 (p q r s : Int) : z_bN [0, p, q, r, s] [(1, 1, 0), (2, 2, 0), (3, 3, 0), (4, 4, 0)] 5 = [0, p, q, r, s] := by
  show [0, p + 0, q + 0, r + 0, s + 0] = [0, p, q, r, s]
  simp only [Int.add_zero]
theorem yc_ti {N : List Int} {al : Nat → Option Nat} {lo hi : Int} {x : Int32} (h1 : lo ≤ x.toInt) (h2 : x.toInt ≤ hi) : z_gv N al (.inl (0, 0, 0, lo, hi)) (.int x) := ⟨x, rfl, h1, h2, Or.inl rfl⟩
theorem yc_tn {N : List Int} {al : Nat → Option Nat} {k : Nat} {lo hi : Int} {x : Int32} (hk : N[k]? = some x.toInt) (h1 : lo ≤ x.toInt) (h2 : x.toInt ≤ hi) : z_gv N al (.inl (k, 0, 0, lo, hi)) (.int x) := ⟨x, rfl, h1, h2, Or.inr ⟨x.toInt, hk, by show x.toInt + 0 ≤ x.toInt; omega, by show x.toInt ≤ x.toInt + 0; omega⟩⟩
def yc_lv (g : yc_G) : Int := (Int32.ofInt g.1.2.2.1).toInt
end YCNM
