/-! What class and reference hold alike, carried along. -/
section YREL
variable {xs : List Int32}
def z_tp (c e : Nat) (al : Nat → Option Nat) (P : z_H) (v : Value) : Prop := ∃ a q, al a = some c ∧ a < z_far ∧ P[a]? = some q ∧ q.2[e]? = some v
def ye_ct (c : Nat) (al : Nat → Option Nat) (P : z_H) (Φ : List Value → Prop) : Prop := ∃ a q, al a = some c ∧ a < z_far ∧ P[a]? = some q ∧ Φ q.2
theorem z_tp_keep {W : z_Ws} {al al' : Nat → Option Nat} {P P' : z_H} {c e : Nat} {v : Value} (hw : z_win W c e = false) (hs : z_same W al P P') (hm : ∀ a c, al a = some c → al' a = some c) (h : z_tp c e al P v) : z_tp c e al' P' v := by
  obtain ⟨a, q, h1, h2, h3, h4⟩ := h
  obtain ⟨q0, q', k1, k2, k3, k4, k5⟩ := hs a c h1 h2
  cases h3.symm.trans k1
  exact ⟨a, q', hm _ _ h1, h2, k2, by rw [k5 e hw]; exact h4⟩
theorem ye_ct_keep {W : z_Ws} {al al' : Nat → Option Nat} {P P' : z_H} {c : Nat} {Φ : List Value → Prop} (hw : (z_wget W c).isNone = true) (hs : z_same W al P P') (hm : ∀ a c, al a = some c → al' a = some c) (h : ye_ct c al P Φ) : ye_ct c al' P' Φ := by
  obtain ⟨a, q, h1, h2, h3, h4⟩ := h
  obtain ⟨q0, q', k1, k2, k3, k4, k5⟩ := hs a c h1 h2
  cases h3.symm.trans k1
  have hn := Option.isNone_iff_eq_none.mp hw
  have : q'.2 = q.2 := List.ext_getElem? fun e => k5 e (by unfold z_win; rw [hn])
  exact ⟨a, q', hm _ _ h1, h2, k2, by rw [this]; exact h4⟩
theorem z_tp_set {X : z_Xe} {N : List Int} {al al' : Nat → Option Nat} {P P' : z_H} {rv : Option Value} {c e : Nat} {v : Value} {ps : List (Nat × z_av)} {tk : z_tk} (hp : z_post N al P X rv P' al') (hx : z_xget X.2.1 c = some (.inr ps)) (he : z_pget ps e = some (.inl tk)) (h : z_tp c e al P v) : ∃ w : Int32, z_tp c e al' P' (.int w) ∧ z_gi N tk w.toInt := by
  obtain ⟨a, q, h1, h2, h3, h4⟩ := h
  obtain ⟨p1, -, -, -, -, p6, -⟩ := hp
  obtain ⟨q', k1, k2⟩ := p6 c ps hx a (p1 _ _ h1)
  obtain ⟨w, k3, x, rfl, k4⟩ := k2 e _ (z_pget_mem he)
  exact ⟨x, ⟨a, q', p1 _ _ h1, h2, k1, k3⟩, k4⟩
/-- a call with the behind of it -/
theorem z_hl0_ghN {strs : z_Ss} {N : List Int} {al : Nat → Option Nat} {R : List z_ac_} {P : z_H} (h : z_hl0 R = true) (hR : z_gh strs N al R P) : z_gh strs [0] al z_H0c P := by
  unfold z_hl0 at h
  rw [Bool.and_eq_true] at h
  have hlen := Nat.eq_of_beq_eq_true h.1
  intro a c hac
  obtain ⟨q, A, e1, e2, e3, e4, e5⟩ := hR a c hac
  have hc : c < 126 := by rw [← hlen]; exact (List.getElem?_eq_some_iff.mp e2).1
  have h2 := List.all_eq_true.mp h.2 c (List.mem_range.mpr hc)
  rw [e2] at h2
  cases hB : z_H0c[c]? with
  | none => rw [hB] at h2; cases h2
  | some B =>
    rw [hB] at h2
    have h2 : z_cle [] 1 126 A B = true := h2
    obtain ⟨m1, m2, m3⟩ := z_cle_ok h2 e3
    have hb : z_bN N [] 1 = [0] := rfl
    rw [hb, z_alc_id hR hlen] at m1
    exact ⟨q, B, e1, rfl, m1, fun hs => e4 (m2 hs), fun hn => e5 (m3 hn)⟩
theorem z_usePost {K : z_Kc} {y cell : Nat} {ts : List z_av} {al : Nat → Option Nat} {P : z_H} {a : Nat} {vs : List Value} (hK : z_cn (z_G xs) 12 z_J K) (hy : K.1 = y) (hE : K.2.2.1 = ((y, 0, z_alv 0 (.inr (.inr (false, [cell])) :: ts), [], 0, 0), [], z_H0c, 1, [], 900000)) (hX : (K.2.2.2.2.1.all fun X => z_okX (z_mc (z_G []) y) X) = true) (hd : Nat.ble K.2.1 799 = true) (hI : z_In xs al P) (ha : al a = some cell) (hlen : P.length ≤ 900000) (hvs : z_all2 (z_gv [0] al) ts vs) :
    ∃ rv P' al' X, X ∈ K.2.2.2.2.1 ∧ z_Runs (z_G xs) 799 y (0, lv_args 0 (.ref a :: vs), [], P, 0, 0) rv P' ∧ z_In xs al' P' ∧ z_post [0] al P X rv P' al' ∧ P'.length ≤ P.length + z_mc (z_G []) y := by
  obtain ⟨hH, hf, hj⟩ := hI
  subst hy
  have hS : z_gs (z_strs (z_G xs)) [0] al K.2.2.1 (K.1, 0, lv_args 0 (.ref a :: vs), [], 0, 0) [] P := by
    rw [hE]
    exact ⟨⟨rfl, rfl, z_alv_ok ⟨Or.inr ⟨a, cell, rfl, ha, List.mem_singleton_self _⟩, hvs⟩, trivial, rfl, rfl⟩, trivial, hH, rfl, fun q hq => (by cases hq), hlen⟩
  obtain ⟨rv, P', al', X, hX', hr, hj', hp⟩ := hK (d := 799) (Nat.le_of_ble_eq_true hd) hS hf hj
  have hok := List.all_eq_true.mp hX X hX'
  unfold z_okX at hok
  rw [Bool.and_eq_true] at hok
  obtain ⟨hg, hok⟩ := hok
  split at hok
  rotate_left
  · cases hok
  rename_i R hR
  have hgh := z_ptc_gh (N := [0]) (m := 1) (bd := []) (iv := fun _ => none) (strs := z_strs (z_G xs)) (fun k q h => by cases h) hR hH (by rw [z_bN0]; exact hp) (fun c A' hx => z_ptc_in hR hx)
  have p1 := hp.1
  refine ⟨rv, P', al', X, hX', hr, ⟨z_hl0_gh hok hgh, fun j hj => p1 _ _ (hf j hj), hj'⟩, hp, ?_⟩
  have := Nat.le_of_ble_eq_true hg
  have := hp.2.2.2.2.2.2
  omega
/-- what is told of each side: the text, how many signs it has -/
abbrev ye_Gs : Type := (Int → Int) × Int
def ye_RC (g : ye_Gs) (al : Nat → Option Nat) (P : z_H) : Prop := (0 ≤ g.2 ∧ g.2 ≤ 80) ∧ z_tp 14 1 al P (ye_v g.2) ∧ ye_ct 15 al P (ye_tx g.1 g.2 0 255)
def ye_RM (g : ye_Gs) (al : Nat → Option Nat) (P : z_H) : Prop := (0 ≤ g.2 ∧ g.2 ≤ 80) ∧ z_tp 90 11 al P (ye_v g.2) ∧ ye_ct 97 al P (ye_tx g.1 g.2 (-128) 127)
def ye_z (g : ye_Gs) : ye_Gs := (g.1, 0)
def z_z0 (X : z_Xe) (c e : Nat) : Bool := match z_xget X.2.1 c with
  | some (.inr ps) => match z_pget ps e with
    | some (.inl t) => z_ile 0 (z_lo t) && z_ile (z_hi t) 0
    | _ => false
  | _ => false
theorem z_z0_ok {X : z_Xe} {N : List Int} {al al' : Nat → Option Nat} {P P' : z_H} {rv : Option Value} {c e : Nat} {v : Value} (hp : z_post N al P X rv P' al') (h : z_z0 X c e = true) (ht : z_tp c e al P v) : z_tp c e al' P' (ye_v 0) := by
  unfold z_z0 at h
  split at h
  rotate_left
  · cases h
  rename_i ps hx
  split at h
  rotate_left
  · cases h
  rename_i t he
  rw [Bool.and_eq_true] at h
  have h1 := z_ile_t h.1
  have h2 := z_ile_t h.2
  obtain ⟨w, k1, k2, k3, -⟩ := z_tp_set hp hx he ht
  have : w = Int32.ofInt 0 := Int32.toInt_inj.mp (by show w.toInt = 0; omega)
  rw [this] at k1
  exact k1
def z_nw (X : z_Xe) (c e : Nat) : Bool := !z_win (z_xW X.2.1) c e
theorem z_nw_ok {X : z_Xe} {N : List Int} {al al' : Nat → Option Nat} {P P' : z_H} {rv : Option Value} {c e : Nat} {v : Value} (hp : z_post N al P X rv P' al') (h : z_nw X c e = true) (ht : z_tp c e al P v) : z_tp c e al' P' v := by
  unfold z_nw at h
  have hw : z_win (z_xW X.2.1) c e = false := by
    cases hb : z_win (z_xW X.2.1) c e with
    | false => rfl
    | true => rw [hb] at h; cases h
  exact z_tp_keep hw hp.2.2.1 hp.1 ht
def ye_nw (X : z_Xe) (c : Nat) : Bool := (z_wget (z_xW X.2.1) c).isNone
theorem ye_nw_ok {X : z_Xe} {N : List Int} {al al' : Nat → Option Nat} {P P' : z_H} {rv : Option Value} {c : Nat} {Φ : List Value → Prop} (hp : z_post N al P X rv P' al') (h : ye_nw X c = true) (ht : ye_ct c al P Φ) : ye_ct c al' P' Φ := ye_ct_keep h hp.2.2.1 hp.1 ht
theorem ye_tx_0 {T : Int → Int} {n lo hi : Int} {vs : List Value} (h : ye_tx T n lo hi vs) : ye_tx T 0 lo hi vs := ⟨h.1, fun i h0 h1 => absurd h1 (by omega)⟩
theorem ye_ct_mono {c : Nat} {al : Nat → Option Nat} {P : z_H} {Φ Φ' : List Value → Prop} (h : ye_ct c al P Φ) (k : ∀ vs, Φ vs → Φ' vs) : ye_ct c al P Φ' := by
  obtain ⟨a, q, h1, h2, h3, h4⟩ := h
  exact ⟨a, q, h1, h2, h3, k _ h4⟩
/-- what isn't written -/
def ye_kC (X : z_Xe) : Bool := z_nw X 14 1 && ye_nw X 15
def ye_kM (X : z_Xe) : Bool := z_nw X 90 11 && ye_nw X 97
theorem ye_kC_ok {X : z_Xe} {N : List Int} {al al' : Nat → Option Nat} {P P' : z_H} {rv : Option Value} {g : ye_Gs} (hp : z_post N al P X rv P' al') (h : ye_kC X = true) (hg : ye_RC g al P) : ye_RC g al' P' := by
  unfold ye_kC at h
  rw [Bool.and_eq_true] at h
  exact ⟨hg.1, z_nw_ok hp h.1 hg.2.1, ye_nw_ok hp h.2 hg.2.2⟩
theorem ye_kM_ok {X : z_Xe} {N : List Int} {al al' : Nat → Option Nat} {P P' : z_H} {rv : Option Value} {g : ye_Gs} (hp : z_post N al P X rv P' al') (h : ye_kM X = true) (hg : ye_RM g al P) : ye_RM g al' P' := by
  unfold ye_kM at h
  rw [Bool.and_eq_true] at h
  exact ⟨hg.1, z_nw_ok hp h.1 hg.2.1, ye_nw_ok hp h.2 hg.2.2⟩
end YREL
