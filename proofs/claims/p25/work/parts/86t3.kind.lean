/-! What the row wants held alike besides the text and SORTS: how many LINES the WIND has. -/
section YCX
abbrev yc_Y : Type := Int
def yc_XC (g : yc_Y) (al : Nat → Option Nat) (P : z_H) : Prop := ∃ (aO aG cO : Nat), z_tp 13 5 al P (.ref aO) ∧ z_tp 13 6 al P (.ref aG) ∧ aO ≠ aG ∧ (cO = 53 ∨ cO = 57) ∧ al aO = some cO ∧ aO < z_far ∧ ∃ q, P[aO]? = some q ∧ q.2[3]? = some (ye_v g)
def yc_XM (g : yc_Y) (al : Nat → Option Nat) (P : z_H) : Prop := z_tp 90 21 al P (ye_v g)
def yc_xC (X : z_Xe) : Bool := z_nw X 13 5 && (z_nw X 13 6 && (z_nw X 53 3 && z_nw X 57 3))
def yc_xM (X : z_Xe) : Bool := z_nw X 90 21
def yc_wC (W : z_Ws) : Bool := z_win W 13 5 || (z_win W 13 6 || (z_win W 53 3 || z_win W 57 3))
def yc_wM (W : z_Ws) : Bool := z_win W 90 21
theorem yc_XC_same {W : z_Ws} {g : yc_Y} {al al' : Nat → Option Nat} {P P' : z_H} (hw : yc_wC W = false) (hs : z_same W al P P') (hm : ∀ a c, al a = some c → al' a = some c) (hg : yc_XC g al P) : yc_XC g al' P' := by
  unfold yc_wC at hw
  simp only [Bool.or_eq_false_iff] at hw
  obtain ⟨w1, w2, w3, w4⟩ := hw
  obtain ⟨aO, aG, cO, h1, h2, h3, h4, h5, h6, q, h7, h8⟩ := hg
  obtain ⟨q0, q', k1, k2, k3, k4, k5⟩ := hs aO cO h5 h6
  cases h7.symm.trans k1
  refine ⟨aO, aG, cO, z_tp_keep w1 hs hm h1, z_tp_keep w2 hs hm h2, h3, h4, hm _ _ h5, h6, q', k2, ?_⟩
  rw [k5 3 (by rcases h4 with rfl | rfl; exact w3; exact w4)]
  exact h8
theorem yc_XM_same {W : z_Ws} {g : yc_Y} {al al' : Nat → Option Nat} {P P' : z_H} (hw : yc_wM W = false) (hs : z_same W al P P') (hm : ∀ a c, al a = some c → al' a = some c) (hg : yc_XM g al P) : yc_XM g al' P' := z_tp_keep hw hs hm hg
theorem yc_nwf {X : z_Xe} {c e : Nat} (h : z_nw X c e = true) : z_win (z_xW X.2.1) c e = false := by
  unfold z_nw at h
  rw [Bool.not_eq_true'] at h
  exact h
theorem yc_xC_ok {X : z_Xe} {N : List Int} {al al' : Nat → Option Nat} {P P' : z_H} {rv : Option Value} {g : yc_Y} (hp : z_post N al P X rv P' al') (h : yc_xC X = true) (hg : yc_XC g al P) : yc_XC g al' P' := by
  unfold yc_xC at h
  simp only [Bool.and_eq_true] at h
  obtain ⟨w1, w2, w3, w4⟩ := h
  refine yc_XC_same (W := z_xW X.2.1) ?_ hp.2.2.1 hp.1 hg
  unfold yc_wC
  rw [yc_nwf w1, yc_nwf w2, yc_nwf w3, yc_nwf w4]
  rfl
theorem yc_xM_ok {X : z_Xe} {N : List Int} {al al' : Nat → Option Nat} {P P' : z_H} {rv : Option Value} {g : yc_Y} (hp : z_post N al P X rv P' al') (h : yc_xM X = true) (hg : yc_XM g al P) : yc_XM g al' P' := z_nw_ok hp h hg
end YCX
