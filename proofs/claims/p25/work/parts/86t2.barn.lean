/-! SORTS and LONG, held alike. -/
section YRLB
variable {xs : List Int32}
/-- SORTS, LONG, KIND, WEIGHT, SIZE, DRAG -/
abbrev yb_K : Type := Int × Int × (Int → Int) × (Int → Int) × (Int → Int) × (Int → Int)
abbrev yb_G : Type := ye_Gs × yb_K
def ye_BC (k : yb_K) (al : Nat → Option Nat) (P : z_H) : Prop := (0 ≤ k.1 ∧ k.1 ≤ 10) ∧ z_tp 18 5 al P (ye_v k.1) ∧ z_tp 18 6 al P (ye_v k.2.1) ∧ ye_ct 19 al P (ye_arr k.2.2.1 k.1) ∧ ye_ct 20 al P (ye_arr k.2.2.2.1 k.1) ∧ ye_ct 21 al P (ye_arr k.2.2.2.2.1 k.1) ∧ ye_ct 22 al P (ye_arr k.2.2.2.2.2 k.1)
def ye_BM (k : yb_K) (al : Nat → Option Nat) (P : z_H) : Prop := (0 ≤ k.1 ∧ k.1 ≤ 10) ∧ z_tp 90 0 al P (ye_v k.1) ∧ z_tp 90 5 al P (ye_v k.2.1) ∧ ye_ct 91 al P (ye_arr k.2.2.1 k.1) ∧ ye_ct 92 al P (ye_arr k.2.2.2.1 k.1) ∧ ye_ct 93 al P (ye_arr k.2.2.2.2.1 k.1) ∧ ye_ct 94 al P (ye_arr k.2.2.2.2.2 k.1)
def ye_bC (X : z_Xe) : Bool := z_nw X 18 5 && (z_nw X 18 6 && (ye_nw X 19 && (ye_nw X 20 && (ye_nw X 21 && ye_nw X 22))))
def ye_bM (X : z_Xe) : Bool := z_nw X 90 0 && (z_nw X 90 5 && (ye_nw X 91 && (ye_nw X 92 && (ye_nw X 93 && ye_nw X 94))))
theorem ye_bC_ok {X : z_Xe} {N : List Int} {al al' : Nat → Option Nat} {P P' : z_H} {rv : Option Value} {k : yb_K} (hp : z_post N al P X rv P' al') (h : ye_bC X = true) (hg : ye_BC k al P) : ye_BC k al' P' := by
  unfold ye_bC at h
  simp only [Bool.and_eq_true] at h
  obtain ⟨h1, h2, h3, h4, h5, h6⟩ := h
  obtain ⟨g0, g1, g2, g3, g4, g5, g6⟩ := hg
  exact ⟨g0, z_nw_ok hp h1 g1, z_nw_ok hp h2 g2, ye_nw_ok hp h3 g3, ye_nw_ok hp h4 g4, ye_nw_ok hp h5 g5, ye_nw_ok hp h6 g6⟩
theorem ye_bM_ok {X : z_Xe} {N : List Int} {al al' : Nat → Option Nat} {P P' : z_H} {rv : Option Value} {k : yb_K} (hp : z_post N al P X rv P' al') (h : ye_bM X = true) (hg : ye_BM k al P) : ye_BM k al' P' := by
  unfold ye_bM at h
  simp only [Bool.and_eq_true] at h
  obtain ⟨h1, h2, h3, h4, h5, h6⟩ := h
  obtain ⟨g0, g1, g2, g3, g4, g5, g6⟩ := hg
  exact ⟨g0, z_nw_ok hp h1 g1, z_nw_ok hp h2 g2, ye_nw_ok hp h3 g3, ye_nw_ok hp h4 g4, ye_nw_ok hp h5 g5, ye_nw_ok hp h6 g6⟩
def ye_PC (u : yb_G) (al : Nat → Option Nat) (P : z_H) : Prop := ye_RC u.1 al P ∧ ye_BC u.2 al P
def ye_PM (u : yb_G) (al : Nat → Option Nat) (P : z_H) : Prop := ye_RM u.1 al P ∧ ye_BM u.2 al P
def ye_pC (X : z_Xe) : Bool := ye_kC X && ye_bC X
def ye_pM (X : z_Xe) : Bool := ye_kM X && ye_bM X
theorem ye_pC_ok {X : z_Xe} {N : List Int} {al al' : Nat → Option Nat} {P P' : z_H} {rv : Option Value} {u : yb_G} (hp : z_post N al P X rv P' al') (h : ye_pC X = true) (hg : ye_PC u al P) : ye_PC u al' P' := by
  unfold ye_pC at h
  rw [Bool.and_eq_true] at h
  exact ⟨ye_kC_ok hp h.1 hg.1, ye_bC_ok hp h.2 hg.2⟩
theorem ye_pM_ok {X : z_Xe} {N : List Int} {al al' : Nat → Option Nat} {P P' : z_H} {rv : Option Value} {u : yb_G} (hp : z_post N al P X rv P' al') (h : ye_pM X = true) (hg : ye_PM u al P) : ye_PM u al' P' := by
  unfold ye_pM at h
  rw [Bool.and_eq_true] at h
  exact ⟨ye_kM_ok hp h.1 hg.1, ye_bM_ok hp h.2 hg.2⟩
def yb_z (u : yb_G) : yb_G := (ye_z u.1, u.2)
end YRLB
