/-! What class and reference hold alike: the text, SORTS, and what the row wants besides. -/
section YCRL
abbrev yc_G : Type := yb_G × yc_Y
def yc_PC (u : yc_G) (al : Nat → Option Nat) (P : z_H) : Prop := ye_PC u.1 al P ∧ yc_XC u.2 al P
def yc_PM (u : yc_G) (al : Nat → Option Nat) (P : z_H) : Prop := ye_PM u.1 al P ∧ yc_XM u.2 al P
def yc_pC (X : z_Xe) : Bool := ye_pC X && yc_xC X
def yc_pM (X : z_Xe) : Bool := ye_pM X && yc_xM X
theorem yc_pC_ok {X : z_Xe} {N : List Int} {al al' : Nat → Option Nat} {P P' : z_H} {rv : Option Value} {u : yc_G} (hp : z_post N al P X rv P' al') (h : yc_pC X = true) (hg : yc_PC u al P) : yc_PC u al' P' := by
  unfold yc_pC at h
  rw [Bool.and_eq_true] at h
  exact ⟨ye_pC_ok hp h.1 hg.1, yc_xC_ok hp h.2 hg.2⟩
theorem yc_pM_ok {X : z_Xe} {N : List Int} {al al' : Nat → Option Nat} {P P' : z_H} {rv : Option Value} {u : yc_G} (hp : z_post N al P X rv P' al') (h : yc_pM X = true) (hg : yc_PM u al P) : yc_PM u al' P' := by
  unfold yc_pM at h
  rw [Bool.and_eq_true] at h
  exact ⟨ye_pM_ok hp h.1 hg.1, yc_xM_ok hp h.2 hg.2⟩
def yc_z (u : yc_G) : yc_G := (yb_z u.1, u.2)
/-- what is told of the text alone, of the text and SORTS: the rest stays -/
def yc_upT (Sp : ye_Gs → List Int32 → Int32 → ye_Gs → Prop) (g : yc_G) (ws : List Int32) (r : Int32) (w : yc_G) : Prop := Sp g.1.1 ws r w.1.1 ∧ w.1.2 = g.1.2 ∧ w.2 = g.2
theorem yc_upT_det {Sp : ye_Gs → List Int32 → Int32 → ye_Gs → Prop} (hd : ∀ {g ws r r' w w'}, Sp g ws r w → Sp g ws r' w' → r = r' ∧ w = w') {g : yc_G} {ws : List Int32} {r r' : Int32} {w w' : yc_G} (h : yc_upT Sp g ws r w) (h' : yc_upT Sp g ws r' w') : r = r' ∧ w = w' := by
  obtain ⟨e1, e2⟩ := hd h.1 h'.1
  exact ⟨e1, Prod.ext (Prod.ext e2 (h.2.1.trans h'.2.1.symm)) (h.2.2.trans h'.2.2.symm)⟩
def yc_upB (Sp : yb_G → List Int32 → Int32 → yb_G → Prop) (g : yc_G) (ws : List Int32) (r : Int32) (w : yc_G) : Prop := Sp g.1 ws r w.1 ∧ w.2 = g.2
theorem yc_upB_det {Sp : yb_G → List Int32 → Int32 → yb_G → Prop} (hd : ∀ {g ws r r' w w'}, Sp g ws r w → Sp g ws r' w' → r = r' ∧ w = w') {g : yc_G} {ws : List Int32} {r r' : Int32} {w w' : yc_G} (h : yc_upB Sp g ws r w) (h' : yc_upB Sp g ws r' w') : r = r' ∧ w = w' := by
  obtain ⟨e1, e2⟩ := hd h.1 h'.1
  exact ⟨e1, Prod.ext e2 (h.2.trans h'.2.symm)⟩
end YCRL
