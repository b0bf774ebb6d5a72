/-! What the row wants held alike besides the text and SORTS: what is kept, and the LONG it was kept at. -/
section YCX
abbrev yc_Y : Type := (Nat → Int) × (Nat → Int)
def yc_kb (g : yc_Y) : Prop := ∀ i, i < 3 → (g.1 i = 0 ∨ g.1 i = 1) ∧ 0 ≤ g.2 i ∧ g.2 i ≤ 24
def yc_kv (g : yc_Y) (i : Nat) : Int := if g.1 i = 0 then 0 else g.2 i
def yc_XC (g : yc_Y) (al : Nat → Option Nat) (P : z_H) : Prop := yc_kb g ∧ ∀ i, i < 3 → z_tp (35 + 6 * i) 5 al P (ye_v (yc_kv g i))
def yc_XM (g : yc_Y) (al : Nat → Option Nat) (P : z_H) : Prop := yc_kb g ∧ ∀ i, i < 3 → z_tp 119 i al P (ye_v (g.1 i)) ∧ z_tp 121 i al P (ye_v (g.2 i))
def yc_xC (X : z_Xe) : Bool := (List.range 3).all fun i => z_nw X (35 + 6 * i) 5
def yc_xM (X : z_Xe) : Bool := (List.range 3).all fun i => z_nw X 119 i && z_nw X 121 i
def yc_wC (W : z_Ws) : Bool := !((List.range 3).all fun i => !z_win W (35 + 6 * i) 5)
def yc_wM (W : z_Ws) : Bool := !((List.range 3).all fun i => !z_win W 119 i && !z_win W 121 i)
theorem yc_xC_ok {X : z_Xe} {N : List Int} {al al' : Nat → Option Nat} {P P' : z_H} {rv : Option Value} {g : yc_Y} (hp : z_post N al P X rv P' al') (h : yc_xC X = true) (hg : yc_XC g al P) : yc_XC g al' P' := ⟨hg.1, fun i hi => z_nw_ok hp (List.all_eq_true.mp h i (List.mem_range.mpr hi)) (hg.2 i hi)⟩
theorem yc_xM_ok {X : z_Xe} {N : List Int} {al al' : Nat → Option Nat} {P P' : z_H} {rv : Option Value} {g : yc_Y} (hp : z_post N al P X rv P' al') (h : yc_xM X = true) (hg : yc_XM g al P) : yc_XM g al' P' := ⟨hg.1, fun i hi => by
  have k := List.all_eq_true.mp h i (List.mem_range.mpr hi)
  rw [Bool.and_eq_true] at k
  exact ⟨z_nw_ok hp k.1 (hg.2 i hi).1, z_nw_ok hp k.2 (hg.2 i hi).2⟩⟩
theorem yc_XC_same {W : z_Ws} {g : yc_Y} {al al' : Nat → Option Nat} {P P' : z_H} (hw : yc_wC W = false) (hs : z_same W al P P') (hm : ∀ a c, al a = some c → al' a = some c) (hg : yc_XC g al P) : yc_XC g al' P' := ⟨hg.1, fun i hi => by
  unfold yc_wC at hw
  rw [Bool.not_eq_false'] at hw
  have k := List.all_eq_true.mp hw i (List.mem_range.mpr hi)
  rw [Bool.not_eq_true'] at k
  exact z_tp_keep k hs hm (hg.2 i hi)⟩
theorem yc_XM_same {W : z_Ws} {g : yc_Y} {al al' : Nat → Option Nat} {P P' : z_H} (hw : yc_wM W = false) (hs : z_same W al P P') (hm : ∀ a c, al a = some c → al' a = some c) (hg : yc_XM g al P) : yc_XM g al' P' := ⟨hg.1, fun i hi => by
  unfold yc_wM at hw
  rw [Bool.not_eq_false'] at hw
  have k := List.all_eq_true.mp hw i (List.mem_range.mpr hi)
  rw [Bool.and_eq_true, Bool.not_eq_true', Bool.not_eq_true'] at k
  exact ⟨z_tp_keep k.1 hs hm (hg.2 i hi).1, z_tp_keep k.2 hs hm (hg.2 i hi).2⟩⟩
end YCX
