/-! What the row wants held alike besides the text and SORTS: nothing. -/
section YCX
abbrev yc_Y : Type := Unit
def yc_XC (_ : yc_Y) (_ : Nat → Option Nat) (_ : z_H) : Prop := True
def yc_XM (_ : yc_Y) (_ : Nat → Option Nat) (_ : z_H) : Prop := True
def yc_xC (_ : z_Xe) : Bool := true
def yc_xM (_ : z_Xe) : Bool := true
def yc_wC (_ : z_Ws) : Bool := false
def yc_wM (_ : z_Ws) : Bool := false
theorem yc_xC_ok {X : z_Xe} {N : List Int} {al al' : Nat → Option Nat} {P P' : z_H} {rv : Option Value} {g : yc_Y} (_ : z_post N al P X rv P' al') (_ : yc_xC X = true) (_ : yc_XC g al P) : yc_XC g al' P' := trivial
theorem yc_xM_ok {X : z_Xe} {N : List Int} {al al' : Nat → Option Nat} {P P' : z_H} {rv : Option Value} {g : yc_Y} (_ : z_post N al P X rv P' al') (_ : yc_xM X = true) (_ : yc_XM g al P) : yc_XM g al' P' := trivial
theorem yc_XC_same {W : z_Ws} {g : yc_Y} {al al' : Nat → Option Nat} {P P' : z_H} (_ : yc_wC W = false) (_ : z_same W al P P') (_ : ∀ a c, al a = some c → al' a = some c) (_ : yc_XC g al P) : yc_XC g al' P' := trivial
theorem yc_XM_same {W : z_Ws} {g : yc_Y} {al al' : Nat → Option Nat} {P P' : z_H} (_ : yc_wM W = false) (_ : z_same W al P P') (_ : ∀ a c, al a = some c → al' a = some c) (_ : yc_XM g al P) : yc_XM g al' P' := trivial
end YCX
