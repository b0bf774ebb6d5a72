/-! What the row wants held alike besides the text and SORTS: how many PASSES. -/
section YCX
abbrev yc_Y : Type := Int
def yc_XC (g : yc_Y) (al : Nat → Option Nat) (P : z_H) : Prop := z_tp 13 9 al P (ye_v g)
def yc_XM (g : yc_Y) (al : Nat → Option Nat) (P : z_H) : Prop := z_tp 90 44 al P (ye_v g)
def yc_xC (X : z_Xe) : Bool := z_nw X 13 9
def yc_xM (X : z_Xe) : Bool := z_nw X 90 44
def yc_wC (W : z_Ws) : Bool := z_win W 13 9
def yc_wM (W : z_Ws) : Bool := z_win W 90 44
theorem yc_xC_ok {X : z_Xe} {N : List Int} {al al' : Nat → Option Nat} {P P' : z_H} {rv : Option Value} {g : yc_Y} (hp : z_post N al P X rv P' al') (h : yc_xC X = true) (hg : yc_XC g al P) : yc_XC g al' P' := z_nw_ok hp h hg
theorem yc_xM_ok {X : z_Xe} {N : List Int} {al al' : Nat → Option Nat} {P P' : z_H} {rv : Option Value} {g : yc_Y} (hp : z_post N al P X rv P' al') (h : yc_xM X = true) (hg : yc_XM g al P) : yc_XM g al' P' := z_nw_ok hp h hg
theorem yc_XC_same {W : z_Ws} {g : yc_Y} {al al' : Nat → Option Nat} {P P' : z_H} (hw : yc_wC W = false) (hs : z_same W al P P') (hm : ∀ a c, al a = some c → al' a = some c) (hg : yc_XC g al P) : yc_XC g al' P' := z_tp_keep hw hs hm hg
theorem yc_XM_same {W : z_Ws} {g : yc_Y} {al al' : Nat → Option Nat} {P P' : z_H} (hw : yc_wM W = false) (hs : z_same W al P P') (hm : ∀ a c, al a = some c → al' a = some c) (hg : yc_XM g al P) : yc_XM g al' P' := z_tp_keep hw hs hm hg
end YCX
