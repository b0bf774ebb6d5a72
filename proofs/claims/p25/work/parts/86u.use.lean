/-! What class and reference hold alike, carried along: uses and what is told. -/
section YREL2
variable {xs : List Int32}
def z_In2 (xs : List Int32) (u v : yc_G) (al : Nat → Option Nat) (P : z_H) : Prop := z_In xs al P ∧ yc_PC u al P ∧ yc_PM v al P
def z_kd : Nat → yc_G → yc_G → yc_G × yc_G
  | 0, u, v => (u, v)
  | 1, u, v => (yc_z u, v)
  | _, u, v => (u, yc_z v)
def z_okT : Nat → z_Xe → Bool
  | 0, X => yc_pC X && yc_pM X
  | 1, X => (((z_z0 X 14 1 && ye_nw X 15) && ye_bC X) && yc_xC X) && yc_pM X
  | _, X => yc_pC X && (((z_z0 X 90 11 && ye_nw X 97) && ye_bM X) && yc_xM X)
theorem z_okT_ok {k : Nat} {X : z_Xe} {N : List Int} {al al' : Nat → Option Nat} {P P' : z_H} {rv : Option Value} {u v : yc_G} (hp : z_post N al P X rv P' al') (h : z_okT k X = true) (h1 : yc_PC u al P) (h2 : yc_PM v al P) : yc_PC (z_kd k u v).1 al' P' ∧ yc_PM (z_kd k u v).2 al' P' := by
  match k, h with
  | 0, h =>
    have h : (yc_pC X && yc_pM X) = true := h
    rw [Bool.and_eq_true] at h
    exact ⟨yc_pC_ok hp h.1 h1, yc_pM_ok hp h.2 h2⟩
  | 1, h =>
    have h : ((((z_z0 X 14 1 && ye_nw X 15) && ye_bC X) && yc_xC X) && yc_pM X) = true := h
    simp only [Bool.and_eq_true] at h
    obtain ⟨⟨⟨⟨h3, h4⟩, h5⟩, h6⟩, h7⟩ := h
    exact ⟨⟨⟨⟨⟨Int.le_refl _, by show (0 : Int) ≤ 80; decide⟩, z_z0_ok hp h3 h1.1.1.2.1, ye_ct_mono (ye_nw_ok hp h4 h1.1.1.2.2) fun _ => ye_tx_0⟩, ye_bC_ok hp h5 h1.1.2⟩, yc_xC_ok hp h6 h1.2⟩, yc_pM_ok hp h7 h2⟩
  | k + 2, h =>
    have h : (yc_pC X && (((z_z0 X 90 11 && ye_nw X 97) && ye_bM X) && yc_xM X)) = true := h
    simp only [Bool.and_eq_true] at h
    obtain ⟨h7, ⟨⟨h3, h4⟩, h5⟩, h6⟩ := h
    exact ⟨yc_pC_ok hp h7 h1, ⟨⟨⟨⟨Int.le_refl _, by show (0 : Int) ≤ 80; decide⟩, z_z0_ok hp h3 h2.1.1.2.1, ye_ct_mono (ye_nw_ok hp h4 h2.1.1.2.2) fun _ => ye_tx_0⟩, ye_bM_ok hp h5 h2.1.2⟩, yc_xM_ok hp h6 h2.2⟩⟩
/-- a call that leaves what is told, or empties one text -/
def z_UseT (xs : List Int32) (k y cell : Nat) (ts : List z_av) (A : Option z_av → Bool) : Prop := ∀ {al : Nat → Option Nat} {P : z_H} {a : Nat} {vs : List Value} {u v : yc_G}, z_In2 xs u v al P → al a = some cell → P.length ≤ 900000 → z_all2 (z_gv [0] al) ts vs → ∃ rv P' al' o, A o = true ∧ z_go_ [0] al' o rv ∧ z_Runs (z_G xs) 799 y (0, lv_args 0 (.ref a :: vs), [], P, 0, 0) rv P' ∧ z_In2 xs (z_kd k u v).1 (z_kd k u v).2 al' P' ∧ (∀ a c, al a = some c → al' a = some c) ∧ P'.length ≤ P.length + z_mc (z_G []) y
theorem z_useT_of {K : z_Kc} {k y cell : Nat} {ts : List z_av} {A : Option z_av → Bool} (hK : z_cn (z_G xs) 12 z_J K) (hy : K.1 = y) (hE : K.2.2.1 = ((y, 0, z_alv 0 (.inr (.inr (false, [cell])) :: ts), [], 0, 0), [], z_H0c, 1, [], 900000)) (hX : (K.2.2.2.2.1.all fun X => A X.1 && (z_okT k X && z_okX (z_mc (z_G []) y) X)) = true) (hd : Nat.ble K.2.1 799 = true) : z_UseT xs k y cell ts A := by
  intro al P a vs u v ⟨hI, t1, t2⟩ ha hlen hvs
  have hX1 : (K.2.2.2.2.1.all fun X => z_okX (z_mc (z_G []) y) X) = true := List.all_eq_true.mpr fun X hm => by
    have h := List.all_eq_true.mp hX X hm
    rw [Bool.and_eq_true, Bool.and_eq_true] at h
    exact h.2.2
  obtain ⟨rv, P', al', X, hm, hr, hI', hp, hl⟩ := z_usePost hK hy hE hX1 hd hI ha hlen hvs
  have h := List.all_eq_true.mp hX X hm
  rw [Bool.and_eq_true, Bool.and_eq_true] at h
  exact ⟨rv, P', al', X.1, h.1, hp.2.2.2.1, hr, ⟨hI', z_okT_ok hp h.2.1 t1 t2⟩, hp.1, hl⟩
/-- an operation that is told exactly, on one side -/
def z_Told (xs : List Int32) (y cell : Nat) (M : Bool) (Sp : yc_G → List Int32 → Int32 → yc_G → Prop) (m : Nat) : Prop := ∀ {al : Nat → Option Nat} {P : z_H} {a : Nat} {u v : yc_G} {ws : List Int32}, z_In2 xs u v al P → al a = some cell → P.length ≤ 900000 → ws.length = m → ∃ (r : Int32) (w : yc_G) (P' : z_H) (al' : Nat → Option Nat), Sp (if M then v else u) ws r w ∧ z_Runs (z_G xs) 799 y (0, lv_args 0 (.ref a :: ws.map Value.int), [], P, 0, 0) (some (.int r)) P' ∧ z_In2 xs (if M then u else w) (if M then w else v) al' P' ∧ (∀ a c, al a = some c → al' a = some c) ∧ P'.length ≤ P.length + z_mc (z_G []) y
theorem z_tIs {al : Nat → Option Nat} : ∀ {ws : List Int32}, z_all2 (z_gv [0] al) (List.replicate ws.length z_tI) (ws.map Value.int)
  | [] => trivial
  | w :: ws => ⟨z_tI_ok _, z_tIs (ws := ws)⟩
/-- the class's side, out of an exact run; kp: what is kept by the contract -/
theorem yc_toldC {K : z_Kc} {y m : Nat} {Sp : yc_G → List Int32 → Int32 → yc_G → Prop} {kp : z_Xe → Bool} (hK : z_cn (z_G xs) 12 z_J K) (hy : K.1 = y) (hE : K.2.2.1 = ((y, 0, z_alv 0 (.inr (.inr (false, [13])) :: List.replicate m z_tI), [], 0, 0), [], z_H0c, 1, [], 900000)) (hX : (K.2.2.2.2.1.all fun X => kp X && (yc_pM X && z_okX (z_mc (z_G []) y) X)) = true) (hd : Nat.ble K.2.1 799 = true)
    (hex : ∀ {al : Nat → Option Nat} {P : z_H} {a : Nat} {u : yc_G} {ws : List Int32}, z_In xs al P → yc_PC u al P → al a = some 13 → ws.length = m → ∃ (r : Int32) (w : yc_G) (P' : z_H), Sp u ws r w ∧ z_Runs (z_G xs) 799 y (0, lv_args 0 (.ref a :: ws.map Value.int), [], P, 0, 0) (some (.int r)) P' ∧ ∀ {al' : Nat → Option Nat} {X : z_Xe} {rv : Option Value}, kp X = true → z_post [0] al P X rv P' al' → yc_PC w al' P') : z_Told xs y 13 false Sp m := by
  intro al P a u v ws ⟨hI, t1, t2⟩ ha hlen hws
  have hX1 : (K.2.2.2.2.1.all fun X => z_okX (z_mc (z_G []) y) X) = true := List.all_eq_true.mpr fun X hm => by
    have h := List.all_eq_true.mp hX X hm
    rw [Bool.and_eq_true, Bool.and_eq_true] at h
    exact h.2.2
  obtain ⟨rv, P', al', X, hm, hr, hI', hp, hl⟩ := z_usePost hK hy hE hX1 hd hI ha hlen (by rw [← hws]; exact z_tIs)
  have h := List.all_eq_true.mp hX X hm
  rw [Bool.and_eq_true, Bool.and_eq_true] at h
  obtain ⟨r, w, P2, s1, s2, s3⟩ := hex hI t1 ha hws
  obtain ⟨e1, e2⟩ := z_Runs_one hr s2
  subst e1
  subst e2
  exact ⟨r, w, P', al', s1, hr, ⟨hI', s3 h.1 hp, yc_pM_ok hp h.2.1 t2⟩, hp.1, hl⟩
/-- the reference's side, out of an exact run; kp: what is kept by the contract -/
theorem yc_toldM {K : z_Kc} {y m : Nat} {Sp : yc_G → List Int32 → Int32 → yc_G → Prop} {kp : z_Xe → Bool} (hK : z_cn (z_G xs) 12 z_J K) (hy : K.1 = y) (hE : K.2.2.1 = ((y, 0, z_alv 0 (.inr (.inr (false, [90])) :: List.replicate m z_tI), [], 0, 0), [], z_H0c, 1, [], 900000)) (hX : (K.2.2.2.2.1.all fun X => kp X && (yc_pC X && z_okX (z_mc (z_G []) y) X)) = true) (hd : Nat.ble K.2.1 799 = true)
    (hex : ∀ {al : Nat → Option Nat} {P : z_H} {a : Nat} {u : yc_G} {ws : List Int32}, z_In xs al P → yc_PM u al P → al a = some 90 → ws.length = m → ∃ (r : Int32) (w : yc_G) (P' : z_H), Sp u ws r w ∧ z_Runs (z_G xs) 799 y (0, lv_args 0 (.ref a :: ws.map Value.int), [], P, 0, 0) (some (.int r)) P' ∧ ∀ {al' : Nat → Option Nat} {X : z_Xe} {rv : Option Value}, kp X = true → z_post [0] al P X rv P' al' → yc_PM w al' P') : z_Told xs y 90 true Sp m := by
  intro al P a u v ws ⟨hI, t1, t2⟩ ha hlen hws
  have hX1 : (K.2.2.2.2.1.all fun X => z_okX (z_mc (z_G []) y) X) = true := List.all_eq_true.mpr fun X hm => by
    have h := List.all_eq_true.mp hX X hm
    rw [Bool.and_eq_true, Bool.and_eq_true] at h
    exact h.2.2
  obtain ⟨rv, P', al', X, hm, hr, hI', hp, hl⟩ := z_usePost hK hy hE hX1 hd hI ha hlen (by rw [← hws]; exact z_tIs)
  have h := List.all_eq_true.mp hX X hm
  rw [Bool.and_eq_true, Bool.and_eq_true] at h
  obtain ⟨r, w, P2, s1, s2, s3⟩ := hex hI t2 ha hws
  obtain ⟨e1, e2⟩ := z_Runs_one hr s2
  subst e1
  subst e2
  exact ⟨r, w, P', al', s1, hr, ⟨hI', yc_pC_ok hp h.2.1 t1, s3 h.1 hp⟩, hp.1, hl⟩
/-- what is told exactly of the text, of the text and SORTS -/
theorem yc_exTC {y m : Nat} {Sp : ye_Gs → List Int32 → Int32 → ye_Gs → Prop} (hex : ∀ {al : Nat → Option Nat} {P : z_H} {a : Nat} {u : ye_Gs} {ws : List Int32}, z_In xs al P → ye_RC u al P → al a = some 13 → ws.length = m → ∃ (r : Int32) (w : ye_Gs) (P' : z_H), Sp u ws r w ∧ z_Runs (z_G xs) 799 y (0, lv_args 0 (.ref a :: ws.map Value.int), [], P, 0, 0) (some (.int r)) P' ∧ ∀ al' : Nat → Option Nat, (∀ a c, al a = some c → al' a = some c) → ye_RC w al' P')
    {al : Nat → Option Nat} {P : z_H} {a : Nat} {u : yc_G} {ws : List Int32} (hI : z_In xs al P) (hg : yc_PC u al P) (ha : al a = some 13) (hw : ws.length = m) : ∃ (r : Int32) (w : yc_G) (P' : z_H), yc_upT Sp u ws r w ∧ z_Runs (z_G xs) 799 y (0, lv_args 0 (.ref a :: ws.map Value.int), [], P, 0, 0) (some (.int r)) P' ∧ ∀ {al' : Nat → Option Nat} {X : z_Xe} {rv : Option Value}, (ye_bC X && yc_xC X) = true → z_post [0] al P X rv P' al' → yc_PC w al' P' := by
  obtain ⟨r, w, P', s1, s2, s3⟩ := hex hI hg.1.1 ha hw
  refine ⟨r, ((w, u.1.2), u.2), P', ⟨s1, rfl, rfl⟩, s2, fun hk hp => ?_⟩
  rw [Bool.and_eq_true] at hk
  exact ⟨⟨s3 _ hp.1, ye_bC_ok hp hk.1 hg.1.2⟩, yc_xC_ok hp hk.2 hg.2⟩
theorem yc_exBC {y m : Nat} {Sp : yb_G → List Int32 → Int32 → yb_G → Prop} (hex : ∀ {al : Nat → Option Nat} {P : z_H} {a : Nat} {u : yb_G} {ws : List Int32}, z_In xs al P → ye_PC u al P → al a = some 13 → ws.length = m → ∃ (r : Int32) (w : yb_G) (P' : z_H), Sp u ws r w ∧ z_Runs (z_G xs) 799 y (0, lv_args 0 (.ref a :: ws.map Value.int), [], P, 0, 0) (some (.int r)) P' ∧ ∀ al' : Nat → Option Nat, (∀ a c, al a = some c → al' a = some c) → ye_PC w al' P')
    {al : Nat → Option Nat} {P : z_H} {a : Nat} {u : yc_G} {ws : List Int32} (hI : z_In xs al P) (hg : yc_PC u al P) (ha : al a = some 13) (hw : ws.length = m) : ∃ (r : Int32) (w : yc_G) (P' : z_H), yc_upB Sp u ws r w ∧ z_Runs (z_G xs) 799 y (0, lv_args 0 (.ref a :: ws.map Value.int), [], P, 0, 0) (some (.int r)) P' ∧ ∀ {al' : Nat → Option Nat} {X : z_Xe} {rv : Option Value}, yc_xC X = true → z_post [0] al P X rv P' al' → yc_PC w al' P' := by
  obtain ⟨r, w, P', s1, s2, s3⟩ := hex hI hg.1 ha hw
  exact ⟨r, (w, u.2), P', ⟨s1, rfl⟩, s2, fun hk hp => ⟨s3 _ hp.1, yc_xC_ok hp hk hg.2⟩⟩
/-- what is told exactly of the text, of the text and SORTS -/
theorem yc_exTM {y m : Nat} {Sp : ye_Gs → List Int32 → Int32 → ye_Gs → Prop} (hex : ∀ {al : Nat → Option Nat} {P : z_H} {a : Nat} {u : ye_Gs} {ws : List Int32}, z_In xs al P → ye_RM u al P → al a = some 90 → ws.length = m → ∃ (r : Int32) (w : ye_Gs) (P' : z_H), Sp u ws r w ∧ z_Runs (z_G xs) 799 y (0, lv_args 0 (.ref a :: ws.map Value.int), [], P, 0, 0) (some (.int r)) P' ∧ ∀ al' : Nat → Option Nat, (∀ a c, al a = some c → al' a = some c) → ye_RM w al' P')
    {al : Nat → Option Nat} {P : z_H} {a : Nat} {u : yc_G} {ws : List Int32} (hI : z_In xs al P) (hg : yc_PM u al P) (ha : al a = some 90) (hw : ws.length = m) : ∃ (r : Int32) (w : yc_G) (P' : z_H), yc_upT Sp u ws r w ∧ z_Runs (z_G xs) 799 y (0, lv_args 0 (.ref a :: ws.map Value.int), [], P, 0, 0) (some (.int r)) P' ∧ ∀ {al' : Nat → Option Nat} {X : z_Xe} {rv : Option Value}, (ye_bM X && yc_xM X) = true → z_post [0] al P X rv P' al' → yc_PM w al' P' := by
  obtain ⟨r, w, P', s1, s2, s3⟩ := hex hI hg.1.1 ha hw
  refine ⟨r, ((w, u.1.2), u.2), P', ⟨s1, rfl, rfl⟩, s2, fun hk hp => ?_⟩
  rw [Bool.and_eq_true] at hk
  exact ⟨⟨s3 _ hp.1, ye_bM_ok hp hk.1 hg.1.2⟩, yc_xM_ok hp hk.2 hg.2⟩
theorem yc_exBM {y m : Nat} {Sp : yb_G → List Int32 → Int32 → yb_G → Prop} (hex : ∀ {al : Nat → Option Nat} {P : z_H} {a : Nat} {u : yb_G} {ws : List Int32}, z_In xs al P → ye_PM u al P → al a = some 90 → ws.length = m → ∃ (r : Int32) (w : yb_G) (P' : z_H), Sp u ws r w ∧ z_Runs (z_G xs) 799 y (0, lv_args 0 (.ref a :: ws.map Value.int), [], P, 0, 0) (some (.int r)) P' ∧ ∀ al' : Nat → Option Nat, (∀ a c, al a = some c → al' a = some c) → ye_PM w al' P')
    {al : Nat → Option Nat} {P : z_H} {a : Nat} {u : yc_G} {ws : List Int32} (hI : z_In xs al P) (hg : yc_PM u al P) (ha : al a = some 90) (hw : ws.length = m) : ∃ (r : Int32) (w : yc_G) (P' : z_H), yc_upB Sp u ws r w ∧ z_Runs (z_G xs) 799 y (0, lv_args 0 (.ref a :: ws.map Value.int), [], P, 0, 0) (some (.int r)) P' ∧ ∀ {al' : Nat → Option Nat} {X : z_Xe} {rv : Option Value}, yc_xM X = true → z_post [0] al P X rv P' al' → yc_PM w al' P' := by
  obtain ⟨r, w, P', s1, s2, s3⟩ := hex hI hg.1 ha hw
  exact ⟨r, (w, u.2), P', ⟨s1, rfl⟩, s2, fun hk hp => ⟨s3 _ hp.1, yc_xM_ok hp hk hg.2⟩⟩
end YREL2
