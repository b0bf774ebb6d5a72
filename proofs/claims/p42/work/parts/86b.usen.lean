/-! An operation whose arguments have names. -/
section ZUSN
variable {xs : List Int32}
theorem z_hl0_ghN {strs : z_Ss} {N : List Int} {al : Nat → Option Nat} {R : List z_ac_} {P : z_H} (h : z_hl0 R = true) (hR : z_gh strs N al R P) : z_gh strs [0] al z_H0c P := by
  unfold z_hl0 at h
  rw [Bool.and_eq_true] at h
  have hlen := Nat.eq_of_beq_eq_true h.1
  intro a c hac
  obtain ⟨q, A, e1, e2, e3, e4, e5⟩ := hR a c hac
  have hc : c < 126 := by rw [← hlen]; exact (List.getElem?_eq_some_iff.mp e2).1
  have h2 := List.all_eq_true.mp h.2 c (List.mem_range.mpr hc)
  rw [e2] at h2
  cases hB : z_H0c[c]? with
  | none => rw [hB] at h2; cases h2
  | some B =>
    rw [hB] at h2
    have h2 : z_cle [] 1 126 A B = true := h2
    obtain ⟨m1, m2, m3⟩ := z_cle_ok h2 e3
    have hb : z_bN N [] 1 = [0] := rfl
    rw [hb, z_alc_id hR hlen] at m1
    exact ⟨q, B, e1, rfl, m1, fun hs => e4 (m2 hs), fun hn => e5 (m3 hn)⟩
def z_okXN (bd : z_bd) (n g : Nat) (X : z_Xe) : Bool := Nat.ble X.2.2 g && match z_ptc bd (fun _ => none) n X.2.1 z_H0c with
  | some R => z_hl0 R
  | none => false
def z_UseN (xs : List Int32) (y cell n : Nat) (F : List (Nat × Nat × Int)) (ts : List z_av) (A : Option z_av → Bool) : Prop := ∀ {N : List Int} {al : Nat → Option Nat} {P : z_H} {a : Nat} {vs : List Value}, N.length = n → N.head? = some 0 → z_gx N F → z_In xs al P → al a = some cell → P.length ≤ 900000 → z_all2 (z_gv N al) ts vs → ∃ rv P' al' o, A o = true ∧ z_go_ N al' o rv ∧ z_Runs (z_G xs) 799 y (0, lv_args 0 (.ref a :: vs), [], P, 0, 0) rv P' ∧ z_In xs al' P' ∧ (∀ a c, al a = some c → al' a = some c) ∧ P'.length ≤ P.length + z_mc (z_G []) y
theorem z_bN1 (N : List Int) (hn : N.length = 1) (h0 : N.head? = some 0) : z_bN N [] 1 = N := by
  match N, hn, h0 with
  | [a], _, h0 =>
    cases h0
    rfl
theorem z_bN3 (N : List Int) (hn : N.length = 3) (h0 : N.head? = some 0) : z_bN N [(1, 1, 0), (2, 2, 0)] 3 = N := by
  match N, hn, h0 with
  | [a, p, q], _, h0 =>
    cases h0
    show [0, p + 0, q + 0] = [0, p, q]
    rw [Int.add_zero, Int.add_zero]
theorem z_useN_of {K : z_Kc} {y cell n : Nat} {F : List (Nat × Nat × Int)} {ts : List z_av} {A : Option z_av → Bool} {bd : z_bd} (hb : ∀ N : List Int, N.length = n → N.head? = some 0 → z_bN N bd n = N) (hK : z_cn (z_G xs) 12 z_J K) (hy : K.1 = y) (hE : K.2.2.1 = ((y, 0, z_alv 0 (.inr (.inr (false, [cell])) :: ts), [], 0, 0), [], z_H0c, n, F, 900000)) (hX : (K.2.2.2.2.1.all fun X => A X.1 && z_okXN bd n (z_mc (z_G []) y) X) = true) (hd : Nat.ble K.2.1 799 = true) : z_UseN xs y cell n F ts A := by
  intro N al P a vs hn h0 hF ⟨hH, hf, hj⟩ ha hlen hvs
  subst hy
  have hHN : z_gh (z_strs (z_G xs)) N al z_H0c P := by
    match N, h0 with
    | _ :: M, h0 =>
      cases h0
      exact hH.mono ⟨M, rfl⟩
  have hS : z_gs (z_strs (z_G xs)) N al K.2.2.1 (K.1, 0, lv_args 0 (.ref a :: vs), [], 0, 0) [] P := by
    rw [hE]
    exact ⟨⟨rfl, rfl, z_alv_ok ⟨Or.inr ⟨a, cell, rfl, ha, List.mem_singleton_self _⟩, hvs⟩, trivial, rfl, rfl⟩, trivial, hHN, hn.symm, hF, hlen⟩
  obtain ⟨rv, P', al', X, hX', hr, hj', hp⟩ := hK (d := 799) (Nat.le_of_ble_eq_true hd) hS hf hj
  have hok := List.all_eq_true.mp hX X hX'
  rw [Bool.and_eq_true] at hok
  obtain ⟨hA, hok⟩ := hok
  unfold z_okXN at hok
  rw [Bool.and_eq_true] at hok
  obtain ⟨hg, hok⟩ := hok
  split at hok
  rotate_left
  · cases hok
  rename_i R hR
  have hR : z_ptc bd (fun _ => none) N.length X.2.1 z_H0c = some R := by rw [hn]; exact hR
  have hgh := z_ptc_gh (N := N) (m := N.length) (bd := bd) (iv := fun _ => none) (strs := z_strs (z_G xs)) (fun k q h => by cases h) hR hHN (by rw [hn, hb N hn h0]; exact hp) (fun c A' hx => z_ptc_in hR hx)
  have p1 := hp.1
  refine ⟨rv, P', al', X.1, hA, hp.2.2.2.1, hr, ⟨z_hl0_ghN hok hgh, fun j hj => p1 _ _ (hf j hj), hj'⟩, p1, ?_⟩
  have := Nat.le_of_ble_eq_true hg
  have := hp.2.2.2.2.2.2
  omega
end ZUSN
