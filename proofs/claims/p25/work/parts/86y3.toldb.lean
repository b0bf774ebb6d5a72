/-! The reference's barn, told exactly. -/
section YTLB
variable {xs : List Int32}
theorem yc_toldMb {K : z_Kc} (hK : z_cn (z_G xs) 12 z_Jg K) (hy : K.1 = 191) (hE : K.2.2.1 = ((191, 0, z_alv 0 [.inr (.inr (false, [90]))], [], 0, 0), [], z_H0c, 1, [], 900000)) (hX : (K.2.2.2.2.1.all fun X => yc_xM X && (yc_pC X && z_okX (z_mc (z_G []) 191) X)) = true) (hd : Nat.ble K.2.1 799 = true) : z_Told xs 191 90 true (yc_upB yb_SpB) 0 := by
  intro al P a u v ws ⟨hI, t1, t2⟩ ha hlen hws
  match ws, hws with
  | [], _ =>
    have hX1 : (K.2.2.2.2.1.all fun X => z_okX (z_mc (z_G []) 191) X) = true := List.all_eq_true.mpr fun X hm => by
      have h := List.all_eq_true.mp hX X hm
      rw [Bool.and_eq_true, Bool.and_eq_true] at h
      exact h.2.2
    obtain ⟨rv, P', al', X, hm, hr, ⟨hH', hf', hj'⟩, hp, hl⟩ := z_usePostJ hK hy hE hX1 hd hI.1 hI.2.1 hI.2.2.2 ha hlen (vs := []) trivial
    have h := List.all_eq_true.mp hX X hm
    rw [Bool.and_eq_true, Bool.and_eq_true] at h
    have hjw := z_jwM hI t2.1.1 ha hr hp.1 hH'
    obtain ⟨r, w, P2, s1, s2, s3⟩ := ye_barnM (ws := []) hI t2.1 ha rfl
    obtain ⟨e1, e2⟩ := z_Runs_one hr s2
    subst e1
    subst e2
    exact ⟨r, (w, v.2), P', al', ⟨s1, rfl⟩, hr, ⟨⟨hH', hf', hjw, hj'⟩, yc_pC_ok hp h.2.1 t1, ⟨s3 al' hp.1, yc_xM_ok hp h.1 t2.2⟩⟩, hp.1, hl⟩
end YTLB
