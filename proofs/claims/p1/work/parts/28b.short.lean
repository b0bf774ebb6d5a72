/-! Scripts of fewer than 6 ints. -/
section ZSHORT
def z_EL (n : Nat) : z_ce := (800, ((291, 0, [(0, .inr (.inr (false, [12])))], [], 0, 0), [], z_Hb.set 12 (z_sc n), n + 2, [], 0), [], [(0, 1, 0)])
theorem z_short_0 : z_cok (z_G []) z_md 13 z_Q1 (fun _ _ => false) [] [z_EL 0] 5000 (z_EL 0) = true := by decide +kernel
theorem z_short_1 : z_cok (z_G []) z_md 13 z_Q1 (fun _ _ => false) [] [z_EL 1] 5000 (z_EL 1) = true := by decide +kernel
theorem z_short_2 : z_cok (z_G []) z_md 13 z_Q1 (fun _ _ => false) [] [z_EL 2] 5000 (z_EL 2) = true := by decide +kernel
theorem z_short_3 : z_cok (z_G []) z_md 13 z_Q1 (fun _ _ => false) [] [z_EL 3] 5000 (z_EL 3) = true := by decide +kernel
theorem z_short_4 : z_cok (z_G []) z_md 13 z_Q1 (fun _ _ => false) [] [z_EL 4] 5000 (z_EL 4) = true := by decide +kernel
theorem z_short_5 : z_cok (z_G []) z_md 13 z_Q1 (fun _ _ => false) [] [z_EL 5] 5000 (z_EL 5) = true := by decide +kernel
theorem z_short : ∀ n, n < 6 → z_cok (z_G []) z_md 13 z_Q1 (fun _ _ => false) [] [z_EL n] 5000 (z_EL n) = true
  | 0, _ => z_short_0
  | 1, _ => z_short_1
  | 2, _ => z_short_2
  | 3, _ => z_short_3
  | 4, _ => z_short_4
  | 5, _ => z_short_5
  | _ + 6, h => by omega
theorem z_Hb12 : z_Hb[12]? = some (z_sc 6) := rfl
theorem z_short_gs {xl : List Int32} {n : Nat} (hn : xl.length = n) : z_gs (z_strl, xl) (z_N0 xl) z_al0 (z_EL n).2.1 (291, 0, [(0, .ref (z_far + 12))], [], 0, 0) [] [] :=
  z_gs0 hn (by rw [List.getElem?_set_self (by decide +kernel)]) (fun j hj => by rw [List.getElem?_set_ne (by omega)])
/-- a script of fewer than 6 ints: to the end, 1 -/
theorem z_short_run {xl : List Int32} (hn : xl.length < 6) : ∃ P', z_RF (z_G xl) [] (291, 0, [(0, .ref (z_far + 12))], [], 0, 0) 800 [] (some (.int 1)) P' := by
  have hall : ∀ C ∈ [z_EL xl.length], z_cok (z_G xl) z_md 13 z_Q1 (fun _ _ => false) [] [z_EL xl.length] 5000 C = true := fun C hC => by
    rw [List.mem_singleton] at hC
    subst hC
    rw [z_G_set]
    exact z_cok_setS (z_short _ hn)
  exact z_cut_one (G := z_G xl) (Es := []) z_RF_clo (fun D hD => by cases hD) hall (C := z_EL xl.length) (List.mem_singleton_self _) (z_short_gs rfl) z_fr0
/-- a script of 6 ints: to the place ahead of an operation -/
theorem z_long_run {xl : List Int32} (hn : xl.length = 6) : z_PF (z_G xl) (fun d f P => d = 800 ∧ ∃ pc ∈ z_pcs, ∃ N al, z_gs (z_strs (z_G xl)) N al (z_D pc) f [] P ∧ z_fr 13 al) [] (291, 0, [(0, .ref (z_far + 12))], [], 0, 0) 800 [] := by
  have hall : ∀ C ∈ [z_E0], z_cok (z_G xl) z_md 13 (fun _ _ => false) (fun x pc => Nat.beq x 291 && Nat.ble 252 pc) (z_pcs.map z_De) [z_E0] 5000 C = true := fun C hC => by
    rw [List.mem_singleton] at hC
    subst hC
    rw [z_G_set]
    exact z_cok_setS z_E0_ok
  refine z_cut_one (G := z_G xl) (Φ := fun d f rest P => z_PF (z_G xl) (fun d f P => d = 800 ∧ ∃ pc ∈ z_pcs, ∃ N al, z_gs (z_strs (z_G xl)) N al (z_D pc) f [] P ∧ z_fr 13 al) rest f d P) (Es := z_pcs.map z_De) z_PF_clo ?_ hall (C := z_E0) (List.mem_singleton_self _) (z_gs0 (n := 6) hn z_Hb12 fun _ _ => rfl) z_fr0
  intro D hD N al f rest P hS hf
  obtain ⟨pc, hpc, rfl⟩ := List.mem_map.mp hD
  match rest, hS.2.1, hS with
  | [], _, hS => exact ⟨z_fs f P, z_To_rf, rfl, pc, hpc, N, al, hS, hf⟩
end ZSHORT
