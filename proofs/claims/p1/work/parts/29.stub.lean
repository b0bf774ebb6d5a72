section
def z_idb : z_bd := [(1, 1, 0), (2, 2, 0), (3, 3, 0), (4, 4, 0), (5, 5, 0), (6, 6, 0)]
/-- an argument's number, ahead of an operation -/
theorem z_argv {xs : List Int32} {pc : Nat} {N : List Int} {al : Nat → Option Nat} {f : z_Fr} {P : z_H} (hS : z_gs (z_strs (z_G xs)) N al (z_D pc) f [] P) (hf : z_fr 13 al) (e : Nat) (he : e < 6) : ∃ w, N[e + 1]? = some w ∧ -2147483648 ≤ w ∧ w ≤ 2147483647 := by
  have h12 : z_H0[12]? = some (z_sc 6) := rfl
  refine z_idv (A := z_sc 6) (e := e) hS.2.2.1 (hf 12 (by decide)) h12 rfl ?_
  show ((List.range 6).map fun k => (Sum.inl (k + 1, 0, 0, -2147483648, 2147483647) : z_av))[e]? = _
  rw [List.getElem?_map, List.getElem?_range he]
  rfl
theorem z_use {xs : List Int32} {at_ : Nat → Nat → Bool} {Ds : List z_ce} {C : z_ce} {N : List Int} {al : Nat → Option Nat} {f : z_Fr} {P : z_H} (hall : ∀ C ∈ Ds, z_cok (z_G []) z_md 13 z_Q1 at_ [] Ds 50000 C = true) (hC : C ∈ Ds) (hd : C.1 = 800) (hS : z_gs (z_strs (z_G xs)) N al C.2.1 f [] P) (hf : z_fr 13 al) : ∃ P', z_RF (z_G xs) [] f 800 P (some (.int 1)) P' := by
  have h := z_cut_one (G := z_G xs) (Es := []) z_RF_clo (fun D hD => by cases hD) (fun C hC => by rw [z_G_set]; exact z_cok_setS (hall C hC)) hC hS hf
  rw [hd] at h
  exact h
end
theorem z_op_252 {xs : List Int32} {N : List Int} {al : Nat → Option Nat} {f : z_Fr} {P : z_H} (hS : z_gs (z_strs (z_G xs)) N al (z_D 252) f [] P) (hf : z_fr 13 al) : ∃ P', z_RF (z_G xs) [] f 800 P (some (.int 1)) P' := sorry
theorem z_op_277 {xs : List Int32} {N : List Int} {al : Nat → Option Nat} {f : z_Fr} {P : z_H} (hS : z_gs (z_strs (z_G xs)) N al (z_D 277) f [] P) (hf : z_fr 13 al) : ∃ P', z_RF (z_G xs) [] f 800 P (some (.int 1)) P' := sorry
theorem z_op_302 {xs : List Int32} {N : List Int} {al : Nat → Option Nat} {f : z_Fr} {P : z_H} (hS : z_gs (z_strs (z_G xs)) N al (z_D 302) f [] P) (hf : z_fr 13 al) : ∃ P', z_RF (z_G xs) [] f 800 P (some (.int 1)) P' := sorry
theorem z_op_315 {xs : List Int32} {N : List Int} {al : Nat → Option Nat} {f : z_Fr} {P : z_H} (hS : z_gs (z_strs (z_G xs)) N al (z_D 315) f [] P) (hf : z_fr 13 al) : ∃ P', z_RF (z_G xs) [] f 800 P (some (.int 1)) P' := sorry
theorem z_op_328 {xs : List Int32} {N : List Int} {al : Nat → Option Nat} {f : z_Fr} {P : z_H} (hS : z_gs (z_strs (z_G xs)) N al (z_D 328) f [] P) (hf : z_fr 13 al) : ∃ P', z_RF (z_G xs) [] f 800 P (some (.int 1)) P' := sorry
theorem z_op_353 {xs : List Int32} {N : List Int} {al : Nat → Option Nat} {f : z_Fr} {P : z_H} (hS : z_gs (z_strs (z_G xs)) N al (z_D 353) f [] P) (hf : z_fr 13 al) : ∃ P', z_RF (z_G xs) [] f 800 P (some (.int 1)) P' := sorry
theorem z_op_458 {xs : List Int32} {N : List Int} {al : Nat → Option Nat} {f : z_Fr} {P : z_H} (hS : z_gs (z_strs (z_G xs)) N al (z_D 458) f [] P) (hf : z_fr 13 al) : ∃ P', z_RF (z_G xs) [] f 800 P (some (.int 1)) P' := sorry
theorem z_op_495 {xs : List Int32} {N : List Int} {al : Nat → Option Nat} {f : z_Fr} {P : z_H} (hS : z_gs (z_strs (z_G xs)) N al (z_D 495) f [] P) (hf : z_fr 13 al) : ∃ P', z_RF (z_G xs) [] f 800 P (some (.int 1)) P' := sorry
theorem z_op_532 {xs : List Int32} {N : List Int} {al : Nat → Option Nat} {f : z_Fr} {P : z_H} (hS : z_gs (z_strs (z_G xs)) N al (z_D 532) f [] P) (hf : z_fr 13 al) : ∃ P', z_RF (z_G xs) [] f 800 P (some (.int 1)) P' := sorry
theorem z_op_605 {xs : List Int32} {N : List Int} {al : Nat → Option Nat} {f : z_Fr} {P : z_H} (hS : z_gs (z_strs (z_G xs)) N al (z_D 605) f [] P) (hf : z_fr 13 al) : ∃ P', z_RF (z_G xs) [] f 800 P (some (.int 1)) P' := sorry
theorem z_op_642 {xs : List Int32} {N : List Int} {al : Nat → Option Nat} {f : z_Fr} {P : z_H} (hS : z_gs (z_strs (z_G xs)) N al (z_D 642) f [] P) (hf : z_fr 13 al) : ∃ P', z_RF (z_G xs) [] f 800 P (some (.int 1)) P' := sorry
theorem z_op_679 {xs : List Int32} {N : List Int} {al : Nat → Option Nat} {f : z_Fr} {P : z_H} (hS : z_gs (z_strs (z_G xs)) N al (z_D 679) f [] P) (hf : z_fr 13 al) : ∃ P', z_RF (z_G xs) [] f 800 P (some (.int 1)) P' := sorry
theorem z_op_692 {xs : List Int32} {N : List Int} {al : Nat → Option Nat} {f : z_Fr} {P : z_H} (hS : z_gs (z_strs (z_G xs)) N al (z_D 692) f [] P) (hf : z_fr 13 al) : ∃ P', z_RF (z_G xs) [] f 800 P (some (.int 1)) P' := sorry
theorem z_op_741 {xs : List Int32} {N : List Int} {al : Nat → Option Nat} {f : z_Fr} {P : z_H} (hS : z_gs (z_strs (z_G xs)) N al (z_D 741) f [] P) (hf : z_fr 13 al) : ∃ P', z_RF (z_G xs) [] f 800 P (some (.int 1)) P' := sorry
theorem z_op_778 {xs : List Int32} {N : List Int} {al : Nat → Option Nat} {f : z_Fr} {P : z_H} (hS : z_gs (z_strs (z_G xs)) N al (z_D 778) f [] P) (hf : z_fr 13 al) : ∃ P', z_RF (z_G xs) [] f 800 P (some (.int 1)) P' := sorry
theorem z_op_827 {xs : List Int32} {N : List Int} {al : Nat → Option Nat} {f : z_Fr} {P : z_H} (hS : z_gs (z_strs (z_G xs)) N al (z_D 827) f [] P) (hf : z_fr 13 al) : ∃ P', z_RF (z_G xs) [] f 800 P (some (.int 1)) P' := sorry
theorem z_op_876 {xs : List Int32} {N : List Int} {al : Nat → Option Nat} {f : z_Fr} {P : z_H} (hS : z_gs (z_strs (z_G xs)) N al (z_D 876) f [] P) (hf : z_fr 13 al) : ∃ P', z_RF (z_G xs) [] f 800 P (some (.int 1)) P' := sorry
theorem z_op_913 {xs : List Int32} {N : List Int} {al : Nat → Option Nat} {f : z_Fr} {P : z_H} (hS : z_gs (z_strs (z_G xs)) N al (z_D 913) f [] P) (hf : z_fr 13 al) : ∃ P', z_RF (z_G xs) [] f 800 P (some (.int 1)) P' := sorry
theorem z_op_926 {xs : List Int32} {N : List Int} {al : Nat → Option Nat} {f : z_Fr} {P : z_H} (hS : z_gs (z_strs (z_G xs)) N al (z_D 926) f [] P) (hf : z_fr 13 al) : ∃ P', z_RF (z_G xs) [] f 800 P (some (.int 1)) P' := sorry
theorem z_op_951 {xs : List Int32} {N : List Int} {al : Nat → Option Nat} {f : z_Fr} {P : z_H} (hS : z_gs (z_strs (z_G xs)) N al (z_D 951) f [] P) (hf : z_fr 13 al) : ∃ P', z_RF (z_G xs) [] f 800 P (some (.int 1)) P' := sorry
theorem z_op_988 {xs : List Int32} {N : List Int} {al : Nat → Option Nat} {f : z_Fr} {P : z_H} (hS : z_gs (z_strs (z_G xs)) N al (z_D 988) f [] P) (hf : z_fr 13 al) : ∃ P', z_RF (z_G xs) [] f 800 P (some (.int 1)) P' := sorry
theorem z_op_1025 {xs : List Int32} {N : List Int} {al : Nat → Option Nat} {f : z_Fr} {P : z_H} (hS : z_gs (z_strs (z_G xs)) N al (z_D 1025) f [] P) (hf : z_fr 13 al) : ∃ P', z_RF (z_G xs) [] f 800 P (some (.int 1)) P' := sorry
theorem z_op_1062 {xs : List Int32} {N : List Int} {al : Nat → Option Nat} {f : z_Fr} {P : z_H} (hS : z_gs (z_strs (z_G xs)) N al (z_D 1062) f [] P) (hf : z_fr 13 al) : ∃ P', z_RF (z_G xs) [] f 800 P (some (.int 1)) P' := sorry
theorem z_op_1123 {xs : List Int32} {N : List Int} {al : Nat → Option Nat} {f : z_Fr} {P : z_H} (hS : z_gs (z_strs (z_G xs)) N al (z_D 1123) f [] P) (hf : z_fr 13 al) : ∃ P', z_RF (z_G xs) [] f 800 P (some (.int 1)) P' := sorry
theorem z_op_1148 {xs : List Int32} {N : List Int} {al : Nat → Option Nat} {f : z_Fr} {P : z_H} (hS : z_gs (z_strs (z_G xs)) N al (z_D 1148) f [] P) (hf : z_fr 13 al) : ∃ P', z_RF (z_G xs) [] f 800 P (some (.int 1)) P' := sorry
theorem z_op_1253 {xs : List Int32} {N : List Int} {al : Nat → Option Nat} {f : z_Fr} {P : z_H} (hS : z_gs (z_strs (z_G xs)) N al (z_D 1253) f [] P) (hf : z_fr 13 al) : ∃ P', z_RF (z_G xs) [] f 800 P (some (.int 1)) P' := sorry
theorem z_op_1278 {xs : List Int32} {N : List Int} {al : Nat → Option Nat} {f : z_Fr} {P : z_H} (hS : z_gs (z_strs (z_G xs)) N al (z_D 1278) f [] P) (hf : z_fr 13 al) : ∃ P', z_RF (z_G xs) [] f 800 P (some (.int 1)) P' := sorry
theorem z_op_1303 {xs : List Int32} {N : List Int} {al : Nat → Option Nat} {f : z_Fr} {P : z_H} (hS : z_gs (z_strs (z_G xs)) N al (z_D 1303) f [] P) (hf : z_fr 13 al) : ∃ P', z_RF (z_G xs) [] f 800 P (some (.int 1)) P' := sorry
theorem z_op_1352 {xs : List Int32} {N : List Int} {al : Nat → Option Nat} {f : z_Fr} {P : z_H} (hS : z_gs (z_strs (z_G xs)) N al (z_D 1352) f [] P) (hf : z_fr 13 al) : ∃ P', z_RF (z_G xs) [] f 800 P (some (.int 1)) P' := sorry
theorem z_op_1389 {xs : List Int32} {N : List Int} {al : Nat → Option Nat} {f : z_Fr} {P : z_H} (hS : z_gs (z_strs (z_G xs)) N al (z_D 1389) f [] P) (hf : z_fr 13 al) : ∃ P', z_RF (z_G xs) [] f 800 P (some (.int 1)) P' := sorry
theorem z_op_1414 {xs : List Int32} {N : List Int} {al : Nat → Option Nat} {f : z_Fr} {P : z_H} (hS : z_gs (z_strs (z_G xs)) N al (z_D 1414) f [] P) (hf : z_fr 13 al) : ∃ P', z_RF (z_G xs) [] f 800 P (some (.int 1)) P' := sorry
theorem z_op_1463 {xs : List Int32} {N : List Int} {al : Nat → Option Nat} {f : z_Fr} {P : z_H} (hS : z_gs (z_strs (z_G xs)) N al (z_D 1463) f [] P) (hf : z_fr 13 al) : ∃ P', z_RF (z_G xs) [] f 800 P (some (.int 1)) P' := sorry
theorem z_op_1512 {xs : List Int32} {N : List Int} {al : Nat → Option Nat} {f : z_Fr} {P : z_H} (hS : z_gs (z_strs (z_G xs)) N al (z_D 1512) f [] P) (hf : z_fr 13 al) : ∃ P', z_RF (z_G xs) [] f 800 P (some (.int 1)) P' := sorry
theorem z_op_1565 {xs : List Int32} {N : List Int} {al : Nat → Option Nat} {f : z_Fr} {P : z_H} (hS : z_gs (z_strs (z_G xs)) N al (z_D 1565) f [] P) (hf : z_fr 13 al) : ∃ P', z_RF (z_G xs) [] f 800 P (some (.int 1)) P' := sorry
theorem z_op_1590 {xs : List Int32} {N : List Int} {al : Nat → Option Nat} {f : z_Fr} {P : z_H} (hS : z_gs (z_strs (z_G xs)) N al (z_D 1590) f [] P) (hf : z_fr 13 al) : ∃ P', z_RF (z_G xs) [] f 800 P (some (.int 1)) P' := sorry
theorem z_op_1639 {xs : List Int32} {N : List Int} {al : Nat → Option Nat} {f : z_Fr} {P : z_H} (hS : z_gs (z_strs (z_G xs)) N al (z_D 1639) f [] P) (hf : z_fr 13 al) : ∃ P', z_RF (z_G xs) [] f 800 P (some (.int 1)) P' := sorry
theorem z_op_1688 {xs : List Int32} {N : List Int} {al : Nat → Option Nat} {f : z_Fr} {P : z_H} (hS : z_gs (z_strs (z_G xs)) N al (z_D 1688) f [] P) (hf : z_fr 13 al) : ∃ P', z_RF (z_G xs) [] f 800 P (some (.int 1)) P' := sorry
theorem z_op_1713 {xs : List Int32} {N : List Int} {al : Nat → Option Nat} {f : z_Fr} {P : z_H} (hS : z_gs (z_strs (z_G xs)) N al (z_D 1713) f [] P) (hf : z_fr 13 al) : ∃ P', z_RF (z_G xs) [] f 800 P (some (.int 1)) P' := sorry
theorem z_op_1738 {xs : List Int32} {N : List Int} {al : Nat → Option Nat} {f : z_Fr} {P : z_H} (hS : z_gs (z_strs (z_G xs)) N al (z_D 1738) f [] P) (hf : z_fr 13 al) : ∃ P', z_RF (z_G xs) [] f 800 P (some (.int 1)) P' := sorry
theorem z_op_1811 {xs : List Int32} {N : List Int} {al : Nat → Option Nat} {f : z_Fr} {P : z_H} (hS : z_gs (z_strs (z_G xs)) N al (z_D 1811) f [] P) (hf : z_fr 13 al) : ∃ P', z_RF (z_G xs) [] f 800 P (some (.int 1)) P' := sorry
theorem z_op_1836 {xs : List Int32} {N : List Int} {al : Nat → Option Nat} {f : z_Fr} {P : z_H} (hS : z_gs (z_strs (z_G xs)) N al (z_D 1836) f [] P) (hf : z_fr 13 al) : ∃ P', z_RF (z_G xs) [] f 800 P (some (.int 1)) P' := sorry
theorem z_op_1873 {xs : List Int32} {N : List Int} {al : Nat → Option Nat} {f : z_Fr} {P : z_H} (hS : z_gs (z_strs (z_G xs)) N al (z_D 1873) f [] P) (hf : z_fr 13 al) : ∃ P', z_RF (z_G xs) [] f 800 P (some (.int 1)) P' := sorry
theorem z_op_1910 {xs : List Int32} {N : List Int} {al : Nat → Option Nat} {f : z_Fr} {P : z_H} (hS : z_gs (z_strs (z_G xs)) N al (z_D 1910) f [] P) (hf : z_fr 13 al) : ∃ P', z_RF (z_G xs) [] f 800 P (some (.int 1)) P' := sorry
theorem z_op_1935 {xs : List Int32} {N : List Int} {al : Nat → Option Nat} {f : z_Fr} {P : z_H} (hS : z_gs (z_strs (z_G xs)) N al (z_D 1935) f [] P) (hf : z_fr 13 al) : ∃ P', z_RF (z_G xs) [] f 800 P (some (.int 1)) P' := sorry
theorem z_op_1960 {xs : List Int32} {N : List Int} {al : Nat → Option Nat} {f : z_Fr} {P : z_H} (hS : z_gs (z_strs (z_G xs)) N al (z_D 1960) f [] P) (hf : z_fr 13 al) : ∃ P', z_RF (z_G xs) [] f 800 P (some (.int 1)) P' := sorry
theorem z_op_1985 {xs : List Int32} {N : List Int} {al : Nat → Option Nat} {f : z_Fr} {P : z_H} (hS : z_gs (z_strs (z_G xs)) N al (z_D 1985) f [] P) (hf : z_fr 13 al) : ∃ P', z_RF (z_G xs) [] f 800 P (some (.int 1)) P' := sorry
theorem z_op_2065 {xs : List Int32} {N : List Int} {al : Nat → Option Nat} {f : z_Fr} {P : z_H} (hS : z_gs (z_strs (z_G xs)) N al (z_D 2065) f [] P) (hf : z_fr 13 al) : ∃ P', z_RF (z_G xs) [] f 800 P (some (.int 1)) P' := sorry
