section ZGLUE
def z_idb : z_bd := [(1, 1, 0), (2, 2, 0), (3, 3, 0), (4, 4, 0), (5, 5, 0), (6, 6, 0)]
/-- an argument's number, ahead of an operation -/
theorem z_argv {xs : List Int32} {pc : Nat} {N : List Int} {al : Nat → Option Nat} {f : z_Fr} {P : z_H} (hS : z_gs (z_strs (z_G xs)) N al (z_D pc) f [] P) (hf : z_fr 13 al) (e : Nat) (he : e < 6) : ∃ w, N[e + 1]? = some w ∧ -2147483648 ≤ w ∧ w ≤ 2147483647 := by
  have h12 : z_H0[12]? = some (z_sc 6) := rfl
  refine z_idv (A := z_sc 6) (e := e) hS.2.2.1 (hf 12 (by decide)) h12 rfl ?_
  show ((List.range 6).map fun k => (Sum.inl (k + 1, 0, 0, -2147483648, 2147483647) : z_av))[e]? = _
  rw [List.getElem?_map, List.getElem?_range he]
  rfl
theorem z_use {xs : List Int32} {at_ : Nat → Nat → Bool} {Ds : List z_ce} {C : z_ce} {N : List Int} {al : Nat → Option Nat} {f : z_Fr} {P : z_H} (hall : ∀ C ∈ Ds, z_cok (z_G []) z_md 13 z_Q1 at_ [] Ds 50000 C = true) (hC : C ∈ Ds) (hd : C.1 = 800) (hS : z_gs (z_strs (z_G xs)) N al C.2.1 f [] P) (hf : z_fr 13 al) : ∃ P', z_RF (z_G xs) [] f 800 P (some (.int 1)) P' := by
  have h := z_cut_one (G := z_G xs) (Es := []) z_RF_clo (fun D hD => by cases hD) (fun C hC => by rw [z_G_set]; exact z_cok_setS (hall C hC)) hC hS hf
  rw [hd] at h
  exact h
theorem z_op_252 {xs : List Int32} {N : List Int} {al : Nat → Option Nat} {f : z_Fr} {P : z_H} (hS : z_gs (z_strs (z_G xs)) N al (z_D 252) f [] P) (hf : z_fr 13 al) : ∃ P', z_RF (z_G xs) [] f 800 P (some (.int 1)) P' := z_use z_o0_0 (C := z_c0_0_0) List.mem_cons_self rfl hS hf
theorem z_op_277 {xs : List Int32} {N : List Int} {al : Nat → Option Nat} {f : z_Fr} {P : z_H} (hS : z_gs (z_strs (z_G xs)) N al (z_D 277) f [] P) (hf : z_fr 13 al) : ∃ P', z_RF (z_G xs) [] f 800 P (some (.int 1)) P' := z_use z_o1_0 (C := z_c1_0_0) List.mem_cons_self rfl hS hf
theorem z_op_302 {xs : List Int32} {N : List Int} {al : Nat → Option Nat} {f : z_Fr} {P : z_H} (hS : z_gs (z_strs (z_G xs)) N al (z_D 302) f [] P) (hf : z_fr 13 al) : ∃ P', z_RF (z_G xs) [] f 800 P (some (.int 1)) P' := z_use z_o2_0 (C := z_c2_0_0) List.mem_cons_self rfl hS hf
theorem z_op_315 {xs : List Int32} {N : List Int} {al : Nat → Option Nat} {f : z_Fr} {P : z_H} (hS : z_gs (z_strs (z_G xs)) N al (z_D 315) f [] P) (hf : z_fr 13 al) : ∃ P', z_RF (z_G xs) [] f 800 P (some (.int 1)) P' := z_use z_o3_0 (C := z_c3_0_0) List.mem_cons_self rfl hS hf
theorem z_op_328 {xs : List Int32} {N : List Int} {al : Nat → Option Nat} {f : z_Fr} {P : z_H} (hS : z_gs (z_strs (z_G xs)) N al (z_D 328) f [] P) (hf : z_fr 13 al) : ∃ P', z_RF (z_G xs) [] f 800 P (some (.int 1)) P' := z_use z_o4_0 (C := z_c4_0_0) List.mem_cons_self rfl hS hf
theorem z_p5_0 : z_sle z_idb 13 (z_cls_ 2 (-2147483648) (-1) (z_D 353)) z_c5_0_0.2.1 = true := by decide +kernel
theorem z_p5_1 : z_sle z_idb 13 (z_cls_ 2 (0) (0) (z_D 353)) z_c5_1_0.2.1 = true := by decide +kernel
theorem z_p5_2 : z_sle z_idb 13 (z_cls_ 2 (1) (1) (z_D 353)) z_c5_2_0.2.1 = true := by decide +kernel
theorem z_p5_3 : z_sle z_idb 13 (z_cls_ 2 (2) (2) (z_D 353)) z_c5_3_0.2.1 = true := by decide +kernel
theorem z_p5_4 : z_sle z_idb 13 (z_cls_ 2 (3) (3) (z_D 353)) z_c5_4_0.2.1 = true := by decide +kernel
theorem z_p5_5 : z_sle z_idb 13 (z_cls_ 2 (4) (4) (z_D 353)) z_c5_5_0.2.1 = true := by decide +kernel
theorem z_p5_6 : z_sle z_idb 13 (z_cls_ 2 (5) (2147483647) (z_D 353)) z_c5_6_0.2.1 = true := by decide +kernel
theorem z_op_353 {xs : List Int32} {N : List Int} {al : Nat → Option Nat} {f : z_Fr} {P : z_H} (hS : z_gs (z_strs (z_G xs)) N al (z_D 353) f [] P) (hf : z_fr 13 al) : ∃ P', z_RF (z_G xs) [] f 800 P (some (.int 1)) P' := by
  obtain ⟨w2, e2, l2, g2⟩ := z_argv hS hf 1 (by decide)
  have h2 : (-2147483648 ≤ w2 ∧ w2 ≤ -1) ∨ (0 ≤ w2 ∧ w2 ≤ 0) ∨ (1 ≤ w2 ∧ w2 ≤ 1) ∨ (2 ≤ w2 ∧ w2 ≤ 2) ∨ (3 ≤ w2 ∧ w2 ≤ 3) ∨ (4 ≤ w2 ∧ w2 ≤ 4) ∨ (5 ≤ w2 ∧ w2 ≤ 2147483647) := by omega
  rcases h2 with h2 | h2 | h2 | h2 | h2 | h2 | h2
  · skip
    exact (fun q => z_use z_o5_0 (C := z_c5_0_0) List.mem_cons_self rfl q.1 q.2) (z_sle_ok z_p5_0 (z_cls_gs (k := 2) (lo := -2147483648) (hi := -1) (fun _ => ⟨w2, e2, by omega, by omega⟩) hS) hf)
  · skip
    exact (fun q => z_use z_o5_1 (C := z_c5_1_0) List.mem_cons_self rfl q.1 q.2) (z_sle_ok z_p5_1 (z_cls_gs (k := 2) (lo := 0) (hi := 0) (fun _ => ⟨w2, e2, by omega, by omega⟩) hS) hf)
  · skip
    exact (fun q => z_use z_o5_2 (C := z_c5_2_0) List.mem_cons_self rfl q.1 q.2) (z_sle_ok z_p5_2 (z_cls_gs (k := 2) (lo := 1) (hi := 1) (fun _ => ⟨w2, e2, by omega, by omega⟩) hS) hf)
  · skip
    exact (fun q => z_use z_o5_3 (C := z_c5_3_0) List.mem_cons_self rfl q.1 q.2) (z_sle_ok z_p5_3 (z_cls_gs (k := 2) (lo := 2) (hi := 2) (fun _ => ⟨w2, e2, by omega, by omega⟩) hS) hf)
  · skip
    exact (fun q => z_use z_o5_4 (C := z_c5_4_0) List.mem_cons_self rfl q.1 q.2) (z_sle_ok z_p5_4 (z_cls_gs (k := 2) (lo := 3) (hi := 3) (fun _ => ⟨w2, e2, by omega, by omega⟩) hS) hf)
  · skip
    exact (fun q => z_use z_o5_5 (C := z_c5_5_0) List.mem_cons_self rfl q.1 q.2) (z_sle_ok z_p5_5 (z_cls_gs (k := 2) (lo := 4) (hi := 4) (fun _ => ⟨w2, e2, by omega, by omega⟩) hS) hf)
  · skip
    exact (fun q => z_use z_o5_6 (C := z_c5_6_0) List.mem_cons_self rfl q.1 q.2) (z_sle_ok z_p5_6 (z_cls_gs (k := 2) (lo := 5) (hi := 2147483647) (fun _ => ⟨w2, e2, by omega, by omega⟩) hS) hf)
theorem z_op_458 {xs : List Int32} {N : List Int} {al : Nat → Option Nat} {f : z_Fr} {P : z_H} (hS : z_gs (z_strs (z_G xs)) N al (z_D 458) f [] P) (hf : z_fr 13 al) : ∃ P', z_RF (z_G xs) [] f 800 P (some (.int 1)) P' := z_use z_o7_0 (C := z_c7_0_0) List.mem_cons_self rfl hS hf
theorem z_op_495 {xs : List Int32} {N : List Int} {al : Nat → Option Nat} {f : z_Fr} {P : z_H} (hS : z_gs (z_strs (z_G xs)) N al (z_D 495) f [] P) (hf : z_fr 13 al) : ∃ P', z_RF (z_G xs) [] f 800 P (some (.int 1)) P' := z_use z_o8_0 (C := z_c8_0_0) List.mem_cons_self rfl hS hf
theorem z_op_532 {xs : List Int32} {N : List Int} {al : Nat → Option Nat} {f : z_Fr} {P : z_H} (hS : z_gs (z_strs (z_G xs)) N al (z_D 532) f [] P) (hf : z_fr 13 al) : ∃ P', z_RF (z_G xs) [] f 800 P (some (.int 1)) P' := z_use z_o9_0 (C := z_c9_0_0) List.mem_cons_self rfl hS hf
theorem z_op_605 {xs : List Int32} {N : List Int} {al : Nat → Option Nat} {f : z_Fr} {P : z_H} (hS : z_gs (z_strs (z_G xs)) N al (z_D 605) f [] P) (hf : z_fr 13 al) : ∃ P', z_RF (z_G xs) [] f 800 P (some (.int 1)) P' := z_use z_o10_0 (C := z_c10_0_0) List.mem_cons_self rfl hS hf
theorem z_op_642 {xs : List Int32} {N : List Int} {al : Nat → Option Nat} {f : z_Fr} {P : z_H} (hS : z_gs (z_strs (z_G xs)) N al (z_D 642) f [] P) (hf : z_fr 13 al) : ∃ P', z_RF (z_G xs) [] f 800 P (some (.int 1)) P' := z_use z_o11_0 (C := z_c11_0_0) List.mem_cons_self rfl hS hf
theorem z_op_679 {xs : List Int32} {N : List Int} {al : Nat → Option Nat} {f : z_Fr} {P : z_H} (hS : z_gs (z_strs (z_G xs)) N al (z_D 679) f [] P) (hf : z_fr 13 al) : ∃ P', z_RF (z_G xs) [] f 800 P (some (.int 1)) P' := z_use z_o12_0 (C := z_c12_0_0) List.mem_cons_self rfl hS hf
theorem z_op_692 {xs : List Int32} {N : List Int} {al : Nat → Option Nat} {f : z_Fr} {P : z_H} (hS : z_gs (z_strs (z_G xs)) N al (z_D 692) f [] P) (hf : z_fr 13 al) : ∃ P', z_RF (z_G xs) [] f 800 P (some (.int 1)) P' := z_use z_o13_0 (C := z_c13_0_0) List.mem_cons_self rfl hS hf
theorem z_op_741 {xs : List Int32} {N : List Int} {al : Nat → Option Nat} {f : z_Fr} {P : z_H} (hS : z_gs (z_strs (z_G xs)) N al (z_D 741) f [] P) (hf : z_fr 13 al) : ∃ P', z_RF (z_G xs) [] f 800 P (some (.int 1)) P' := z_use z_o14_0 (C := z_c14_0_0) List.mem_cons_self rfl hS hf
theorem z_op_778 {xs : List Int32} {N : List Int} {al : Nat → Option Nat} {f : z_Fr} {P : z_H} (hS : z_gs (z_strs (z_G xs)) N al (z_D 778) f [] P) (hf : z_fr 13 al) : ∃ P', z_RF (z_G xs) [] f 800 P (some (.int 1)) P' := z_use z_o15_0 (C := z_c15_0_0) List.mem_cons_self rfl hS hf
theorem z_op_827 {xs : List Int32} {N : List Int} {al : Nat → Option Nat} {f : z_Fr} {P : z_H} (hS : z_gs (z_strs (z_G xs)) N al (z_D 827) f [] P) (hf : z_fr 13 al) : ∃ P', z_RF (z_G xs) [] f 800 P (some (.int 1)) P' := z_use z_o16_0 (C := z_c16_0_0) List.mem_cons_self rfl hS hf
theorem z_op_876 {xs : List Int32} {N : List Int} {al : Nat → Option Nat} {f : z_Fr} {P : z_H} (hS : z_gs (z_strs (z_G xs)) N al (z_D 876) f [] P) (hf : z_fr 13 al) : ∃ P', z_RF (z_G xs) [] f 800 P (some (.int 1)) P' := z_use z_o17_0 (C := z_c17_0_0) List.mem_cons_self rfl hS hf
theorem z_op_913 {xs : List Int32} {N : List Int} {al : Nat → Option Nat} {f : z_Fr} {P : z_H} (hS : z_gs (z_strs (z_G xs)) N al (z_D 913) f [] P) (hf : z_fr 13 al) : ∃ P', z_RF (z_G xs) [] f 800 P (some (.int 1)) P' := z_use z_o18_0 (C := z_c18_0_0) List.mem_cons_self rfl hS hf
theorem z_op_926 {xs : List Int32} {N : List Int} {al : Nat → Option Nat} {f : z_Fr} {P : z_H} (hS : z_gs (z_strs (z_G xs)) N al (z_D 926) f [] P) (hf : z_fr 13 al) : ∃ P', z_RF (z_G xs) [] f 800 P (some (.int 1)) P' := z_use z_o19_0 (C := z_c19_0_0) List.mem_cons_self rfl hS hf
theorem z_op_951 {xs : List Int32} {N : List Int} {al : Nat → Option Nat} {f : z_Fr} {P : z_H} (hS : z_gs (z_strs (z_G xs)) N al (z_D 951) f [] P) (hf : z_fr 13 al) : ∃ P', z_RF (z_G xs) [] f 800 P (some (.int 1)) P' := z_use z_o20_0 (C := z_c20_0_0) List.mem_cons_self rfl hS hf
theorem z_op_988 {xs : List Int32} {N : List Int} {al : Nat → Option Nat} {f : z_Fr} {P : z_H} (hS : z_gs (z_strs (z_G xs)) N al (z_D 988) f [] P) (hf : z_fr 13 al) : ∃ P', z_RF (z_G xs) [] f 800 P (some (.int 1)) P' := z_use z_o21_0 (C := z_c21_0_0) List.mem_cons_self rfl hS hf
theorem z_op_1025 {xs : List Int32} {N : List Int} {al : Nat → Option Nat} {f : z_Fr} {P : z_H} (hS : z_gs (z_strs (z_G xs)) N al (z_D 1025) f [] P) (hf : z_fr 13 al) : ∃ P', z_RF (z_G xs) [] f 800 P (some (.int 1)) P' := z_use z_o22_0 (C := z_c22_0_0) List.mem_cons_self rfl hS hf
theorem z_op_1062 {xs : List Int32} {N : List Int} {al : Nat → Option Nat} {f : z_Fr} {P : z_H} (hS : z_gs (z_strs (z_G xs)) N al (z_D 1062) f [] P) (hf : z_fr 13 al) : ∃ P', z_RF (z_G xs) [] f 800 P (some (.int 1)) P' := z_use z_o23_0 (C := z_c23_0_0) List.mem_cons_self rfl hS hf
theorem z_op_1123 {xs : List Int32} {N : List Int} {al : Nat → Option Nat} {f : z_Fr} {P : z_H} (hS : z_gs (z_strs (z_G xs)) N al (z_D 1123) f [] P) (hf : z_fr 13 al) : ∃ P', z_RF (z_G xs) [] f 800 P (some (.int 1)) P' := z_use z_o24_0 (C := z_c24_0_0) List.mem_cons_self rfl hS hf
theorem z_op_1148 {xs : List Int32} {N : List Int} {al : Nat → Option Nat} {f : z_Fr} {P : z_H} (hS : z_gs (z_strs (z_G xs)) N al (z_D 1148) f [] P) (hf : z_fr 13 al) : ∃ P', z_RF (z_G xs) [] f 800 P (some (.int 1)) P' := z_use z_o25_0 (C := z_c25_0_0) List.mem_cons_self rfl hS hf
theorem z_op_1253 {xs : List Int32} {N : List Int} {al : Nat → Option Nat} {f : z_Fr} {P : z_H} (hS : z_gs (z_strs (z_G xs)) N al (z_D 1253) f [] P) (hf : z_fr 13 al) : ∃ P', z_RF (z_G xs) [] f 800 P (some (.int 1)) P' := z_use z_o27_0 (C := z_c27_0_0) List.mem_cons_self rfl hS hf
theorem z_op_1278 {xs : List Int32} {N : List Int} {al : Nat → Option Nat} {f : z_Fr} {P : z_H} (hS : z_gs (z_strs (z_G xs)) N al (z_D 1278) f [] P) (hf : z_fr 13 al) : ∃ P', z_RF (z_G xs) [] f 800 P (some (.int 1)) P' := z_use z_o28_0 (C := z_c28_0_0) List.mem_cons_self rfl hS hf
theorem z_op_1303 {xs : List Int32} {N : List Int} {al : Nat → Option Nat} {f : z_Fr} {P : z_H} (hS : z_gs (z_strs (z_G xs)) N al (z_D 1303) f [] P) (hf : z_fr 13 al) : ∃ P', z_RF (z_G xs) [] f 800 P (some (.int 1)) P' := z_use z_o29_0 (C := z_c29_0_0) List.mem_cons_self rfl hS hf
theorem z_op_1352 {xs : List Int32} {N : List Int} {al : Nat → Option Nat} {f : z_Fr} {P : z_H} (hS : z_gs (z_strs (z_G xs)) N al (z_D 1352) f [] P) (hf : z_fr 13 al) : ∃ P', z_RF (z_G xs) [] f 800 P (some (.int 1)) P' := z_use z_o30_0 (C := z_c30_0_0) List.mem_cons_self rfl hS hf
theorem z_op_1389 {xs : List Int32} {N : List Int} {al : Nat → Option Nat} {f : z_Fr} {P : z_H} (hS : z_gs (z_strs (z_G xs)) N al (z_D 1389) f [] P) (hf : z_fr 13 al) : ∃ P', z_RF (z_G xs) [] f 800 P (some (.int 1)) P' := z_use z_o31_0 (C := z_c31_0_0) List.mem_cons_self rfl hS hf
theorem z_op_1414 {xs : List Int32} {N : List Int} {al : Nat → Option Nat} {f : z_Fr} {P : z_H} (hS : z_gs (z_strs (z_G xs)) N al (z_D 1414) f [] P) (hf : z_fr 13 al) : ∃ P', z_RF (z_G xs) [] f 800 P (some (.int 1)) P' := z_use z_o32_0 (C := z_c32_0_0) List.mem_cons_self rfl hS hf
theorem z_p33_0 : z_sle z_idb 13 (z_cls_ 4 (-2147483648) (-1) (z_cls_ 3 (-2147483648) (-1) (z_D 1463))) z_c33_0_0.2.1 = true := by decide +kernel
theorem z_p33_1 : z_sle z_idb 13 (z_cls_ 4 (0) (11) (z_cls_ 3 (-2147483648) (-1) (z_D 1463))) z_c33_1_0.2.1 = true := by decide +kernel
theorem z_p33_2 : z_sle z_idb 13 (z_cls_ 4 (12) (2147483647) (z_cls_ 3 (-2147483648) (-1) (z_D 1463))) z_c33_2_0.2.1 = true := by decide +kernel
theorem z_p33_3 : z_sle z_idb 13 (z_cls_ 4 (-2147483648) (-1) (z_cls_ 3 (0) (11) (z_D 1463))) z_c33_3_0.2.1 = true := by decide +kernel
theorem z_p33_4 : z_sle z_idb 13 (z_cls_ 4 (0) (11) (z_cls_ 3 (0) (11) (z_D 1463))) z_c33_4_0.2.1 = true := by decide +kernel
theorem z_p33_5 : z_sle z_idb 13 (z_cls_ 4 (12) (2147483647) (z_cls_ 3 (0) (11) (z_D 1463))) z_c33_5_0.2.1 = true := by decide +kernel
theorem z_p33_6 : z_sle z_idb 13 (z_cls_ 4 (-2147483648) (-1) (z_cls_ 3 (12) (2147483647) (z_D 1463))) z_c33_6_0.2.1 = true := by decide +kernel
theorem z_p33_7 : z_sle z_idb 13 (z_cls_ 4 (0) (11) (z_cls_ 3 (12) (2147483647) (z_D 1463))) z_c33_7_0.2.1 = true := by decide +kernel
theorem z_p33_8 : z_sle z_idb 13 (z_cls_ 4 (12) (2147483647) (z_cls_ 3 (12) (2147483647) (z_D 1463))) z_c33_8_0.2.1 = true := by decide +kernel
theorem z_op_1463 {xs : List Int32} {N : List Int} {al : Nat → Option Nat} {f : z_Fr} {P : z_H} (hS : z_gs (z_strs (z_G xs)) N al (z_D 1463) f [] P) (hf : z_fr 13 al) : ∃ P', z_RF (z_G xs) [] f 800 P (some (.int 1)) P' := by
  obtain ⟨w3, e3, l3, g3⟩ := z_argv hS hf 2 (by decide)
  obtain ⟨w4, e4, l4, g4⟩ := z_argv hS hf 3 (by decide)
  have h3 : (-2147483648 ≤ w3 ∧ w3 ≤ -1) ∨ (0 ≤ w3 ∧ w3 ≤ 11) ∨ (12 ≤ w3 ∧ w3 ≤ 2147483647) := by omega
  rcases h3 with h3 | h3 | h3
  · skip
    have h4 : (-2147483648 ≤ w4 ∧ w4 ≤ -1) ∨ (0 ≤ w4 ∧ w4 ≤ 11) ∨ (12 ≤ w4 ∧ w4 ≤ 2147483647) := by omega
    rcases h4 with h4 | h4 | h4
    · skip
      exact (fun q => z_use z_o33_0 (C := z_c33_0_0) List.mem_cons_self rfl q.1 q.2) (z_sle_ok z_p33_0 (z_cls_gs (k := 4) (lo := -2147483648) (hi := -1) (fun _ => ⟨w4, e4, by omega, by omega⟩) (z_cls_gs (k := 3) (lo := -2147483648) (hi := -1) (fun _ => ⟨w3, e3, by omega, by omega⟩) hS)) hf)
    · skip
      exact (fun q => z_use z_o33_1 (C := z_c33_1_0) List.mem_cons_self rfl q.1 q.2) (z_sle_ok z_p33_1 (z_cls_gs (k := 4) (lo := 0) (hi := 11) (fun _ => ⟨w4, e4, by omega, by omega⟩) (z_cls_gs (k := 3) (lo := -2147483648) (hi := -1) (fun _ => ⟨w3, e3, by omega, by omega⟩) hS)) hf)
    · skip
      exact (fun q => z_use z_o33_2 (C := z_c33_2_0) List.mem_cons_self rfl q.1 q.2) (z_sle_ok z_p33_2 (z_cls_gs (k := 4) (lo := 12) (hi := 2147483647) (fun _ => ⟨w4, e4, by omega, by omega⟩) (z_cls_gs (k := 3) (lo := -2147483648) (hi := -1) (fun _ => ⟨w3, e3, by omega, by omega⟩) hS)) hf)
  · skip
    have h4 : (-2147483648 ≤ w4 ∧ w4 ≤ -1) ∨ (0 ≤ w4 ∧ w4 ≤ 11) ∨ (12 ≤ w4 ∧ w4 ≤ 2147483647) := by omega
    rcases h4 with h4 | h4 | h4
    · skip
      exact (fun q => z_use z_o33_3 (C := z_c33_3_0) List.mem_cons_self rfl q.1 q.2) (z_sle_ok z_p33_3 (z_cls_gs (k := 4) (lo := -2147483648) (hi := -1) (fun _ => ⟨w4, e4, by omega, by omega⟩) (z_cls_gs (k := 3) (lo := 0) (hi := 11) (fun _ => ⟨w3, e3, by omega, by omega⟩) hS)) hf)
    · skip
      exact (fun q => z_use z_o33_4 (C := z_c33_4_0) List.mem_cons_self rfl q.1 q.2) (z_sle_ok z_p33_4 (z_cls_gs (k := 4) (lo := 0) (hi := 11) (fun _ => ⟨w4, e4, by omega, by omega⟩) (z_cls_gs (k := 3) (lo := 0) (hi := 11) (fun _ => ⟨w3, e3, by omega, by omega⟩) hS)) hf)
    · skip
      exact (fun q => z_use z_o33_5 (C := z_c33_5_0) List.mem_cons_self rfl q.1 q.2) (z_sle_ok z_p33_5 (z_cls_gs (k := 4) (lo := 12) (hi := 2147483647) (fun _ => ⟨w4, e4, by omega, by omega⟩) (z_cls_gs (k := 3) (lo := 0) (hi := 11) (fun _ => ⟨w3, e3, by omega, by omega⟩) hS)) hf)
  · skip
    have h4 : (-2147483648 ≤ w4 ∧ w4 ≤ -1) ∨ (0 ≤ w4 ∧ w4 ≤ 11) ∨ (12 ≤ w4 ∧ w4 ≤ 2147483647) := by omega
    rcases h4 with h4 | h4 | h4
    · skip
      exact (fun q => z_use z_o33_6 (C := z_c33_6_0) List.mem_cons_self rfl q.1 q.2) (z_sle_ok z_p33_6 (z_cls_gs (k := 4) (lo := -2147483648) (hi := -1) (fun _ => ⟨w4, e4, by omega, by omega⟩) (z_cls_gs (k := 3) (lo := 12) (hi := 2147483647) (fun _ => ⟨w3, e3, by omega, by omega⟩) hS)) hf)
    · skip
      exact (fun q => z_use z_o33_7 (C := z_c33_7_0) List.mem_cons_self rfl q.1 q.2) (z_sle_ok z_p33_7 (z_cls_gs (k := 4) (lo := 0) (hi := 11) (fun _ => ⟨w4, e4, by omega, by omega⟩) (z_cls_gs (k := 3) (lo := 12) (hi := 2147483647) (fun _ => ⟨w3, e3, by omega, by omega⟩) hS)) hf)
    · skip
      exact (fun q => z_use z_o33_8 (C := z_c33_8_0) List.mem_cons_self rfl q.1 q.2) (z_sle_ok z_p33_8 (z_cls_gs (k := 4) (lo := 12) (hi := 2147483647) (fun _ => ⟨w4, e4, by omega, by omega⟩) (z_cls_gs (k := 3) (lo := 12) (hi := 2147483647) (fun _ => ⟨w3, e3, by omega, by omega⟩) hS)) hf)
theorem z_op_1512 {xs : List Int32} {N : List Int} {al : Nat → Option Nat} {f : z_Fr} {P : z_H} (hS : z_gs (z_strs (z_G xs)) N al (z_D 1512) f [] P) (hf : z_fr 13 al) : ∃ P', z_RF (z_G xs) [] f 800 P (some (.int 1)) P' := z_use z_o34_0 (C := z_c34_0_0) List.mem_cons_self rfl hS hf
theorem z_op_1565 {xs : List Int32} {N : List Int} {al : Nat → Option Nat} {f : z_Fr} {P : z_H} (hS : z_gs (z_strs (z_G xs)) N al (z_D 1565) f [] P) (hf : z_fr 13 al) : ∃ P', z_RF (z_G xs) [] f 800 P (some (.int 1)) P' := z_use z_o35_0 (C := z_c35_0_0) List.mem_cons_self rfl hS hf
theorem z_op_1590 {xs : List Int32} {N : List Int} {al : Nat → Option Nat} {f : z_Fr} {P : z_H} (hS : z_gs (z_strs (z_G xs)) N al (z_D 1590) f [] P) (hf : z_fr 13 al) : ∃ P', z_RF (z_G xs) [] f 800 P (some (.int 1)) P' := z_use z_o36_0 (C := z_c36_0_0) List.mem_cons_self rfl hS hf
theorem z_op_1639 {xs : List Int32} {N : List Int} {al : Nat → Option Nat} {f : z_Fr} {P : z_H} (hS : z_gs (z_strs (z_G xs)) N al (z_D 1639) f [] P) (hf : z_fr 13 al) : ∃ P', z_RF (z_G xs) [] f 800 P (some (.int 1)) P' := z_use z_o37_0 (C := z_c37_0_0) List.mem_cons_self rfl hS hf
theorem z_op_1688 {xs : List Int32} {N : List Int} {al : Nat → Option Nat} {f : z_Fr} {P : z_H} (hS : z_gs (z_strs (z_G xs)) N al (z_D 1688) f [] P) (hf : z_fr 13 al) : ∃ P', z_RF (z_G xs) [] f 800 P (some (.int 1)) P' := z_use z_o38_0 (C := z_c38_0_0) List.mem_cons_self rfl hS hf
theorem z_op_1713 {xs : List Int32} {N : List Int} {al : Nat → Option Nat} {f : z_Fr} {P : z_H} (hS : z_gs (z_strs (z_G xs)) N al (z_D 1713) f [] P) (hf : z_fr 13 al) : ∃ P', z_RF (z_G xs) [] f 800 P (some (.int 1)) P' := z_use z_o39_0 (C := z_c39_0_0) List.mem_cons_self rfl hS hf
theorem z_op_1738 {xs : List Int32} {N : List Int} {al : Nat → Option Nat} {f : z_Fr} {P : z_H} (hS : z_gs (z_strs (z_G xs)) N al (z_D 1738) f [] P) (hf : z_fr 13 al) : ∃ P', z_RF (z_G xs) [] f 800 P (some (.int 1)) P' := z_use z_o40_0 (C := z_c40_0_0) List.mem_cons_self rfl hS hf
theorem z_op_1811 {xs : List Int32} {N : List Int} {al : Nat → Option Nat} {f : z_Fr} {P : z_H} (hS : z_gs (z_strs (z_G xs)) N al (z_D 1811) f [] P) (hf : z_fr 13 al) : ∃ P', z_RF (z_G xs) [] f 800 P (some (.int 1)) P' := z_use z_o41_0 (C := z_c41_0_0) List.mem_cons_self rfl hS hf
theorem z_op_1836 {xs : List Int32} {N : List Int} {al : Nat → Option Nat} {f : z_Fr} {P : z_H} (hS : z_gs (z_strs (z_G xs)) N al (z_D 1836) f [] P) (hf : z_fr 13 al) : ∃ P', z_RF (z_G xs) [] f 800 P (some (.int 1)) P' := z_use z_o42_0 (C := z_c42_0_0) List.mem_cons_self rfl hS hf
theorem z_op_1873 {xs : List Int32} {N : List Int} {al : Nat → Option Nat} {f : z_Fr} {P : z_H} (hS : z_gs (z_strs (z_G xs)) N al (z_D 1873) f [] P) (hf : z_fr 13 al) : ∃ P', z_RF (z_G xs) [] f 800 P (some (.int 1)) P' := z_use z_o43_0 (C := z_c43_0_0) List.mem_cons_self rfl hS hf
theorem z_op_1910 {xs : List Int32} {N : List Int} {al : Nat → Option Nat} {f : z_Fr} {P : z_H} (hS : z_gs (z_strs (z_G xs)) N al (z_D 1910) f [] P) (hf : z_fr 13 al) : ∃ P', z_RF (z_G xs) [] f 800 P (some (.int 1)) P' := z_use z_o44_0 (C := z_c44_0_0) List.mem_cons_self rfl hS hf
theorem z_p45_0 : z_sle z_idb 13 (z_cls_ 2 (-2147483648) (-1) (z_D 1935)) z_c45_0_0.2.1 = true := by decide +kernel
theorem z_p45_1 : z_sle z_idb 13 (z_cls_ 2 (0) (0) (z_D 1935)) z_c45_1_0.2.1 = true := by decide +kernel
theorem z_p45_2 : z_sle z_idb 13 (z_cls_ 2 (1) (1) (z_D 1935)) z_c45_2_0.2.1 = true := by decide +kernel
theorem z_p45_3 : z_sle z_idb 13 (z_cls_ 2 (2) (2) (z_D 1935)) z_c45_3_0.2.1 = true := by decide +kernel
theorem z_p45_4 : z_sle z_idb 13 (z_cls_ 2 (3) (2147483647) (z_D 1935)) z_c45_4_0.2.1 = true := by decide +kernel
theorem z_op_1935 {xs : List Int32} {N : List Int} {al : Nat → Option Nat} {f : z_Fr} {P : z_H} (hS : z_gs (z_strs (z_G xs)) N al (z_D 1935) f [] P) (hf : z_fr 13 al) : ∃ P', z_RF (z_G xs) [] f 800 P (some (.int 1)) P' := by
  obtain ⟨w2, e2, l2, g2⟩ := z_argv hS hf 1 (by decide)
  have h2 : (-2147483648 ≤ w2 ∧ w2 ≤ -1) ∨ (0 ≤ w2 ∧ w2 ≤ 0) ∨ (1 ≤ w2 ∧ w2 ≤ 1) ∨ (2 ≤ w2 ∧ w2 ≤ 2) ∨ (3 ≤ w2 ∧ w2 ≤ 2147483647) := by omega
  rcases h2 with h2 | h2 | h2 | h2 | h2
  · skip
    exact (fun q => z_use z_o45_0 (C := z_c45_0_0) List.mem_cons_self rfl q.1 q.2) (z_sle_ok z_p45_0 (z_cls_gs (k := 2) (lo := -2147483648) (hi := -1) (fun _ => ⟨w2, e2, by omega, by omega⟩) hS) hf)
  · skip
    exact (fun q => z_use z_o45_1 (C := z_c45_1_0) List.mem_cons_self rfl q.1 q.2) (z_sle_ok z_p45_1 (z_cls_gs (k := 2) (lo := 0) (hi := 0) (fun _ => ⟨w2, e2, by omega, by omega⟩) hS) hf)
  · skip
    exact (fun q => z_use z_o45_2 (C := z_c45_2_0) List.mem_cons_self rfl q.1 q.2) (z_sle_ok z_p45_2 (z_cls_gs (k := 2) (lo := 1) (hi := 1) (fun _ => ⟨w2, e2, by omega, by omega⟩) hS) hf)
  · skip
    exact (fun q => z_use z_o45_3 (C := z_c45_3_0) List.mem_cons_self rfl q.1 q.2) (z_sle_ok z_p45_3 (z_cls_gs (k := 2) (lo := 2) (hi := 2) (fun _ => ⟨w2, e2, by omega, by omega⟩) hS) hf)
  · skip
    exact (fun q => z_use z_o45_4 (C := z_c45_4_0) List.mem_cons_self rfl q.1 q.2) (z_sle_ok z_p45_4 (z_cls_gs (k := 2) (lo := 3) (hi := 2147483647) (fun _ => ⟨w2, e2, by omega, by omega⟩) hS) hf)
theorem z_op_1960 {xs : List Int32} {N : List Int} {al : Nat → Option Nat} {f : z_Fr} {P : z_H} (hS : z_gs (z_strs (z_G xs)) N al (z_D 1960) f [] P) (hf : z_fr 13 al) : ∃ P', z_RF (z_G xs) [] f 800 P (some (.int 1)) P' := z_use z_o46_0 (C := z_c46_0_0) List.mem_cons_self rfl hS hf
theorem z_op_1985 {xs : List Int32} {N : List Int} {al : Nat → Option Nat} {f : z_Fr} {P : z_H} (hS : z_gs (z_strs (z_G xs)) N al (z_D 1985) f [] P) (hf : z_fr 13 al) : ∃ P', z_RF (z_G xs) [] f 800 P (some (.int 1)) P' := z_use z_o47_0 (C := z_c47_0_0) List.mem_cons_self rfl hS hf
theorem z_op_2065 {xs : List Int32} {N : List Int} {al : Nat → Option Nat} {f : z_Fr} {P : z_H} (hS : z_gs (z_strs (z_G xs)) N al (z_D 2065) f [] P) (hf : z_fr 13 al) : ∃ P', z_RF (z_G xs) [] f 800 P (some (.int 1)) P' := z_use z_o49_0 (C := z_c49_0_0) List.mem_cons_self rfl hS hf
end ZGLUE
