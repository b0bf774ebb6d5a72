section ZPCK3
set_option maxRecDepth 100000 in
theorem z_ckp_0 : ∀ q ∈ z_row_0, z_ckP z_PL z_CT q = true := List.all_eq_true.mp (by decide +kernel)
set_option maxRecDepth 100000 in
theorem z_ckp_1 : ∀ q ∈ z_row_1, z_ckP z_PL z_CT q = true := List.all_eq_true.mp (by decide +kernel)
set_option maxRecDepth 100000 in
theorem z_ckp_2 : ∀ q ∈ z_row_2, z_ckP z_PL z_CT q = true := List.all_eq_true.mp (by decide +kernel)
set_option maxRecDepth 100000 in
theorem z_ckp_3 : ∀ q ∈ z_row_3, z_ckP z_PL z_CT q = true := List.all_eq_true.mp (by decide +kernel)
set_option maxRecDepth 100000 in
theorem z_ckp_4 : ∀ q ∈ z_row_4, z_ckP z_PL z_CT q = true := List.all_eq_true.mp (by decide +kernel)
set_option maxRecDepth 100000 in
theorem z_ckp_5 : ∀ q ∈ z_row_5, z_ckP z_PL z_CT q = true := List.all_eq_true.mp (by decide +kernel)
set_option maxRecDepth 100000 in
theorem z_ckp_6 : ∀ q ∈ z_row_6, z_ckP z_PL z_CT q = true := List.all_eq_true.mp (by decide +kernel)
set_option maxRecDepth 100000 in
theorem z_ckp_7 : ∀ q ∈ z_row_7, z_ckP z_PL z_CT q = true := List.all_eq_true.mp (by decide +kernel)
set_option maxRecDepth 100000 in
theorem z_ckp_8 : ∀ q ∈ z_row_8, z_ckP z_PL z_CT q = true := List.all_eq_true.mp (by decide +kernel)
set_option maxRecDepth 100000 in
theorem z_ckp_9 : ∀ q ∈ z_row_9, z_ckP z_PL z_CT q = true := List.all_eq_true.mp (by decide +kernel)
set_option maxRecDepth 100000 in
theorem z_ckp_10 : ∀ q ∈ z_row_10, z_ckP z_PL z_CT q = true := List.all_eq_true.mp (by decide +kernel)
set_option maxRecDepth 100000 in
theorem z_ckp_11 : ∀ q ∈ z_row_11, z_ckP z_PL z_CT q = true := List.all_eq_true.mp (by decide +kernel)
set_option maxRecDepth 100000 in
theorem z_ckp_12 : ∀ q ∈ z_row_12, z_ckP z_PL z_CT q = true := List.all_eq_true.mp (by decide +kernel)
set_option maxRecDepth 100000 in
theorem z_ckp_13 : ∀ q ∈ z_row_13, z_ckP z_PL z_CT q = true := List.all_eq_true.mp (by decide +kernel)
set_option maxRecDepth 100000 in
theorem z_ckp_14 : ∀ q ∈ z_row_14, z_ckP z_PL z_CT q = true := List.all_eq_true.mp (by decide +kernel)
set_option maxRecDepth 100000 in
theorem z_ckp_15 : ∀ q ∈ z_row_15, z_ckP z_PL z_CT q = true := List.all_eq_true.mp (by decide +kernel)
set_option maxRecDepth 100000 in
theorem z_ckp_16 : ∀ q ∈ z_row_16, z_ckP z_PL z_CT q = true := List.all_eq_true.mp (by decide +kernel)
set_option maxRecDepth 100000 in
theorem z_ckp_17 : ∀ q ∈ z_row_17, z_ckP z_PL z_CT q = true := List.all_eq_true.mp (by decide +kernel)
set_option maxRecDepth 100000 in
theorem z_ckp_18 : ∀ q ∈ z_row_18, z_ckP z_PL z_CT q = true := List.all_eq_true.mp (by decide +kernel)
set_option maxRecDepth 100000 in
theorem z_ckl_0 : z_ckPl z_M z_CT z_FTs z_atys z_rsl z_pool_0 = true := by decide +kernel
set_option maxRecDepth 100000 in
theorem z_ckl_1 : z_ckPl z_M z_CT z_FTs z_atys z_rsl z_pool_1 = true := by decide +kernel
set_option maxRecDepth 100000 in
theorem z_ckl_2 : z_ckPl z_M z_CT z_FTs z_atys z_rsl z_pool_2 = true := by decide +kernel
set_option maxRecDepth 100000 in
theorem z_ckl_3 : z_ckPl z_M z_CT z_FTs z_atys z_rsl z_pool_3 = true := by decide +kernel
set_option maxRecDepth 100000 in
theorem z_ckl_4 : z_ckPl z_M z_CT z_FTs z_atys z_rsl z_pool_4 = true := by decide +kernel
set_option maxRecDepth 100000 in
theorem z_ckl_5 : z_ckPl z_M z_CT z_FTs z_atys z_rsl z_pool_5 = true := by decide +kernel
set_option maxRecDepth 100000 in
theorem z_ckl_6 : z_ckPl z_M z_CT z_FTs z_atys z_rsl z_pool_6 = true := by decide +kernel
set_option maxRecDepth 100000 in
theorem z_ckl_7 : z_ckPl z_M z_CT z_FTs z_atys z_rsl z_pool_7 = true := by decide +kernel
set_option maxRecDepth 100000 in
theorem z_ckl_8 : z_ckPl z_M z_CT z_FTs z_atys z_rsl z_pool_8 = true := by decide +kernel
set_option maxRecDepth 100000 in
theorem z_ckl_9 : z_ckPl z_M z_CT z_FTs z_atys z_rsl z_pool_9 = true := by decide +kernel
set_option maxRecDepth 100000 in
theorem z_ckl_10 : z_ckPl z_M z_CT z_FTs z_atys z_rsl z_pool_10 = true := by decide +kernel
set_option maxRecDepth 100000 in
theorem z_ckl_11 : z_ckPl z_M z_CT z_FTs z_atys z_rsl z_pool_11 = true := by decide +kernel
set_option maxRecDepth 100000 in
theorem z_ckl_12 : z_ckPl z_M z_CT z_FTs z_atys z_rsl z_pool_12 = true := by decide +kernel
set_option maxRecDepth 100000 in
theorem z_ckl_13 : z_ckPl z_M z_CT z_FTs z_atys z_rsl z_pool_13 = true := by decide +kernel
set_option maxRecDepth 100000 in
theorem z_ckl_14 : z_ckPl z_M z_CT z_FTs z_atys z_rsl z_pool_14 = true := by decide +kernel
set_option maxRecDepth 100000 in
theorem z_ckl_15 : z_ckPl z_M z_CT z_FTs z_atys z_rsl z_pool_15 = true := by decide +kernel
set_option maxRecDepth 100000 in
theorem z_ckl_16 : z_ckPl z_M z_CT z_FTs z_atys z_rsl z_pool_16 = true := by decide +kernel
theorem z_prog_code : ∀ r ∈ z_M, ∀ q ∈ r, z_bck (z_okDec q.2.1) q.2.2.2.2.2.2.2.1 = true := by
  intro r hr
  unfold z_M at hr
  simp only [List.mem_cons, List.not_mem_nil, or_false] at hr
  rcases hr with rfl | rfl | rfl | rfl | rfl | rfl | rfl | rfl | rfl | rfl | rfl | rfl | rfl | rfl | rfl | rfl | rfl | rfl | rfl
  · exact z_ckc_0
  · exact z_ckc_1
  · exact z_ckc_2
  · exact z_ckc_3
  · exact z_ckc_4
  · exact z_ckc_5
  · exact z_ckc_6
  · exact z_ckc_7
  · exact z_ckc_8
  · exact z_ckc_9
  · exact z_ckc_10
  · exact z_ckc_11
  · exact z_ckc_12
  · exact z_ckc_13
  · exact z_ckc_14
  · exact z_ckc_15
  · exact z_ckc_16
  · exact z_ckc_17
  · exact z_ckc_18
set_option maxRecDepth 100000 in
theorem z_prog_all : z_ckAll z_M z_PL z_CT z_FTs z_LW z_acl z_atys z_rsl (k2_sels lw_privs) z_gws z_aws := by
  refine ⟨?_, ?_, ?_, by decide +kernel, by decide +kernel⟩
  · intro r hr
    unfold z_PL at hr
    simp only [List.mem_cons, List.not_mem_nil, or_false] at hr
    rcases hr with rfl | rfl | rfl | rfl | rfl | rfl | rfl | rfl | rfl | rfl | rfl | rfl | rfl | rfl | rfl | rfl | rfl
    · exact z_ckl_0
    · exact z_ckl_1
    · exact z_ckl_2
    · exact z_ckl_3
    · exact z_ckl_4
    · exact z_ckl_5
    · exact z_ckl_6
    · exact z_ckl_7
    · exact z_ckl_8
    · exact z_ckl_9
    · exact z_ckl_10
    · exact z_ckl_11
    · exact z_ckl_12
    · exact z_ckl_13
    · exact z_ckl_14
    · exact z_ckl_15
    · exact z_ckl_16
  · intro r hr
    unfold z_M at hr
    simp only [List.mem_cons, List.not_mem_nil, or_false] at hr
    rcases hr with rfl | rfl | rfl | rfl | rfl | rfl | rfl | rfl | rfl | rfl | rfl | rfl | rfl | rfl | rfl | rfl | rfl | rfl | rfl
    · exact z_ckr_0
    · exact z_ckr_1
    · exact z_ckr_2
    · exact z_ckr_3
    · exact z_ckr_4
    · exact z_ckr_5
    · exact z_ckr_6
    · exact z_ckr_7
    · exact z_ckr_8
    · exact z_ckr_9
    · exact z_ckr_10
    · exact z_ckr_11
    · exact z_ckr_12
    · exact z_ckr_13
    · exact z_ckr_14
    · exact z_ckr_15
    · exact z_ckr_16
    · exact z_ckr_17
    · exact z_ckr_18
  · intro r hr
    unfold z_M at hr
    simp only [List.mem_cons, List.not_mem_nil, or_false] at hr
    rcases hr with rfl | rfl | rfl | rfl | rfl | rfl | rfl | rfl | rfl | rfl | rfl | rfl | rfl | rfl | rfl | rfl | rfl | rfl | rfl
    · exact z_ckp_0
    · exact z_ckp_1
    · exact z_ckp_2
    · exact z_ckp_3
    · exact z_ckp_4
    · exact z_ckp_5
    · exact z_ckp_6
    · exact z_ckp_7
    · exact z_ckp_8
    · exact z_ckp_9
    · exact z_ckp_10
    · exact z_ckp_11
    · exact z_ckp_12
    · exact z_ckp_13
    · exact z_ckp_14
    · exact z_ckp_15
    · exact z_ckp_16
    · exact z_ckp_17
    · exact z_ckp_18
theorem z_prog_ok (xs : List Int32) : z_OK (z_G xs) (z_nm z_M) (z_bt z_M) (z_cl0 z_CT) z_atys (z_Ts (k2_sels lw_privs)) z_Ns z_rsl := z_tab_ok z_prog_code z_prog_all
end ZPCK3
