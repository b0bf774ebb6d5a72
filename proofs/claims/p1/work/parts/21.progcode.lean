section ZPCK
theorem z_bck_app {α : Type} {f : Nat → α → Bool} {a b : z_bm α} (ha : z_bck f a = true) (hb : z_bck f b = true) : z_bck f (a ++ b) = true := by
  unfold z_bck at ha hb ⊢
  rw [List.all_append, ha, hb]
  rfl
set_option maxRecDepth 100000 in
theorem z_ckb_291_0 : z_bck (z_okDec code) z_code_291_0 = true := by decide +kernel
set_option maxRecDepth 100000 in
theorem z_ckb_291_1 : z_bck (z_okDec code) z_code_291_1 = true := by decide +kernel
set_option maxRecDepth 100000 in
theorem z_ckb_291_2 : z_bck (z_okDec code) z_code_291_2 = true := by decide +kernel
set_option maxRecDepth 100000 in
theorem z_ckb_291_3 : z_bck (z_okDec code) z_code_291_3 = true := by decide +kernel
set_option maxRecDepth 100000 in
theorem z_ckb_291_4 : z_bck (z_okDec code) z_code_291_4 = true := by decide +kernel
set_option maxRecDepth 100000 in
theorem z_ckb_291_5 : z_bck (z_okDec code) z_code_291_5 = true := by decide +kernel
set_option maxRecDepth 100000 in
theorem z_ckb_291_6 : z_bck (z_okDec code) z_code_291_6 = true := by decide +kernel
set_option maxRecDepth 100000 in
theorem z_ckb_291_7 : z_bck (z_okDec code) z_code_291_7 = true := by decide +kernel
set_option maxRecDepth 100000 in
theorem z_ckb_291_8 : z_bck (z_okDec code) z_code_291_8 = true := by decide +kernel
set_option maxRecDepth 100000 in
theorem z_ckb_291_9 : z_bck (z_okDec code) z_code_291_9 = true := by decide +kernel
set_option maxRecDepth 100000 in
theorem z_ckb_291_10 : z_bck (z_okDec code) z_code_291_10 = true := by decide +kernel
set_option maxRecDepth 100000 in
theorem z_ckb_291_11 : z_bck (z_okDec code) z_code_291_11 = true := by decide +kernel
set_option maxRecDepth 100000 in
theorem z_ckb_291_12 : z_bck (z_okDec code) z_code_291_12 = true := by decide +kernel
set_option maxRecDepth 100000 in
theorem z_ckb_291_13 : z_bck (z_okDec code) z_code_291_13 = true := by decide +kernel
set_option maxRecDepth 100000 in
theorem z_ckb_291_14 : z_bck (z_okDec code) z_code_291_14 = true := by decide +kernel
set_option maxRecDepth 100000 in
theorem z_ckb_291_15 : z_bck (z_okDec code) z_code_291_15 = true := by decide +kernel
set_option maxRecDepth 100000 in
theorem z_ckb_291_16 : z_bck (z_okDec code) z_code_291_16 = true := by decide +kernel
set_option maxRecDepth 100000 in
theorem z_ckb_291_17 : z_bck (z_okDec code) z_code_291_17 = true := by decide +kernel
set_option maxRecDepth 100000 in
theorem z_ckb_291_18 : z_bck (z_okDec code) z_code_291_18 = true := by decide +kernel
set_option maxRecDepth 100000 in
theorem z_ckb_291_19 : z_bck (z_okDec code) z_code_291_19 = true := by decide +kernel
set_option maxRecDepth 100000 in
theorem z_ckb_291_20 : z_bck (z_okDec code) z_code_291_20 = true := by decide +kernel
set_option maxRecDepth 100000 in
theorem z_ckb_291_21 : z_bck (z_okDec code) z_code_291_21 = true := by decide +kernel
set_option maxRecDepth 100000 in
theorem z_ckb_291_22 : z_bck (z_okDec code) z_code_291_22 = true := by decide +kernel
set_option maxRecDepth 100000 in
theorem z_ckb_291_23 : z_bck (z_okDec code) z_code_291_23 = true := by decide +kernel
set_option maxRecDepth 100000 in
theorem z_ckb_291_24 : z_bck (z_okDec code) z_code_291_24 = true := by decide +kernel
set_option maxRecDepth 100000 in
theorem z_ckb_291_25 : z_bck (z_okDec code) z_code_291_25 = true := by decide +kernel
set_option maxRecDepth 100000 in
theorem z_ckb_291_26 : z_bck (z_okDec code) z_code_291_26 = true := by decide +kernel
set_option maxRecDepth 100000 in
theorem z_ckb_291_27 : z_bck (z_okDec code) z_code_291_27 = true := by decide +kernel
theorem z_ckb_291 : z_bck (z_okDec code) z_code_291 = true := z_bck_app z_ckb_291_0 (z_bck_app z_ckb_291_1 (z_bck_app z_ckb_291_2 (z_bck_app z_ckb_291_3 (z_bck_app z_ckb_291_4 (z_bck_app z_ckb_291_5 (z_bck_app z_ckb_291_6 (z_bck_app z_ckb_291_7 (z_bck_app z_ckb_291_8 (z_bck_app z_ckb_291_9 (z_bck_app z_ckb_291_10 (z_bck_app z_ckb_291_11 (z_bck_app z_ckb_291_12 (z_bck_app z_ckb_291_13 (z_bck_app z_ckb_291_14 (z_bck_app z_ckb_291_15 (z_bck_app z_ckb_291_16 (z_bck_app z_ckb_291_17 (z_bck_app z_ckb_291_18 (z_bck_app z_ckb_291_19 (z_bck_app z_ckb_291_20 (z_bck_app z_ckb_291_21 (z_bck_app z_ckb_291_22 (z_bck_app z_ckb_291_23 (z_bck_app z_ckb_291_24 (z_bck_app z_ckb_291_25 (z_bck_app z_ckb_291_26 z_ckb_291_27))))))))))))))))))))))))))
set_option maxRecDepth 100000 in
theorem z_ckc_0 : ∀ q ∈ z_row_0, z_bck (z_okDec q.2.1) q.2.2.2.2.2.2.2.1 = true := List.all_eq_true.mp (by decide +kernel)
set_option maxRecDepth 100000 in
theorem z_ckc_1 : ∀ q ∈ z_row_1, z_bck (z_okDec q.2.1) q.2.2.2.2.2.2.2.1 = true := List.all_eq_true.mp (by decide +kernel)
set_option maxRecDepth 100000 in
theorem z_ckc_2 : ∀ q ∈ z_row_2, z_bck (z_okDec q.2.1) q.2.2.2.2.2.2.2.1 = true := List.all_eq_true.mp (by decide +kernel)
set_option maxRecDepth 100000 in
theorem z_ckc_3 : ∀ q ∈ z_row_3, z_bck (z_okDec q.2.1) q.2.2.2.2.2.2.2.1 = true := List.all_eq_true.mp (by decide +kernel)
set_option maxRecDepth 100000 in
theorem z_ckc_4 : ∀ q ∈ z_row_4, z_bck (z_okDec q.2.1) q.2.2.2.2.2.2.2.1 = true := List.all_eq_true.mp (by decide +kernel)
set_option maxRecDepth 100000 in
theorem z_ckc_5 : ∀ q ∈ z_row_5, z_bck (z_okDec q.2.1) q.2.2.2.2.2.2.2.1 = true := List.all_eq_true.mp (by decide +kernel)
set_option maxRecDepth 100000 in
theorem z_ckc_6 : ∀ q ∈ z_row_6, z_bck (z_okDec q.2.1) q.2.2.2.2.2.2.2.1 = true := List.all_eq_true.mp (by decide +kernel)
set_option maxRecDepth 100000 in
theorem z_ckc_7 : ∀ q ∈ z_row_7, z_bck (z_okDec q.2.1) q.2.2.2.2.2.2.2.1 = true := List.all_eq_true.mp (by decide +kernel)
set_option maxRecDepth 100000 in
theorem z_ckc_8 : ∀ q ∈ z_row_8, z_bck (z_okDec q.2.1) q.2.2.2.2.2.2.2.1 = true := List.all_eq_true.mp (by decide +kernel)
set_option maxRecDepth 100000 in
theorem z_ckc_9 : ∀ q ∈ z_row_9, z_bck (z_okDec q.2.1) q.2.2.2.2.2.2.2.1 = true := List.all_eq_true.mp (by decide +kernel)
set_option maxRecDepth 100000 in
theorem z_ckc_10 : ∀ q ∈ z_row_10, z_bck (z_okDec q.2.1) q.2.2.2.2.2.2.2.1 = true := List.all_eq_true.mp (by decide +kernel)
set_option maxRecDepth 100000 in
theorem z_ckc_11 : ∀ q ∈ z_row_11, z_bck (z_okDec q.2.1) q.2.2.2.2.2.2.2.1 = true := List.all_eq_true.mp (by decide +kernel)
set_option maxRecDepth 100000 in
theorem z_ckc_12 : ∀ q ∈ z_row_12, z_bck (z_okDec q.2.1) q.2.2.2.2.2.2.2.1 = true := List.all_eq_true.mp (by decide +kernel)
set_option maxRecDepth 100000 in
theorem z_ckc_13 : ∀ q ∈ z_row_13, z_bck (z_okDec q.2.1) q.2.2.2.2.2.2.2.1 = true := List.all_eq_true.mp (by decide +kernel)
set_option maxRecDepth 100000 in
theorem z_ckc_14 : ∀ q ∈ z_row_14, z_bck (z_okDec q.2.1) q.2.2.2.2.2.2.2.1 = true := List.all_eq_true.mp (by decide +kernel)
set_option maxRecDepth 100000 in
theorem z_ckc_15 : ∀ q ∈ z_row_15, z_bck (z_okDec q.2.1) q.2.2.2.2.2.2.2.1 = true := List.all_eq_true.mp (by decide +kernel)
set_option maxRecDepth 100000 in
theorem z_ckc_16 : ∀ q ∈ z_row_16, z_bck (z_okDec q.2.1) q.2.2.2.2.2.2.2.1 = true := List.all_eq_true.mp (by decide +kernel)
set_option maxRecDepth 100000 in
theorem z_ckc_17 : ∀ q ∈ z_row_17, z_bck (z_okDec q.2.1) q.2.2.2.2.2.2.2.1 = true := List.all_eq_true.mp (by decide +kernel)
set_option maxRecDepth 100000 in
theorem z_ckb_288 : z_bck (z_okDec z_meth_288.2.1) z_meth_288.2.2.2.2.2.2.2.1 = true := by decide +kernel
set_option maxRecDepth 100000 in
theorem z_ckb_289 : z_bck (z_okDec z_meth_289.2.1) z_meth_289.2.2.2.2.2.2.2.1 = true := by decide +kernel
set_option maxRecDepth 100000 in
theorem z_ckb_290 : z_bck (z_okDec z_meth_290.2.1) z_meth_290.2.2.2.2.2.2.2.1 = true := by decide +kernel
theorem z_ckc_18 : ∀ q ∈ z_row_18, z_bck (z_okDec q.2.1) q.2.2.2.2.2.2.2.1 = true := by
  intro q hq
  unfold z_row_18 at hq
  simp only [List.mem_cons, List.not_mem_nil, or_false] at hq
  rcases hq with rfl | rfl | rfl | rfl
  · exact z_ckb_288
  · exact z_ckb_289
  · exact z_ckb_290
  · exact z_ckb_291
end ZPCK
