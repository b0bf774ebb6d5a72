section ZPCK
theorem z_bck_app {α : Type} {f : Nat → α → Bool} {a b : z_bm α} (ha : z_bck f a = true) (hb : z_bck f b = true) : z_bck f (a ++ b) = true := by
  unfold z_bck at ha hb ⊢
  rw [List.all_append, ha, hb]
  rfl
set_option maxRecDepth 100000 in
theorem z_ckb_290_0 : z_bck (z_okDec code) z_code_290_0 = true := by decide +kernel
set_option maxRecDepth 100000 in
theorem z_ckb_290_1 : z_bck (z_okDec code) z_code_290_1 = true := by decide +kernel
set_option maxRecDepth 100000 in
theorem z_ckb_290_2 : z_bck (z_okDec code) z_code_290_2 = true := by decide +kernel
set_option maxRecDepth 100000 in
theorem z_ckb_290_3 : z_bck (z_okDec code) z_code_290_3 = true := by decide +kernel
set_option maxRecDepth 100000 in
theorem z_ckb_290_4 : z_bck (z_okDec code) z_code_290_4 = true := by decide +kernel
set_option maxRecDepth 100000 in
theorem z_ckb_290_5 : z_bck (z_okDec code) z_code_290_5 = true := by decide +kernel
set_option maxRecDepth 100000 in
theorem z_ckb_290_6 : z_bck (z_okDec code) z_code_290_6 = true := by decide +kernel
set_option maxRecDepth 100000 in
theorem z_ckb_290_7 : z_bck (z_okDec code) z_code_290_7 = true := by decide +kernel
set_option maxRecDepth 100000 in
theorem z_ckb_290_8 : z_bck (z_okDec code) z_code_290_8 = true := by decide +kernel
set_option maxRecDepth 100000 in
theorem z_ckb_290_9 : z_bck (z_okDec code) z_code_290_9 = true := by decide +kernel
set_option maxRecDepth 100000 in
theorem z_ckb_290_10 : z_bck (z_okDec code) z_code_290_10 = true := by decide +kernel
set_option maxRecDepth 100000 in
theorem z_ckb_290_11 : z_bck (z_okDec code) z_code_290_11 = true := by decide +kernel
set_option maxRecDepth 100000 in
theorem z_ckb_290_12 : z_bck (z_okDec code) z_code_290_12 = true := by decide +kernel
set_option maxRecDepth 100000 in
theorem z_ckb_290_13 : z_bck (z_okDec code) z_code_290_13 = true := by decide +kernel
set_option maxRecDepth 100000 in
theorem z_ckb_290_14 : z_bck (z_okDec code) z_code_290_14 = true := by decide +kernel
set_option maxRecDepth 100000 in
theorem z_ckb_290_15 : z_bck (z_okDec code) z_code_290_15 = true := by decide +kernel
set_option maxRecDepth 100000 in
theorem z_ckb_290_16 : z_bck (z_okDec code) z_code_290_16 = true := by decide +kernel
set_option maxRecDepth 100000 in
theorem z_ckb_290_17 : z_bck (z_okDec code) z_code_290_17 = true := by decide +kernel
set_option maxRecDepth 100000 in
theorem z_ckb_290_18 : z_bck (z_okDec code) z_code_290_18 = true := by decide +kernel
set_option maxRecDepth 100000 in
theorem z_ckb_290_19 : z_bck (z_okDec code) z_code_290_19 = true := by decide +kernel
set_option maxRecDepth 100000 in
theorem z_ckb_290_20 : z_bck (z_okDec code) z_code_290_20 = true := by decide +kernel
set_option maxRecDepth 100000 in
theorem z_ckb_290_21 : z_bck (z_okDec code) z_code_290_21 = true := by decide +kernel
set_option maxRecDepth 100000 in
theorem z_ckb_290_22 : z_bck (z_okDec code) z_code_290_22 = true := by decide +kernel
set_option maxRecDepth 100000 in
theorem z_ckb_290_23 : z_bck (z_okDec code) z_code_290_23 = true := by decide +kernel
set_option maxRecDepth 100000 in
theorem z_ckb_290_24 : z_bck (z_okDec code) z_code_290_24 = true := by decide +kernel
set_option maxRecDepth 100000 in
theorem z_ckb_290_25 : z_bck (z_okDec code) z_code_290_25 = true := by decide +kernel
set_option maxRecDepth 100000 in
theorem z_ckb_290_26 : z_bck (z_okDec code) z_code_290_26 = true := by decide +kernel
theorem z_ckb_290 : z_bck (z_okDec code) z_code_290 = true := z_bck_app z_ckb_290_0 (z_bck_app z_ckb_290_1 (z_bck_app z_ckb_290_2 (z_bck_app z_ckb_290_3 (z_bck_app z_ckb_290_4 (z_bck_app z_ckb_290_5 (z_bck_app z_ckb_290_6 (z_bck_app z_ckb_290_7 (z_bck_app z_ckb_290_8 (z_bck_app z_ckb_290_9 (z_bck_app z_ckb_290_10 (z_bck_app z_ckb_290_11 (z_bck_app z_ckb_290_12 (z_bck_app z_ckb_290_13 (z_bck_app z_ckb_290_14 (z_bck_app z_ckb_290_15 (z_bck_app z_ckb_290_16 (z_bck_app z_ckb_290_17 (z_bck_app z_ckb_290_18 (z_bck_app z_ckb_290_19 (z_bck_app z_ckb_290_20 (z_bck_app z_ckb_290_21 (z_bck_app z_ckb_290_22 (z_bck_app z_ckb_290_23 (z_bck_app z_ckb_290_24 (z_bck_app z_ckb_290_25 z_ckb_290_26)))))))))))))))))))))))))
set_option maxRecDepth 100000 in
theorem z_ckc_0 : ∀ q ∈ z_row_0, z_bck (z_okDec q.2.1) q.2.2.2.2.2.2.2.1 = true := List.all_eq_true.mp (by decide +kernel)
set_option maxRecDepth 100000 in
theorem z_ckc_1 : ∀ q ∈ z_row_1, z_bck (z_okDec q.2.1) q.2.2.2.2.2.2.2.1 = true := List.all_eq_true.mp (by decide +kernel)
set_option maxRecDepth 100000 in
theorem z_ckc_2 : ∀ q ∈ z_row_2, z_bck (z_okDec q.2.1) q.2.2.2.2.2.2.2.1 = true := List.all_eq_true.mp (by decide +kernel)
set_option maxRecDepth 100000 in
theorem z_ckc_3 : ∀ q ∈ z_row_3, z_bck (z_okDec q.2.1) q.2.2.2.2.2.2.2.1 = true := List.all_eq_true.mp (by decide +kernel)
set_option maxRecDepth 100000 in
theorem z_ckc_4 : ∀ q ∈ z_row_4, z_bck (z_okDec q.2.1) q.2.2.2.2.2.2.2.1 = true := List.all_eq_true.mp (by decide +kernel)
set_option maxRecDepth 100000 in
theorem z_ckc_5 : ∀ q ∈ z_row_5, z_bck (z_okDec q.2.1) q.2.2.2.2.2.2.2.1 = true := List.all_eq_true.mp (by decide +kernel)
set_option maxRecDepth 100000 in
theorem z_ckc_6 : ∀ q ∈ z_row_6, z_bck (z_okDec q.2.1) q.2.2.2.2.2.2.2.1 = true := List.all_eq_true.mp (by decide +kernel)
set_option maxRecDepth 100000 in
theorem z_ckc_7 : ∀ q ∈ z_row_7, z_bck (z_okDec q.2.1) q.2.2.2.2.2.2.2.1 = true := List.all_eq_true.mp (by decide +kernel)
set_option maxRecDepth 100000 in
theorem z_ckc_8 : ∀ q ∈ z_row_8, z_bck (z_okDec q.2.1) q.2.2.2.2.2.2.2.1 = true := List.all_eq_true.mp (by decide +kernel)
set_option maxRecDepth 100000 in
theorem z_ckc_9 : ∀ q ∈ z_row_9, z_bck (z_okDec q.2.1) q.2.2.2.2.2.2.2.1 = true := List.all_eq_true.mp (by decide +kernel)
set_option maxRecDepth 100000 in
theorem z_ckc_10 : ∀ q ∈ z_row_10, z_bck (z_okDec q.2.1) q.2.2.2.2.2.2.2.1 = true := List.all_eq_true.mp (by decide +kernel)
set_option maxRecDepth 100000 in
theorem z_ckc_11 : ∀ q ∈ z_row_11, z_bck (z_okDec q.2.1) q.2.2.2.2.2.2.2.1 = true := List.all_eq_true.mp (by decide +kernel)
set_option maxRecDepth 100000 in
theorem z_ckc_12 : ∀ q ∈ z_row_12, z_bck (z_okDec q.2.1) q.2.2.2.2.2.2.2.1 = true := List.all_eq_true.mp (by decide +kernel)
set_option maxRecDepth 100000 in
theorem z_ckc_13 : ∀ q ∈ z_row_13, z_bck (z_okDec q.2.1) q.2.2.2.2.2.2.2.1 = true := List.all_eq_true.mp (by decide +kernel)
set_option maxRecDepth 100000 in
theorem z_ckc_14 : ∀ q ∈ z_row_14, z_bck (z_okDec q.2.1) q.2.2.2.2.2.2.2.1 = true := List.all_eq_true.mp (by decide +kernel)
set_option maxRecDepth 100000 in
theorem z_ckc_15 : ∀ q ∈ z_row_15, z_bck (z_okDec q.2.1) q.2.2.2.2.2.2.2.1 = true := List.all_eq_true.mp (by decide +kernel)
set_option maxRecDepth 100000 in
theorem z_ckc_16 : ∀ q ∈ z_row_16, z_bck (z_okDec q.2.1) q.2.2.2.2.2.2.2.1 = true := List.all_eq_true.mp (by decide +kernel)
set_option maxRecDepth 100000 in
theorem z_ckc_17 : ∀ q ∈ z_row_17, z_bck (z_okDec q.2.1) q.2.2.2.2.2.2.2.1 = true := List.all_eq_true.mp (by decide +kernel)
set_option maxRecDepth 100000 in
theorem z_ckb_288 : z_bck (z_okDec z_meth_288.2.1) z_meth_288.2.2.2.2.2.2.2.1 = true := by decide +kernel
set_option maxRecDepth 100000 in
theorem z_ckb_289 : z_bck (z_okDec z_meth_289.2.1) z_meth_289.2.2.2.2.2.2.2.1 = true := by decide +kernel
set_option maxRecDepth 100000 in
theorem z_ckb_291 : z_bck (z_okDec z_meth_291.2.1) z_meth_291.2.2.2.2.2.2.2.1 = true := by decide +kernel
theorem z_ckc_18 : ∀ q ∈ z_row_18, z_bck (z_okDec q.2.1) q.2.2.2.2.2.2.2.1 = true := by
  intro q hq
  unfold z_row_18 at hq
  simp only [List.mem_cons, List.not_mem_nil, or_false] at hq
  rcases hq with rfl | rfl | rfl | rfl
  · exact z_ckb_288
  · exact z_ckb_289
  · exact z_ckb_290
  · exact z_ckb_291
end ZPCK
