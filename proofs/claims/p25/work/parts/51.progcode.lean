section ZPCK
set_option maxRecDepth 100000 in
theorem z_ckc_0 : ∀ q ∈ z_row_0, z_bck (z_okDec q.2.1) q.2.2.2.2.2.2.2.1 = true := yd_row (by decide +kernel)
set_option maxRecDepth 100000 in
theorem z_ckc_1 : ∀ q ∈ z_row_1, z_bck (z_okDec q.2.1) q.2.2.2.2.2.2.2.1 = true := yd_row (by decide +kernel)
set_option maxRecDepth 100000 in
theorem z_ckc_2 : ∀ q ∈ z_row_2, z_bck (z_okDec q.2.1) q.2.2.2.2.2.2.2.1 = true := yd_row (by decide +kernel)
set_option maxRecDepth 100000 in
theorem z_ckc_3 : ∀ q ∈ z_row_3, z_bck (z_okDec q.2.1) q.2.2.2.2.2.2.2.1 = true := yd_row (by decide +kernel)
set_option maxRecDepth 100000 in
theorem z_ckc_4 : ∀ q ∈ z_row_4, z_bck (z_okDec q.2.1) q.2.2.2.2.2.2.2.1 = true := yd_row (by decide +kernel)
set_option maxRecDepth 100000 in
theorem z_ckc_5 : ∀ q ∈ z_row_5, z_bck (z_okDec q.2.1) q.2.2.2.2.2.2.2.1 = true := yd_row (by decide +kernel)
set_option maxRecDepth 100000 in
theorem z_ckc_6 : ∀ q ∈ z_row_6, z_bck (z_okDec q.2.1) q.2.2.2.2.2.2.2.1 = true := yd_row (by decide +kernel)
set_option maxRecDepth 100000 in
theorem z_ckc_7 : ∀ q ∈ z_row_7, z_bck (z_okDec q.2.1) q.2.2.2.2.2.2.2.1 = true := yd_row (by decide +kernel)
set_option maxRecDepth 100000 in
theorem z_ckc_8 : ∀ q ∈ z_row_8, z_bck (z_okDec q.2.1) q.2.2.2.2.2.2.2.1 = true := yd_row (by decide +kernel)
set_option maxRecDepth 100000 in
theorem z_ckc_9 : ∀ q ∈ z_row_9, z_bck (z_okDec q.2.1) q.2.2.2.2.2.2.2.1 = true := yd_row (by decide +kernel)
set_option maxRecDepth 100000 in
theorem z_ckc_10 : ∀ q ∈ z_row_10, z_bck (z_okDec q.2.1) q.2.2.2.2.2.2.2.1 = true := yd_row (by decide +kernel)
set_option maxRecDepth 100000 in
theorem z_ckc_11 : ∀ q ∈ z_row_11, z_bck (z_okDec q.2.1) q.2.2.2.2.2.2.2.1 = true := yd_row (by decide +kernel)
set_option maxRecDepth 100000 in
theorem z_ckc_12 : ∀ q ∈ z_row_12, z_bck (z_okDec q.2.1) q.2.2.2.2.2.2.2.1 = true := yd_row (by decide +kernel)
set_option maxRecDepth 100000 in
theorem z_ckc_13 : ∀ q ∈ z_row_13, z_bck (z_okDec q.2.1) q.2.2.2.2.2.2.2.1 = true := yd_row (by decide +kernel)
set_option maxRecDepth 100000 in
theorem z_ckc_14 : ∀ q ∈ z_row_14, z_bck (z_okDec q.2.1) q.2.2.2.2.2.2.2.1 = true := yd_row (by decide +kernel)
set_option maxRecDepth 100000 in
theorem z_ckc_15 : ∀ q ∈ z_row_15, z_bck (z_okDec q.2.1) q.2.2.2.2.2.2.2.1 = true := yd_row (by decide +kernel)
set_option maxRecDepth 100000 in
theorem z_ckc_16 : ∀ q ∈ z_row_16, z_bck (z_okDec q.2.1) q.2.2.2.2.2.2.2.1 = true := yd_row (by decide +kernel)
set_option maxRecDepth 100000 in
theorem z_ckc_17 : ∀ q ∈ z_row_17, z_bck (z_okDec q.2.1) q.2.2.2.2.2.2.2.1 = true := yd_row (by decide +kernel)
set_option maxRecDepth 100000 in
theorem z_ckc_18 : ∀ q ∈ z_row_18, z_bck (z_okDec q.2.1) q.2.2.2.2.2.2.2.1 = true := yd_row (by decide +kernel)
end ZPCK
