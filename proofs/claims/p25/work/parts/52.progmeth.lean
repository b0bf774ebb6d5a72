section ZPCK2
theorem yd_pn_0 : plainName "ChaffInTheWind" = true := by decide +kernel
theorem yd_pn_1 : plainName "ChaffInTheWind$Signs" = true := by decide +kernel
theorem yd_pn_2 : plainName "ChaffInTheWind$Row" = true := by decide +kernel
theorem yd_pn_3 : plainName "ChaffInTheWind$Barn" = true := by decide +kernel
theorem yd_pn_4 : plainName "ChaffInTheWind$Flight" = true := by decide +kernel
theorem yd_pn_5 : plainName "ChaffInTheWind$Store" = true := by decide +kernel
theorem yd_pn_6 : plainName "ChaffInTheWind$Gusts" = true := by decide +kernel
theorem yd_pn_7 : plainName "ChaffInTheWind$Market" = true := by decide +kernel
theorem yd_pn_8 : plainName "ChaffInTheWind$Formula" = true := by decide +kernel
theorem yd_pn_9 : plainName "java/lang/String" = true := by decide +kernel
theorem yd_pn_10 : plainName "java/lang/StringLatin1" = true := by decide +kernel
theorem yd_pn_11 : plainName "java/util/Arrays" = true := by decide +kernel
theorem yd_pn_12 : plainName "ChaffInTheWind$Pass" = true := by decide +kernel
theorem yd_pn_13 : plainName "java/lang/Integer" = true := by decide +kernel
theorem yd_pn_14 : plainName "ChaffInTheWindModel" = true := by decide +kernel
theorem yd_pd_0 : (parseMethodDescriptor "()V").map (fun d => d.parameters.length) = some 0 := by decide +kernel
theorem yd_pd_1 : (parseMethodDescriptor "(I)I").map (fun d => d.parameters.length) = some 1 := by decide +kernel
theorem yd_pd_2 : (parseMethodDescriptor "(I)Z").map (fun d => d.parameters.length) = some 1 := by decide +kernel
theorem yd_pd_3 : (parseMethodDescriptor "()I").map (fun d => d.parameters.length) = some 0 := by decide +kernel
theorem yd_pd_4 : (parseMethodDescriptor "(I)V").map (fun d => d.parameters.length) = some 1 := by decide +kernel
theorem yd_pd_5 : (parseMethodDescriptor "(II)I").map (fun d => d.parameters.length) = some 2 := by decide +kernel
theorem yd_pd_6 : (parseMethodDescriptor "(LChaffInTheWind$Signs;)I").map (fun d => d.parameters.length) = some 1 := by decide +kernel
theorem yd_pd_7 : (parseMethodDescriptor "()Z").map (fun d => d.parameters.length) = some 0 := by decide +kernel
theorem yd_pd_8 : (parseMethodDescriptor "(LChaffInTheWind$Signs;)Z").map (fun d => d.parameters.length) = some 1 := by decide +kernel
theorem yd_pd_9 : (parseMethodDescriptor "(C)Z").map (fun d => d.parameters.length) = some 1 := by decide +kernel
theorem yd_pd_10 : (parseMethodDescriptor "(III)I").map (fun d => d.parameters.length) = some 3 := by decide +kernel
theorem yd_pd_11 : (parseMethodDescriptor "(LChaffInTheWind$Signs;I)Z").map (fun d => d.parameters.length) = some 2 := by decide +kernel
theorem yd_pd_12 : (parseMethodDescriptor "(Ljava/lang/String;)I").map (fun d => d.parameters.length) = some 1 := by decide +kernel
theorem yd_pd_13 : (parseMethodDescriptor "()B").map (fun d => d.parameters.length) = some 0 := by decide +kernel
theorem yd_pd_14 : (parseMethodDescriptor "([BIII)I").map (fun d => d.parameters.length) = some 4 := by decide +kernel
theorem yd_pd_15 : (parseMethodDescriptor "([II)V").map (fun d => d.parameters.length) = some 2 := by decide +kernel
theorem yd_pd_16 : (parseMethodDescriptor "(LChaffInTheWind$Signs;Ljava/lang/String;)Z").map (fun d => d.parameters.length) = some 2 := by decide +kernel
theorem yd_pd_17 : (parseMethodDescriptor "(LChaffInTheWind$Signs;Ljava/lang/String;I)Z").map (fun d => d.parameters.length) = some 3 := by decide +kernel
theorem yd_pd_18 : (parseMethodDescriptor "(I)[I").map (fun d => d.parameters.length) = some 1 := by decide +kernel
theorem yd_pd_19 : (parseMethodDescriptor "(IIIII)I").map (fun d => d.parameters.length) = some 5 := by decide +kernel
theorem yd_pd_20 : (parseMethodDescriptor "([I)I").map (fun d => d.parameters.length) = some 1 := by decide +kernel
theorem yd_pd_21 : (parseMethodDescriptor "(III)V").map (fun d => d.parameters.length) = some 3 := by decide +kernel
theorem yd_pd_22 : (parseMethodDescriptor "(IIII)V").map (fun d => d.parameters.length) = some 4 := by decide +kernel
theorem yd_pd_23 : (parseMethodDescriptor "(J)V").map (fun d => d.parameters.length) = some 1 := by decide +kernel
theorem yd_pd_24 : (parseMethodDescriptor "(II)Z").map (fun d => d.parameters.length) = some 2 := by decide +kernel
theorem yd_pd_25 : (parseMethodDescriptor "([I[I)I").map (fun d => d.parameters.length) = some 2 := by decide +kernel
theorem yd_pd_26 : (parseMethodDescriptor "(I[I[I)I").map (fun d => d.parameters.length) = some 3 := by decide +kernel
theorem yd_pd_27 : (parseMethodDescriptor "(LChaffInTheWind$Barn;II)Z").map (fun d => d.parameters.length) = some 3 := by decide +kernel
theorem yd_pd_28 : (parseMethodDescriptor "([I[II)Z").map (fun d => d.parameters.length) = some 3 := by decide +kernel
theorem yd_pd_29 : (parseMethodDescriptor "(II)V").map (fun d => d.parameters.length) = some 2 := by decide +kernel
theorem yd_pd_30 : (parseMethodDescriptor "([II)Z").map (fun d => d.parameters.length) = some 2 := by decide +kernel
theorem yd_pd_31 : (parseMethodDescriptor "(IIII)I").map (fun d => d.parameters.length) = some 4 := by decide +kernel
theorem yd_pd_32 : (parseMethodDescriptor "(JJ)V").map (fun d => d.parameters.length) = some 2 := by decide +kernel
theorem yd_pd_33 : (parseMethodDescriptor "(JJ)J").map (fun d => d.parameters.length) = some 2 := by decide +kernel
theorem yd_pd_34 : (parseMethodDescriptor "(LChaffInTheWind$Barn;[I)I").map (fun d => d.parameters.length) = some 2 := by decide +kernel
theorem yd_pd_35 : (parseMethodDescriptor "(LChaffInTheWind$Barn;[I)V").map (fun d => d.parameters.length) = some 2 := by decide +kernel
theorem yd_pd_36 : (parseMethodDescriptor "([I[I)V").map (fun d => d.parameters.length) = some 2 := by decide +kernel
theorem yd_pd_37 : (parseMethodDescriptor "([IIZ)J").map (fun d => d.parameters.length) = some 3 := by decide +kernel
theorem yd_pd_38 : (parseMethodDescriptor "([IZ)I").map (fun d => d.parameters.length) = some 2 := by decide +kernel
theorem yd_pd_39 : (parseMethodDescriptor "(IIZ)Z").map (fun d => d.parameters.length) = some 3 := by decide +kernel
theorem yd_pd_40 : (parseMethodDescriptor "([II)I").map (fun d => d.parameters.length) = some 2 := by decide +kernel
theorem yd_pd_41 : (parseMethodDescriptor "(IZ)I").map (fun d => d.parameters.length) = some 2 := by decide +kernel
theorem yd_pd_42 : (parseMethodDescriptor "(IZ)V").map (fun d => d.parameters.length) = some 2 := by decide +kernel
theorem yd_pd_43 : (parseMethodDescriptor "(LChaffInTheWind$Pass;)I").map (fun d => d.parameters.length) = some 1 := by decide +kernel
theorem yd_pd_44 : (parseMethodDescriptor "(III)Z").map (fun d => d.parameters.length) = some 3 := by decide +kernel
theorem yd_pd_45 : (parseMethodDescriptor "([I)Z").map (fun d => d.parameters.length) = some 1 := by decide +kernel
theorem yd_pd_46 : (parseMethodDescriptor "([III)I").map (fun d => d.parameters.length) = some 3 := by decide +kernel
theorem yd_pd_47 : (parseMethodDescriptor "([IIII)Z").map (fun d => d.parameters.length) = some 4 := by decide +kernel
theorem yd_pd_48 : (parseMethodDescriptor "([III)Z").map (fun d => d.parameters.length) = some 3 := by decide +kernel
theorem yd_pd_49 : (parseMethodDescriptor "(II)J").map (fun d => d.parameters.length) = some 2 := by decide +kernel
theorem yd_pd_50 : (parseMethodDescriptor "(LChaffInTheWind$Store;)V").map (fun d => d.parameters.length) = some 1 := by decide +kernel
theorem yd_pd_51 : (parseMethodDescriptor "([[I)I").map (fun d => d.parameters.length) = some 1 := by decide +kernel
theorem yd_pd_52 : (parseMethodDescriptor "(I)J").map (fun d => d.parameters.length) = some 1 := by decide +kernel
theorem yd_pd_53 : (parseMethodDescriptor "([BII)V").map (fun d => d.parameters.length) = some 3 := by decide +kernel
theorem yd_pd_54 : (parseMethodDescriptor "(C)V").map (fun d => d.parameters.length) = some 1 := by decide +kernel
theorem yd_pd_55 : (parseMethodDescriptor "(C)I").map (fun d => d.parameters.length) = some 1 := by decide +kernel
theorem yd_pd_56 : (parseMethodDescriptor "(I[II)I").map (fun d => d.parameters.length) = some 3 := by decide +kernel
theorem yd_pd_57 : (parseMethodDescriptor "(IIZ)J").map (fun d => d.parameters.length) = some 3 := by decide +kernel
theorem yd_pd_58 : (parseMethodDescriptor "(ZIIIZ)I").map (fun d => d.parameters.length) = some 5 := by decide +kernel
theorem yd_pd_59 : (parseMethodDescriptor "(IIII)Z").map (fun d => d.parameters.length) = some 4 := by decide +kernel
theorem z_ckm_0 : z_ckR z_CT (k2_sels lw_privs) z_meth_0 = true ∨ z_meth_0.2.2.2.2.2.2.2.2.1 = 9 := Or.inl (yd_R2 (y := ⟨"ChaffInTheWind", "<init>", "()V"⟩) rfl yd_pn_0 rfl yd_pd_0 (by decide +kernel) (by decide +kernel) (by decide +kernel))
theorem z_ckm_1 : z_ckR z_CT (k2_sels lw_privs) z_meth_1 = true ∨ z_meth_1.2.2.2.2.2.2.2.2.1 = 9 := Or.inl (yd_R2 (y := ⟨"ChaffInTheWind$Signs", "<init>", "()V"⟩) rfl yd_pn_1 rfl yd_pd_0 (by decide +kernel) (by decide +kernel) (by decide +kernel))
theorem z_ckm_2 : z_ckR z_CT (k2_sels lw_privs) z_meth_2 = true ∨ z_meth_2.2.2.2.2.2.2.2.2.1 = 9 := Or.inl (yd_R2 (y := ⟨"ChaffInTheWind$Row", "<init>", "()V"⟩) rfl yd_pn_2 rfl yd_pd_0 (by decide +kernel) (by decide +kernel) (by decide +kernel))
theorem z_ckm_3 : z_ckR z_CT (k2_sels lw_privs) z_meth_3 = true ∨ z_meth_3.2.2.2.2.2.2.2.2.1 = 9 := Or.inl (yd_R2 (y := ⟨"ChaffInTheWind$Barn", "<init>", "()V"⟩) rfl yd_pn_3 rfl yd_pd_0 (by decide +kernel) (by decide +kernel) (by decide +kernel))
theorem z_ckm_4 : z_ckR z_CT (k2_sels lw_privs) z_meth_4 = true ∨ z_meth_4.2.2.2.2.2.2.2.2.1 = 9 := Or.inl (yd_R2 (y := ⟨"ChaffInTheWind$Flight", "<init>", "()V"⟩) rfl yd_pn_4 rfl yd_pd_0 (by decide +kernel) (by decide +kernel) (by decide +kernel))
theorem z_ckm_5 : z_ckR z_CT (k2_sels lw_privs) z_meth_5 = true ∨ z_meth_5.2.2.2.2.2.2.2.2.1 = 9 := Or.inl (yd_R2 (y := ⟨"ChaffInTheWind$Store", "<init>", "()V"⟩) rfl yd_pn_5 rfl yd_pd_0 (by decide +kernel) (by decide +kernel) (by decide +kernel))
theorem z_ckm_6 : z_ckR z_CT (k2_sels lw_privs) z_meth_6 = true ∨ z_meth_6.2.2.2.2.2.2.2.2.1 = 9 := Or.inl (yd_R2 (y := ⟨"ChaffInTheWind$Gusts", "<init>", "()V"⟩) rfl yd_pn_6 rfl yd_pd_0 (by decide +kernel) (by decide +kernel) (by decide +kernel))
theorem z_ckm_7 : z_ckR z_CT (k2_sels lw_privs) z_meth_7 = true ∨ z_meth_7.2.2.2.2.2.2.2.2.1 = 9 := Or.inl (yd_R2 (y := ⟨"ChaffInTheWind$Market", "<init>", "()V"⟩) rfl yd_pn_7 rfl yd_pd_0 (by decide +kernel) (by decide +kernel) (by decide +kernel))
theorem z_ckm_8 : z_ckR z_CT (k2_sels lw_privs) z_meth_8 = true ∨ z_meth_8.2.2.2.2.2.2.2.2.1 = 9 := Or.inl (yd_R2 (y := ⟨"ChaffInTheWind$Formula", "<init>", "()V"⟩) rfl yd_pn_8 rfl yd_pd_0 (by decide +kernel) (by decide +kernel) (by decide +kernel))
theorem z_ckm_9 : z_ckR z_CT (k2_sels lw_privs) z_meth_9 = true ∨ z_meth_9.2.2.2.2.2.2.2.2.1 = 9 := Or.inl (yd_R2 (y := ⟨"ChaffInTheWind", "sign", "(I)I"⟩) rfl yd_pn_0 rfl yd_pd_1 (by decide +kernel) (by decide +kernel) (by decide +kernel))
theorem z_ckm_10 : z_ckR z_CT (k2_sels lw_privs) z_meth_10 = true ∨ z_meth_10.2.2.2.2.2.2.2.2.1 = 9 := Or.inl (yd_R2 (y := ⟨"ChaffInTheWind$Signs", "append", "(I)I"⟩) rfl yd_pn_1 rfl yd_pd_1 (by decide +kernel) (by decide +kernel) (by decide +kernel))
theorem z_ckm_11 : z_ckR z_CT (k2_sels lw_privs) z_meth_11 = true ∨ z_meth_11.2.2.2.2.2.2.2.2.1 = 9 := Or.inl (yd_R2 (y := ⟨"ChaffInTheWind", "end", "(I)Z"⟩) rfl yd_pn_0 rfl yd_pd_2 (by decide +kernel) (by decide +kernel) (by decide +kernel))
theorem z_ckm_12 : z_ckR z_CT (k2_sels lw_privs) z_meth_12 = true ∨ z_meth_12.2.2.2.2.2.2.2.2.1 = 9 := Or.inl (yd_R2 (y := ⟨"ChaffInTheWind$Signs", "shorten", "(I)Z"⟩) rfl yd_pn_1 rfl yd_pd_2 (by decide +kernel) (by decide +kernel) (by decide +kernel))
theorem z_ckm_13 : z_ckR z_CT (k2_sels lw_privs) z_meth_13 = true ∨ z_meth_13.2.2.2.2.2.2.2.2.1 = 9 := Or.inl (yd_R2 (y := ⟨"ChaffInTheWind", "barn", "()I"⟩) rfl yd_pn_0 rfl yd_pd_3 (by decide +kernel) (by decide +kernel) (by decide +kernel))
theorem z_ckm_14 : z_ckR z_CT (k2_sels lw_privs) z_meth_14 = true ∨ z_meth_14.2.2.2.2.2.2.2.2.1 = 9 := Or.inl (yd_R2 (y := ⟨"ChaffInTheWind$Signs", "open", "(I)V"⟩) rfl yd_pn_1 rfl yd_pd_4 (by decide +kernel) (by decide +kernel) (by decide +kernel))
theorem z_ckm_15 : z_ckR z_CT (k2_sels lw_privs) z_meth_15 = true ∨ z_meth_15.2.2.2.2.2.2.2.2.1 = 9 := Or.inl (by decide +kernel)
theorem z_ckm_16 : z_ckR z_CT (k2_sels lw_privs) z_meth_16 = true ∨ z_meth_16.2.2.2.2.2.2.2.2.1 = 9 := Or.inl (yd_R2 (y := ⟨"ChaffInTheWind$Barn", "read", "(LChaffInTheWind$Signs;)I"⟩) rfl yd_pn_3 rfl yd_pd_6 (by decide +kernel) (by decide +kernel) (by decide +kernel))
theorem z_ckm_17 : z_ckR z_CT (k2_sels lw_privs) z_meth_17 = true ∨ z_meth_17.2.2.2.2.2.2.2.2.1 = 9 := Or.inl (yd_R2 (y := ⟨"ChaffInTheWind$Signs", "isDone", "()Z"⟩) rfl yd_pn_1 rfl yd_pd_7 (by decide +kernel) (by decide +kernel) (by decide +kernel))
theorem z_ckm_18 : z_ckR z_CT (k2_sels lw_privs) z_meth_18 = true ∨ z_meth_18.2.2.2.2.2.2.2.2.1 = 9 := Or.inl (yd_R2 (y := ⟨"ChaffInTheWind$Barn", "readLine", "(LChaffInTheWind$Signs;)Z"⟩) rfl yd_pn_3 rfl yd_pd_8 (by decide +kernel) (by decide +kernel) (by decide +kernel))
theorem z_ckm_19 : z_ckR z_CT (k2_sels lw_privs) z_meth_19 = true ∨ z_meth_19.2.2.2.2.2.2.2.2.1 = 9 := Or.inl (yd_R2 (y := ⟨"ChaffInTheWind$Signs", "take", "(C)Z"⟩) rfl yd_pn_1 rfl yd_pd_9 (by decide +kernel) (by decide +kernel) (by decide +kernel))
theorem z_ckm_20 : z_ckR z_CT (k2_sels lw_privs) z_meth_20 = true ∨ z_meth_20.2.2.2.2.2.2.2.2.1 = 9 := Or.inl (yd_R2 (y := ⟨"ChaffInTheWind$Signs", "isNext", "(C)Z"⟩) rfl yd_pn_1 rfl yd_pd_9 (by decide +kernel) (by decide +kernel) (by decide +kernel))
theorem z_ckm_21 : z_ckR z_CT (k2_sels lw_privs) z_meth_21 = true ∨ z_meth_21.2.2.2.2.2.2.2.2.1 = 9 := Or.inl (yd_R2 (y := ⟨"ChaffInTheWind$Barn", "readYards", "(LChaffInTheWind$Signs;)Z"⟩) rfl yd_pn_3 rfl yd_pd_8 (by decide +kernel) (by decide +kernel) (by decide +kernel))
theorem z_ckm_22 : z_ckR z_CT (k2_sels lw_privs) z_meth_22 = true ∨ z_meth_22.2.2.2.2.2.2.2.2.1 = 9 := Or.inl (yd_R2 (y := ⟨"ChaffInTheWind$Signs", "number", "(III)I"⟩) rfl yd_pn_1 rfl yd_pd_10 (by decide +kernel) (by decide +kernel) (by decide +kernel))
theorem z_ckm_23 : z_ckR z_CT (k2_sels lw_privs) z_meth_23 = true ∨ z_meth_23.2.2.2.2.2.2.2.2.1 = 9 := Or.inl (yd_R2 (y := ⟨"ChaffInTheWind$Signs", "isDigitNext", "()Z"⟩) rfl yd_pn_1 rfl yd_pd_7 (by decide +kernel) (by decide +kernel) (by decide +kernel))
theorem z_ckm_24 : z_ckR z_CT (k2_sels lw_privs) z_meth_24 = true ∨ z_meth_24.2.2.2.2.2.2.2.2.1 = 9 := Or.inl (yd_R2 (y := ⟨"ChaffInTheWind$Barn", "readSort", "(LChaffInTheWind$Signs;I)Z"⟩) rfl yd_pn_3 rfl yd_pd_11 (by decide +kernel) (by decide +kernel) (by decide +kernel))
theorem z_ckm_25 : z_ckR z_CT (k2_sels lw_privs) z_meth_25 = true ∨ z_meth_25.2.2.2.2.2.2.2.2.1 = 9 := Or.inl (yd_R2 (y := ⟨"ChaffInTheWind$Signs", "takeOneOf", "(Ljava/lang/String;)I"⟩) rfl yd_pn_1 rfl yd_pd_12 (by decide +kernel) (by decide +kernel) (by decide +kernel))
theorem z_ckm_26 : z_ckR z_CT (k2_sels lw_privs) z_meth_26 = true ∨ z_meth_26.2.2.2.2.2.2.2.2.1 = 9 := Or.inl (yd_R2 (y := ⟨"java/lang/String", "indexOf", "(I)I"⟩) rfl yd_pn_9 rfl yd_pd_1 (by decide +kernel) (by decide +kernel) (by decide +kernel))
theorem z_ckm_27 : z_ckR z_CT (k2_sels lw_privs) z_meth_27 = true ∨ z_meth_27.2.2.2.2.2.2.2.2.1 = 9 := Or.inl (yd_R2 (y := ⟨"java/lang/String", "indexOf", "(II)I"⟩) rfl yd_pn_9 rfl yd_pd_5 (by decide +kernel) (by decide +kernel) (by decide +kernel))
theorem z_ckm_28 : z_ckR z_CT (k2_sels lw_privs) z_meth_28 = true ∨ z_meth_28.2.2.2.2.2.2.2.2.1 = 9 := Or.inl (yd_R2 (y := ⟨"java/lang/String", "isLatin1", "()Z"⟩) rfl yd_pn_9 rfl yd_pd_7 (by decide +kernel) (by decide +kernel) (by decide +kernel))
theorem z_ckm_29 : z_ckR z_CT (k2_sels lw_privs) z_meth_29 = true ∨ z_meth_29.2.2.2.2.2.2.2.2.1 = 9 := Or.inl (yd_R2 (y := ⟨"java/lang/String", "length", "()I"⟩) rfl yd_pn_9 rfl yd_pd_3 (by decide +kernel) (by decide +kernel) (by decide +kernel))
theorem z_ckm_30 : z_ckR z_CT (k2_sels lw_privs) z_meth_30 = true ∨ z_meth_30.2.2.2.2.2.2.2.2.1 = 9 := Or.inl (yd_R2 (y := ⟨"java/lang/String", "coder", "()B"⟩) rfl yd_pn_9 rfl yd_pd_13 (by decide +kernel) (by decide +kernel) (by decide +kernel))
theorem z_ckm_31 : z_ckR z_CT (k2_sels lw_privs) z_meth_31 = true ∨ z_meth_31.2.2.2.2.2.2.2.2.1 = 9 := Or.inl (yd_R2 (y := ⟨"java/lang/StringLatin1", "indexOf", "([BIII)I"⟩) rfl yd_pn_10 rfl yd_pd_14 (by decide +kernel) (by decide +kernel) (by decide +kernel))
theorem z_ckm_32 : z_ckR z_CT (k2_sels lw_privs) z_meth_32 = true ∨ z_meth_32.2.2.2.2.2.2.2.2.1 = 9 := Or.inl (yd_R2 (y := ⟨"java/lang/StringLatin1", "canEncode", "(I)Z"⟩) rfl yd_pn_10 rfl yd_pd_2 (by decide +kernel) (by decide +kernel) (by decide +kernel))
theorem z_ckm_33 : z_ckR z_CT (k2_sels lw_privs) z_meth_33 = true ∨ z_meth_33.2.2.2.2.2.2.2.2.1 = 9 := Or.inl (by decide +kernel)
theorem z_ckm_34 : z_ckR z_CT (k2_sels lw_privs) z_meth_34 = true ∨ z_meth_34.2.2.2.2.2.2.2.2.1 = 9 := Or.inl (yd_R2 (y := ⟨"java/lang/StringLatin1", "indexOfChar", "([BIII)I"⟩) rfl yd_pn_10 rfl yd_pd_14 (by decide +kernel) (by decide +kernel) (by decide +kernel))
theorem z_ckm_35 : z_ckR z_CT (k2_sels lw_privs) z_meth_35 = true ∨ z_meth_35.2.2.2.2.2.2.2.2.1 = 9 := Or.inl (yd_R2 (y := ⟨"ChaffInTheWind$Signs", "hasMore", "()Z"⟩) rfl yd_pn_1 rfl yd_pd_7 (by decide +kernel) (by decide +kernel) (by decide +kernel))
theorem z_ckm_36 : z_ckR z_CT (k2_sels lw_privs) z_meth_36 = true ∨ z_meth_36.2.2.2.2.2.2.2.2.1 = 9 := Or.inl (yd_R2 (y := ⟨"ChaffInTheWind$Signs", "clear", "()V"⟩) rfl yd_pn_1 rfl yd_pd_0 (by decide +kernel) (by decide +kernel) (by decide +kernel))
theorem z_ckm_37 : z_ckR z_CT (k2_sels lw_privs) z_meth_37 = true ∨ z_meth_37.2.2.2.2.2.2.2.2.1 = 9 := Or.inl (yd_R2 (y := ⟨"ChaffInTheWind$Signs", "fault", "()I"⟩) rfl yd_pn_1 rfl yd_pd_3 (by decide +kernel) (by decide +kernel) (by decide +kernel))
theorem z_ckm_38 : z_ckR z_CT (k2_sels lw_privs) z_meth_38 = true ∨ z_meth_38.2.2.2.2.2.2.2.2.1 = 9 := Or.inl (yd_R2 (y := ⟨"ChaffInTheWind$Barn", "tellsYards", "()Z"⟩) rfl yd_pn_3 rfl yd_pd_7 (by decide +kernel) (by decide +kernel) (by decide +kernel))
theorem z_ckm_39 : z_ckR z_CT (k2_sels lw_privs) z_meth_39 = true ∨ z_meth_39.2.2.2.2.2.2.2.2.1 = 9 := Or.inl (yd_R2 (y := ⟨"ChaffInTheWind$Store", "clearYards", "()V"⟩) rfl yd_pn_5 rfl yd_pd_0 (by decide +kernel) (by decide +kernel) (by decide +kernel))
theorem z_ckm_40 : z_ckR z_CT (k2_sels lw_privs) z_meth_40 = true ∨ z_meth_40.2.2.2.2.2.2.2.2.1 = 9 := Or.inl (yd_R2 (y := ⟨"java/util/Arrays", "fill", "([II)V"⟩) rfl yd_pn_11 rfl yd_pd_15 (by decide +kernel) (by decide +kernel) (by decide +kernel))
theorem z_ckm_41 : z_ckR z_CT (k2_sels lw_privs) z_meth_41 = true ∨ z_meth_41.2.2.2.2.2.2.2.2.1 = 9 := Or.inl (yd_R2 (y := ⟨"ChaffInTheWind$Barn", "settle", "()V"⟩) rfl yd_pn_3 rfl yd_pd_0 (by decide +kernel) (by decide +kernel) (by decide +kernel))
theorem z_ckm_42 : z_ckR z_CT (k2_sels lw_privs) z_meth_42 = true ∨ z_meth_42.2.2.2.2.2.2.2.2.1 = 9 := Or.inl (yd_R2 (y := ⟨"ChaffInTheWind$Barn", "forgetLandings", "()V"⟩) rfl yd_pn_3 rfl yd_pd_0 (by decide +kernel) (by decide +kernel) (by decide +kernel))
theorem z_ckm_43 : z_ckR z_CT (k2_sels lw_privs) z_meth_43 = true ∨ z_meth_43.2.2.2.2.2.2.2.2.1 = 9 := Or.inl (yd_R2 (y := ⟨"ChaffInTheWind", "wind", "()I"⟩) rfl yd_pn_0 rfl yd_pd_3 (by decide +kernel) (by decide +kernel) (by decide +kernel))
theorem z_ckm_44 : z_ckR z_CT (k2_sels lw_privs) z_meth_44 = true ∨ z_meth_44.2.2.2.2.2.2.2.2.1 = 9 := Or.inl (yd_R2 (y := ⟨"ChaffInTheWind$Gusts", "read", "(LChaffInTheWind$Signs;)I"⟩) rfl yd_pn_6 rfl yd_pd_6 (by decide +kernel) (by decide +kernel) (by decide +kernel))
theorem z_ckm_45 : z_ckR z_CT (k2_sels lw_privs) z_meth_45 = true ∨ z_meth_45.2.2.2.2.2.2.2.2.1 = 9 := Or.inl (yd_R2 (y := ⟨"ChaffInTheWind$Gusts", "readLine", "(LChaffInTheWind$Signs;I)Z"⟩) rfl yd_pn_6 rfl yd_pd_11 (by decide +kernel) (by decide +kernel) (by decide +kernel))
theorem z_ckm_46 : z_ckR z_CT (k2_sels lw_privs) z_meth_46 = true ∨ z_meth_46.2.2.2.2.2.2.2.2.1 = 9 := Or.inl (yd_R2 (y := ⟨"ChaffInTheWind", "says", "(I)I"⟩) rfl yd_pn_0 rfl yd_pd_1 (by decide +kernel) (by decide +kernel) (by decide +kernel))
theorem z_ckm_47 : z_ckR z_CT (k2_sels lw_privs) z_meth_47 = true ∨ z_meth_47.2.2.2.2.2.2.2.2.1 = 9 := Or.inl (yd_R2 (y := ⟨"ChaffInTheWind$Market", "read", "(LChaffInTheWind$Signs;I)Z"⟩) rfl yd_pn_7 rfl yd_pd_11 (by decide +kernel) (by decide +kernel) (by decide +kernel))
theorem z_ckm_48 : z_ckR z_CT (k2_sels lw_privs) z_meth_48 = true ∨ z_meth_48.2.2.2.2.2.2.2.2.1 = 9 := Or.inl (yd_R2 (y := ⟨"ChaffInTheWind$Formula", "read", "(LChaffInTheWind$Signs;Ljava/lang/String;)Z"⟩) rfl yd_pn_8 rfl yd_pd_16 (by decide +kernel) (by decide +kernel) (by decide +kernel))
theorem z_ckm_49 : z_ckR z_CT (k2_sels lw_privs) z_meth_49 = true ∨ z_meth_49.2.2.2.2.2.2.2.2.1 = 9 := Or.inl (yd_R2 (y := ⟨"ChaffInTheWind$Formula", "readComparison", "(LChaffInTheWind$Signs;Ljava/lang/String;I)Z"⟩) rfl yd_pn_8 rfl yd_pd_17 (by decide +kernel) (by decide +kernel) (by decide +kernel))
theorem z_ckm_50 : z_ckR z_CT (k2_sels lw_privs) z_meth_50 = true ∨ z_meth_50.2.2.2.2.2.2.2.2.1 = 9 := Or.inl (yd_R2 (y := ⟨"ChaffInTheWind$Formula", "readSum", "(LChaffInTheWind$Signs;Ljava/lang/String;I)Z"⟩) rfl yd_pn_8 rfl yd_pd_17 (by decide +kernel) (by decide +kernel) (by decide +kernel))
theorem z_ckm_51 : z_ckR z_CT (k2_sels lw_privs) z_meth_51 = true ∨ z_meth_51.2.2.2.2.2.2.2.2.1 = 9 := Or.inl (yd_R2 (y := ⟨"ChaffInTheWind$Formula", "readProduct", "(LChaffInTheWind$Signs;Ljava/lang/String;I)Z"⟩) rfl yd_pn_8 rfl yd_pd_17 (by decide +kernel) (by decide +kernel) (by decide +kernel))
theorem z_ckm_52 : z_ckR z_CT (k2_sels lw_privs) z_meth_52 = true ∨ z_meth_52.2.2.2.2.2.2.2.2.1 = 9 := Or.inl (yd_R2 (y := ⟨"ChaffInTheWind$Formula", "readThing", "(LChaffInTheWind$Signs;Ljava/lang/String;I)Z"⟩) rfl yd_pn_8 rfl yd_pd_17 (by decide +kernel) (by decide +kernel) (by decide +kernel))
theorem z_ckm_53 : z_ckR z_CT (k2_sels lw_privs) z_meth_53 = true ∨ z_meth_53.2.2.2.2.2.2.2.2.1 = 9 := Or.inl (yd_R2 (y := ⟨"ChaffInTheWind$Formula", "readBareThing", "(LChaffInTheWind$Signs;Ljava/lang/String;I)Z"⟩) rfl yd_pn_8 rfl yd_pd_17 (by decide +kernel) (by decide +kernel) (by decide +kernel))
theorem z_ckm_54 : z_ckR z_CT (k2_sels lw_privs) z_meth_54 = true ∨ z_meth_54.2.2.2.2.2.2.2.2.1 = 9 := Or.inl (yd_R2 (y := ⟨"ChaffInTheWind$Formula", "append", "(I)Z"⟩) rfl yd_pn_8 rfl yd_pd_2 (by decide +kernel) (by decide +kernel) (by decide +kernel))
theorem z_ckm_55 : z_ckR z_CT (k2_sels lw_privs) z_meth_55 = true ∨ z_meth_55.2.2.2.2.2.2.2.2.1 = 9 := Or.inl (yd_R2 (y := ⟨"ChaffInTheWind$Market", "settle", "(I)V"⟩) rfl yd_pn_7 rfl yd_pd_4 (by decide +kernel) (by decide +kernel) (by decide +kernel))
theorem z_ckm_56 : z_ckR z_CT (k2_sels lw_privs) z_meth_56 = true ∨ z_meth_56.2.2.2.2.2.2.2.2.1 = 9 := Or.inl (yd_R2 (y := ⟨"ChaffInTheWind", "set", "(II)I"⟩) rfl yd_pn_0 rfl yd_pd_5 (by decide +kernel) (by decide +kernel) (by decide +kernel))
theorem z_ckm_57 : z_ckR z_CT (k2_sels lw_privs) z_meth_57 = true ∨ z_meth_57.2.2.2.2.2.2.2.2.1 = 9 := Or.inl (yd_R2 (y := ⟨"ChaffInTheWind$Barn", "leastOf", "(I)I"⟩) rfl yd_pn_3 rfl yd_pd_1 (by decide +kernel) (by decide +kernel) (by decide +kernel))
theorem z_ckm_58 : z_ckR z_CT (k2_sels lw_privs) z_meth_58 = true ∨ z_meth_58.2.2.2.2.2.2.2.2.1 = 9 := Or.inl (yd_R2 (y := ⟨"ChaffInTheWind$Barn", "mostOf", "(I)I"⟩) rfl yd_pn_3 rfl yd_pd_1 (by decide +kernel) (by decide +kernel) (by decide +kernel))
theorem z_ckm_59 : z_ckR z_CT (k2_sels lw_privs) z_meth_59 = true ∨ z_meth_59.2.2.2.2.2.2.2.2.1 = 9 := Or.inl (yd_R2 (y := ⟨"ChaffInTheWind$Barn", "change", "(II)I"⟩) rfl yd_pn_3 rfl yd_pd_5 (by decide +kernel) (by decide +kernel) (by decide +kernel))
theorem z_ckm_60 : z_ckR z_CT (k2_sels lw_privs) z_meth_60 = true ∨ z_meth_60.2.2.2.2.2.2.2.2.1 = 9 := Or.inl (yd_R2 (y := ⟨"ChaffInTheWind", "has", "(II)I"⟩) rfl yd_pn_0 rfl yd_pd_5 (by decide +kernel) (by decide +kernel) (by decide +kernel))
theorem z_ckm_61 : z_ckR z_CT (k2_sels lw_privs) z_meth_61 = true ∨ z_meth_61.2.2.2.2.2.2.2.2.1 = 9 := Or.inl (yd_R2 (y := ⟨"ChaffInTheWind", "isHeap", "(I)Z"⟩) rfl yd_pn_0 rfl yd_pd_2 (by decide +kernel) (by decide +kernel) (by decide +kernel))
theorem z_ckm_62 : z_ckR z_CT (k2_sels lw_privs) z_meth_62 = true ∨ z_meth_62.2.2.2.2.2.2.2.2.1 = 9 := Or.inl (yd_R2 (y := ⟨"ChaffInTheWind", "isSort", "(I)Z"⟩) rfl yd_pn_0 rfl yd_pd_2 (by decide +kernel) (by decide +kernel) (by decide +kernel))
theorem z_ckm_63 : z_ckR z_CT (k2_sels lw_privs) z_meth_63 = true ∨ z_meth_63.2.2.2.2.2.2.2.2.1 = 9 := Or.inl (yd_R2 (y := ⟨"ChaffInTheWind", "lies", "(II)I"⟩) rfl yd_pn_0 rfl yd_pd_5 (by decide +kernel) (by decide +kernel) (by decide +kernel))
theorem z_ckm_64 : z_ckR z_CT (k2_sels lw_privs) z_meth_64 = true ∨ z_meth_64.2.2.2.2.2.2.2.2.1 = 9 := Or.inl (yd_R2 (y := ⟨"ChaffInTheWind", "isYardOrOut", "(I)Z"⟩) rfl yd_pn_0 rfl yd_pd_2 (by decide +kernel) (by decide +kernel) (by decide +kernel))
theorem z_ckm_65 : z_ckR z_CT (k2_sels lw_privs) z_meth_65 = true ∨ z_meth_65.2.2.2.2.2.2.2.2.1 = 9 := Or.inl (yd_R2 (y := ⟨"ChaffInTheWind", "placeOf", "(I)[I"⟩) rfl yd_pn_0 rfl yd_pd_18 (by decide +kernel) (by decide +kernel) (by decide +kernel))
theorem z_ckm_66 : z_ckR z_CT (k2_sels lw_privs) z_meth_66 = true ∨ z_meth_66.2.2.2.2.2.2.2.2.1 = 9 := Or.inl (yd_R2 (y := ⟨"ChaffInTheWind$Barn", "isOut", "(I)Z"⟩) rfl yd_pn_3 rfl yd_pd_2 (by decide +kernel) (by decide +kernel) (by decide +kernel))
theorem z_ckm_67 : z_ckR z_CT (k2_sels lw_privs) z_meth_67 = true ∨ z_meth_67.2.2.2.2.2.2.2.2.1 = 9 := Or.inl (yd_R2 (y := ⟨"ChaffInTheWind", "sheet", "(IIIII)I"⟩) rfl yd_pn_0 rfl yd_pd_19 (by decide +kernel) (by decide +kernel) (by decide +kernel))
theorem z_ckm_68 : z_ckR z_CT (k2_sels lw_privs) z_meth_68 = true ∨ z_meth_68.2.2.2.2.2.2.2.2.1 = 9 := Or.inl (yd_R2 (y := ⟨"ChaffInTheWind", "entry", "(II)I"⟩) rfl yd_pn_0 rfl yd_pd_5 (by decide +kernel) (by decide +kernel) (by decide +kernel))
theorem z_ckm_69 : z_ckR z_CT (k2_sels lw_privs) z_meth_69 = true ∨ z_meth_69.2.2.2.2.2.2.2.2.1 = 9 := Or.inl (yd_R2 (y := ⟨"ChaffInTheWind", "put", "(III)I"⟩) rfl yd_pn_0 rfl yd_pd_10 (by decide +kernel) (by decide +kernel) (by decide +kernel))
theorem z_ckm_70 : z_ckR z_CT (k2_sels lw_privs) z_meth_70 = true ∨ z_meth_70.2.2.2.2.2.2.2.2.1 = 9 := Or.inl (yd_R2 (y := ⟨"ChaffInTheWind", "sumOf", "([I)I"⟩) rfl yd_pn_0 rfl yd_pd_20 (by decide +kernel) (by decide +kernel) (by decide +kernel))
theorem z_ckm_71 : z_ckR z_CT (k2_sels lw_privs) z_meth_71 = true ∨ z_meth_71.2.2.2.2.2.2.2.2.1 = 9 := Or.inl (yd_R2 (y := ⟨"ChaffInTheWind", "lands", "(II)I"⟩) rfl yd_pn_0 rfl yd_pd_5 (by decide +kernel) (by decide +kernel) (by decide +kernel))
theorem z_ckm_72 : z_ckR z_CT (k2_sels lw_privs) z_meth_72 = true ∨ z_meth_72.2.2.2.2.2.2.2.2.1 = 9 := Or.inl (yd_R2 (y := ⟨"ChaffInTheWind", "isWind", "(I)Z"⟩) rfl yd_pn_0 rfl yd_pd_2 (by decide +kernel) (by decide +kernel) (by decide +kernel))
theorem z_ckm_73 : z_ckR z_CT (k2_sels lw_privs) z_meth_73 = true ∨ z_meth_73.2.2.2.2.2.2.2.2.1 = 9 := Or.inl (yd_R2 (y := ⟨"ChaffInTheWind$Barn", "land", "(II)I"⟩) rfl yd_pn_3 rfl yd_pd_5 (by decide +kernel) (by decide +kernel) (by decide +kernel))
theorem z_ckm_74 : z_ckR z_CT (k2_sels lw_privs) z_meth_74 = true ∨ z_meth_74.2.2.2.2.2.2.2.2.1 = 9 := Or.inl (yd_R2 (y := ⟨"ChaffInTheWind$Barn", "throwUp", "(III)V"⟩) rfl yd_pn_3 rfl yd_pd_21 (by decide +kernel) (by decide +kernel) (by decide +kernel))
theorem z_ckm_75 : z_ckR z_CT (k2_sels lw_privs) z_meth_75 = true ∨ z_meth_75.2.2.2.2.2.2.2.2.1 = 9 := Or.inl (yd_R2 (y := ⟨"ChaffInTheWind$Flight", "start", "(IIII)V"⟩) rfl yd_pn_4 rfl yd_pd_22 (by decide +kernel) (by decide +kernel) (by decide +kernel))
theorem z_ckm_76 : z_ckR z_CT (k2_sels lw_privs) z_meth_76 = true ∨ z_meth_76.2.2.2.2.2.2.2.2.1 = 9 := Or.inl (yd_R2 (y := ⟨"ChaffInTheWind$Flight", "fall", "(I)V"⟩) rfl yd_pn_4 rfl yd_pd_4 (by decide +kernel) (by decide +kernel) (by decide +kernel))
theorem z_ckm_77 : z_ckR z_CT (k2_sels lw_privs) z_meth_77 = true ∨ z_meth_77.2.2.2.2.2.2.2.2.1 = 9 := Or.inl (yd_R2 (y := ⟨"ChaffInTheWind$Flight", "tick", "()V"⟩) rfl yd_pn_4 rfl yd_pd_0 (by decide +kernel) (by decide +kernel) (by decide +kernel))
theorem z_ckm_78 : z_ckR z_CT (k2_sels lw_privs) z_meth_78 = true ∨ z_meth_78.2.2.2.2.2.2.2.2.1 = 9 := Or.inl (yd_R2 (y := ⟨"ChaffInTheWind$Barn", "yardAt", "(I)I"⟩) rfl yd_pn_3 rfl yd_pd_1 (by decide +kernel) (by decide +kernel) (by decide +kernel))
theorem z_ckm_79 : z_ckR z_CT (k2_sels lw_privs) z_meth_79 = true ∨ z_meth_79.2.2.2.2.2.2.2.2.1 = 9 := Or.inl (by decide +kernel)
theorem z_ckm_80 : z_ckR z_CT (k2_sels lw_privs) z_meth_80 = true ∨ z_meth_80.2.2.2.2.2.2.2.2.1 = 9 := Or.inl (yd_R2 (y := ⟨"ChaffInTheWind$Row", "only", "(J)V"⟩) rfl yd_pn_2 rfl yd_pd_23 (by decide +kernel) (by decide +kernel) (by decide +kernel))
theorem z_ckm_81 : z_ckR z_CT (k2_sels lw_privs) z_meth_81 = true ∨ z_meth_81.2.2.2.2.2.2.2.2.1 = 9 := Or.inl (yd_R2 (y := ⟨"ChaffInTheWind$Row", "add", "(J)V"⟩) rfl yd_pn_2 rfl yd_pd_23 (by decide +kernel) (by decide +kernel) (by decide +kernel))
theorem z_ckm_82 : z_ckR z_CT (k2_sels lw_privs) z_meth_82 = true ∨ z_meth_82.2.2.2.2.2.2.2.2.1 = 9 := Or.inl (yd_R2 (y := ⟨"ChaffInTheWind", "go", "(II)I"⟩) rfl yd_pn_0 rfl yd_pd_5 (by decide +kernel) (by decide +kernel) (by decide +kernel))
theorem z_ckm_83 : z_ckR z_CT (k2_sels lw_privs) z_meth_83 = true ∨ z_meth_83.2.2.2.2.2.2.2.2.1 = 9 := Or.inl (yd_R2 (y := ⟨"ChaffInTheWind", "mostOf", "([I)I"⟩) rfl yd_pn_0 rfl yd_pd_20 (by decide +kernel) (by decide +kernel) (by decide +kernel))
theorem z_ckm_84 : z_ckR z_CT (k2_sels lw_privs) z_meth_84 = true ∨ z_meth_84.2.2.2.2.2.2.2.2.1 = 9 := Or.inl (yd_R2 (y := ⟨"ChaffInTheWind", "throwShovel", "([I)I"⟩) rfl yd_pn_0 rfl yd_pd_20 (by decide +kernel) (by decide +kernel) (by decide +kernel))
theorem z_ckm_85 : z_ckR z_CT (k2_sels lw_privs) z_meth_85 = true ∨ z_meth_85.2.2.2.2.2.2.2.2.1 = 9 := Or.inl (yd_R2 (y := ⟨"ChaffInTheWind", "windOfThrow", "()I"⟩) rfl yd_pn_0 rfl yd_pd_3 (by decide +kernel) (by decide +kernel) (by decide +kernel))
theorem z_ckm_86 : z_ckR z_CT (k2_sels lw_privs) z_meth_86 = true ∨ z_meth_86.2.2.2.2.2.2.2.2.1 = 9 := Or.inl (yd_R2 (y := ⟨"ChaffInTheWind$Gusts", "lineAt", "(I)I"⟩) rfl yd_pn_6 rfl yd_pd_1 (by decide +kernel) (by decide +kernel) (by decide +kernel))
theorem z_ckm_87 : z_ckR z_CT (k2_sels lw_privs) z_meth_87 = true ∨ z_meth_87.2.2.2.2.2.2.2.2.1 = 9 := Or.inl (yd_R2 (y := ⟨"ChaffInTheWind$Gusts", "spreadOf", "(I)I"⟩) rfl yd_pn_6 rfl yd_pd_1 (by decide +kernel) (by decide +kernel) (by decide +kernel))
theorem z_ckm_88 : z_ckR z_CT (k2_sels lw_privs) z_meth_88 = true ∨ z_meth_88.2.2.2.2.2.2.2.2.1 = 9 := Or.inl (yd_R2 (y := ⟨"ChaffInTheWind$Store", "draw", "(I)I"⟩) rfl yd_pn_5 rfl yd_pd_1 (by decide +kernel) (by decide +kernel) (by decide +kernel))
theorem z_ckm_89 : z_ckR z_CT (k2_sels lw_privs) z_meth_89 = true ∨ z_meth_89.2.2.2.2.2.2.2.2.1 = 9 := Or.inl (yd_R2 (y := ⟨"ChaffInTheWind$Gusts", "windOf", "(I)I"⟩) rfl yd_pn_6 rfl yd_pd_1 (by decide +kernel) (by decide +kernel) (by decide +kernel))
theorem z_ckm_90 : z_ckR z_CT (k2_sels lw_privs) z_meth_90 = true ∨ z_meth_90.2.2.2.2.2.2.2.2.1 = 9 := Or.inl (yd_R2 (y := ⟨"ChaffInTheWind$Barn", "landing", "(II)I"⟩) rfl yd_pn_3 rfl yd_pd_5 (by decide +kernel) (by decide +kernel) (by decide +kernel))
theorem z_ckm_91 : z_ckR z_CT (k2_sels lw_privs) z_meth_91 = true ∨ z_meth_91.2.2.2.2.2.2.2.2.1 = 9 := Or.inl (yd_R2 (y := ⟨"ChaffInTheWind", "blows", "()I"⟩) rfl yd_pn_0 rfl yd_pd_3 (by decide +kernel) (by decide +kernel) (by decide +kernel))
theorem z_ckm_92 : z_ckR z_CT (k2_sels lw_privs) z_meth_92 = true ∨ z_meth_92.2.2.2.2.2.2.2.2.1 = 9 := Or.inl (yd_R2 (y := ⟨"ChaffInTheWind$Gusts", "leftAt", "(I)I"⟩) rfl yd_pn_6 rfl yd_pd_1 (by decide +kernel) (by decide +kernel) (by decide +kernel))
theorem z_ckm_93 : z_ckR z_CT (k2_sels lw_privs) z_meth_93 = true ∨ z_meth_93.2.2.2.2.2.2.2.2.1 = 9 := Or.inl (yd_R2 (y := ⟨"ChaffInTheWind", "gather", "(III)I"⟩) rfl yd_pn_0 rfl yd_pd_10 (by decide +kernel) (by decide +kernel) (by decide +kernel))
theorem z_ckm_94 : z_ckR z_CT (k2_sels lw_privs) z_meth_94 = true ∨ z_meth_94.2.2.2.2.2.2.2.2.1 = 9 := Or.inl (yd_R2 (y := ⟨"ChaffInTheWind", "areYards", "(II)Z"⟩) rfl yd_pn_0 rfl yd_pd_24 (by decide +kernel) (by decide +kernel) (by decide +kernel))
theorem z_ckm_95 : z_ckR z_CT (k2_sels lw_privs) z_meth_95 = true ∨ z_meth_95.2.2.2.2.2.2.2.2.1 = 9 := Or.inl (yd_R2 (y := ⟨"ChaffInTheWind", "moveAll", "([I[I)I"⟩) rfl yd_pn_0 rfl yd_pd_25 (by decide +kernel) (by decide +kernel) (by decide +kernel))
theorem z_ckm_96 : z_ckR z_CT (k2_sels lw_privs) z_meth_96 = true ∨ z_meth_96.2.2.2.2.2.2.2.2.1 = 9 := Or.inl (yd_R2 (y := ⟨"ChaffInTheWind", "move", "(I[I[I)I"⟩) rfl yd_pn_0 rfl yd_pd_26 (by decide +kernel) (by decide +kernel) (by decide +kernel))
theorem z_ckm_97 : z_ckR z_CT (k2_sels lw_privs) z_meth_97 = true ∨ z_meth_97.2.2.2.2.2.2.2.2.1 = 9 := Or.inl (yd_R2 (y := ⟨"ChaffInTheWind", "mix", "(II)I"⟩) rfl yd_pn_0 rfl yd_pd_5 (by decide +kernel) (by decide +kernel) (by decide +kernel))
theorem z_ckm_98 : z_ckR z_CT (k2_sels lw_privs) z_meth_98 = true ∨ z_meth_98.2.2.2.2.2.2.2.2.1 = 9 := Or.inl (yd_R2 (y := ⟨"ChaffInTheWind", "areTwoHeaps", "(II)Z"⟩) rfl yd_pn_0 rfl yd_pd_24 (by decide +kernel) (by decide +kernel) (by decide +kernel))
theorem z_ckm_99 : z_ckR z_CT (k2_sels lw_privs) z_meth_99 = true ∨ z_meth_99.2.2.2.2.2.2.2.2.1 = 9 := Or.inl (yd_R2 (y := ⟨"ChaffInTheWind", "sieve", "(III)I"⟩) rfl yd_pn_0 rfl yd_pd_10 (by decide +kernel) (by decide +kernel) (by decide +kernel))
theorem z_ckm_100 : z_ckR z_CT (k2_sels lw_privs) z_meth_100 = true ∨ z_meth_100.2.2.2.2.2.2.2.2.1 = 9 := Or.inl (yd_R2 (y := ⟨"ChaffInTheWind", "isHole", "(I)Z"⟩) rfl yd_pn_0 rfl yd_pd_2 (by decide +kernel) (by decide +kernel) (by decide +kernel))
theorem z_ckm_101 : z_ckR z_CT (k2_sels lw_privs) z_meth_101 = true ∨ z_meth_101.2.2.2.2.2.2.2.2.1 = 9 := Or.inl (yd_R2 (y := ⟨"ChaffInTheWind", "stroke", "(III)I"⟩) rfl yd_pn_0 rfl yd_pd_10 (by decide +kernel) (by decide +kernel) (by decide +kernel))
theorem z_ckm_102 : z_ckR z_CT (k2_sels lw_privs) z_meth_102 = true ∨ z_meth_102.2.2.2.2.2.2.2.2.1 = 9 := Or.inl (yd_R2 (y := ⟨"ChaffInTheWind$Market", "flings", "(LChaffInTheWind$Barn;II)Z"⟩) rfl yd_pn_7 rfl yd_pd_27 (by decide +kernel) (by decide +kernel) (by decide +kernel))
theorem z_ckm_103 : z_ckR z_CT (k2_sels lw_privs) z_meth_103 = true ∨ z_meth_103.2.2.2.2.2.2.2.2.1 = 9 := Or.inl (yd_R2 (y := ⟨"ChaffInTheWind$Market", "isTold", "(I)Z"⟩) rfl yd_pn_7 rfl yd_pd_2 (by decide +kernel) (by decide +kernel) (by decide +kernel))
theorem z_ckm_104 : z_ckR z_CT (k2_sels lw_privs) z_meth_104 = true ∨ z_meth_104.2.2.2.2.2.2.2.2.1 = 9 := Or.inl (yd_R2 (y := ⟨"ChaffInTheWind$Formula", "value", "([I)I"⟩) rfl yd_pn_8 rfl yd_pd_20 (by decide +kernel) (by decide +kernel) (by decide +kernel))
theorem z_ckm_105 : z_ckR z_CT (k2_sels lw_privs) z_meth_105 = true ∨ z_meth_105.2.2.2.2.2.2.2.2.1 = 9 := Or.inl (yd_R2 (y := ⟨"ChaffInTheWind$Formula", "operated", "(III)I"⟩) rfl yd_pn_8 rfl yd_pd_10 (by decide +kernel) (by decide +kernel) (by decide +kernel))
theorem z_ckm_106 : z_ckR z_CT (k2_sels lw_privs) z_meth_106 = true ∨ z_meth_106.2.2.2.2.2.2.2.2.1 = 9 := Or.inl (yd_R2 (y := ⟨"ChaffInTheWind", "parts", "(II)I"⟩) rfl yd_pn_0 rfl yd_pd_5 (by decide +kernel) (by decide +kernel) (by decide +kernel))
theorem z_ckm_107 : z_ckR z_CT (k2_sels lw_privs) z_meth_107 = true ∨ z_meth_107.2.2.2.2.2.2.2.2.1 = 9 := Or.inl (yd_R2 (y := ⟨"ChaffInTheWind", "windBySize", "(I)I"⟩) rfl yd_pn_0 rfl yd_pd_1 (by decide +kernel) (by decide +kernel) (by decide +kernel))
theorem z_ckm_108 : z_ckR z_CT (k2_sels lw_privs) z_meth_108 = true ∨ z_meth_108.2.2.2.2.2.2.2.2.1 = 9 := Or.inl (by decide +kernel)
theorem z_ckm_109 : z_ckR z_CT (k2_sels lw_privs) z_meth_109 = true ∨ z_meth_109.2.2.2.2.2.2.2.2.1 = 9 := Or.inl (yd_R2 (y := ⟨"ChaffInTheWind$Row", "clear", "()V"⟩) rfl yd_pn_2 rfl yd_pd_0 (by decide +kernel) (by decide +kernel) (by decide +kernel))
theorem z_ckm_110 : z_ckR z_CT (k2_sels lw_privs) z_meth_110 = true ∨ z_meth_110.2.2.2.2.2.2.2.2.1 = 9 := Or.inl (yd_R2 (y := ⟨"ChaffInTheWind", "never", "()I"⟩) rfl yd_pn_0 rfl yd_pd_3 (by decide +kernel) (by decide +kernel) (by decide +kernel))
theorem z_ckm_111 : z_ckR z_CT (k2_sels lw_privs) z_meth_111 = true ∨ z_meth_111.2.2.2.2.2.2.2.2.1 = 9 := Or.inl (yd_R2 (y := ⟨"ChaffInTheWind$Barn", "isCorn", "(I)Z"⟩) rfl yd_pn_3 rfl yd_pd_2 (by decide +kernel) (by decide +kernel) (by decide +kernel))
theorem z_ckm_112 : z_ckR z_CT (k2_sels lw_privs) z_meth_112 = true ∨ z_meth_112.2.2.2.2.2.2.2.2.1 = 9 := Or.inl (yd_R2 (y := ⟨"ChaffInTheWind", "landAlike", "(II)Z"⟩) rfl yd_pn_0 rfl yd_pd_24 (by decide +kernel) (by decide +kernel) (by decide +kernel))
theorem z_ckm_113 : z_ckR z_CT (k2_sels lw_privs) z_meth_113 = true ∨ z_meth_113.2.2.2.2.2.2.2.2.1 = 9 := Or.inl (yd_R2 (y := ⟨"ChaffInTheWind", "best", "(I)I"⟩) rfl yd_pn_0 rfl yd_pd_1 (by decide +kernel) (by decide +kernel) (by decide +kernel))
theorem z_ckm_114 : z_ckR z_CT (k2_sels lw_privs) z_meth_114 = true ∨ z_meth_114.2.2.2.2.2.2.2.2.1 = 9 := Or.inl (yd_R2 (y := ⟨"ChaffInTheWind", "landAll", "(I)V"⟩) rfl yd_pn_0 rfl yd_pd_4 (by decide +kernel) (by decide +kernel) (by decide +kernel))
theorem z_ckm_115 : z_ckR z_CT (k2_sels lw_privs) z_meth_115 = true ∨ z_meth_115.2.2.2.2.2.2.2.2.1 = 9 := Or.inl (yd_R2 (y := ⟨"ChaffInTheWind", "cleanCorn", "([I[I)I"⟩) rfl yd_pn_0 rfl yd_pd_25 (by decide +kernel) (by decide +kernel) (by decide +kernel))
theorem z_ckm_116 : z_ckR z_CT (k2_sels lw_privs) z_meth_116 = true ∨ z_meth_116.2.2.2.2.2.2.2.2.1 = 9 := Or.inl (yd_R2 (y := ⟨"ChaffInTheWind", "isSoiled", "([I[II)Z"⟩) rfl yd_pn_0 rfl yd_pd_28 (by decide +kernel) (by decide +kernel) (by decide +kernel))
theorem z_ckm_117 : z_ckR z_CT (k2_sels lw_privs) z_meth_117 = true ∨ z_meth_117.2.2.2.2.2.2.2.2.1 = 9 := Or.inl (yd_R2 (y := ⟨"ChaffInTheWind", "cornOut", "([I)I"⟩) rfl yd_pn_0 rfl yd_pd_20 (by decide +kernel) (by decide +kernel) (by decide +kernel))
theorem z_ckm_118 : z_ckR z_CT (k2_sels lw_privs) z_meth_118 = true ∨ z_meth_118.2.2.2.2.2.2.2.2.1 = 9 := Or.inl (yd_R2 (y := ⟨"ChaffInTheWind", "aim", "(II)I"⟩) rfl yd_pn_0 rfl yd_pd_5 (by decide +kernel) (by decide +kernel) (by decide +kernel))
theorem z_ckm_119 : z_ckR z_CT (k2_sels lw_privs) z_meth_119 = true ∨ z_meth_119.2.2.2.2.2.2.2.2.1 = 9 := Or.inl (yd_R2 (y := ⟨"ChaffInTheWind", "landFromHeights", "(II)V"⟩) rfl yd_pn_0 rfl yd_pd_29 (by decide +kernel) (by decide +kernel) (by decide +kernel))
theorem z_ckm_120 : z_ckR z_CT (k2_sels lw_privs) z_meth_120 = true ∨ z_meth_120.2.2.2.2.2.2.2.2.1 = 9 := Or.inl (yd_R2 (y := ⟨"ChaffInTheWind", "heightAt", "(I)I"⟩) rfl yd_pn_0 rfl yd_pd_1 (by decide +kernel) (by decide +kernel) (by decide +kernel))
theorem z_ckm_121 : z_ckR z_CT (k2_sels lw_privs) z_meth_121 = true ∨ z_meth_121.2.2.2.2.2.2.2.2.1 = 9 := Or.inl (yd_R2 (y := ⟨"ChaffInTheWind", "fan", "(II)I"⟩) rfl yd_pn_0 rfl yd_pd_5 (by decide +kernel) (by decide +kernel) (by decide +kernel))
theorem z_ckm_122 : z_ckR z_CT (k2_sels lw_privs) z_meth_122 = true ∨ z_meth_122.2.2.2.2.2.2.2.2.1 = 9 := Or.inl (yd_R2 (y := ⟨"ChaffInTheWind", "chaffWithCorn", "([I)I"⟩) rfl yd_pn_0 rfl yd_pd_20 (by decide +kernel) (by decide +kernel) (by decide +kernel))
theorem z_ckm_123 : z_ckR z_CT (k2_sels lw_privs) z_meth_123 = true ∨ z_meth_123.2.2.2.2.2.2.2.2.1 = 9 := Or.inl (yd_R2 (y := ⟨"ChaffInTheWind", "cornLandsIn", "([II)Z"⟩) rfl yd_pn_0 rfl yd_pd_30 (by decide +kernel) (by decide +kernel) (by decide +kernel))
theorem z_ckm_124 : z_ckR z_CT (k2_sels lw_privs) z_meth_124 = true ∨ z_meth_124.2.2.2.2.2.2.2.2.1 = 9 := Or.inl (yd_R2 (y := ⟨"ChaffInTheWind", "serves", "(II)I"⟩) rfl yd_pn_0 rfl yd_pd_5 (by decide +kernel) (by decide +kernel) (by decide +kernel))
theorem z_ckm_125 : z_ckR z_CT (k2_sels lw_privs) z_meth_125 = true ∨ z_meth_125.2.2.2.2.2.2.2.2.1 = 9 := Or.inl (yd_R2 (y := ⟨"ChaffInTheWind", "odds", "(IIII)I"⟩) rfl yd_pn_0 rfl yd_pd_31 (by decide +kernel) (by decide +kernel) (by decide +kernel))
theorem z_ckm_126 : z_ckR z_CT (k2_sels lw_privs) z_meth_126 = true ∨ z_meth_126.2.2.2.2.2.2.2.2.1 = 9 := Or.inl (yd_R2 (y := ⟨"ChaffInTheWind", "tellFraction", "(JJ)V"⟩) rfl yd_pn_0 rfl yd_pd_32 (by decide +kernel) (by decide +kernel) (by decide +kernel))
theorem z_ckm_127 : z_ckR z_CT (k2_sels lw_privs) z_meth_127 = true ∨ z_meth_127.2.2.2.2.2.2.2.2.1 = 9 := Or.inl (yd_R2 (y := ⟨"ChaffInTheWind", "commonPart", "(JJ)J"⟩) rfl yd_pn_0 rfl yd_pd_33 (by decide +kernel) (by decide +kernel) (by decide +kernel))
theorem z_ckm_128 : z_ckR z_CT (k2_sels lw_privs) z_meth_128 = true ∨ z_meth_128.2.2.2.2.2.2.2.2.1 = 9 := Or.inl (yd_R2 (y := ⟨"ChaffInTheWind", "kin", "(I)I"⟩) rfl yd_pn_0 rfl yd_pd_1 (by decide +kernel) (by decide +kernel) (by decide +kernel))
theorem z_ckm_129 : z_ckR z_CT (k2_sels lw_privs) z_meth_129 = true ∨ z_meth_129.2.2.2.2.2.2.2.2.1 = 9 := Or.inl (yd_R2 (y := ⟨"ChaffInTheWind", "sends", "(II)I"⟩) rfl yd_pn_0 rfl yd_pd_5 (by decide +kernel) (by decide +kernel) (by decide +kernel))
theorem z_ckm_130 : z_ckR z_CT (k2_sels lw_privs) z_meth_130 = true ∨ z_meth_130.2.2.2.2.2.2.2.2.1 = 9 := Or.inl (yd_R2 (y := ⟨"ChaffInTheWind", "worth", "(I)I"⟩) rfl yd_pn_0 rfl yd_pd_1 (by decide +kernel) (by decide +kernel) (by decide +kernel))
theorem z_ckm_131 : z_ckR z_CT (k2_sels lw_privs) z_meth_131 = true ∨ z_meth_131.2.2.2.2.2.2.2.2.1 = 9 := Or.inl (yd_R2 (y := ⟨"ChaffInTheWind$Market", "worthOf", "(LChaffInTheWind$Barn;[I)I"⟩) rfl yd_pn_7 rfl yd_pd_34 (by decide +kernel) (by decide +kernel) (by decide +kernel))
theorem z_ckm_132 : z_ckR z_CT (k2_sels lw_privs) z_meth_132 = true ∨ z_meth_132.2.2.2.2.2.2.2.2.1 = 9 := Or.inl (yd_R2 (y := ⟨"ChaffInTheWind$Market", "weigh", "(LChaffInTheWind$Barn;[I)V"⟩) rfl yd_pn_7 rfl yd_pd_35 (by decide +kernel) (by decide +kernel) (by decide +kernel))
theorem z_ckm_133 : z_ckR z_CT (k2_sels lw_privs) z_meth_133 = true ∨ z_meth_133.2.2.2.2.2.2.2.2.1 = 9 := Or.inl (yd_R2 (y := ⟨"ChaffInTheWind$Market", "valueOf", "(I)I"⟩) rfl yd_pn_7 rfl yd_pd_1 (by decide +kernel) (by decide +kernel) (by decide +kernel))
theorem z_ckm_134 : z_ckR z_CT (k2_sels lw_privs) z_meth_134 = true ∨ z_meth_134.2.2.2.2.2.2.2.2.1 = 9 := Or.inl (yd_R2 (y := ⟨"ChaffInTheWind", "marks", "(I)I"⟩) rfl yd_pn_0 rfl yd_pd_1 (by decide +kernel) (by decide +kernel) (by decide +kernel))
theorem z_ckm_135 : z_ckR z_CT (k2_sels lw_privs) z_meth_135 = true ∨ z_meth_135.2.2.2.2.2.2.2.2.1 = 9 := Or.inl (yd_R2 (y := ⟨"ChaffInTheWind", "weighYards", "()V"⟩) rfl yd_pn_0 rfl yd_pd_0 (by decide +kernel) (by decide +kernel) (by decide +kernel))
theorem z_ckm_136 : z_ckR z_CT (k2_sels lw_privs) z_meth_136 = true ∨ z_meth_136.2.2.2.2.2.2.2.2.1 = 9 := Or.inl (yd_R2 (y := ⟨"ChaffInTheWind", "weighMarks", "(I)V"⟩) rfl yd_pn_0 rfl yd_pd_4 (by decide +kernel) (by decide +kernel) (by decide +kernel))
theorem z_ckm_137 : z_ckR z_CT (k2_sels lw_privs) z_meth_137 = true ∨ z_meth_137.2.2.2.2.2.2.2.2.1 = 9 := Or.inl (yd_R2 (y := ⟨"ChaffInTheWind", "firstMark", "(II)I"⟩) rfl yd_pn_0 rfl yd_pd_5 (by decide +kernel) (by decide +kernel) (by decide +kernel))
theorem z_ckm_138 : z_ckR z_CT (k2_sels lw_privs) z_meth_138 = true ∨ z_meth_138.2.2.2.2.2.2.2.2.1 = 9 := Or.inl (yd_R2 (y := ⟨"ChaffInTheWind", "worthParted", "(III)I"⟩) rfl yd_pn_0 rfl yd_pd_10 (by decide +kernel) (by decide +kernel) (by decide +kernel))
theorem z_ckm_139 : z_ckR z_CT (k2_sels lw_privs) z_meth_139 = true ∨ z_meth_139.2.2.2.2.2.2.2.2.1 = 9 := Or.inl (yd_R2 (y := ⟨"ChaffInTheWind", "may", "(III)I"⟩) rfl yd_pn_0 rfl yd_pd_10 (by decide +kernel) (by decide +kernel) (by decide +kernel))
theorem z_ckm_140 : z_ckR z_CT (k2_sels lw_privs) z_meth_140 = true ∨ z_meth_140.2.2.2.2.2.2.2.2.1 = 9 := Or.inl (yd_R2 (y := ⟨"ChaffInTheWind", "copy", "([I[I)V"⟩) rfl yd_pn_0 rfl yd_pd_36 (by decide +kernel) (by decide +kernel) (by decide +kernel))
theorem z_ckm_141 : z_ckR z_CT (k2_sels lw_privs) z_meth_141 = true ∨ z_meth_141.2.2.2.2.2.2.2.2.1 = 9 := Or.inl (yd_R2 (y := ⟨"ChaffInTheWind", "bushel", "(II)I"⟩) rfl yd_pn_0 rfl yd_pd_5 (by decide +kernel) (by decide +kernel) (by decide +kernel))
theorem z_ckm_142 : z_ckR z_CT (k2_sels lw_privs) z_meth_142 = true ∨ z_meth_142.2.2.2.2.2.2.2.2.1 = 9 := Or.inl (yd_R2 (y := ⟨"ChaffInTheWind", "pick", "([IIZ)J"⟩) rfl yd_pn_0 rfl yd_pd_37 (by decide +kernel) (by decide +kernel) (by decide +kernel))
theorem z_ckm_143 : z_ckR z_CT (k2_sels lw_privs) z_meth_143 = true ∨ z_meth_143.2.2.2.2.2.2.2.2.1 = 9 := Or.inl (yd_R2 (y := ⟨"ChaffInTheWind", "nextToPick", "([IZ)I"⟩) rfl yd_pn_0 rfl yd_pd_38 (by decide +kernel) (by decide +kernel) (by decide +kernel))
theorem z_ckm_144 : z_ckR z_CT (k2_sels lw_privs) z_meth_144 = true ∨ z_meth_144.2.2.2.2.2.2.2.2.1 = 9 := Or.inl (yd_R2 (y := ⟨"ChaffInTheWind", "isAhead", "(IIZ)Z"⟩) rfl yd_pn_0 rfl yd_pd_39 (by decide +kernel) (by decide +kernel) (by decide +kernel))
theorem z_ckm_145 : z_ckR z_CT (k2_sels lw_privs) z_meth_145 = true ∨ z_meth_145.2.2.2.2.2.2.2.2.1 = 9 := Or.inl (yd_R2 (y := ⟨"ChaffInTheWind", "away", "(I)I"⟩) rfl yd_pn_0 rfl yd_pd_1 (by decide +kernel) (by decide +kernel) (by decide +kernel))
theorem z_ckm_146 : z_ckR z_CT (k2_sels lw_privs) z_meth_146 = true ∨ z_meth_146.2.2.2.2.2.2.2.2.1 = 9 := Or.inl (yd_R2 (y := ⟨"ChaffInTheWind", "worthWithout", "([II)I"⟩) rfl yd_pn_0 rfl yd_pd_40 (by decide +kernel) (by decide +kernel) (by decide +kernel))
theorem z_ckm_147 : z_ckR z_CT (k2_sels lw_privs) z_meth_147 = true ∨ z_meth_147.2.2.2.2.2.2.2.2.1 = 9 := Or.inl (yd_R2 (y := ⟨"ChaffInTheWind", "shift", "(III)I"⟩) rfl yd_pn_0 rfl yd_pd_10 (by decide +kernel) (by decide +kernel) (by decide +kernel))
theorem z_ckm_148 : z_ckR z_CT (k2_sels lw_privs) z_meth_148 = true ∨ z_meth_148.2.2.2.2.2.2.2.2.1 = 9 := Or.inl (yd_R2 (y := ⟨"ChaffInTheWind", "blow", "(III)I"⟩) rfl yd_pn_0 rfl yd_pd_10 (by decide +kernel) (by decide +kernel) (by decide +kernel))
theorem z_ckm_149 : z_ckR z_CT (k2_sels lw_privs) z_meth_149 = true ∨ z_meth_149.2.2.2.2.2.2.2.2.1 = 9 := Or.inl (yd_R2 (y := ⟨"ChaffInTheWind$Pass", "<init>", "(III)V"⟩) rfl yd_pn_12 rfl yd_pd_21 (by decide +kernel) (by decide +kernel) (by decide +kernel))
theorem z_ckm_150 : z_ckR z_CT (k2_sels lw_privs) z_meth_150 = true ∨ z_meth_150.2.2.2.2.2.2.2.2.1 = 9 := Or.inl (yd_R2 (y := ⟨"ChaffInTheWind", "hole", "(IZ)I"⟩) rfl yd_pn_0 rfl yd_pd_41 (by decide +kernel) (by decide +kernel) (by decide +kernel))
theorem z_ckm_151 : z_ckR z_CT (k2_sels lw_privs) z_meth_151 = true ∨ z_meth_151.2.2.2.2.2.2.2.2.1 = 9 := Or.inl (yd_R2 (y := ⟨"ChaffInTheWind$Pass", "<init>", "(IZ)V"⟩) rfl yd_pn_12 rfl yd_pd_42 (by decide +kernel) (by decide +kernel) (by decide +kernel))
theorem z_ckm_152 : z_ckR z_CT (k2_sels lw_privs) z_meth_152 = true ∨ z_meth_152.2.2.2.2.2.2.2.2.1 = 9 := Or.inl (yd_R2 (y := ⟨"ChaffInTheWind", "stays", "(I)I"⟩) rfl yd_pn_0 rfl yd_pd_1 (by decide +kernel) (by decide +kernel) (by decide +kernel))
theorem z_ckm_153 : z_ckR z_CT (k2_sels lw_privs) z_meth_153 = true ∨ z_meth_153.2.2.2.2.2.2.2.2.1 = 9 := Or.inl (yd_R2 (y := ⟨"ChaffInTheWind", "stayingIn", "(LChaffInTheWind$Pass;)I"⟩) rfl yd_pn_0 rfl yd_pd_43 (by decide +kernel) (by decide +kernel) (by decide +kernel))
theorem z_ckm_154 : z_ckR z_CT (k2_sels lw_privs) z_meth_154 = true ∨ z_meth_154.2.2.2.2.2.2.2.2.1 = 9 := Or.inl (yd_R2 (y := ⟨"ChaffInTheWind$Pass", "catches", "(I)Z"⟩) rfl yd_pn_12 rfl yd_pd_2 (by decide +kernel) (by decide +kernel) (by decide +kernel))
theorem z_ckm_155 : z_ckR z_CT (k2_sels lw_privs) z_meth_155 = true ∨ z_meth_155.2.2.2.2.2.2.2.2.1 = 9 := Or.inl (yd_R2 (y := ⟨"ChaffInTheWind$Pass", "holds", "(I)Z"⟩) rfl yd_pn_12 rfl yd_pd_2 (by decide +kernel) (by decide +kernel) (by decide +kernel))
theorem z_ckm_156 : z_ckR z_CT (k2_sels lw_privs) z_meth_156 = true ∨ z_meth_156.2.2.2.2.2.2.2.2.1 = 9 := Or.inl (yd_R2 (y := ⟨"ChaffInTheWind", "order", "(III)I"⟩) rfl yd_pn_0 rfl yd_pd_10 (by decide +kernel) (by decide +kernel) (by decide +kernel))
theorem z_ckm_157 : z_ckR z_CT (k2_sels lw_privs) z_meth_157 = true ∨ z_meth_157.2.2.2.2.2.2.2.2.1 = 9 := Or.inl (yd_R2 (y := ⟨"ChaffInTheWind", "canOrder", "(III)Z"⟩) rfl yd_pn_0 rfl yd_pd_44 (by decide +kernel) (by decide +kernel) (by decide +kernel))
theorem z_ckm_158 : z_ckR z_CT (k2_sels lw_privs) z_meth_158 = true ∨ z_meth_158.2.2.2.2.2.2.2.2.1 = 9 := Or.inl (yd_R2 (y := ⟨"ChaffInTheWind", "isShare", "(I)Z"⟩) rfl yd_pn_0 rfl yd_pd_2 (by decide +kernel) (by decide +kernel) (by decide +kernel))
theorem z_ckm_159 : z_ckR z_CT (k2_sels lw_privs) z_meth_159 = true ∨ z_meth_159.2.2.2.2.2.2.2.2.1 = 9 := Or.inl (yd_R2 (y := ⟨"ChaffInTheWind", "hasCorn", "([I)Z"⟩) rfl yd_pn_0 rfl yd_pd_45 (by decide +kernel) (by decide +kernel) (by decide +kernel))
theorem z_ckm_160 : z_ckR z_CT (k2_sels lw_privs) z_meth_160 = true ∨ z_meth_160.2.2.2.2.2.2.2.2.1 = 9 := Or.inl (yd_R2 (y := ⟨"ChaffInTheWind", "fewestPasses", "([III)I"⟩) rfl yd_pn_0 rfl yd_pd_46 (by decide +kernel) (by decide +kernel) (by decide +kernel))
theorem z_ckm_161 : z_ckR z_CT (k2_sels lw_privs) z_meth_161 = true ∨ z_meth_161.2.2.2.2.2.2.2.2.1 = 9 := Or.inl (yd_R2 (y := ⟨"ChaffInTheWind", "does", "([IIII)Z"⟩) rfl yd_pn_0 rfl yd_pd_47 (by decide +kernel) (by decide +kernel) (by decide +kernel))
theorem z_ckm_162 : z_ckR z_CT (k2_sels lw_privs) z_meth_162 = true ∨ z_meth_162.2.2.2.2.2.2.2.2.1 = 9 := Or.inl (yd_R2 (y := ⟨"ChaffInTheWind", "sortsLeft", "(I)I"⟩) rfl yd_pn_0 rfl yd_pd_1 (by decide +kernel) (by decide +kernel) (by decide +kernel))
theorem z_ckm_163 : z_ckR z_CT (k2_sels lw_privs) z_meth_163 = true ∨ z_meth_163.2.2.2.2.2.2.2.2.1 = 9 := Or.inl (yd_R2 (y := ⟨"ChaffInTheWind", "isBetter", "([III)Z"⟩) rfl yd_pn_0 rfl yd_pd_48 (by decide +kernel) (by decide +kernel) (by decide +kernel))
theorem z_ckm_164 : z_ckR z_CT (k2_sels lw_privs) z_meth_164 = true ∨ z_meth_164.2.2.2.2.2.2.2.2.1 = 9 := Or.inl (yd_R2 (y := ⟨"java/lang/Integer", "bitCount", "(I)I"⟩) rfl yd_pn_13 rfl yd_pd_1 (by decide +kernel) (by decide +kernel) (by decide +kernel))
theorem z_ckm_165 : z_ckR z_CT (k2_sels lw_privs) z_meth_165 = true ∨ z_meth_165.2.2.2.2.2.2.2.2.1 = 9 := Or.inl (yd_R2 (y := ⟨"ChaffInTheWind", "grainsLeft", "([II)I"⟩) rfl yd_pn_0 rfl yd_pd_40 (by decide +kernel) (by decide +kernel) (by decide +kernel))
theorem z_ckm_166 : z_ckR z_CT (k2_sels lw_privs) z_meth_166 = true ∨ z_meth_166.2.2.2.2.2.2.2.2.1 = 9 := Or.inl (yd_R2 (y := ⟨"ChaffInTheWind", "needed", "(III)I"⟩) rfl yd_pn_0 rfl yd_pd_10 (by decide +kernel) (by decide +kernel) (by decide +kernel))
theorem z_ckm_167 : z_ckR z_CT (k2_sels lw_privs) z_meth_167 = true ∨ z_meth_167.2.2.2.2.2.2.2.2.1 = 9 := Or.inl (yd_R2 (y := ⟨"ChaffInTheWind", "strokes", "(I)I"⟩) rfl yd_pn_0 rfl yd_pd_1 (by decide +kernel) (by decide +kernel) (by decide +kernel))
theorem z_ckm_168 : z_ckR z_CT (k2_sels lw_privs) z_meth_168 = true ∨ z_meth_168.2.2.2.2.2.2.2.2.1 = 9 := Or.inl (yd_R2 (y := ⟨"ChaffInTheWind", "strokesFlinging", "(I)I"⟩) rfl yd_pn_0 rfl yd_pd_1 (by decide +kernel) (by decide +kernel) (by decide +kernel))
theorem z_ckm_169 : z_ckR z_CT (k2_sels lw_privs) z_meth_169 = true ∨ z_meth_169.2.2.2.2.2.2.2.2.1 = 9 := Or.inl (yd_R2 (y := ⟨"ChaffInTheWind", "find", "(I)I"⟩) rfl yd_pn_0 rfl yd_pd_1 (by decide +kernel) (by decide +kernel) (by decide +kernel))
theorem z_ckm_170 : z_ckR z_CT (k2_sels lw_privs) z_meth_170 = true ∨ z_meth_170.2.2.2.2.2.2.2.2.1 = 9 := Or.inl (yd_R2 (y := ⟨"ChaffInTheWind", "await", "(IIIII)I"⟩) rfl yd_pn_0 rfl yd_pd_19 (by decide +kernel) (by decide +kernel) (by decide +kernel))
theorem z_ckm_171 : z_ckR z_CT (k2_sels lw_privs) z_meth_171 = true ∨ z_meth_171.2.2.2.2.2.2.2.2.1 = 9 := Or.inl (by decide +kernel)
theorem z_ckm_172 : z_ckR z_CT (k2_sels lw_privs) z_meth_172 = true ∨ z_meth_172.2.2.2.2.2.2.2.2.1 = 9 := Or.inl (yd_R2 (y := ⟨"ChaffInTheWind", "heavy", "(I)I"⟩) rfl yd_pn_0 rfl yd_pd_1 (by decide +kernel) (by decide +kernel) (by decide +kernel))
theorem z_ckm_173 : z_ckR z_CT (k2_sels lw_privs) z_meth_173 = true ∨ z_meth_173.2.2.2.2.2.2.2.2.1 = 9 := Or.inl (yd_R2 (y := ⟨"ChaffInTheWind", "sample", "(II)I"⟩) rfl yd_pn_0 rfl yd_pd_5 (by decide +kernel) (by decide +kernel) (by decide +kernel))
theorem z_ckm_174 : z_ckR z_CT (k2_sels lw_privs) z_meth_174 = true ∨ z_meth_174.2.2.2.2.2.2.2.2.1 = 9 := Or.inl (yd_R2 (y := ⟨"ChaffInTheWind", "cornOf", "([I)I"⟩) rfl yd_pn_0 rfl yd_pd_20 (by decide +kernel) (by decide +kernel) (by decide +kernel))
theorem z_ckm_175 : z_ckR z_CT (k2_sels lw_privs) z_meth_175 = true ∨ z_meth_175.2.2.2.2.2.2.2.2.1 = 9 := Or.inl (yd_R2 (y := ⟨"ChaffInTheWind", "waysToTake", "(II)J"⟩) rfl yd_pn_0 rfl yd_pd_49 (by decide +kernel) (by decide +kernel) (by decide +kernel))
theorem z_ckm_176 : z_ckR z_CT (k2_sels lw_privs) z_meth_176 = true ∨ z_meth_176.2.2.2.2.2.2.2.2.1 = 9 := Or.inl (yd_R2 (y := ⟨"ChaffInTheWind", "grains", "(II)I"⟩) rfl yd_pn_0 rfl yd_pd_5 (by decide +kernel) (by decide +kernel) (by decide +kernel))
theorem z_ckm_177 : z_ckR z_CT (k2_sels lw_privs) z_meth_177 = true ∨ z_meth_177.2.2.2.2.2.2.2.2.1 = 9 := Or.inl (yd_R2 (y := ⟨"ChaffInTheWind", "seed", "(I)I"⟩) rfl yd_pn_0 rfl yd_pd_1 (by decide +kernel) (by decide +kernel) (by decide +kernel))
theorem z_ckm_178 : z_ckR z_CT (k2_sels lw_privs) z_meth_178 = true ∨ z_meth_178.2.2.2.2.2.2.2.2.1 = 9 := Or.inl (yd_R2 (y := ⟨"ChaffInTheWind", "keep", "(I)Z"⟩) rfl yd_pn_0 rfl yd_pd_2 (by decide +kernel) (by decide +kernel) (by decide +kernel))
theorem z_ckm_179 : z_ckR z_CT (k2_sels lw_privs) z_meth_179 = true ∨ z_meth_179.2.2.2.2.2.2.2.2.1 = 9 := Or.inl (yd_R2 (y := ⟨"ChaffInTheWind$Store", "copyOf", "(LChaffInTheWind$Store;)V"⟩) rfl yd_pn_5 rfl yd_pd_50 (by decide +kernel) (by decide +kernel) (by decide +kernel))
theorem z_ckm_180 : z_ckR z_CT (k2_sels lw_privs) z_meth_180 = true ∨ z_meth_180.2.2.2.2.2.2.2.2.1 = 9 := Or.inl (yd_R2 (y := ⟨"ChaffInTheWind", "again", "(I)Z"⟩) rfl yd_pn_0 rfl yd_pd_2 (by decide +kernel) (by decide +kernel) (by decide +kernel))
theorem z_ckm_181 : z_ckR z_CT (k2_sels lw_privs) z_meth_181 = true ∨ z_meth_181.2.2.2.2.2.2.2.2.1 = 9 := Or.inl (yd_R2 (y := ⟨"ChaffInTheWind", "count", "(I)I"⟩) rfl yd_pn_0 rfl yd_pd_1 (by decide +kernel) (by decide +kernel) (by decide +kernel))
theorem z_ckm_182 : z_ckR z_CT (k2_sels lw_privs) z_meth_182 = true ∨ z_meth_182.2.2.2.2.2.2.2.2.1 = 9 := Or.inl (yd_R2 (y := ⟨"ChaffInTheWind$Market", "told", "()I"⟩) rfl yd_pn_7 rfl yd_pd_3 (by decide +kernel) (by decide +kernel) (by decide +kernel))
theorem z_ckm_183 : z_ckR z_CT (k2_sels lw_privs) z_meth_183 = true ∨ z_meth_183.2.2.2.2.2.2.2.2.1 = 9 := Or.inl (yd_R2 (y := ⟨"ChaffInTheWind", "sumOfAll", "([[I)I"⟩) rfl yd_pn_0 rfl yd_pd_51 (by decide +kernel) (by decide +kernel) (by decide +kernel))
theorem z_ckm_184 : z_ckR z_CT (k2_sels lw_privs) z_meth_184 = true ∨ z_meth_184.2.2.2.2.2.2.2.2.1 = 9 := Or.inl (yd_R2 (y := ⟨"ChaffInTheWind", "sort", "(II)I"⟩) rfl yd_pn_0 rfl yd_pd_5 (by decide +kernel) (by decide +kernel) (by decide +kernel))
theorem z_ckm_185 : z_ckR z_CT (k2_sels lw_privs) z_meth_185 = true ∨ z_meth_185.2.2.2.2.2.2.2.2.1 = 9 := Or.inl (yd_R2 (y := ⟨"ChaffInTheWind", "price", "(II)I"⟩) rfl yd_pn_0 rfl yd_pd_5 (by decide +kernel) (by decide +kernel) (by decide +kernel))
theorem z_ckm_186 : z_ckR z_CT (k2_sels lw_privs) z_meth_186 = true ∨ z_meth_186.2.2.2.2.2.2.2.2.1 = 9 := Or.inl (yd_R2 (y := ⟨"ChaffInTheWind", "row", "(I)J"⟩) rfl yd_pn_0 rfl yd_pd_52 (by decide +kernel) (by decide +kernel) (by decide +kernel))
theorem z_ckm_187 : z_ckR z_CT (k2_sels lw_privs) z_meth_187 = true ∨ z_meth_187.2.2.2.2.2.2.2.2.1 = 9 := Or.inl (yd_R2 (y := ⟨"ChaffInTheWindModel", "<init>", "()V"⟩) rfl yd_pn_14 rfl yd_pd_0 (by decide +kernel) (by decide +kernel) (by decide +kernel))
theorem z_ckm_188 : z_ckR z_CT (k2_sels lw_privs) z_meth_188 = true ∨ z_meth_188.2.2.2.2.2.2.2.2.1 = 9 := Or.inl (yd_R2 (y := ⟨"ChaffInTheWindModel", "sign", "(I)I"⟩) rfl yd_pn_14 rfl yd_pd_1 (by decide +kernel) (by decide +kernel) (by decide +kernel))
theorem z_ckm_189 : z_ckR z_CT (k2_sels lw_privs) z_meth_189 = true ∨ z_meth_189.2.2.2.2.2.2.2.2.1 = 9 := Or.inl (yd_R2 (y := ⟨"ChaffInTheWindModel", "end", "(I)Z"⟩) rfl yd_pn_14 rfl yd_pd_2 (by decide +kernel) (by decide +kernel) (by decide +kernel))
theorem z_ckm_190 : z_ckR z_CT (k2_sels lw_privs) z_meth_190 = true ∨ z_meth_190.2.2.2.2.2.2.2.2.1 = 9 := Or.inl (yd_R2 (y := ⟨"ChaffInTheWindModel", "in", "(III)Z"⟩) rfl yd_pn_14 rfl yd_pd_44 (by decide +kernel) (by decide +kernel) (by decide +kernel))
theorem z_ckm_191 : z_ckR z_CT (k2_sels lw_privs) z_meth_191 = true ∨ z_meth_191.2.2.2.2.2.2.2.2.1 = 9 := Or.inl (yd_R2 (y := ⟨"ChaffInTheWindModel", "barn", "()I"⟩) rfl yd_pn_14 rfl yd_pd_3 (by decide +kernel) (by decide +kernel) (by decide +kernel))
theorem z_ckm_192 : z_ckR z_CT (k2_sels lw_privs) z_meth_192 = true ∨ z_meth_192.2.2.2.2.2.2.2.2.1 = 9 := Or.inl (yd_R2 (y := ⟨"ChaffInTheWindModel", "begin", "([BII)V"⟩) rfl yd_pn_14 rfl yd_pd_53 (by decide +kernel) (by decide +kernel) (by decide +kernel))
theorem z_ckm_193 : z_ckR z_CT (k2_sels lw_privs) z_meth_193 = true ∨ z_meth_193.2.2.2.2.2.2.2.2.1 = 9 := Or.inl (yd_R2 (y := ⟨"ChaffInTheWindModel", "fine", "()Z"⟩) rfl yd_pn_14 rfl yd_pd_7 (by decide +kernel) (by decide +kernel) (by decide +kernel))
theorem z_ckm_194 : z_ckR z_CT (k2_sels lw_privs) z_meth_194 = true ∨ z_meth_194.2.2.2.2.2.2.2.2.1 = 9 := Or.inl (yd_R2 (y := ⟨"ChaffInTheWindModel", "here", "()I"⟩) rfl yd_pn_14 rfl yd_pd_3 (by decide +kernel) (by decide +kernel) (by decide +kernel))
theorem z_ckm_195 : z_ckR z_CT (k2_sels lw_privs) z_meth_195 = true ∨ z_meth_195.2.2.2.2.2.2.2.2.1 = 9 := Or.inl (yd_R2 (y := ⟨"ChaffInTheWindModel", "number", "(III)I"⟩) rfl yd_pn_14 rfl yd_pd_10 (by decide +kernel) (by decide +kernel) (by decide +kernel))
theorem z_ckm_196 : z_ckR z_CT (k2_sels lw_privs) z_meth_196 = true ∨ z_meth_196.2.2.2.2.2.2.2.2.1 = 9 := Or.inl (yd_R2 (y := ⟨"ChaffInTheWindModel", "fault", "(I)V"⟩) rfl yd_pn_14 rfl yd_pd_4 (by decide +kernel) (by decide +kernel) (by decide +kernel))
theorem z_ckm_197 : z_ckR z_CT (k2_sels lw_privs) z_meth_197 = true ∨ z_meth_197.2.2.2.2.2.2.2.2.1 = 9 := Or.inl (yd_R2 (y := ⟨"ChaffInTheWindModel", "need", "(C)V"⟩) rfl yd_pn_14 rfl yd_pd_54 (by decide +kernel) (by decide +kernel) (by decide +kernel))
theorem z_ckm_198 : z_ckR z_CT (k2_sels lw_privs) z_meth_198 = true ∨ z_meth_198.2.2.2.2.2.2.2.2.1 = 9 := Or.inl (yd_R2 (y := ⟨"ChaffInTheWindModel", "passes", "(C)Z"⟩) rfl yd_pn_14 rfl yd_pd_9 (by decide +kernel) (by decide +kernel) (by decide +kernel))
theorem z_ckm_199 : z_ckR z_CT (k2_sels lw_privs) z_meth_199 = true ∨ z_meth_199.2.2.2.2.2.2.2.2.1 = 9 := Or.inl (yd_R2 (y := ⟨"ChaffInTheWindModel", "at", "(II)I"⟩) rfl yd_pn_14 rfl yd_pd_5 (by decide +kernel) (by decide +kernel) (by decide +kernel))
theorem z_ckm_200 : z_ckR z_CT (k2_sels lw_privs) z_meth_200 = true ∨ z_meth_200.2.2.2.2.2.2.2.2.1 = 9 := Or.inl (yd_R2 (y := ⟨"ChaffInTheWindModel", "clear", "(I)V"⟩) rfl yd_pn_14 rfl yd_pd_4 (by decide +kernel) (by decide +kernel) (by decide +kernel))
theorem z_ckm_201 : z_ckR z_CT (k2_sels lw_privs) z_meth_201 = true ∨ z_meth_201.2.2.2.2.2.2.2.2.1 = 9 := Or.inl (yd_R2 (y := ⟨"ChaffInTheWindModel", "wind", "()I"⟩) rfl yd_pn_14 rfl yd_pd_3 (by decide +kernel) (by decide +kernel) (by decide +kernel))
theorem z_ckm_202 : z_ckR z_CT (k2_sels lw_privs) z_meth_202 = true ∨ z_meth_202.2.2.2.2.2.2.2.2.1 = 9 := Or.inl (yd_R2 (y := ⟨"ChaffInTheWindModel", "says", "(I)I"⟩) rfl yd_pn_14 rfl yd_pd_1 (by decide +kernel) (by decide +kernel) (by decide +kernel))
theorem z_ckm_203 : z_ckR z_CT (k2_sels lw_privs) z_meth_203 = true ∨ z_meth_203.2.2.2.2.2.2.2.2.1 = 9 := Or.inl (yd_R2 (y := ⟨"ChaffInTheWindModel", "held", "(I)I"⟩) rfl yd_pn_14 rfl yd_pd_1 (by decide +kernel) (by decide +kernel) (by decide +kernel))
theorem z_ckm_204 : z_ckR z_CT (k2_sels lw_privs) z_meth_204 = true ∨ z_meth_204.2.2.2.2.2.2.2.2.1 = 9 := Or.inl (yd_R2 (y := ⟨"ChaffInTheWindModel", "sum", "(I)I"⟩) rfl yd_pn_14 rfl yd_pd_1 (by decide +kernel) (by decide +kernel) (by decide +kernel))
theorem z_ckm_205 : z_ckR z_CT (k2_sels lw_privs) z_meth_205 = true ∨ z_meth_205.2.2.2.2.2.2.2.2.1 = 9 := Or.inl (yd_R2 (y := ⟨"ChaffInTheWindModel", "product", "(I)I"⟩) rfl yd_pn_14 rfl yd_pd_1 (by decide +kernel) (by decide +kernel) (by decide +kernel))
theorem z_ckm_206 : z_ckR z_CT (k2_sels lw_privs) z_meth_206 = true ∨ z_meth_206.2.2.2.2.2.2.2.2.1 = 9 := Or.inl (yd_R2 (y := ⟨"ChaffInTheWindModel", "thing", "(I)I"⟩) rfl yd_pn_14 rfl yd_pd_1 (by decide +kernel) (by decide +kernel) (by decide +kernel))
theorem z_ckm_207 : z_ckR z_CT (k2_sels lw_privs) z_meth_207 = true ∨ z_meth_207.2.2.2.2.2.2.2.2.1 = 9 := Or.inl (yd_R2 (y := ⟨"ChaffInTheWindModel", "ofSort", "(C)I"⟩) rfl yd_pn_14 rfl yd_pd_55 (by decide +kernel) (by decide +kernel) (by decide +kernel))
theorem z_ckm_208 : z_ckR z_CT (k2_sels lw_privs) z_meth_208 = true ∨ z_meth_208.2.2.2.2.2.2.2.2.1 = 9 := Or.inl (yd_R2 (y := ⟨"ChaffInTheWindModel", "ofHeap", "(C)I"⟩) rfl yd_pn_14 rfl yd_pd_55 (by decide +kernel) (by decide +kernel) (by decide +kernel))
theorem z_ckm_209 : z_ckR z_CT (k2_sels lw_privs) z_meth_209 = true ∨ z_meth_209.2.2.2.2.2.2.2.2.1 = 9 := Or.inl (yd_R2 (y := ⟨"ChaffInTheWindModel", "heavyOf", "(I)I"⟩) rfl yd_pn_14 rfl yd_pd_1 (by decide +kernel) (by decide +kernel) (by decide +kernel))
theorem z_ckm_210 : z_ckR z_CT (k2_sels lw_privs) z_meth_210 = true ∨ z_meth_210.2.2.2.2.2.2.2.2.1 = 9 := Or.inl (yd_R2 (y := ⟨"ChaffInTheWindModel", "set", "(II)I"⟩) rfl yd_pn_14 rfl yd_pd_5 (by decide +kernel) (by decide +kernel) (by decide +kernel))
theorem z_ckm_211 : z_ckR z_CT (k2_sels lw_privs) z_meth_211 = true ∨ z_meth_211.2.2.2.2.2.2.2.2.1 = 9 := Or.inl (yd_R2 (y := ⟨"ChaffInTheWindModel", "sort", "(II)I"⟩) rfl yd_pn_14 rfl yd_pd_5 (by decide +kernel) (by decide +kernel) (by decide +kernel))
theorem z_ckm_212 : z_ckR z_CT (k2_sels lw_privs) z_meth_212 = true ∨ z_meth_212.2.2.2.2.2.2.2.2.1 = 9 := Or.inl (yd_R2 (y := ⟨"ChaffInTheWindModel", "isSort", "(I)Z"⟩) rfl yd_pn_14 rfl yd_pd_2 (by decide +kernel) (by decide +kernel) (by decide +kernel))
theorem z_ckm_213 : z_ckR z_CT (k2_sels lw_privs) z_meth_213 = true ∨ z_meth_213.2.2.2.2.2.2.2.2.1 = 9 := Or.inl (yd_R2 (y := ⟨"ChaffInTheWindModel", "lost", "()I"⟩) rfl yd_pn_14 rfl yd_pd_3 (by decide +kernel) (by decide +kernel) (by decide +kernel))
theorem z_ckm_214 : z_ckR z_CT (k2_sels lw_privs) z_meth_214 = true ∨ z_meth_214.2.2.2.2.2.2.2.2.1 = 9 := Or.inl (yd_R2 (y := ⟨"ChaffInTheWindModel", "has", "(II)I"⟩) rfl yd_pn_14 rfl yd_pd_5 (by decide +kernel) (by decide +kernel) (by decide +kernel))
theorem z_ckm_215 : z_ckR z_CT (k2_sels lw_privs) z_meth_215 = true ∨ z_meth_215.2.2.2.2.2.2.2.2.1 = 9 := Or.inl (yd_R2 (y := ⟨"ChaffInTheWindModel", "isHeap", "(I)Z"⟩) rfl yd_pn_14 rfl yd_pd_2 (by decide +kernel) (by decide +kernel) (by decide +kernel))
theorem z_ckm_216 : z_ckR z_CT (k2_sels lw_privs) z_meth_216 = true ∨ z_meth_216.2.2.2.2.2.2.2.2.1 = 9 := Or.inl (yd_R2 (y := ⟨"ChaffInTheWindModel", "lies", "(II)I"⟩) rfl yd_pn_14 rfl yd_pd_5 (by decide +kernel) (by decide +kernel) (by decide +kernel))
theorem z_ckm_217 : z_ckR z_CT (k2_sels lw_privs) z_meth_217 = true ∨ z_meth_217.2.2.2.2.2.2.2.2.1 = 9 := Or.inl (yd_R2 (y := ⟨"ChaffInTheWindModel", "sheet", "(IIIII)I"⟩) rfl yd_pn_14 rfl yd_pd_19 (by decide +kernel) (by decide +kernel) (by decide +kernel))
theorem z_ckm_218 : z_ckR z_CT (k2_sels lw_privs) z_meth_218 = true ∨ z_meth_218.2.2.2.2.2.2.2.2.1 = 9 := Or.inl (yd_R2 (y := ⟨"ChaffInTheWindModel", "lands", "(II)I"⟩) rfl yd_pn_14 rfl yd_pd_5 (by decide +kernel) (by decide +kernel) (by decide +kernel))
theorem z_ckm_219 : z_ckR z_CT (k2_sels lw_privs) z_meth_219 = true ∨ z_meth_219.2.2.2.2.2.2.2.2.1 = 9 := Or.inl (yd_R2 (y := ⟨"ChaffInTheWindModel", "isWind", "(I)Z"⟩) rfl yd_pn_14 rfl yd_pd_2 (by decide +kernel) (by decide +kernel) (by decide +kernel))
theorem z_ckm_220 : z_ckR z_CT (k2_sels lw_privs) z_meth_220 = true ∨ z_meth_220.2.2.2.2.2.2.2.2.1 = 9 := Or.inl (yd_R2 (y := ⟨"ChaffInTheWindModel", "landsNow", "(II)I"⟩) rfl yd_pn_14 rfl yd_pd_5 (by decide +kernel) (by decide +kernel) (by decide +kernel))
theorem z_ckm_221 : z_ckR z_CT (k2_sels lw_privs) z_meth_221 = true ∨ z_meth_221.2.2.2.2.2.2.2.2.1 = 9 := Or.inl (yd_R2 (y := ⟨"ChaffInTheWindModel", "landsIn", "(IIII)I"⟩) rfl yd_pn_14 rfl yd_pd_31 (by decide +kernel) (by decide +kernel) (by decide +kernel))
theorem z_ckm_222 : z_ckR z_CT (k2_sels lw_privs) z_meth_222 = true ∨ z_meth_222.2.2.2.2.2.2.2.2.1 = 9 := Or.inl (yd_R2 (y := ⟨"ChaffInTheWindModel", "tell", "(J)V"⟩) rfl yd_pn_14 rfl yd_pd_23 (by decide +kernel) (by decide +kernel) (by decide +kernel))
theorem z_ckm_223 : z_ckR z_CT (k2_sels lw_privs) z_meth_223 = true ∨ z_meth_223.2.2.2.2.2.2.2.2.1 = 9 := Or.inl (yd_R2 (y := ⟨"ChaffInTheWindModel", "go", "(II)I"⟩) rfl yd_pn_14 rfl yd_pd_5 (by decide +kernel) (by decide +kernel) (by decide +kernel))
theorem z_ckm_224 : z_ckR z_CT (k2_sels lw_privs) z_meth_224 = true ∨ z_meth_224.2.2.2.2.2.2.2.2.1 = 9 := Or.inl (yd_R2 (y := ⟨"ChaffInTheWindModel", "grainsOf", "(I)I"⟩) rfl yd_pn_14 rfl yd_pd_1 (by decide +kernel) (by decide +kernel) (by decide +kernel))
theorem z_ckm_225 : z_ckR z_CT (k2_sels lw_privs) z_meth_225 = true ∨ z_meth_225.2.2.2.2.2.2.2.2.1 = 9 := Or.inl (yd_R2 (y := ⟨"ChaffInTheWindModel", "lineNow", "()I"⟩) rfl yd_pn_14 rfl yd_pd_3 (by decide +kernel) (by decide +kernel) (by decide +kernel))
theorem z_ckm_226 : z_ckR z_CT (k2_sels lw_privs) z_meth_226 = true ∨ z_meth_226.2.2.2.2.2.2.2.2.1 = 9 := Or.inl (yd_R2 (y := ⟨"ChaffInTheWindModel", "draw", "(I)I"⟩) rfl yd_pn_14 rfl yd_pd_1 (by decide +kernel) (by decide +kernel) (by decide +kernel))
theorem z_ckm_227 : z_ckR z_CT (k2_sels lw_privs) z_meth_227 = true ∨ z_meth_227.2.2.2.2.2.2.2.2.1 = 9 := Or.inl (yd_R2 (y := ⟨"ChaffInTheWindModel", "mostSort", "(I)I"⟩) rfl yd_pn_14 rfl yd_pd_1 (by decide +kernel) (by decide +kernel) (by decide +kernel))
theorem z_ckm_228 : z_ckR z_CT (k2_sels lw_privs) z_meth_228 = true ∨ z_meth_228.2.2.2.2.2.2.2.2.1 = 9 := Or.inl (yd_R2 (y := ⟨"ChaffInTheWindModel", "blows", "()I"⟩) rfl yd_pn_14 rfl yd_pd_3 (by decide +kernel) (by decide +kernel) (by decide +kernel))
theorem z_ckm_229 : z_ckR z_CT (k2_sels lw_privs) z_meth_229 = true ∨ z_meth_229.2.2.2.2.2.2.2.2.1 = 9 := Or.inl (yd_R2 (y := ⟨"ChaffInTheWindModel", "gather", "(III)I"⟩) rfl yd_pn_14 rfl yd_pd_10 (by decide +kernel) (by decide +kernel) (by decide +kernel))
theorem z_ckm_230 : z_ckR z_CT (k2_sels lw_privs) z_meth_230 = true ∨ z_meth_230.2.2.2.2.2.2.2.2.1 = 9 := Or.inl (yd_R2 (y := ⟨"ChaffInTheWindModel", "isYard", "(I)Z"⟩) rfl yd_pn_14 rfl yd_pd_2 (by decide +kernel) (by decide +kernel) (by decide +kernel))
theorem z_ckm_231 : z_ckR z_CT (k2_sels lw_privs) z_meth_231 = true ∨ z_meth_231.2.2.2.2.2.2.2.2.1 = 9 := Or.inl (yd_R2 (y := ⟨"ChaffInTheWindModel", "move", "(II)I"⟩) rfl yd_pn_14 rfl yd_pd_5 (by decide +kernel) (by decide +kernel) (by decide +kernel))
theorem z_ckm_232 : z_ckR z_CT (k2_sels lw_privs) z_meth_232 = true ∨ z_meth_232.2.2.2.2.2.2.2.2.1 = 9 := Or.inl (yd_R2 (y := ⟨"ChaffInTheWindModel", "moveSort", "(III)I"⟩) rfl yd_pn_14 rfl yd_pd_10 (by decide +kernel) (by decide +kernel) (by decide +kernel))
theorem z_ckm_233 : z_ckR z_CT (k2_sels lw_privs) z_meth_233 = true ∨ z_meth_233.2.2.2.2.2.2.2.2.1 = 9 := Or.inl (yd_R2 (y := ⟨"ChaffInTheWindModel", "mix", "(II)I"⟩) rfl yd_pn_14 rfl yd_pd_5 (by decide +kernel) (by decide +kernel) (by decide +kernel))
theorem z_ckm_234 : z_ckR z_CT (k2_sels lw_privs) z_meth_234 = true ∨ z_meth_234.2.2.2.2.2.2.2.2.1 = 9 := Or.inl (yd_R2 (y := ⟨"ChaffInTheWindModel", "sieve", "(III)I"⟩) rfl yd_pn_14 rfl yd_pd_10 (by decide +kernel) (by decide +kernel) (by decide +kernel))
theorem z_ckm_235 : z_ckR z_CT (k2_sels lw_privs) z_meth_235 = true ∨ z_meth_235.2.2.2.2.2.2.2.2.1 = 9 := Or.inl (yd_R2 (y := ⟨"ChaffInTheWindModel", "stroke", "(III)I"⟩) rfl yd_pn_14 rfl yd_pd_10 (by decide +kernel) (by decide +kernel) (by decide +kernel))
theorem z_ckm_236 : z_ckR z_CT (k2_sels lw_privs) z_meth_236 = true ∨ z_meth_236.2.2.2.2.2.2.2.2.1 = 9 := Or.inl (yd_R2 (y := ⟨"ChaffInTheWindModel", "isFlung", "(II)Z"⟩) rfl yd_pn_14 rfl yd_pd_24 (by decide +kernel) (by decide +kernel) (by decide +kernel))
theorem z_ckm_237 : z_ckR z_CT (k2_sels lw_privs) z_meth_237 = true ∨ z_meth_237.2.2.2.2.2.2.2.2.1 = 9 := Or.inl (yd_R2 (y := ⟨"ChaffInTheWindModel", "parts", "(II)I"⟩) rfl yd_pn_14 rfl yd_pd_5 (by decide +kernel) (by decide +kernel) (by decide +kernel))
theorem z_ckm_238 : z_ckR z_CT (k2_sels lw_privs) z_meth_238 = true ∨ z_meth_238.2.2.2.2.2.2.2.2.1 = 9 := Or.inl (yd_R2 (y := ⟨"ChaffInTheWindModel", "windAt", "(I)I"⟩) rfl yd_pn_14 rfl yd_pd_1 (by decide +kernel) (by decide +kernel) (by decide +kernel))
theorem z_ckm_239 : z_ckR z_CT (k2_sels lw_privs) z_meth_239 = true ∨ z_meth_239.2.2.2.2.2.2.2.2.1 = 9 := Or.inl (yd_R2 (y := ⟨"ChaffInTheWindModel", "never", "()I"⟩) rfl yd_pn_14 rfl yd_pd_3 (by decide +kernel) (by decide +kernel) (by decide +kernel))
theorem z_ckm_240 : z_ckR z_CT (k2_sels lw_privs) z_meth_240 = true ∨ z_meth_240.2.2.2.2.2.2.2.2.1 = 9 := Or.inl (yd_R2 (y := ⟨"ChaffInTheWindModel", "isParted", "(II)Z"⟩) rfl yd_pn_14 rfl yd_pd_24 (by decide +kernel) (by decide +kernel) (by decide +kernel))
theorem z_ckm_241 : z_ckR z_CT (k2_sels lw_privs) z_meth_241 = true ∨ z_meth_241.2.2.2.2.2.2.2.2.1 = 9 := Or.inl (yd_R2 (y := ⟨"ChaffInTheWindModel", "best", "(I)I"⟩) rfl yd_pn_14 rfl yd_pd_1 (by decide +kernel) (by decide +kernel) (by decide +kernel))
theorem z_ckm_242 : z_ckR z_CT (k2_sels lw_privs) z_meth_242 = true ∨ z_meth_242.2.2.2.2.2.2.2.2.1 = 9 := Or.inl (yd_R2 (y := ⟨"ChaffInTheWindModel", "throwAll", "(IIII)V"⟩) rfl yd_pn_14 rfl yd_pd_22 (by decide +kernel) (by decide +kernel) (by decide +kernel))
theorem z_ckm_243 : z_ckR z_CT (k2_sels lw_privs) z_meth_243 = true ∨ z_meth_243.2.2.2.2.2.2.2.2.1 = 9 := Or.inl (yd_R2 (y := ⟨"ChaffInTheWindModel", "cleanGrains", "()I"⟩) rfl yd_pn_14 rfl yd_pd_3 (by decide +kernel) (by decide +kernel) (by decide +kernel))
theorem z_ckm_244 : z_ckR z_CT (k2_sels lw_privs) z_meth_244 = true ∨ z_meth_244.2.2.2.2.2.2.2.2.1 = 9 := Or.inl (yd_R2 (y := ⟨"ChaffInTheWindModel", "aim", "(II)I"⟩) rfl yd_pn_14 rfl yd_pd_5 (by decide +kernel) (by decide +kernel) (by decide +kernel))
theorem z_ckm_245 : z_ckR z_CT (k2_sels lw_privs) z_meth_245 = true ∨ z_meth_245.2.2.2.2.2.2.2.2.1 = 9 := Or.inl (yd_R2 (y := ⟨"ChaffInTheWindModel", "fan", "(II)I"⟩) rfl yd_pn_14 rfl yd_pd_5 (by decide +kernel) (by decide +kernel) (by decide +kernel))
theorem z_ckm_246 : z_ckR z_CT (k2_sels lw_privs) z_meth_246 = true ∨ z_meth_246.2.2.2.2.2.2.2.2.1 = 9 := Or.inl (yd_R2 (y := ⟨"ChaffInTheWindModel", "serves", "(II)I"⟩) rfl yd_pn_14 rfl yd_pd_5 (by decide +kernel) (by decide +kernel) (by decide +kernel))
theorem z_ckm_247 : z_ckR z_CT (k2_sels lw_privs) z_meth_247 = true ∨ z_meth_247.2.2.2.2.2.2.2.2.1 = 9 := Or.inl (yd_R2 (y := ⟨"ChaffInTheWindModel", "odds", "(IIII)I"⟩) rfl yd_pn_14 rfl yd_pd_31 (by decide +kernel) (by decide +kernel) (by decide +kernel))
theorem z_ckm_248 : z_ckR z_CT (k2_sels lw_privs) z_meth_248 = true ∨ z_meth_248.2.2.2.2.2.2.2.2.1 = 9 := Or.inl (yd_R2 (y := ⟨"ChaffInTheWindModel", "tellPart", "(JJ)V"⟩) rfl yd_pn_14 rfl yd_pd_32 (by decide +kernel) (by decide +kernel) (by decide +kernel))
theorem z_ckm_249 : z_ckR z_CT (k2_sels lw_privs) z_meth_249 = true ∨ z_meth_249.2.2.2.2.2.2.2.2.1 = 9 := Or.inl (yd_R2 (y := ⟨"ChaffInTheWindModel", "common", "(JJ)J"⟩) rfl yd_pn_14 rfl yd_pd_33 (by decide +kernel) (by decide +kernel) (by decide +kernel))
theorem z_ckm_250 : z_ckR z_CT (k2_sels lw_privs) z_meth_250 = true ∨ z_meth_250.2.2.2.2.2.2.2.2.1 = 9 := Or.inl (yd_R2 (y := ⟨"ChaffInTheWindModel", "kin", "(I)I"⟩) rfl yd_pn_14 rfl yd_pd_1 (by decide +kernel) (by decide +kernel) (by decide +kernel))
theorem z_ckm_251 : z_ckR z_CT (k2_sels lw_privs) z_meth_251 = true ∨ z_meth_251.2.2.2.2.2.2.2.2.1 = 9 := Or.inl (yd_R2 (y := ⟨"ChaffInTheWindModel", "sends", "(II)I"⟩) rfl yd_pn_14 rfl yd_pd_5 (by decide +kernel) (by decide +kernel) (by decide +kernel))
theorem z_ckm_252 : z_ckR z_CT (k2_sels lw_privs) z_meth_252 = true ∨ z_meth_252.2.2.2.2.2.2.2.2.1 = 9 := Or.inl (yd_R2 (y := ⟨"ChaffInTheWindModel", "price", "(II)I"⟩) rfl yd_pn_14 rfl yd_pd_5 (by decide +kernel) (by decide +kernel) (by decide +kernel))
theorem z_ckm_253 : z_ckR z_CT (k2_sels lw_privs) z_meth_253 = true ∨ z_meth_253.2.2.2.2.2.2.2.2.1 = 9 := Or.inl (yd_R2 (y := ⟨"ChaffInTheWindModel", "priceOf", "(I[II)I"⟩) rfl yd_pn_14 rfl yd_pd_56 (by decide +kernel) (by decide +kernel) (by decide +kernel))
theorem z_ckm_254 : z_ckR z_CT (k2_sels lw_privs) z_meth_254 = true ∨ z_meth_254.2.2.2.2.2.2.2.2.1 = 9 := Or.inl (yd_R2 (y := ⟨"ChaffInTheWindModel", "worth", "(I)I"⟩) rfl yd_pn_14 rfl yd_pd_1 (by decide +kernel) (by decide +kernel) (by decide +kernel))
theorem z_ckm_255 : z_ckR z_CT (k2_sels lw_privs) z_meth_255 = true ∨ z_meth_255.2.2.2.2.2.2.2.2.1 = 9 := Or.inl (yd_R2 (y := ⟨"ChaffInTheWindModel", "worthOf", "([II)I"⟩) rfl yd_pn_14 rfl yd_pd_40 (by decide +kernel) (by decide +kernel) (by decide +kernel))
theorem z_ckm_256 : z_ckR z_CT (k2_sels lw_privs) z_meth_256 = true ∨ z_meth_256.2.2.2.2.2.2.2.2.1 = 9 := Or.inl (yd_R2 (y := ⟨"ChaffInTheWindModel", "marks", "(I)I"⟩) rfl yd_pn_14 rfl yd_pd_1 (by decide +kernel) (by decide +kernel) (by decide +kernel))
theorem z_ckm_257 : z_ckR z_CT (k2_sels lw_privs) z_meth_257 = true ∨ z_meth_257.2.2.2.2.2.2.2.2.1 = 9 := Or.inl (yd_R2 (y := ⟨"ChaffInTheWindModel", "may", "(III)I"⟩) rfl yd_pn_14 rfl yd_pd_10 (by decide +kernel) (by decide +kernel) (by decide +kernel))
theorem z_ckm_258 : z_ckR z_CT (k2_sels lw_privs) z_meth_258 = true ∨ z_meth_258.2.2.2.2.2.2.2.2.1 = 9 := Or.inl (yd_R2 (y := ⟨"ChaffInTheWindModel", "bushel", "(II)I"⟩) rfl yd_pn_14 rfl yd_pd_5 (by decide +kernel) (by decide +kernel) (by decide +kernel))
theorem z_ckm_259 : z_ckR z_CT (k2_sels lw_privs) z_meth_259 = true ∨ z_meth_259.2.2.2.2.2.2.2.2.1 = 9 := Or.inl (yd_R2 (y := ⟨"ChaffInTheWindModel", "weightOfSome", "(IIZ)J"⟩) rfl yd_pn_14 rfl yd_pd_57 (by decide +kernel) (by decide +kernel) (by decide +kernel))
theorem z_ckm_260 : z_ckR z_CT (k2_sels lw_privs) z_meth_260 = true ∨ z_meth_260.2.2.2.2.2.2.2.2.1 = 9 := Or.inl (yd_R2 (y := ⟨"ChaffInTheWindModel", "away", "(I)I"⟩) rfl yd_pn_14 rfl yd_pd_1 (by decide +kernel) (by decide +kernel) (by decide +kernel))
theorem z_ckm_261 : z_ckR z_CT (k2_sels lw_privs) z_meth_261 = true ∨ z_meth_261.2.2.2.2.2.2.2.2.1 = 9 := Or.inl (yd_R2 (y := ⟨"ChaffInTheWindModel", "shift", "(III)I"⟩) rfl yd_pn_14 rfl yd_pd_10 (by decide +kernel) (by decide +kernel) (by decide +kernel))
theorem z_ckm_262 : z_ckR z_CT (k2_sels lw_privs) z_meth_262 = true ∨ z_meth_262.2.2.2.2.2.2.2.2.1 = 9 := Or.inl (yd_R2 (y := ⟨"ChaffInTheWindModel", "blow", "(III)I"⟩) rfl yd_pn_14 rfl yd_pd_10 (by decide +kernel) (by decide +kernel) (by decide +kernel))
theorem z_ckm_263 : z_ckR z_CT (k2_sels lw_privs) z_meth_263 = true ∨ z_meth_263.2.2.2.2.2.2.2.2.1 = 9 := Or.inl (yd_R2 (y := ⟨"ChaffInTheWindModel", "add", "(ZIIIZ)I"⟩) rfl yd_pn_14 rfl yd_pd_58 (by decide +kernel) (by decide +kernel) (by decide +kernel))
theorem z_ckm_264 : z_ckR z_CT (k2_sels lw_privs) z_meth_264 = true ∨ z_meth_264.2.2.2.2.2.2.2.2.1 = 9 := Or.inl (yd_R2 (y := ⟨"ChaffInTheWindModel", "hole", "(IZ)I"⟩) rfl yd_pn_14 rfl yd_pd_41 (by decide +kernel) (by decide +kernel) (by decide +kernel))
theorem z_ckm_265 : z_ckR z_CT (k2_sels lw_privs) z_meth_265 = true ∨ z_meth_265.2.2.2.2.2.2.2.2.1 = 9 := Or.inl (yd_R2 (y := ⟨"ChaffInTheWindModel", "stays", "(I)I"⟩) rfl yd_pn_14 rfl yd_pd_1 (by decide +kernel) (by decide +kernel) (by decide +kernel))
theorem z_ckm_266 : z_ckR z_CT (k2_sels lw_privs) z_meth_266 = true ∨ z_meth_266.2.2.2.2.2.2.2.2.1 = 9 := Or.inl (yd_R2 (y := ⟨"ChaffInTheWindModel", "staying", "(I)I"⟩) rfl yd_pn_14 rfl yd_pd_1 (by decide +kernel) (by decide +kernel) (by decide +kernel))
theorem z_ckm_267 : z_ckR z_CT (k2_sels lw_privs) z_meth_267 = true ∨ z_meth_267.2.2.2.2.2.2.2.2.1 = 9 := Or.inl (yd_R2 (y := ⟨"ChaffInTheWindModel", "order", "(III)I"⟩) rfl yd_pn_14 rfl yd_pd_10 (by decide +kernel) (by decide +kernel) (by decide +kernel))
theorem z_ckm_268 : z_ckR z_CT (k2_sels lw_privs) z_meth_268 = true ∨ z_meth_268.2.2.2.2.2.2.2.2.1 = 9 := Or.inl (yd_R2 (y := ⟨"ChaffInTheWindModel", "isOrdered", "(III)Z"⟩) rfl yd_pn_14 rfl yd_pd_44 (by decide +kernel) (by decide +kernel) (by decide +kernel))
theorem z_ckm_269 : z_ckR z_CT (k2_sels lw_privs) z_meth_269 = true ∨ z_meth_269.2.2.2.2.2.2.2.2.1 = 9 := Or.inl (yd_R2 (y := ⟨"ChaffInTheWindModel", "all", "()I"⟩) rfl yd_pn_14 rfl yd_pd_3 (by decide +kernel) (by decide +kernel) (by decide +kernel))
theorem z_ckm_270 : z_ckR z_CT (k2_sels lw_privs) z_meth_270 = true ∨ z_meth_270.2.2.2.2.2.2.2.2.1 = 9 := Or.inl (yd_R2 (y := ⟨"ChaffInTheWindModel", "weightOf", "(IIZ)J"⟩) rfl yd_pn_14 rfl yd_pd_57 (by decide +kernel) (by decide +kernel) (by decide +kernel))
theorem z_ckm_271 : z_ckR z_CT (k2_sels lw_privs) z_meth_271 = true ∨ z_meth_271.2.2.2.2.2.2.2.2.1 = 9 := Or.inl (yd_R2 (y := ⟨"ChaffInTheWindModel", "isIn", "(II)Z"⟩) rfl yd_pn_14 rfl yd_pd_24 (by decide +kernel) (by decide +kernel) (by decide +kernel))
theorem z_ckm_272 : z_ckR z_CT (k2_sels lw_privs) z_meth_272 = true ∨ z_meth_272.2.2.2.2.2.2.2.2.1 = 9 := Or.inl (yd_R2 (y := ⟨"ChaffInTheWindModel", "findOrder", "(III)I"⟩) rfl yd_pn_14 rfl yd_pd_10 (by decide +kernel) (by decide +kernel) (by decide +kernel))
theorem z_ckm_273 : z_ckR z_CT (k2_sels lw_privs) z_meth_273 = true ∨ z_meth_273.2.2.2.2.2.2.2.2.1 = 9 := Or.inl (yd_R2 (y := ⟨"ChaffInTheWindModel", "does", "(IIII)Z"⟩) rfl yd_pn_14 rfl yd_pd_59 (by decide +kernel) (by decide +kernel) (by decide +kernel))
theorem z_ckm_274 : z_ckR z_CT (k2_sels lw_privs) z_meth_274 = true ∨ z_meth_274.2.2.2.2.2.2.2.2.1 = 9 := Or.inl (yd_R2 (y := ⟨"ChaffInTheWindModel", "stayingBy", "(I)I"⟩) rfl yd_pn_14 rfl yd_pd_1 (by decide +kernel) (by decide +kernel) (by decide +kernel))
theorem z_ckm_275 : z_ckR z_CT (k2_sels lw_privs) z_meth_275 = true ∨ z_meth_275.2.2.2.2.2.2.2.2.1 = 9 := Or.inl (yd_R2 (y := ⟨"ChaffInTheWindModel", "grainsIn", "(II)I"⟩) rfl yd_pn_14 rfl yd_pd_5 (by decide +kernel) (by decide +kernel) (by decide +kernel))
theorem z_ckm_276 : z_ckR z_CT (k2_sels lw_privs) z_meth_276 = true ∨ z_meth_276.2.2.2.2.2.2.2.2.1 = 9 := Or.inl (yd_R2 (y := ⟨"ChaffInTheWindModel", "needed", "(III)I"⟩) rfl yd_pn_14 rfl yd_pd_10 (by decide +kernel) (by decide +kernel) (by decide +kernel))
theorem z_ckm_277 : z_ckR z_CT (k2_sels lw_privs) z_meth_277 = true ∨ z_meth_277.2.2.2.2.2.2.2.2.1 = 9 := Or.inl (yd_R2 (y := ⟨"ChaffInTheWindModel", "strokes", "(I)I"⟩) rfl yd_pn_14 rfl yd_pd_1 (by decide +kernel) (by decide +kernel) (by decide +kernel))
theorem z_ckm_278 : z_ckR z_CT (k2_sels lw_privs) z_meth_278 = true ∨ z_meth_278.2.2.2.2.2.2.2.2.1 = 9 := Or.inl (yd_R2 (y := ⟨"ChaffInTheWindModel", "find", "(I)I"⟩) rfl yd_pn_14 rfl yd_pd_1 (by decide +kernel) (by decide +kernel) (by decide +kernel))
theorem z_ckm_279 : z_ckR z_CT (k2_sels lw_privs) z_meth_279 = true ∨ z_meth_279.2.2.2.2.2.2.2.2.1 = 9 := Or.inl (yd_R2 (y := ⟨"ChaffInTheWindModel", "await", "(IIIII)I"⟩) rfl yd_pn_14 rfl yd_pd_19 (by decide +kernel) (by decide +kernel) (by decide +kernel))
theorem z_ckm_280 : z_ckR z_CT (k2_sels lw_privs) z_meth_280 = true ∨ z_meth_280.2.2.2.2.2.2.2.2.1 = 9 := Or.inl (yd_R2 (y := ⟨"ChaffInTheWindModel", "heavy", "(I)I"⟩) rfl yd_pn_14 rfl yd_pd_1 (by decide +kernel) (by decide +kernel) (by decide +kernel))
theorem z_ckm_281 : z_ckR z_CT (k2_sels lw_privs) z_meth_281 = true ∨ z_meth_281.2.2.2.2.2.2.2.2.1 = 9 := Or.inl (yd_R2 (y := ⟨"ChaffInTheWindModel", "sample", "(II)I"⟩) rfl yd_pn_14 rfl yd_pd_5 (by decide +kernel) (by decide +kernel) (by decide +kernel))
theorem z_ckm_282 : z_ckR z_CT (k2_sels lw_privs) z_meth_282 = true ∨ z_meth_282.2.2.2.2.2.2.2.2.1 = 9 := Or.inl (yd_R2 (y := ⟨"ChaffInTheWindModel", "cornOf", "(I)I"⟩) rfl yd_pn_14 rfl yd_pd_1 (by decide +kernel) (by decide +kernel) (by decide +kernel))
theorem z_ckm_283 : z_ckR z_CT (k2_sels lw_privs) z_meth_283 = true ∨ z_meth_283.2.2.2.2.2.2.2.2.1 = 9 := Or.inl (yd_R2 (y := ⟨"ChaffInTheWindModel", "ways", "(II)J"⟩) rfl yd_pn_14 rfl yd_pd_49 (by decide +kernel) (by decide +kernel) (by decide +kernel))
theorem z_ckm_284 : z_ckR z_CT (k2_sels lw_privs) z_meth_284 = true ∨ z_meth_284.2.2.2.2.2.2.2.2.1 = 9 := Or.inl (yd_R2 (y := ⟨"ChaffInTheWindModel", "grains", "(II)I"⟩) rfl yd_pn_14 rfl yd_pd_5 (by decide +kernel) (by decide +kernel) (by decide +kernel))
theorem z_ckm_285 : z_ckR z_CT (k2_sels lw_privs) z_meth_285 = true ∨ z_meth_285.2.2.2.2.2.2.2.2.1 = 9 := Or.inl (yd_R2 (y := ⟨"ChaffInTheWindModel", "seed", "(I)I"⟩) rfl yd_pn_14 rfl yd_pd_1 (by decide +kernel) (by decide +kernel) (by decide +kernel))
theorem z_ckm_286 : z_ckR z_CT (k2_sels lw_privs) z_meth_286 = true ∨ z_meth_286.2.2.2.2.2.2.2.2.1 = 9 := Or.inl (yd_R2 (y := ⟨"ChaffInTheWindModel", "keep", "(I)Z"⟩) rfl yd_pn_14 rfl yd_pd_2 (by decide +kernel) (by decide +kernel) (by decide +kernel))
theorem z_ckm_287 : z_ckR z_CT (k2_sels lw_privs) z_meth_287 = true ∨ z_meth_287.2.2.2.2.2.2.2.2.1 = 9 := Or.inl (yd_R2 (y := ⟨"ChaffInTheWindModel", "again", "(I)Z"⟩) rfl yd_pn_14 rfl yd_pd_2 (by decide +kernel) (by decide +kernel) (by decide +kernel))
theorem z_ckm_288 : z_ckR z_CT (k2_sels lw_privs) z_meth_288 = true ∨ z_meth_288.2.2.2.2.2.2.2.2.1 = 9 := Or.inl (yd_R2 (y := ⟨"ChaffInTheWindModel", "count", "(I)I"⟩) rfl yd_pn_14 rfl yd_pd_1 (by decide +kernel) (by decide +kernel) (by decide +kernel))
theorem z_ckm_289 : z_ckR z_CT (k2_sels lw_privs) z_meth_289 = true ∨ z_meth_289.2.2.2.2.2.2.2.2.1 = 9 := Or.inl (yd_R2 (y := ⟨"ChaffInTheWindModel", "row", "(I)J"⟩) rfl yd_pn_14 rfl yd_pd_52 (by decide +kernel) (by decide +kernel) (by decide +kernel))
theorem z_ckm_290 : z_ckR z_CT (k2_sels lw_privs) z_meth_290 = true ∨ z_meth_290.2.2.2.2.2.2.2.2.1 = 9 := Or.inr rfl
theorem z_ckr_0 : ∀ q ∈ z_row_0, z_ckR z_CT (k2_sels lw_privs) q = true ∨ q.2.2.2.2.2.2.2.2.1 = 9 := by
  intro q hq
  unfold z_row_0 at hq
  simp only [List.mem_cons, List.not_mem_nil, or_false] at hq
  rcases hq with rfl | rfl | rfl | rfl | rfl | rfl | rfl | rfl | rfl | rfl | rfl | rfl | rfl | rfl | rfl | rfl
  · exact z_ckm_0
  · exact z_ckm_1
  · exact z_ckm_2
  · exact z_ckm_3
  · exact z_ckm_4
  · exact z_ckm_5
  · exact z_ckm_6
  · exact z_ckm_7
  · exact z_ckm_8
  · exact z_ckm_9
  · exact z_ckm_10
  · exact z_ckm_11
  · exact z_ckm_12
  · exact z_ckm_13
  · exact z_ckm_14
  · exact z_ckm_15
theorem z_ckr_1 : ∀ q ∈ z_row_1, z_ckR z_CT (k2_sels lw_privs) q = true ∨ q.2.2.2.2.2.2.2.2.1 = 9 := by
  intro q hq
  unfold z_row_1 at hq
  simp only [List.mem_cons, List.not_mem_nil, or_false] at hq
  rcases hq with rfl | rfl | rfl | rfl | rfl | rfl | rfl | rfl | rfl | rfl | rfl | rfl | rfl | rfl | rfl | rfl
  · exact z_ckm_16
  · exact z_ckm_17
  · exact z_ckm_18
  · exact z_ckm_19
  · exact z_ckm_20
  · exact z_ckm_21
  · exact z_ckm_22
  · exact z_ckm_23
  · exact z_ckm_24
  · exact z_ckm_25
  · exact z_ckm_26
  · exact z_ckm_27
  · exact z_ckm_28
  · exact z_ckm_29
  · exact z_ckm_30
  · exact z_ckm_31
theorem z_ckr_2 : ∀ q ∈ z_row_2, z_ckR z_CT (k2_sels lw_privs) q = true ∨ q.2.2.2.2.2.2.2.2.1 = 9 := by
  intro q hq
  unfold z_row_2 at hq
  simp only [List.mem_cons, List.not_mem_nil, or_false] at hq
  rcases hq with rfl | rfl | rfl | rfl | rfl | rfl | rfl | rfl | rfl | rfl | rfl | rfl | rfl | rfl | rfl | rfl
  · exact z_ckm_32
  · exact z_ckm_33
  · exact z_ckm_34
  · exact z_ckm_35
  · exact z_ckm_36
  · exact z_ckm_37
  · exact z_ckm_38
  · exact z_ckm_39
  · exact z_ckm_40
  · exact z_ckm_41
  · exact z_ckm_42
  · exact z_ckm_43
  · exact z_ckm_44
  · exact z_ckm_45
  · exact z_ckm_46
  · exact z_ckm_47
theorem z_ckr_3 : ∀ q ∈ z_row_3, z_ckR z_CT (k2_sels lw_privs) q = true ∨ q.2.2.2.2.2.2.2.2.1 = 9 := by
  intro q hq
  unfold z_row_3 at hq
  simp only [List.mem_cons, List.not_mem_nil, or_false] at hq
  rcases hq with rfl | rfl | rfl | rfl | rfl | rfl | rfl | rfl | rfl | rfl | rfl | rfl | rfl | rfl | rfl | rfl
  · exact z_ckm_48
  · exact z_ckm_49
  · exact z_ckm_50
  · exact z_ckm_51
  · exact z_ckm_52
  · exact z_ckm_53
  · exact z_ckm_54
  · exact z_ckm_55
  · exact z_ckm_56
  · exact z_ckm_57
  · exact z_ckm_58
  · exact z_ckm_59
  · exact z_ckm_60
  · exact z_ckm_61
  · exact z_ckm_62
  · exact z_ckm_63
theorem z_ckr_4 : ∀ q ∈ z_row_4, z_ckR z_CT (k2_sels lw_privs) q = true ∨ q.2.2.2.2.2.2.2.2.1 = 9 := by
  intro q hq
  unfold z_row_4 at hq
  simp only [List.mem_cons, List.not_mem_nil, or_false] at hq
  rcases hq with rfl | rfl | rfl | rfl | rfl | rfl | rfl | rfl | rfl | rfl | rfl | rfl | rfl | rfl | rfl | rfl
  · exact z_ckm_64
  · exact z_ckm_65
  · exact z_ckm_66
  · exact z_ckm_67
  · exact z_ckm_68
  · exact z_ckm_69
  · exact z_ckm_70
  · exact z_ckm_71
  · exact z_ckm_72
  · exact z_ckm_73
  · exact z_ckm_74
  · exact z_ckm_75
  · exact z_ckm_76
  · exact z_ckm_77
  · exact z_ckm_78
  · exact z_ckm_79
theorem z_ckr_5 : ∀ q ∈ z_row_5, z_ckR z_CT (k2_sels lw_privs) q = true ∨ q.2.2.2.2.2.2.2.2.1 = 9 := by
  intro q hq
  unfold z_row_5 at hq
  simp only [List.mem_cons, List.not_mem_nil, or_false] at hq
  rcases hq with rfl | rfl | rfl | rfl | rfl | rfl | rfl | rfl | rfl | rfl | rfl | rfl | rfl | rfl | rfl | rfl
  · exact z_ckm_80
  · exact z_ckm_81
  · exact z_ckm_82
  · exact z_ckm_83
  · exact z_ckm_84
  · exact z_ckm_85
  · exact z_ckm_86
  · exact z_ckm_87
  · exact z_ckm_88
  · exact z_ckm_89
  · exact z_ckm_90
  · exact z_ckm_91
  · exact z_ckm_92
  · exact z_ckm_93
  · exact z_ckm_94
  · exact z_ckm_95
theorem z_ckr_6 : ∀ q ∈ z_row_6, z_ckR z_CT (k2_sels lw_privs) q = true ∨ q.2.2.2.2.2.2.2.2.1 = 9 := by
  intro q hq
  unfold z_row_6 at hq
  simp only [List.mem_cons, List.not_mem_nil, or_false] at hq
  rcases hq with rfl | rfl | rfl | rfl | rfl | rfl | rfl | rfl | rfl | rfl | rfl | rfl | rfl | rfl | rfl | rfl
  · exact z_ckm_96
  · exact z_ckm_97
  · exact z_ckm_98
  · exact z_ckm_99
  · exact z_ckm_100
  · exact z_ckm_101
  · exact z_ckm_102
  · exact z_ckm_103
  · exact z_ckm_104
  · exact z_ckm_105
  · exact z_ckm_106
  · exact z_ckm_107
  · exact z_ckm_108
  · exact z_ckm_109
  · exact z_ckm_110
  · exact z_ckm_111
theorem z_ckr_7 : ∀ q ∈ z_row_7, z_ckR z_CT (k2_sels lw_privs) q = true ∨ q.2.2.2.2.2.2.2.2.1 = 9 := by
  intro q hq
  unfold z_row_7 at hq
  simp only [List.mem_cons, List.not_mem_nil, or_false] at hq
  rcases hq with rfl | rfl | rfl | rfl | rfl | rfl | rfl | rfl | rfl | rfl | rfl | rfl | rfl | rfl | rfl | rfl
  · exact z_ckm_112
  · exact z_ckm_113
  · exact z_ckm_114
  · exact z_ckm_115
  · exact z_ckm_116
  · exact z_ckm_117
  · exact z_ckm_118
  · exact z_ckm_119
  · exact z_ckm_120
  · exact z_ckm_121
  · exact z_ckm_122
  · exact z_ckm_123
  · exact z_ckm_124
  · exact z_ckm_125
  · exact z_ckm_126
  · exact z_ckm_127
theorem z_ckr_8 : ∀ q ∈ z_row_8, z_ckR z_CT (k2_sels lw_privs) q = true ∨ q.2.2.2.2.2.2.2.2.1 = 9 := by
  intro q hq
  unfold z_row_8 at hq
  simp only [List.mem_cons, List.not_mem_nil, or_false] at hq
  rcases hq with rfl | rfl | rfl | rfl | rfl | rfl | rfl | rfl | rfl | rfl | rfl | rfl | rfl | rfl | rfl | rfl
  · exact z_ckm_128
  · exact z_ckm_129
  · exact z_ckm_130
  · exact z_ckm_131
  · exact z_ckm_132
  · exact z_ckm_133
  · exact z_ckm_134
  · exact z_ckm_135
  · exact z_ckm_136
  · exact z_ckm_137
  · exact z_ckm_138
  · exact z_ckm_139
  · exact z_ckm_140
  · exact z_ckm_141
  · exact z_ckm_142
  · exact z_ckm_143
theorem z_ckr_9 : ∀ q ∈ z_row_9, z_ckR z_CT (k2_sels lw_privs) q = true ∨ q.2.2.2.2.2.2.2.2.1 = 9 := by
  intro q hq
  unfold z_row_9 at hq
  simp only [List.mem_cons, List.not_mem_nil, or_false] at hq
  rcases hq with rfl | rfl | rfl | rfl | rfl | rfl | rfl | rfl | rfl | rfl | rfl | rfl | rfl | rfl | rfl | rfl
  · exact z_ckm_144
  · exact z_ckm_145
  · exact z_ckm_146
  · exact z_ckm_147
  · exact z_ckm_148
  · exact z_ckm_149
  · exact z_ckm_150
  · exact z_ckm_151
  · exact z_ckm_152
  · exact z_ckm_153
  · exact z_ckm_154
  · exact z_ckm_155
  · exact z_ckm_156
  · exact z_ckm_157
  · exact z_ckm_158
  · exact z_ckm_159
theorem z_ckr_10 : ∀ q ∈ z_row_10, z_ckR z_CT (k2_sels lw_privs) q = true ∨ q.2.2.2.2.2.2.2.2.1 = 9 := by
  intro q hq
  unfold z_row_10 at hq
  simp only [List.mem_cons, List.not_mem_nil, or_false] at hq
  rcases hq with rfl | rfl | rfl | rfl | rfl | rfl | rfl | rfl | rfl | rfl | rfl | rfl | rfl | rfl | rfl | rfl
  · exact z_ckm_160
  · exact z_ckm_161
  · exact z_ckm_162
  · exact z_ckm_163
  · exact z_ckm_164
  · exact z_ckm_165
  · exact z_ckm_166
  · exact z_ckm_167
  · exact z_ckm_168
  · exact z_ckm_169
  · exact z_ckm_170
  · exact z_ckm_171
  · exact z_ckm_172
  · exact z_ckm_173
  · exact z_ckm_174
  · exact z_ckm_175
theorem z_ckr_11 : ∀ q ∈ z_row_11, z_ckR z_CT (k2_sels lw_privs) q = true ∨ q.2.2.2.2.2.2.2.2.1 = 9 := by
  intro q hq
  unfold z_row_11 at hq
  simp only [List.mem_cons, List.not_mem_nil, or_false] at hq
  rcases hq with rfl | rfl | rfl | rfl | rfl | rfl | rfl | rfl | rfl | rfl | rfl | rfl | rfl | rfl | rfl | rfl
  · exact z_ckm_176
  · exact z_ckm_177
  · exact z_ckm_178
  · exact z_ckm_179
  · exact z_ckm_180
  · exact z_ckm_181
  · exact z_ckm_182
  · exact z_ckm_183
  · exact z_ckm_184
  · exact z_ckm_185
  · exact z_ckm_186
  · exact z_ckm_187
  · exact z_ckm_188
  · exact z_ckm_189
  · exact z_ckm_190
  · exact z_ckm_191
theorem z_ckr_12 : ∀ q ∈ z_row_12, z_ckR z_CT (k2_sels lw_privs) q = true ∨ q.2.2.2.2.2.2.2.2.1 = 9 := by
  intro q hq
  unfold z_row_12 at hq
  simp only [List.mem_cons, List.not_mem_nil, or_false] at hq
  rcases hq with rfl | rfl | rfl | rfl | rfl | rfl | rfl | rfl | rfl | rfl | rfl | rfl | rfl | rfl | rfl | rfl
  · exact z_ckm_192
  · exact z_ckm_193
  · exact z_ckm_194
  · exact z_ckm_195
  · exact z_ckm_196
  · exact z_ckm_197
  · exact z_ckm_198
  · exact z_ckm_199
  · exact z_ckm_200
  · exact z_ckm_201
  · exact z_ckm_202
  · exact z_ckm_203
  · exact z_ckm_204
  · exact z_ckm_205
  · exact z_ckm_206
  · exact z_ckm_207
theorem z_ckr_13 : ∀ q ∈ z_row_13, z_ckR z_CT (k2_sels lw_privs) q = true ∨ q.2.2.2.2.2.2.2.2.1 = 9 := by
  intro q hq
  unfold z_row_13 at hq
  simp only [List.mem_cons, List.not_mem_nil, or_false] at hq
  rcases hq with rfl | rfl | rfl | rfl | rfl | rfl | rfl | rfl | rfl | rfl | rfl | rfl | rfl | rfl | rfl | rfl
  · exact z_ckm_208
  · exact z_ckm_209
  · exact z_ckm_210
  · exact z_ckm_211
  · exact z_ckm_212
  · exact z_ckm_213
  · exact z_ckm_214
  · exact z_ckm_215
  · exact z_ckm_216
  · exact z_ckm_217
  · exact z_ckm_218
  · exact z_ckm_219
  · exact z_ckm_220
  · exact z_ckm_221
  · exact z_ckm_222
  · exact z_ckm_223
theorem z_ckr_14 : ∀ q ∈ z_row_14, z_ckR z_CT (k2_sels lw_privs) q = true ∨ q.2.2.2.2.2.2.2.2.1 = 9 := by
  intro q hq
  unfold z_row_14 at hq
  simp only [List.mem_cons, List.not_mem_nil, or_false] at hq
  rcases hq with rfl | rfl | rfl | rfl | rfl | rfl | rfl | rfl | rfl | rfl | rfl | rfl | rfl | rfl | rfl | rfl
  · exact z_ckm_224
  · exact z_ckm_225
  · exact z_ckm_226
  · exact z_ckm_227
  · exact z_ckm_228
  · exact z_ckm_229
  · exact z_ckm_230
  · exact z_ckm_231
  · exact z_ckm_232
  · exact z_ckm_233
  · exact z_ckm_234
  · exact z_ckm_235
  · exact z_ckm_236
  · exact z_ckm_237
  · exact z_ckm_238
  · exact z_ckm_239
theorem z_ckr_15 : ∀ q ∈ z_row_15, z_ckR z_CT (k2_sels lw_privs) q = true ∨ q.2.2.2.2.2.2.2.2.1 = 9 := by
  intro q hq
  unfold z_row_15 at hq
  simp only [List.mem_cons, List.not_mem_nil, or_false] at hq
  rcases hq with rfl | rfl | rfl | rfl | rfl | rfl | rfl | rfl | rfl | rfl | rfl | rfl | rfl | rfl | rfl | rfl
  · exact z_ckm_240
  · exact z_ckm_241
  · exact z_ckm_242
  · exact z_ckm_243
  · exact z_ckm_244
  · exact z_ckm_245
  · exact z_ckm_246
  · exact z_ckm_247
  · exact z_ckm_248
  · exact z_ckm_249
  · exact z_ckm_250
  · exact z_ckm_251
  · exact z_ckm_252
  · exact z_ckm_253
  · exact z_ckm_254
  · exact z_ckm_255
theorem z_ckr_16 : ∀ q ∈ z_row_16, z_ckR z_CT (k2_sels lw_privs) q = true ∨ q.2.2.2.2.2.2.2.2.1 = 9 := by
  intro q hq
  unfold z_row_16 at hq
  simp only [List.mem_cons, List.not_mem_nil, or_false] at hq
  rcases hq with rfl | rfl | rfl | rfl | rfl | rfl | rfl | rfl | rfl | rfl | rfl | rfl | rfl | rfl | rfl | rfl
  · exact z_ckm_256
  · exact z_ckm_257
  · exact z_ckm_258
  · exact z_ckm_259
  · exact z_ckm_260
  · exact z_ckm_261
  · exact z_ckm_262
  · exact z_ckm_263
  · exact z_ckm_264
  · exact z_ckm_265
  · exact z_ckm_266
  · exact z_ckm_267
  · exact z_ckm_268
  · exact z_ckm_269
  · exact z_ckm_270
  · exact z_ckm_271
theorem z_ckr_17 : ∀ q ∈ z_row_17, z_ckR z_CT (k2_sels lw_privs) q = true ∨ q.2.2.2.2.2.2.2.2.1 = 9 := by
  intro q hq
  unfold z_row_17 at hq
  simp only [List.mem_cons, List.not_mem_nil, or_false] at hq
  rcases hq with rfl | rfl | rfl | rfl | rfl | rfl | rfl | rfl | rfl | rfl | rfl | rfl | rfl | rfl | rfl | rfl
  · exact z_ckm_272
  · exact z_ckm_273
  · exact z_ckm_274
  · exact z_ckm_275
  · exact z_ckm_276
  · exact z_ckm_277
  · exact z_ckm_278
  · exact z_ckm_279
  · exact z_ckm_280
  · exact z_ckm_281
  · exact z_ckm_282
  · exact z_ckm_283
  · exact z_ckm_284
  · exact z_ckm_285
  · exact z_ckm_286
  · exact z_ckm_287
theorem z_ckr_18 : ∀ q ∈ z_row_18, z_ckR z_CT (k2_sels lw_privs) q = true ∨ q.2.2.2.2.2.2.2.2.1 = 9 := by
  intro q hq
  unfold z_row_18 at hq
  simp only [List.mem_cons, List.not_mem_nil, or_false] at hq
  rcases hq with rfl | rfl | rfl
  · exact z_ckm_288
  · exact z_ckm_289
  · exact z_ckm_290
end ZPCK2
