section ZCN85
/-- C.await(IIIII)I -/
def z_Ke1355 : z_as_ := ((170, 0, [(0, .inr (.inr (false, [13]))), (1, .inl (0, 0, 0, (-2147483648), 2147483647)), (2, .inl (0, 0, 0, (-2147483648), 2147483647)), (3, .inl (0, 0, 0, (-2147483648), (-1))), (4, .inl (0, 0, 0, (-2147483648), 2147483647)), (5, .inl (0, 0, 0, (-2147483648), 2147483647))], [], 0, 0), [], z_H0c, 1, [], 900000)
def z_Kx1355 : List z_Xe := [(some (.inl (0, 0, 0, (-1), (-1))), [], 0)]
def z_Kk1355 : z_Kc := (170, 1, z_Ke1355, [], z_Kx1355, none)
def z_Kd1355 : List z_ce := [(1, z_Ke1355, [], [(0, 1, 0)])]
theorem z_Kt1355 : (z_Kd1355.all fun C => z_cok3 (z_G []) [] [] z_Tg0 12 1 ([]) (z_QX (z_lbk z_Kk1355.2.2.1 z_Kk1355.2.2.2.1) 1 900000 [] z_Kk1355.2.2.2.2.1) (z_atl []) [] z_Kd1355 30000 C) = true := by decide +kernel
theorem z_Kn1355 {xs : List Int32} : z_cn (z_G xs) 12 z_J z_Kk1355 := z_mkN (n := 1) (W := []) (D := []) z_Kk1355 z_Kd1355 rfl z_kn z_Kt1355 rfl rfl rfl rfl
/-- C.await(IIIII)I -/
def z_Ke356 : z_as_ := ((170, 0, [(0, .inr (.inr (false, [13]))), (1, .inl (0, 0, 0, (-2147483648), 2147483647)), (2, .inl (0, 0, 0, (-2147483648), 2147483647)), (3, .inl (0, 0, 0, 1000, 2147483647)), (4, .inl (0, 0, 0, (-2147483648), 2147483647)), (5, .inl (0, 0, 0, (-2147483648), 2147483647))], [], 0, 0), [], z_H0c, 1, [], 900000)
def z_Kx356 : List z_Xe := [(some (.inl (0, 0, 0, (-1), (-1))), [], 0)]
def z_Kk356 : z_Kc := (170, 1, z_Ke356, [], z_Kx356, none)
def z_Kd356 : List z_ce := [(1, z_Ke356, [], [(0, 1, 0)])]
theorem z_Kt356 : (z_Kd356.all fun C => z_cok3 (z_G []) [] [] z_Tg0 12 1 ([]) (z_QX (z_lbk z_Kk356.2.2.1 z_Kk356.2.2.2.1) 1 900000 [] z_Kk356.2.2.2.2.1) (z_atl []) [] z_Kd356 30000 C) = true := by decide +kernel
theorem z_Kn356 {xs : List Int32} : z_cn (z_G xs) 12 z_J z_Kk356 := z_mkN (n := 1) (W := []) (D := []) z_Kk356 z_Kd356 rfl z_kn z_Kt356 rfl rfl rfl rfl
/-- C.await(IIIII)I -/
def z_Ke357 : z_as_ := ((170, 0, [(0, .inr (.inr (false, [13]))), (1, .inl (0, 0, 0, (-2147483648), 2147483647)), (2, .inl (0, 0, 0, (-2147483648), 2147483647)), (3, .inl (0, 0, 0, (-2147483648), 2147483647)), (4, .inl (0, 0, 0, (-2147483648), (-1))), (5, .inl (0, 0, 0, (-2147483648), 2147483647))], [], 0, 0), [], z_H0c, 1, [], 900000)
def z_Kx357 : List z_Xe := [(some (.inl (0, 0, 0, (-1), (-1))), [], 0)]
def z_Kk357 : z_Kc := (170, 1, z_Ke357, [], z_Kx357, none)
def z_Kd357 : List z_ce := [(1, z_Ke357, [], [(0, 1, 0)])]
theorem z_Kt357 : (z_Kd357.all fun C => z_cok3 (z_G []) [] [] z_Tg0 12 1 ([]) (z_QX (z_lbk z_Kk357.2.2.1 z_Kk357.2.2.2.1) 1 900000 [] z_Kk357.2.2.2.2.1) (z_atl []) [] z_Kd357 30000 C) = true := by decide +kernel
theorem z_Kn357 {xs : List Int32} : z_cn (z_G xs) 12 z_J z_Kk357 := z_mkN (n := 1) (W := []) (D := []) z_Kk357 z_Kd357 rfl z_kn z_Kt357 rfl rfl rfl rfl
/-- C.await(IIIII)I -/
def z_Ke358 : z_as_ := ((170, 0, [(0, .inr (.inr (false, [13]))), (1, .inl (0, 0, 0, (-2147483648), 2147483647)), (2, .inl (0, 0, 0, (-2147483648), 2147483647)), (3, .inl (1, 0, 0, (-2147483648), 2147483647)), (4, .inl (2, 0, 0, (-2147483648), 2147483647)), (5, .inl (0, 0, 0, (-2147483648), 2147483647))], [], 0, 0), [], z_H0c, 3, [(1, 2, 1)], 900000)
def z_Kx358 : List z_Xe := [(some (.inl (0, 0, 0, (-1), (-1))), [], 0)]
def z_Kk358 : z_Kc := (170, 1, z_Ke358, [(1, (0, 0, 3)), (2, (0, 0, 4))], z_Kx358, none)
def z_Kd358 : List z_ce := [(1, z_Ke358, [(1, (0, 0, 3)), (2, (0, 0, 4))], [(0, 1, 0)])]
theorem z_Kt358 : (z_Kd358.all fun C => z_cok3 (z_G []) [] [] z_Tg0 12 3 ([]) (z_QX (z_lbk z_Kk358.2.2.1 z_Kk358.2.2.2.1) 3 900000 [] z_Kk358.2.2.2.2.1) (z_atl []) [] z_Kd358 30000 C) = true := by decide +kernel
theorem z_Kn358 {xs : List Int32} : z_cn (z_G xs) 12 z_J z_Kk358 := z_mkN (n := 3) (W := []) (D := []) z_Kk358 z_Kd358 rfl z_kn z_Kt358 rfl rfl rfl rfl
/-- C.await(IIIII)I -/
def z_Ke359 : z_as_ := ((170, 0, [(0, .inr (.inr (false, [13]))), (1, .inl (0, 0, 0, (-2147483648), 2147483647)), (2, .inl (0, 0, 0, (-2147483648), (-1))), (3, .inl (0, 0, 0, (-2147483648), 2147483647)), (4, .inl (0, 0, 0, (-2147483648), 2147483647)), (5, .inl (0, 0, 0, (-2147483648), 2147483647))], [], 0, 0), [], z_H0c, 1, [], 900000)
def z_Kx359 : List z_Xe := [(some (.inl (0, 0, 0, (-1), (-1))), [], 0)]
def z_Kk359 : z_Kc := (170, 1, z_Ke359, [], z_Kx359, none)
def z_Kd359 : List z_ce := [(1, z_Ke359, [], [(0, 1, 0)])]
theorem z_Kt359 : (z_Kd359.all fun C => z_cok3 (z_G []) [] [] z_Tg0 12 1 ([]) (z_QX (z_lbk z_Kk359.2.2.1 z_Kk359.2.2.2.1) 1 900000 [] z_Kk359.2.2.2.2.1) (z_atl []) [] z_Kd359 30000 C) = true := by decide +kernel
theorem z_Kn359 {xs : List Int32} : z_cn (z_G xs) 12 z_J z_Kk359 := z_mkN (n := 1) (W := []) (D := []) z_Kk359 z_Kd359 rfl z_kn z_Kt359 rfl rfl rfl rfl
/-- C.await(IIIII)I -/
def z_Ke360 : z_as_ := ((170, 0, [(0, .inr (.inr (false, [13]))), (1, .inl (0, 0, 0, (-2147483648), 2147483647)), (2, .inl (0, 0, 0, 11, 2147483647)), (3, .inl (0, 0, 0, (-2147483648), 2147483647)), (4, .inl (0, 0, 0, (-2147483648), 2147483647)), (5, .inl (0, 0, 0, (-2147483648), 2147483647))], [], 0, 0), [], z_H0c, 1, [], 900000)
def z_Kx360 : List z_Xe := [(some (.inl (0, 0, 0, (-1), (-1))), [], 0)]
def z_Kk360 : z_Kc := (170, 1, z_Ke360, [], z_Kx360, none)
def z_Kd360 : List z_ce := [(1, z_Ke360, [], [(0, 1, 0)])]
theorem z_Kt360 : (z_Kd360.all fun C => z_cok3 (z_G []) [] [] z_Tg0 12 1 ([]) (z_QX (z_lbk z_Kk360.2.2.1 z_Kk360.2.2.2.1) 1 900000 [] z_Kk360.2.2.2.2.1) (z_atl []) [] z_Kd360 30000 C) = true := by decide +kernel
theorem z_Kn360 {xs : List Int32} : z_cn (z_G xs) 12 z_J z_Kk360 := z_mkN (n := 1) (W := []) (D := []) z_Kk360 z_Kd360 rfl z_kn z_Kt360 rfl rfl rfl rfl
/-- C.await(IIIII)I -/
def z_Ke361 : z_as_ := ((170, 0, [(0, .inr (.inr (false, [13]))), (1, .inl (0, 0, 0, (-2147483648), 2147483647)), (2, .inl (0, 0, 0, (-2147483648), 2147483647)), (3, .inl (0, 0, 0, (-2147483648), 2147483647)), (4, .inl (0, 0, 0, (-2147483648), 2147483647)), (5, .inl (0, 0, 0, (-2147483648), (-1)))], [], 0, 0), [], z_H0c, 1, [], 900000)
def z_Kx361 : List z_Xe := [(some (.inl (0, 0, 0, (-1), (-1))), [], 0)]
def z_Kk361 : z_Kc := (170, 1, z_Ke361, [], z_Kx361, none)
def z_Kd361 : List z_ce := [(1, z_Ke361, [], [(0, 1, 0)])]
theorem z_Kt361 : (z_Kd361.all fun C => z_cok3 (z_G []) [] [] z_Tg0 12 1 ([]) (z_QX (z_lbk z_Kk361.2.2.1 z_Kk361.2.2.2.1) 1 900000 [] z_Kk361.2.2.2.2.1) (z_atl []) [] z_Kd361 30000 C) = true := by decide +kernel
theorem z_Kn361 {xs : List Int32} : z_cn (z_G xs) 12 z_J z_Kk361 := z_mkN (n := 1) (W := []) (D := []) z_Kk361 z_Kd361 rfl z_kn z_Kt361 rfl rfl rfl rfl
/-- C.await(IIIII)I -/
def z_Ke362 : z_as_ := ((170, 0, [(0, .inr (.inr (false, [13]))), (1, .inl (0, 0, 0, (-2147483648), 2147483647)), (2, .inl (0, 0, 0, (-2147483648), 2147483647)), (3, .inl (0, 0, 0, (-2147483648), 2147483647)), (4, .inl (0, 0, 0, (-2147483648), 2147483647)), (5, .inl (0, 0, 0, 100, 2147483647))], [], 0, 0), [], z_H0c, 1, [], 900000)
def z_Kx362 : List z_Xe := [(some (.inl (0, 0, 0, (-1), (-1))), [], 0)]
def z_Kk362 : z_Kc := (170, 1, z_Ke362, [], z_Kx362, none)
def z_Kd362 : List z_ce := [(1, z_Ke362, [], [(0, 1, 0)])]
theorem z_Kt362 : (z_Kd362.all fun C => z_cok3 (z_G []) [] [] z_Tg0 12 1 ([]) (z_QX (z_lbk z_Kk362.2.2.1 z_Kk362.2.2.2.1) 1 900000 [] z_Kk362.2.2.2.2.1) (z_atl []) [] z_Kd362 30000 C) = true := by decide +kernel
theorem z_Kn362 {xs : List Int32} : z_cn (z_G xs) 12 z_J z_Kk362 := z_mkN (n := 1) (W := []) (D := []) z_Kk362 z_Kd362 rfl z_kn z_Kt362 rfl rfl rfl rfl
/-- C.await(IIIII)I -/
def z_Ke363 : z_as_ := ((170, 0, [(0, .inr (.inr (false, [13]))), (1, .inl (0, 0, 0, (-2147483648), 0)), (2, .inl (0, 0, 0, (-2147483648), 2147483647)), (3, .inl (0, 0, 0, (-2147483648), 2147483647)), (4, .inl (0, 0, 0, (-2147483648), 2147483647)), (5, .inl (0, 0, 0, (-2147483648), 2147483647))], [], 0, 0), [], z_H0c, 1, [], 900000)
def z_Kx363 : List z_Xe := [(some (.inl (0, 0, 0, (-1), (-1))), [], 0)]
def z_Kk363 : z_Kc := (170, 1, z_Ke363, [], z_Kx363, none)
def z_Kd363 : List z_ce := [(1, z_Ke363, [], [(0, 1, 0)])]
theorem z_Kt363 : (z_Kd363.all fun C => z_cok3 (z_G []) [] [] z_Tg0 12 1 ([]) (z_QX (z_lbk z_Kk363.2.2.1 z_Kk363.2.2.2.1) 1 900000 [] z_Kk363.2.2.2.2.1) (z_atl []) [] z_Kd363 30000 C) = true := by decide +kernel
theorem z_Kn363 {xs : List Int32} : z_cn (z_G xs) 12 z_J z_Kk363 := z_mkN (n := 1) (W := []) (D := []) z_Kk363 z_Kd363 rfl z_kn z_Kt363 rfl rfl rfl rfl
/-- C.await(IIIII)I -/
def z_Ke364 : z_as_ := ((170, 0, [(0, .inr (.inr (false, [13]))), (1, .inl (0, 0, 0, 11, 2147483647)), (2, .inl (0, 0, 0, (-2147483648), 2147483647)), (3, .inl (0, 0, 0, (-2147483648), 2147483647)), (4, .inl (0, 0, 0, (-2147483648), 2147483647)), (5, .inl (0, 0, 0, (-2147483648), 2147483647))], [], 0, 0), [], z_H0c, 1, [], 900000)
def z_Kx364 : List z_Xe := [(some (.inl (0, 0, 0, (-1), (-1))), [], 0)]
def z_Kk364 : z_Kc := (170, 1, z_Ke364, [], z_Kx364, none)
def z_Kd364 : List z_ce := [(1, z_Ke364, [], [(0, 1, 0)])]
theorem z_Kt364 : (z_Kd364.all fun C => z_cok3 (z_G []) [] [] z_Tg0 12 1 ([]) (z_QX (z_lbk z_Kk364.2.2.1 z_Kk364.2.2.2.1) 1 900000 [] z_Kk364.2.2.2.2.1) (z_atl []) [] z_Kd364 30000 C) = true := by decide +kernel
theorem z_Kn364 {xs : List Int32} : z_cn (z_G xs) 12 z_J z_Kk364 := z_mkN (n := 1) (W := []) (D := []) z_Kk364 z_Kd364 rfl z_kn z_Kt364 rfl rfl rfl rfl
/-- C.await(IIIII)I -/
def z_Ke365 : z_as_ := ((170, 0, [(0, .inr (.inr (false, [13]))), (1, .inl (0, 0, 0, 1, 10)), (2, .inl (0, 0, 0, 0, 10)), (3, .inl (2, 0, 0, 0, 999)), (4, .inl (1, 0, 0, 0, 999)), (5, .inl (0, 0, 0, 0, 99))], [], 0, 0), [], z_H0c, 3, [(1, 2, 0)], 900000)
def z_Kx365 : List z_Xe := [(some (.inl (0, 0, 0, 0, 0)), [(16, .inr [(1, .inl (0, 0, 0, 0, 4))]), (17, .inl (z_hg 17))], 0)]
def z_Kk365 : z_Kc := (170, 3, z_Ke365, [(1, (0, 0, 4)), (2, (0, 0, 3))], z_Kx365, none)
def z_Kp365_0 : z_ce := (3, z_Ke365, [(1, (0, 0, 4)), (2, (0, 0, 3))], [(0, 2, 0), (0, 0, 0), (0, 0, 0)])
def z_Kp365_1 : z_ce := (3, ((170, 96, [(0, .inr (.inr (false, [13]))), (1, .inl (0, 0, 0, 1, 10)), (2, .inl (0, 0, 0, 0, 10)), (3, .inl (2, 0, 0, 0, 999)), (4, .inl (1, 0, 0, 0, 999)), (5, .inl (0, 0, 0, 0, 99)), (6, .inl (0, 0, 0, 1, 1)), (7, .inr (.inl (0, 0, 0, (-9223372036854775808), 9223372036854775807))), (9, .inr (.inl (0, 0, 0, (-9223372036854775808), 9223372036854775807))), (11, .inl (0, 0, 0, (-2147483648), 2147483647)), (12, .inl (3, 0, 0, 2, 11))], [], 0, 0), [], z_H0c, 4, [(1, 2, 0)], 900000), [(3, (0, 0, 12))], [(0, 1, 0), (1, 3, 11), (0, 1, 0)])
def z_Kd365 : List z_ce := [z_Kp365_0, z_Kp365_1]
theorem z_Ku365_0 : z_cok3 (z_G []) [(16, some [1]), (17, none)] [(16, some [1]), (17, none)] z_Tg0 12 3 ([]) (z_QX (z_lbk z_Kk365.2.2.1 z_Kk365.2.2.2.1) 3 900000 [(16, some [1]), (17, none)] z_Kk365.2.2.2.2.1) (z_atl [(170, 96)]) [] z_Kd365 30000 z_Kp365_0 = true := by decide +kernel
theorem z_Ku365_1 : z_cok3 (z_G []) [(16, some [1]), (17, none)] [(16, some [1]), (17, none)] z_Tg0 12 3 ([]) (z_QX (z_lbk z_Kk365.2.2.1 z_Kk365.2.2.2.1) 3 900000 [(16, some [1]), (17, none)] z_Kk365.2.2.2.2.1) (z_atl [(170, 96)]) [] z_Kd365 30000 z_Kp365_1 = true := by decide +kernel
theorem z_Kt365 : (z_Kd365.all fun C => z_cok3 (z_G []) [(16, some [1]), (17, none)] [(16, some [1]), (17, none)] z_Tg0 12 3 ([]) (z_QX (z_lbk z_Kk365.2.2.1 z_Kk365.2.2.2.1) 3 900000 [(16, some [1]), (17, none)] z_Kk365.2.2.2.2.1) (z_atl [(170, 96)]) [] z_Kd365 30000 C) = true := z_acn z_Ku365_0 (z_acn z_Ku365_1 (rfl))
theorem z_Kn365 {xs : List Int32} : z_cn (z_G xs) 12 z_J z_Kk365 := z_mkN (n := 3) (W := [(16, some [1]), (17, none)]) (D := [(16, some [1]), (17, none)]) z_Kk365 z_Kd365 rfl z_kn z_Kt365 rfl rfl rfl rfl
/-- CModel.await(IIIII)I -/
def z_Ke367 : z_as_ := ((279, 0, [(0, .inr (.inr (false, [90]))), (1, .inl (0, 0, 0, (-2147483648), 2147483647)), (2, .inl (0, 0, 0, (-2147483648), 2147483647)), (3, .inl (0, 0, 0, (-2147483648), (-1))), (4, .inl (0, 0, 0, (-2147483648), 2147483647)), (5, .inl (0, 0, 0, (-2147483648), 2147483647))], [], 0, 0), [], z_H0c, 1, [], 900000)
def z_Kx367 : List z_Xe := [(some (.inl (0, 0, 0, (-1), (-1))), [(90, .inr [(14, .inl (0, 0, 0, 0, 1))])], 0)]
def z_Kk367 : z_Kc := (279, 2, z_Ke367, [], z_Kx367, none)
def z_Kd367 : List z_ce := [(2, z_Ke367, [], [(0, 1, 0)])]
theorem z_Kt367 : (z_Kd367.all fun C => z_cok3 (z_G []) [(90, some [14])] [(90, some [14])] z_Tg0 12 1 ([]) (z_QX (z_lbk z_Kk367.2.2.1 z_Kk367.2.2.2.1) 1 900000 [(90, some [14])] z_Kk367.2.2.2.2.1) (z_atl []) [] z_Kd367 30000 C) = true := by decide +kernel
theorem z_Kn367 {xs : List Int32} : z_cn (z_G xs) 12 z_J z_Kk367 := z_mkN (n := 1) (W := [(90, some [14])]) (D := [(90, some [14])]) z_Kk367 z_Kd367 rfl z_kn z_Kt367 rfl rfl rfl rfl
/-- CModel.await(IIIII)I -/
def z_Ke368 : z_as_ := ((279, 0, [(0, .inr (.inr (false, [90]))), (1, .inl (0, 0, 0, (-2147483648), 2147483647)), (2, .inl (0, 0, 0, (-2147483648), 2147483647)), (3, .inl (0, 0, 0, 1000, 2147483647)), (4, .inl (0, 0, 0, (-2147483648), 2147483647)), (5, .inl (0, 0, 0, (-2147483648), 2147483647))], [], 0, 0), [], z_H0c, 1, [], 900000)
def z_Kx368 : List z_Xe := [(some (.inl (0, 0, 0, (-1), (-1))), [(90, .inr [(14, .inl (0, 0, 0, 0, 1))])], 0)]
def z_Kk368 : z_Kc := (279, 2, z_Ke368, [], z_Kx368, none)
def z_Kd368 : List z_ce := [(2, z_Ke368, [], [(0, 1, 0)])]
theorem z_Kt368 : (z_Kd368.all fun C => z_cok3 (z_G []) [(90, some [14])] [(90, some [14])] z_Tg0 12 1 ([]) (z_QX (z_lbk z_Kk368.2.2.1 z_Kk368.2.2.2.1) 1 900000 [(90, some [14])] z_Kk368.2.2.2.2.1) (z_atl []) [] z_Kd368 30000 C) = true := by decide +kernel
theorem z_Kn368 {xs : List Int32} : z_cn (z_G xs) 12 z_J z_Kk368 := z_mkN (n := 1) (W := [(90, some [14])]) (D := [(90, some [14])]) z_Kk368 z_Kd368 rfl z_kn z_Kt368 rfl rfl rfl rfl
/-- CModel.await(IIIII)I -/
def z_Ke369 : z_as_ := ((279, 0, [(0, .inr (.inr (false, [90]))), (1, .inl (0, 0, 0, (-2147483648), 2147483647)), (2, .inl (0, 0, 0, (-2147483648), 2147483647)), (3, .inl (0, 0, 0, (-2147483648), 2147483647)), (4, .inl (0, 0, 0, (-2147483648), (-1))), (5, .inl (0, 0, 0, (-2147483648), 2147483647))], [], 0, 0), [], z_H0c, 1, [], 900000)
def z_Kx369 : List z_Xe := [(some (.inl (0, 0, 0, (-1), (-1))), [(90, .inr [(14, .inl (0, 0, 0, 0, 1))])], 0)]
def z_Kk369 : z_Kc := (279, 2, z_Ke369, [], z_Kx369, none)
def z_Kd369 : List z_ce := [(2, z_Ke369, [], [(0, 1, 0)])]
theorem z_Kt369 : (z_Kd369.all fun C => z_cok3 (z_G []) [(90, some [14])] [(90, some [14])] z_Tg0 12 1 ([]) (z_QX (z_lbk z_Kk369.2.2.1 z_Kk369.2.2.2.1) 1 900000 [(90, some [14])] z_Kk369.2.2.2.2.1) (z_atl []) [] z_Kd369 30000 C) = true := by decide +kernel
theorem z_Kn369 {xs : List Int32} : z_cn (z_G xs) 12 z_J z_Kk369 := z_mkN (n := 1) (W := [(90, some [14])]) (D := [(90, some [14])]) z_Kk369 z_Kd369 rfl z_kn z_Kt369 rfl rfl rfl rfl
/-- CModel.await(IIIII)I -/
def z_Ke370 : z_as_ := ((279, 0, [(0, .inr (.inr (false, [90]))), (1, .inl (0, 0, 0, (-2147483648), 2147483647)), (2, .inl (0, 0, 0, (-2147483648), 2147483647)), (3, .inl (1, 0, 0, (-2147483648), 2147483647)), (4, .inl (2, 0, 0, (-2147483648), 2147483647)), (5, .inl (0, 0, 0, (-2147483648), 2147483647))], [], 0, 0), [], z_H0c, 3, [(1, 2, 1)], 900000)
def z_Kx370 : List z_Xe := [(some (.inl (0, 0, 0, (-1), (-1))), [(90, .inr [(14, .inl (0, 0, 0, 0, 1))])], 0)]
def z_Kk370 : z_Kc := (279, 2, z_Ke370, [(1, (0, 0, 3)), (2, (0, 0, 4))], z_Kx370, none)
def z_Kd370 : List z_ce := [(2, z_Ke370, [(1, (0, 0, 3)), (2, (0, 0, 4))], [(0, 1, 0)])]
theorem z_Kt370 : (z_Kd370.all fun C => z_cok3 (z_G []) [(90, some [14])] [(90, some [14])] z_Tg0 12 3 ([]) (z_QX (z_lbk z_Kk370.2.2.1 z_Kk370.2.2.2.1) 3 900000 [(90, some [14])] z_Kk370.2.2.2.2.1) (z_atl []) [] z_Kd370 30000 C) = true := by decide +kernel
theorem z_Kn370 {xs : List Int32} : z_cn (z_G xs) 12 z_J z_Kk370 := z_mkN (n := 3) (W := [(90, some [14])]) (D := [(90, some [14])]) z_Kk370 z_Kd370 rfl z_kn z_Kt370 rfl rfl rfl rfl
/-- CModel.await(IIIII)I -/
def z_Ke371 : z_as_ := ((279, 0, [(0, .inr (.inr (false, [90]))), (1, .inl (0, 0, 0, (-2147483648), 2147483647)), (2, .inl (0, 0, 0, (-2147483648), (-1))), (3, .inl (0, 0, 0, (-2147483648), 2147483647)), (4, .inl (0, 0, 0, (-2147483648), 2147483647)), (5, .inl (0, 0, 0, (-2147483648), 2147483647))], [], 0, 0), [], z_H0c, 1, [], 900000)
def z_Kx371 : List z_Xe := [(some (.inl (0, 0, 0, (-1), (-1))), [(90, .inr [(14, .inl (0, 0, 0, 0, 1))])], 0)]
def z_Kk371 : z_Kc := (279, 2, z_Ke371, [], z_Kx371, none)
def z_Kd371 : List z_ce := [(2, z_Ke371, [], [(0, 1, 0)])]
theorem z_Kt371 : (z_Kd371.all fun C => z_cok3 (z_G []) [(90, some [14])] [(90, some [14])] z_Tg0 12 1 ([]) (z_QX (z_lbk z_Kk371.2.2.1 z_Kk371.2.2.2.1) 1 900000 [(90, some [14])] z_Kk371.2.2.2.2.1) (z_atl []) [] z_Kd371 30000 C) = true := by decide +kernel
theorem z_Kn371 {xs : List Int32} : z_cn (z_G xs) 12 z_J z_Kk371 := z_mkN (n := 1) (W := [(90, some [14])]) (D := [(90, some [14])]) z_Kk371 z_Kd371 rfl z_kn z_Kt371 rfl rfl rfl rfl
/-- CModel.await(IIIII)I -/
def z_Ke372 : z_as_ := ((279, 0, [(0, .inr (.inr (false, [90]))), (1, .inl (0, 0, 0, (-2147483648), 2147483647)), (2, .inl (0, 0, 0, 11, 2147483647)), (3, .inl (0, 0, 0, (-2147483648), 2147483647)), (4, .inl (0, 0, 0, (-2147483648), 2147483647)), (5, .inl (0, 0, 0, (-2147483648), 2147483647))], [], 0, 0), [], z_H0c, 1, [], 900000)
def z_Kx372 : List z_Xe := [(some (.inl (0, 0, 0, (-1), (-1))), [(90, .inr [(14, .inl (0, 0, 0, 0, 1))])], 0)]
def z_Kk372 : z_Kc := (279, 2, z_Ke372, [], z_Kx372, none)
def z_Kd372 : List z_ce := [(2, z_Ke372, [], [(0, 1, 0)])]
theorem z_Kt372 : (z_Kd372.all fun C => z_cok3 (z_G []) [(90, some [14])] [(90, some [14])] z_Tg0 12 1 ([]) (z_QX (z_lbk z_Kk372.2.2.1 z_Kk372.2.2.2.1) 1 900000 [(90, some [14])] z_Kk372.2.2.2.2.1) (z_atl []) [] z_Kd372 30000 C) = true := by decide +kernel
theorem z_Kn372 {xs : List Int32} : z_cn (z_G xs) 12 z_J z_Kk372 := z_mkN (n := 1) (W := [(90, some [14])]) (D := [(90, some [14])]) z_Kk372 z_Kd372 rfl z_kn z_Kt372 rfl rfl rfl rfl
/-- CModel.await(IIIII)I -/
def z_Ke373 : z_as_ := ((279, 0, [(0, .inr (.inr (false, [90]))), (1, .inl (0, 0, 0, (-2147483648), 2147483647)), (2, .inl (0, 0, 0, (-2147483648), 2147483647)), (3, .inl (0, 0, 0, (-2147483648), 2147483647)), (4, .inl (0, 0, 0, (-2147483648), 2147483647)), (5, .inl (0, 0, 0, (-2147483648), (-1)))], [], 0, 0), [], z_H0c, 1, [], 900000)
def z_Kx373 : List z_Xe := [(some (.inl (0, 0, 0, (-1), (-1))), [(90, .inr [(14, .inl (0, 0, 0, 0, 1))])], 0)]
def z_Kk373 : z_Kc := (279, 2, z_Ke373, [], z_Kx373, none)
def z_Kd373 : List z_ce := [(2, z_Ke373, [], [(0, 1, 0)])]
theorem z_Kt373 : (z_Kd373.all fun C => z_cok3 (z_G []) [(90, some [14])] [(90, some [14])] z_Tg0 12 1 ([]) (z_QX (z_lbk z_Kk373.2.2.1 z_Kk373.2.2.2.1) 1 900000 [(90, some [14])] z_Kk373.2.2.2.2.1) (z_atl []) [] z_Kd373 30000 C) = true := by decide +kernel
theorem z_Kn373 {xs : List Int32} : z_cn (z_G xs) 12 z_J z_Kk373 := z_mkN (n := 1) (W := [(90, some [14])]) (D := [(90, some [14])]) z_Kk373 z_Kd373 rfl z_kn z_Kt373 rfl rfl rfl rfl
/-- CModel.await(IIIII)I -/
def z_Ke374 : z_as_ := ((279, 0, [(0, .inr (.inr (false, [90]))), (1, .inl (0, 0, 0, (-2147483648), 2147483647)), (2, .inl (0, 0, 0, (-2147483648), 2147483647)), (3, .inl (0, 0, 0, (-2147483648), 2147483647)), (4, .inl (0, 0, 0, (-2147483648), 2147483647)), (5, .inl (0, 0, 0, 100, 2147483647))], [], 0, 0), [], z_H0c, 1, [], 900000)
def z_Kx374 : List z_Xe := [(some (.inl (0, 0, 0, (-1), (-1))), [(90, .inr [(14, .inl (0, 0, 0, 0, 1))])], 0)]
def z_Kk374 : z_Kc := (279, 2, z_Ke374, [], z_Kx374, none)
def z_Kd374 : List z_ce := [(2, z_Ke374, [], [(0, 1, 0)])]
theorem z_Kt374 : (z_Kd374.all fun C => z_cok3 (z_G []) [(90, some [14])] [(90, some [14])] z_Tg0 12 1 ([]) (z_QX (z_lbk z_Kk374.2.2.1 z_Kk374.2.2.2.1) 1 900000 [(90, some [14])] z_Kk374.2.2.2.2.1) (z_atl []) [] z_Kd374 30000 C) = true := by decide +kernel
theorem z_Kn374 {xs : List Int32} : z_cn (z_G xs) 12 z_J z_Kk374 := z_mkN (n := 1) (W := [(90, some [14])]) (D := [(90, some [14])]) z_Kk374 z_Kd374 rfl z_kn z_Kt374 rfl rfl rfl rfl
/-- CModel.await(IIIII)I -/
def z_Ke375 : z_as_ := ((279, 0, [(0, .inr (.inr (false, [90]))), (1, .inl (0, 0, 0, (-2147483648), 0)), (2, .inl (0, 0, 0, (-2147483648), 2147483647)), (3, .inl (0, 0, 0, (-2147483648), 2147483647)), (4, .inl (0, 0, 0, (-2147483648), 2147483647)), (5, .inl (0, 0, 0, (-2147483648), 2147483647))], [], 0, 0), [], z_H0c, 1, [], 900000)
def z_Kx375 : List z_Xe := [(some (.inl (0, 0, 0, (-1), (-1))), [(90, .inr [(14, .inl (0, 0, 0, 0, 1))])], 0)]
def z_Kk375 : z_Kc := (279, 2, z_Ke375, [], z_Kx375, none)
def z_Kd375 : List z_ce := [(2, z_Ke375, [], [(0, 1, 0)])]
theorem z_Kt375 : (z_Kd375.all fun C => z_cok3 (z_G []) [(90, some [14])] [(90, some [14])] z_Tg0 12 1 ([]) (z_QX (z_lbk z_Kk375.2.2.1 z_Kk375.2.2.2.1) 1 900000 [(90, some [14])] z_Kk375.2.2.2.2.1) (z_atl []) [] z_Kd375 30000 C) = true := by decide +kernel
theorem z_Kn375 {xs : List Int32} : z_cn (z_G xs) 12 z_J z_Kk375 := z_mkN (n := 1) (W := [(90, some [14])]) (D := [(90, some [14])]) z_Kk375 z_Kd375 rfl z_kn z_Kt375 rfl rfl rfl rfl
/-- CModel.await(IIIII)I -/
def z_Ke376 : z_as_ := ((279, 0, [(0, .inr (.inr (false, [90]))), (1, .inl (0, 0, 0, 11, 2147483647)), (2, .inl (0, 0, 0, (-2147483648), 2147483647)), (3, .inl (0, 0, 0, (-2147483648), 2147483647)), (4, .inl (0, 0, 0, (-2147483648), 2147483647)), (5, .inl (0, 0, 0, (-2147483648), 2147483647))], [], 0, 0), [], z_H0c, 1, [], 900000)
def z_Kx376 : List z_Xe := [(some (.inl (0, 0, 0, (-1), (-1))), [(90, .inr [(14, .inl (0, 0, 0, 0, 1))])], 0)]
def z_Kk376 : z_Kc := (279, 2, z_Ke376, [], z_Kx376, none)
def z_Kd376 : List z_ce := [(2, z_Ke376, [], [(0, 1, 0)])]
theorem z_Kt376 : (z_Kd376.all fun C => z_cok3 (z_G []) [(90, some [14])] [(90, some [14])] z_Tg0 12 1 ([]) (z_QX (z_lbk z_Kk376.2.2.1 z_Kk376.2.2.2.1) 1 900000 [(90, some [14])] z_Kk376.2.2.2.2.1) (z_atl []) [] z_Kd376 30000 C) = true := by decide +kernel
theorem z_Kn376 {xs : List Int32} : z_cn (z_G xs) 12 z_J z_Kk376 := z_mkN (n := 1) (W := [(90, some [14])]) (D := [(90, some [14])]) z_Kk376 z_Kd376 rfl z_kn z_Kt376 rfl rfl rfl rfl
/-- CModel.await(IIIII)I -/
def z_Ke377 : z_as_ := ((279, 0, [(0, .inr (.inr (false, [90]))), (1, .inl (0, 0, 0, 1, 10)), (2, .inl (0, 0, 0, 0, 10)), (3, .inl (2, 0, 0, 0, 999)), (4, .inl (1, 0, 0, 0, 999)), (5, .inl (0, 0, 0, 0, 99))], [], 0, 0), [], z_H0c, 3, [(1, 2, 0)], 900000)
def z_Kx377 : List z_Xe := [(some (.inl (0, 0, 0, 0, 0)), [(90, .inr [(13, .inl (0, 0, 0, 0, 4)), (14, .inl (0, 0, 0, 0, 1))]), (98, .inl (z_hg 98))], 0)]
def z_Kk377 : z_Kc := (279, 2, z_Ke377, [(1, (0, 0, 4)), (2, (0, 0, 3))], z_Kx377, none)
def z_Kp377_0 : z_ce := (2, z_Ke377, [(1, (0, 0, 4)), (2, (0, 0, 3))], [(0, 2, 0), (0, 0, 0), (0, 0, 0)])
def z_Kp377_1 : z_ce := (2, ((279, 86, [(0, .inr (.inr (false, [90]))), (1, .inl (0, 0, 0, 1, 10)), (2, .inl (0, 0, 0, 0, 10)), (3, .inl (2, 0, 0, 0, 999)), (4, .inl (1, 0, 0, 0, 999)), (5, .inl (0, 0, 0, 0, 99)), (6, .inr (.inl (0, 0, 0, (-9223372036854775808), 9223372036854775807))), (8, .inr (.inl (0, 0, 0, (-9223372036854775808), 9223372036854775807))), (10, .inl (0, 0, 0, (-2147483648), 2147483647)), (11, .inl (3, 0, 0, 2, 11))], [], 0, 0), [], (z_hcs z_H0c [(90, (10, (true, true), none, [.inl (0, 0, 0, 0, 10), .inr (.inr (false, [91])), .inr (.inr (false, [92])), .inr (.inr (false, [93])), .inr (.inr (false, [94])), .inl (0, 0, 0, 0, 24), .inr (.inr (false, [95])), .inr (.inr (false, [96])), .inl (0, 0, 0, (-2147483648), 2147483647), .inl (0, 0, 0, (-2147483648), 2147483647), .inr (.inr (false, [97])), .inl (0, 0, 0, 0, 80), .inr (.inr (false, [98])), .inl (0, 0, 0, 0, 4), .inl (0, 0, 0, 0, 0), .inr (.inr (true, [97, 105])), .inl (0, 0, 0, 0, 2147483647), .inl (0, 0, 0, 0, 76), .inl (0, 0, 0, 0, 76), .inl (0, 0, 0, (-1), 80), .inr (.inr (false, [99])), .inl (0, 0, 0, 0, 10), .inr (.inr (false, [100])), .inr (.inr (false, [101])), .inr (.inr (false, [102])), .inr (.inr (false, [103])), .inl (0, 0, 0, (-2147483648), 2147483647), .inr (.inr (false, [104])), .inr (.inr (false, [106])), .inl (0, 0, 0, 0, 1), .inr (.inr (true, [95, 111])), .inl (0, 0, 0, (-1), 50), .inl (0, 0, 0, (-1), 9), .inl (0, 0, 0, 0, 9), .inl (0, 0, 0, (-1), 2), .inl (0, 0, 0, (-2147483648), 2147483647), .inl (0, 0, 0, (-2147483648), 2147483647), .inl (0, 0, 0, (-2147483648), 2147483647), .inr (.inr (false, [107])), .inr (.inr (false, [108])), .inr (.inr (false, [109])), .inr (.inr (false, [110])), .inr (.inr (false, [111])), .inr (.inr (false, [112])), .inl (0, 0, 0, 0, 7), .inr (.inr (false, [113])), .inr (.inr (false, [114])), .inr (.inr (false, [115])), .inr (.inr (false, [116])), .inr (.inr (false, [117])), .inr (.inr (false, [118])), .inr (.inr (false, [119])), .inr (.inr (false, [120])), .inr (.inr (false, [121])), .inr (.inr (false, [122])), .inr (.inr (false, [123]))]))]), 4, [(1, 2, 0)], 900000), [(3, (0, 0, 11))], [(0, 1, 0), (1, 3, 11), (0, 1, 0)])
def z_Kd377 : List z_ce := [z_Kp377_0, z_Kp377_1]
theorem z_Ku377_0 : z_cok3 (z_G []) [(90, some [13, 14]), (98, none)] [(90, some [13, 14]), (98, none)] z_Tg0 12 3 ([]) (z_QX (z_lbk z_Kk377.2.2.1 z_Kk377.2.2.2.1) 3 900000 [(90, some [13, 14]), (98, none)] z_Kk377.2.2.2.2.1) (z_atl [(279, 86)]) [] z_Kd377 30000 z_Kp377_0 = true := by decide +kernel
theorem z_Ku377_1 : z_cok3 (z_G []) [(90, some [13, 14]), (98, none)] [(90, some [13, 14]), (98, none)] z_Tg0 12 3 ([]) (z_QX (z_lbk z_Kk377.2.2.1 z_Kk377.2.2.2.1) 3 900000 [(90, some [13, 14]), (98, none)] z_Kk377.2.2.2.2.1) (z_atl [(279, 86)]) [] z_Kd377 30000 z_Kp377_1 = true := by decide +kernel
theorem z_Kt377 : (z_Kd377.all fun C => z_cok3 (z_G []) [(90, some [13, 14]), (98, none)] [(90, some [13, 14]), (98, none)] z_Tg0 12 3 ([]) (z_QX (z_lbk z_Kk377.2.2.1 z_Kk377.2.2.2.1) 3 900000 [(90, some [13, 14]), (98, none)] z_Kk377.2.2.2.2.1) (z_atl [(279, 86)]) [] z_Kd377 30000 C) = true := z_acn z_Ku377_0 (z_acn z_Ku377_1 (rfl))
theorem z_Kn377 {xs : List Int32} : z_cn (z_G xs) 12 z_J z_Kk377 := z_mkN (n := 3) (W := [(90, some [13, 14]), (98, none)]) (D := [(90, some [13, 14]), (98, none)]) z_Kk377 z_Kd377 rfl z_kn z_Kt377 rfl rfl rfl rfl
end ZCN85
