section ZCN66
/-- C.stays(I)I -/
def z_Ke69 : z_as_ := ((152, 0, [(0, .inr (.inr (false, [13]))), (1, .inl (0, 0, 0, (-2147483648), 2147483647))], [], 0, 0), [], z_H0c, 1, [], 900000)
def z_Kx69 : List z_Xe := [(some (.inl (0, 0, 0, (-2147483648), 2147483647)), [(25, .inr [(0, .inl (0, 0, 0, 1, 998)), (1, .inl (0, 0, 0, (-1), 60)), (2, .inl (0, 0, 0, (-60), 60)), (3, .inl (0, 0, 0, (-2147483648), 2147483647)), (4, .inl (0, 0, 0, (-2147483648), 2147483647)), (5, .inl (0, 0, 0, (-2147483648), 2147483647)), (6, .inl (0, 0, 0, (-2147483648), 2147483647)), (7, .inl (0, 0, 0, (-2147483648), 2147483647))]), (27, .inl (z_hg 27))], 0)]
def z_Kk69 : z_Kc := (152, 11, z_Ke69, [], z_Kx69, none)
def z_Kd69 : List z_ce := [(11, z_Ke69, [], [(0, 1, 0)])]
theorem z_Kt69 : (z_Kd69.all fun C => z_cok3 (z_G []) [(25, some [0, 1, 2, 3, 4, 5, 6, 7]), (27, none)] [(25, some [0, 1, 2, 3, 4, 5, 6, 7]), (27, none)] z_Tg0 12 1 ([z_Kk68]) (z_QX (z_lbk z_Kk69.2.2.1 z_Kk69.2.2.2.1) 1 900000 [(25, some [0, 1, 2, 3, 4, 5, 6, 7]), (27, none)] z_Kk69.2.2.2.2.1) (z_atl []) [] z_Kd69 30000 C) = true := by decide +kernel
theorem z_Kn69 {xs : List Int32} : z_cn (z_G xs) 12 z_J z_Kk69 := z_mkN (n := 1) (W := [(25, some [0, 1, 2, 3, 4, 5, 6, 7]), (27, none)]) (D := [(25, some [0, 1, 2, 3, 4, 5, 6, 7]), (27, none)]) z_Kk69 z_Kd69 rfl (z_kc z_Kn68 z_kn) z_Kt69 rfl rfl rfl rfl
/-- java/lang/Integer.bitCount(I)I -/
def z_Ke70 : z_as_ := ((164, 0, [(0, .inl (0, 0, 0, (-2147483648), 2147483647))], [], 0, 0), [], z_H0c, 1, [], 900000)
def z_Kx70 : List z_Xe := [(some (.inl (0, 0, 0, 0, 63)), [], 0)]
def z_Kk70 : z_Kc := (164, 1, z_Ke70, [], z_Kx70, none)
def z_Kd70 : List z_ce := [(1, z_Ke70, [], [(0, 1, 0)])]
theorem z_Kt70 : (z_Kd70.all fun C => z_cok3 (z_G []) [] [] z_Tg0 12 1 ([]) (z_QX (z_lbk z_Kk70.2.2.1 z_Kk70.2.2.2.1) 1 900000 [] z_Kk70.2.2.2.2.1) (z_atl []) [] z_Kd70 30000 C) = true := by decide +kernel
theorem z_Kn70 {xs : List Int32} : z_cn (z_G xs) 12 z_J z_Kk70 := z_mkN (n := 1) (W := []) (D := []) z_Kk70 z_Kd70 rfl z_kn z_Kt70 rfl rfl rfl rfl
/-- C.hasCorn([I)Z -/
def z_Ke71 : z_as_ := ((159, 0, [(0, .inr (.inr (false, [13]))), (1, .inr (.inr (false, [30])))], [], 0, 0), [], z_H0c, 1, [], 900000)
def z_Kx71 : List z_Xe := [(some (.inl (0, 0, 0, 0, 1)), [], 0)]
def z_Kk71 : z_Kc := (159, 2, z_Ke71, [], z_Kx71, none)
def z_Kd71 : List z_ce := [(2, z_Ke71, [], [(0, 2, 0), (0, 0, 0), (0, 0, 0)]),
  (2, ((159, 2, [(0, .inr (.inr (false, [13]))), (1, .inr (.inr (false, [30]))), (2, .inl (1, 0, 0, 0, 10))], [], 0, 0), [], z_H0c, 2, [], 900000), [(1, (0, 0, 2))], [(0, 1, 0), (1, 1, 10), (0, 1, 0)])]
theorem z_Kt71 : (z_Kd71.all fun C => z_cok3 (z_G []) [] [] z_Tg0 12 1 ([]) (z_QX (z_lbk z_Kk71.2.2.1 z_Kk71.2.2.2.1) 1 900000 [] z_Kk71.2.2.2.2.1) (z_atl [(159, 2)]) [] z_Kd71 30000 C) = true := by decide +kernel
theorem z_Kn71 {xs : List Int32} : z_cn (z_G xs) 12 z_J z_Kk71 := z_mkN (n := 1) (W := []) (D := []) z_Kk71 z_Kd71 rfl z_kn z_Kt71 rfl rfl rfl rfl
/-- C.sortsLeft(I)I -/
def z_Ke72 : z_as_ := ((162, 0, [(0, .inr (.inr (false, [13]))), (1, .inl (0, 0, 0, 0, 2147483647))], [], 0, 0), [], z_H0c, 1, [], 900000)
def z_Kx72 : List z_Xe := [(some (.inl (0, 0, 0, (-2147483648), 2147483647)), [], 0)]
def z_Kk72 : z_Kc := (162, 1, z_Ke72, [], z_Kx72, none)
def z_Kd72 : List z_ce := [(1, z_Ke72, [], [(0, 2, 0), (0, 0, 0), (0, 0, 0)]),
  (1, ((162, 14, [(0, .inr (.inr (false, [13]))), (1, .inl (0, 0, 0, 0, 2147483647)), (2, .inl (0, 0, 0, (-2147483648), 2147483647)), (3, .inl (1, 0, 0, 0, 7))], [], 0, 0), [], z_H0c, 2, [], 900000), [(1, (0, 0, 3))], [(0, 1, 0), (1, 1, 7), (0, 1, 0)])]
theorem z_Kt72 : (z_Kd72.all fun C => z_cok3 (z_G []) [] [] z_Tg0 12 1 ([]) (z_QX (z_lbk z_Kk72.2.2.1 z_Kk72.2.2.2.1) 1 900000 [] z_Kk72.2.2.2.2.1) (z_atl [(162, 14)]) [] z_Kd72 30000 C) = true := by decide +kernel
theorem z_Kn72 {xs : List Int32} : z_cn (z_G xs) 12 z_J z_Kk72 := z_mkN (n := 1) (W := []) (D := []) z_Kk72 z_Kd72 rfl z_kn z_Kt72 rfl rfl rfl rfl
/-- C.grainsLeft([II)I -/
def z_Ke73 : z_as_ := ((165, 0, [(0, .inr (.inr (false, [13]))), (1, .inr (.inr (false, [30]))), (2, .inl (0, 0, 0, 0, 2147483647))], [], 0, 0), [], z_H0c, 1, [], 900000)
def z_Kx73 : List z_Xe := [(some (.inl (0, 0, 0, (-2147483648), 2147483647)), [], 0)]
def z_Kk73 : z_Kc := (165, 3, z_Ke73, [], z_Kx73, none)
def z_Kd73 : List z_ce := [(3, z_Ke73, [], [(0, 2, 0), (0, 0, 0), (0, 0, 0)]),
  (3, ((165, 12, [(0, .inr (.inr (false, [13]))), (1, .inr (.inr (false, [30]))), (2, .inl (0, 0, 0, 0, 2147483647)), (3, .inl (0, 0, 0, (-2147483648), 2147483647)), (4, .inl (0, 0, 0, (-2147483648), 2147483647)), (5, .inl (1, 0, 0, 0, 10))], [], 0, 0), [], z_H0c, 2, [], 900000), [(1, (0, 0, 5))], [(0, 1, 0), (1, 1, 10), (0, 1, 0)])]
theorem z_Kt73 : (z_Kd73.all fun C => z_cok3 (z_G []) [] [] z_Tg0 12 1 ([z_Kk72]) (z_QX (z_lbk z_Kk73.2.2.1 z_Kk73.2.2.2.1) 1 900000 [] z_Kk73.2.2.2.2.1) (z_atl [(165, 12)]) [] z_Kd73 30000 C) = true := by decide +kernel
theorem z_Kn73 {xs : List Int32} : z_cn (z_G xs) 12 z_J z_Kk73 := z_mkN (n := 1) (W := []) (D := []) z_Kk73 z_Kd73 rfl (z_kc z_Kn72 z_kn) z_Kt73 rfl rfl rfl rfl
/-- C.does([IIII)Z -/
def z_Ke74 : z_as_ := ((161, 0, [(0, .inr (.inr (false, [13]))), (1, .inr (.inr (false, [30]))), (2, .inl (0, 0, 0, 0, 2147483647)), (3, .inl (0, 0, 0, 0, 100)), (4, .inl (0, 0, 0, 0, 100))], [], 0, 0), [], z_H0c, 1, [], 900000)
def z_Kx74 : List z_Xe := [(some (.inl (0, 0, 0, 0, 1)), [], 0)]
def z_Kk74 : z_Kc := (161, 3, z_Ke74, [], z_Kx74, none)
def z_Kd74 : List z_ce := [(3, z_Ke74, [], [(0, 2, 0), (0, 0, 0), (0, 0, 0)]),
  (3, ((161, 19, [(0, .inr (.inr (false, [13]))), (1, .inr (.inr (false, [30]))), (2, .inl (0, 0, 0, 0, 2147483647)), (3, .inl (0, 0, 0, 0, 100)), (4, .inl (0, 0, 0, 0, 100)), (5, .inl (0, 0, 0, (-2147483648), 2147483647)), (6, .inr (.inl (0, 0, 0, (-9223372036854775808), 9223372036854775807))), (8, .inr (.inl (0, 0, 0, (-9223372036854775808), 9223372036854775807))), (10, .inr (.inl (0, 0, 0, (-9223372036854775808), 9223372036854775807))), (12, .inl (1, 0, 0, 0, 10))], [], 0, 0), [], z_H0c, 2, [], 900000), [(1, (0, 0, 12))], [(0, 1, 0), (1, 1, 10), (0, 1, 0)])]
theorem z_Kt74 : (z_Kd74.all fun C => z_cok3 (z_G []) [] [] z_Tg0 12 1 ([z_Kk72]) (z_QX (z_lbk z_Kk74.2.2.1 z_Kk74.2.2.2.1) 1 900000 [] z_Kk74.2.2.2.2.1) (z_atl [(161, 19)]) [] z_Kd74 30000 C) = true := by decide +kernel
theorem z_Kn74 {xs : List Int32} : z_cn (z_G xs) 12 z_J z_Kk74 := z_mkN (n := 1) (W := []) (D := []) z_Kk74 z_Kd74 rfl (z_kc z_Kn72 z_kn) z_Kt74 rfl rfl rfl rfl
/-- C.fewestPasses([III)I -/
def z_Ke75 : z_as_ := ((160, 0, [(0, .inr (.inr (false, [13]))), (1, .inr (.inr (false, [30]))), (2, .inl (0, 0, 0, 0, 100)), (3, .inl (0, 0, 0, 0, 100))], [], 0, 0), [], z_H0c, 1, [], 900000)
def z_Kx75 : List z_Xe := [(some (.inl (0, 0, 0, (-1), 2147483647)), [(25, .inr [(0, .inl (0, 0, 0, 1, 998)), (1, .inl (0, 0, 0, (-1), 60)), (2, .inl (0, 0, 0, (-60), 60)), (3, .inl (0, 0, 0, (-2147483648), 2147483647)), (4, .inl (0, 0, 0, (-2147483648), 2147483647)), (5, .inl (0, 0, 0, (-2147483648), 2147483647)), (6, .inl (0, 0, 0, (-2147483648), 2147483647)), (7, .inl (0, 0, 0, (-2147483648), 2147483647))]), (27, .inl (z_hg 27)), (89, .inl (z_hg 89))], 0)]
def z_Kk75 : z_Kc := (160, 11, z_Ke75, [], z_Kx75, none)
def z_Kd75 : List z_ce := [(11, z_Ke75, [], [(0, 3, 0), (0, 0, 0), (0, 0, 0)]),
  (11, ((160, 3, [(0, .inr (.inr (false, [13]))), (1, .inr (.inr (false, [30]))), (2, .inl (0, 0, 0, 0, 100)), (3, .inl (0, 0, 0, 0, 100)), (4, .inl (1, 0, 0, 0, 7))], [], 0, 0), [], z_H0c, 2, [], 900000), [(1, (0, 0, 4))], [(0, 2, 0), (1, 1, 7), (0, 1, 0)]),
  (11, ((160, 42, [(0, .inr (.inr (false, [13]))), (1, .inr (.inr (false, [30]))), (2, .inl (0, 0, 0, 0, 100)), (3, .inl (0, 0, 0, 0, 100)), (4, .inl (0, 0, 0, (-1), 2147483647)), (5, .inl (1, 0, 0, 0, 2147483647))], [], 0, 0), [], z_H0c, 2, [], 900000), [(1, (0, 0, 5))], [(0, 1, 0), (1, 1, 2147483647), (0, 1, 0)])]
theorem z_Kt75 : (z_Kd75.all fun C => z_cok3 (z_G []) [(25, some [0, 1, 2, 3, 4, 5, 6, 7]), (27, none), (89, none)] [(25, some [0, 1, 2, 3, 4, 5, 6, 7]), (27, none), (89, none)] z_Tg0 12 1 ([z_Kk68, z_Kk70, z_Kk73, z_Kk74]) (z_QX (z_lbk z_Kk75.2.2.1 z_Kk75.2.2.2.1) 1 900000 [(25, some [0, 1, 2, 3, 4, 5, 6, 7]), (27, none), (89, none)] z_Kk75.2.2.2.2.1) (z_atl [(160, 3), (160, 42)]) [] z_Kd75 30000 C) = true := by decide +kernel
theorem z_Kn75 {xs : List Int32} : z_cn (z_G xs) 12 z_J z_Kk75 := z_mkN (n := 1) (W := [(25, some [0, 1, 2, 3, 4, 5, 6, 7]), (27, none), (89, none)]) (D := [(25, some [0, 1, 2, 3, 4, 5, 6, 7]), (27, none), (89, none)]) z_Kk75 z_Kd75 rfl (z_kc z_Kn68 (z_kc z_Kn70 (z_kc z_Kn73 (z_kc z_Kn74 z_kn)))) z_Kt75 rfl rfl rfl rfl
/-- C.order(III)I -/
def z_Ke76 : z_as_ := ((156, 0, [(0, .inr (.inr (false, [13]))), (1, .inl (0, 0, 0, (-2147483648), 2147483647)), (2, .inl (0, 0, 0, (-2147483648), 2147483647)), (3, .inl (0, 0, 0, (-2147483648), 2147483647))], [], 0, 0), [], z_H0c, 1, [], 900000)
def z_Kx76 : List z_Xe := [(some (.inl (0, 0, 0, (-2), 75)), [(16, .inr [(1, .inl (0, 0, 0, 0, 4))]), (17, .inl (z_hg 17)), (25, .inr [(0, .inl (0, 0, 0, 1, 998)), (1, .inl (0, 0, 0, (-1), 60)), (2, .inl (0, 0, 0, (-60), 60)), (3, .inl (0, 0, 0, (-2147483648), 2147483647)), (4, .inl (0, 0, 0, (-2147483648), 2147483647)), (5, .inl (0, 0, 0, (-2147483648), 2147483647)), (6, .inl (0, 0, 0, (-2147483648), 2147483647)), (7, .inl (0, 0, 0, (-2147483648), 2147483647))]), (27, .inl (z_hg 27)), (89, .inl (z_hg 89))], 0)]
def z_Kk76 : z_Kc := (156, 13, z_Ke76, [], z_Kx76, none)
def z_Kd76 : List z_ce := [(13, z_Ke76, [], [(0, 1, 0)])]
theorem z_Kt76 : (z_Kd76.all fun C => z_cok3 (z_G []) [(16, some [1]), (17, none), (25, some [0, 1, 2, 3, 4, 5, 6, 7]), (27, none), (89, none)] [(16, some [1]), (17, none), (25, some [0, 1, 2, 3, 4, 5, 6, 7]), (27, none), (89, none)] z_Tg0 12 1 ([z_Kk70, z_Kk71, z_Kk75]) (z_QX (z_lbk z_Kk76.2.2.1 z_Kk76.2.2.2.1) 1 900000 [(16, some [1]), (17, none), (25, some [0, 1, 2, 3, 4, 5, 6, 7]), (27, none), (89, none)] z_Kk76.2.2.2.2.1) (z_atl []) [] z_Kd76 30000 C) = true := by decide +kernel
theorem z_Kn76 {xs : List Int32} : z_cn (z_G xs) 12 z_J z_Kk76 := z_mkN (n := 1) (W := [(16, some [1]), (17, none), (25, some [0, 1, 2, 3, 4, 5, 6, 7]), (27, none), (89, none)]) (D := [(16, some [1]), (17, none), (25, some [0, 1, 2, 3, 4, 5, 6, 7]), (27, none), (89, none)]) z_Kk76 z_Kd76 rfl (z_kc z_Kn70 (z_kc z_Kn71 (z_kc z_Kn75 z_kn))) z_Kt76 rfl rfl rfl rfl
/-- C.needed(III)I -/
def z_Ke77 : z_as_ := ((166, 0, [(0, .inr (.inr (false, [13]))), (1, .inl (0, 0, 0, (-2147483648), 2147483647)), (2, .inl (0, 0, 0, (-2147483648), 2147483647)), (3, .inl (0, 0, 0, (-2147483648), 2147483647))], [], 0, 0), [], z_H0c, 1, [], 900000)
def z_Kx77 : List z_Xe := [(some (.inl (0, 0, 0, (-2147483648), 2147483647)), [(25, .inr [(0, .inl (0, 0, 0, 1, 998)), (1, .inl (0, 0, 0, (-1), 60)), (2, .inl (0, 0, 0, (-60), 60)), (3, .inl (0, 0, 0, (-2147483648), 2147483647)), (4, .inl (0, 0, 0, (-2147483648), 2147483647)), (5, .inl (0, 0, 0, (-2147483648), 2147483647)), (6, .inl (0, 0, 0, (-2147483648), 2147483647)), (7, .inl (0, 0, 0, (-2147483648), 2147483647))]), (27, .inl (z_hg 27)), (89, .inl (z_hg 89))], 0)]
def z_Kk77 : z_Kc := (166, 13, z_Ke77, [], z_Kx77, none)
def z_Kd77 : List z_ce := [(13, z_Ke77, [], [(0, 2, 0), (0, 0, 0), (0, 0, 0)]),
  (13, ((166, 48, [(0, .inr (.inr (false, [13]))), (1, .inl (0, 0, 0, 0, 5)), (2, .inl (0, 0, 0, 0, 100)), (3, .inl (0, 0, 0, 0, 100)), (4, .inr (.inr (false, [30]))), (5, .inl (0, 0, 0, 0, 2147483647)), (6, .inl (0, 0, 0, (-2147483648), 2147483647)), (7, .inl (1, 0, 0, 0, 7))], [], 0, 0), [], z_H0c, 2, [], 900000), [(1, (0, 0, 7))], [(0, 1, 0), (1, 1, 7), (0, 1, 0)])]
theorem z_Kt77 : (z_Kd77.all fun C => z_cok3 (z_G []) [(25, some [0, 1, 2, 3, 4, 5, 6, 7]), (27, none), (89, none)] [(25, some [0, 1, 2, 3, 4, 5, 6, 7]), (27, none), (89, none)] z_Tg0 12 1 ([z_Kk71, z_Kk74, z_Kk75]) (z_QX (z_lbk z_Kk77.2.2.1 z_Kk77.2.2.2.1) 1 900000 [(25, some [0, 1, 2, 3, 4, 5, 6, 7]), (27, none), (89, none)] z_Kk77.2.2.2.2.1) (z_atl [(166, 48)]) [] z_Kd77 30000 C) = true := by decide +kernel
theorem z_Kn77 {xs : List Int32} : z_cn (z_G xs) 12 z_J z_Kk77 := z_mkN (n := 1) (W := [(25, some [0, 1, 2, 3, 4, 5, 6, 7]), (27, none), (89, none)]) (D := [(25, some [0, 1, 2, 3, 4, 5, 6, 7]), (27, none), (89, none)]) z_Kk77 z_Kd77 rfl (z_kc z_Kn71 (z_kc z_Kn74 (z_kc z_Kn75 z_kn))) z_Kt77 rfl rfl rfl rfl
/-- C.strokesFlinging(I)I -/
def z_Ke78 : z_as_ := ((168, 0, [(0, .inr (.inr (false, [13]))), (1, .inl (0, 0, 0, 0, 9))], [], 0, 0), [], z_H0c, 1, [], 900000)
def z_Kx78 : List z_Xe := [(some (.inl (0, 0, 0, (-2147483648), 2147483647)), [(65, .inl (z_hg 65)), (68, .inl (z_hg 68)), (71, .inl (z_hg 71)), (74, .inl (z_hg 74)), (77, .inl (z_hg 77)), (78, .inl (z_hg 78))], 0)]
def z_Kk78 : z_Kc := (168, 7, z_Ke78, [], z_Kx78, none)
def z_Kd78 : List z_ce := [(7, z_Ke78, [], [(0, 2, 0), (0, 0, 0), (0, 0, 0)]),
  (7, ((168, 4, [(0, .inr (.inr (false, [13]))), (1, .inl (0, 0, 0, 0, 9)), (2, .inl (0, 0, 0, (-2147483648), 2147483647)), (3, .inl (1, 0, 0, 1, 10))], [], 0, 0), [], z_H0c, 2, [], 900000), [(1, (0, 0, 3))], [(0, 1, 0), (1, 1, 10), (0, 1, 0)])]
theorem z_Kt78 : (z_Kd78.all fun C => z_cok3 (z_G []) [(65, none), (68, none), (71, none), (74, none), (77, none), (78, none)] [(65, none), (68, none), (71, none), (74, none), (77, none), (78, none)] z_Tg0 12 1 ([z_Kk2]) (z_QX (z_lbk z_Kk78.2.2.1 z_Kk78.2.2.2.1) 1 900000 [(65, none), (68, none), (71, none), (74, none), (77, none), (78, none)] z_Kk78.2.2.2.2.1) (z_atl [(168, 4)]) [] z_Kd78 30000 C) = true := by decide +kernel
theorem z_Kn78 {xs : List Int32} : z_cn (z_G xs) 12 z_J z_Kk78 := z_mkN (n := 1) (W := [(65, none), (68, none), (71, none), (74, none), (77, none), (78, none)]) (D := [(65, none), (68, none), (71, none), (74, none), (77, none), (78, none)]) z_Kk78 z_Kd78 rfl (z_kc z_Kn2 z_kn) z_Kt78 rfl rfl rfl rfl
/-- C.strokes(I)I -/
def z_Ke79 : z_as_ := ((167, 0, [(0, .inr (.inr (false, [13]))), (1, .inl (0, 0, 0, (-2147483648), 2147483647))], [], 0, 0), [], z_H0c, 1, [], 900000)
def z_Kx79 : List z_Xe := [(some (.inl (0, 0, 0, (-2147483648), 2147483647)), [(16, .inr [(1, .inl (0, 0, 0, 0, 4))]), (17, .inl (z_hg 17)), (65, .inl (z_hg 65)), (68, .inl (z_hg 68)), (71, .inl (z_hg 71)), (74, .inl (z_hg 74)), (77, .inl (z_hg 77)), (78, .inl (z_hg 78))], 0)]
def z_Kk79 : z_Kc := (167, 9, z_Ke79, [], z_Kx79, none)
def z_Kp79_0 : z_ce := (9, z_Ke79, [], [(0, 2, 0), (0, 0, 0), (0, 0, 0)])
def z_Kp79_1 : z_ce := (9, ((167, 19, [(0, .inr (.inr (false, [13]))), (1, .inl (0, 0, 0, 0, 5)), (2, .inl (0, 0, 0, (-2147483648), 2147483647)), (3, .inl (0, 0, 0, (-2147483648), 2147483647)), (4, .inl (0, 0, 0, (-2147483648), 2147483647)), (5, .inl (1, 0, 0, 0, 10))], [], 0, 0), [], z_H0c, 2, [], 900000), [(1, (0, 0, 5))], [(0, 1, 0), (1, 1, 10), (0, 1, 0)])
def z_Kd79 : List z_ce := [z_Kp79_0, z_Kp79_1]
theorem z_Ku79_0 : z_cok3 (z_G []) [(16, some [1]), (17, none), (65, none), (68, none), (71, none), (74, none), (77, none), (78, none)] [(16, some [1]), (17, none), (65, none), (68, none), (71, none), (74, none), (77, none), (78, none)] z_Tg0 12 1 ([z_Kk70, z_Kk78]) (z_QX (z_lbk z_Kk79.2.2.1 z_Kk79.2.2.2.1) 1 900000 [(16, some [1]), (17, none), (65, none), (68, none), (71, none), (74, none), (77, none), (78, none)] z_Kk79.2.2.2.2.1) (z_atl [(167, 19)]) [] z_Kd79 30000 z_Kp79_0 = true := by decide +kernel
theorem z_Ku79_1 : z_cok3 (z_G []) [(16, some [1]), (17, none), (65, none), (68, none), (71, none), (74, none), (77, none), (78, none)] [(16, some [1]), (17, none), (65, none), (68, none), (71, none), (74, none), (77, none), (78, none)] z_Tg0 12 1 ([z_Kk70, z_Kk78]) (z_QX (z_lbk z_Kk79.2.2.1 z_Kk79.2.2.2.1) 1 900000 [(16, some [1]), (17, none), (65, none), (68, none), (71, none), (74, none), (77, none), (78, none)] z_Kk79.2.2.2.2.1) (z_atl [(167, 19)]) [] z_Kd79 30000 z_Kp79_1 = true := by decide +kernel
theorem z_Kt79 : (z_Kd79.all fun C => z_cok3 (z_G []) [(16, some [1]), (17, none), (65, none), (68, none), (71, none), (74, none), (77, none), (78, none)] [(16, some [1]), (17, none), (65, none), (68, none), (71, none), (74, none), (77, none), (78, none)] z_Tg0 12 1 ([z_Kk70, z_Kk78]) (z_QX (z_lbk z_Kk79.2.2.1 z_Kk79.2.2.2.1) 1 900000 [(16, some [1]), (17, none), (65, none), (68, none), (71, none), (74, none), (77, none), (78, none)] z_Kk79.2.2.2.2.1) (z_atl [(167, 19)]) [] z_Kd79 30000 C) = true := z_acn z_Ku79_0 (z_acn z_Ku79_1 (rfl))
theorem z_Kn79 {xs : List Int32} : z_cn (z_G xs) 12 z_J z_Kk79 := z_mkN (n := 1) (W := [(16, some [1]), (17, none), (65, none), (68, none), (71, none), (74, none), (77, none), (78, none)]) (D := [(16, some [1]), (17, none), (65, none), (68, none), (71, none), (74, none), (77, none), (78, none)]) z_Kk79 z_Kd79 rfl (z_kc z_Kn70 (z_kc z_Kn78 z_kn)) z_Kt79 rfl rfl rfl rfl
/-- C.find(I)I -/
def z_Ke80 : z_as_ := ((169, 0, [(0, .inr (.inr (false, [13]))), (1, .inl (0, 0, 0, (-2147483648), 2147483647))], [], 0, 0), [], z_H0c, 1, [], 900000)
def z_Kx80 : List z_Xe := [(some (.inl (0, 0, 0, (-2), 6)), [(16, .inr [(1, .inl (0, 0, 0, 0, 4))]), (17, .inl (z_hg 17)), (25, .inr [(0, .inl (0, 0, 0, 1, 998)), (1, .inl (0, 0, 0, (-1), 60)), (2, .inl (0, 0, 0, (-60), 60)), (3, .inl (0, 0, 0, (-2147483648), 2147483647)), (4, .inl (0, 0, 0, (-2147483648), 2147483647)), (5, .inl (0, 0, 0, (-2147483648), 2147483647)), (6, .inl (0, 0, 0, (-2147483648), 2147483647)), (7, .inl (0, 0, 0, (-2147483648), 2147483647))]), (27, .inl (z_hg 27))], 0)]
def z_Kk80 : z_Kc := (169, 11, z_Ke80, [], z_Kx80, none)
def z_Kd80 : List z_ce := [(11, z_Ke80, [], [(0, 2, 0), (0, 0, 0), (0, 0, 0)]),
  (11, ((169, 40, [(0, .inr (.inr (false, [13]))), (1, .inl (0, 0, 0, 1, 2147483646)), (2, .inl (0, 0, 0, (-2147483648), 2147483647)), (3, .inl (0, 0, 0, (-1), 6)), (4, .inl (0, 0, 0, 0, 63)), (5, .inl (1, 0, 0, 0, 7))], [], 0, 0), [], z_H0c, 2, [], 900000), [(1, (0, 0, 5))], [(0, 1, 0), (1, 1, 7), (0, 1, 0)])]
theorem z_Kt80 : (z_Kd80.all fun C => z_cok3 (z_G []) [(16, some [1]), (17, none), (25, some [0, 1, 2, 3, 4, 5, 6, 7]), (27, none)] [(16, some [1]), (17, none), (25, some [0, 1, 2, 3, 4, 5, 6, 7]), (27, none)] z_Tg0 12 1 ([z_Kk68, z_Kk70]) (z_QX (z_lbk z_Kk80.2.2.1 z_Kk80.2.2.2.1) 1 900000 [(16, some [1]), (17, none), (25, some [0, 1, 2, 3, 4, 5, 6, 7]), (27, none)] z_Kk80.2.2.2.2.1) (z_atl [(169, 40)]) [] z_Kd80 30000 C) = true := by decide +kernel
theorem z_Kn80 {xs : List Int32} : z_cn (z_G xs) 12 z_J z_Kk80 := z_mkN (n := 1) (W := [(16, some [1]), (17, none), (25, some [0, 1, 2, 3, 4, 5, 6, 7]), (27, none)]) (D := [(16, some [1]), (17, none), (25, some [0, 1, 2, 3, 4, 5, 6, 7]), (27, none)]) z_Kk80 z_Kd80 rfl (z_kc z_Kn68 (z_kc z_Kn70 z_kn)) z_Kt80 rfl rfl rfl rfl
/-- C.await(IIIII)I -/
def z_Ke81 : z_as_ := ((170, 0, [(0, .inr (.inr (false, [13]))), (1, .inl (0, 0, 0, (-2147483648), 2147483647)), (2, .inl (0, 0, 0, (-2147483648), 2147483647)), (3, .inl (0, 0, 0, (-2147483648), 2147483647)), (4, .inl (0, 0, 0, (-2147483648), 2147483647)), (5, .inl (0, 0, 0, (-2147483648), 2147483647))], [], 0, 0), [], z_H0c, 1, [], 900000)
def z_Kx81 : List z_Xe := [(some (.inl (0, 0, 0, (-1), 0)), [(16, .inr [(1, .inl (0, 0, 0, 0, 4))]), (17, .inl (z_hg 17))], 0)]
def z_Kk81 : z_Kc := (170, 3, z_Ke81, [], z_Kx81, none)
def z_Kp81_0 : z_ce := (3, z_Ke81, [], [(0, 2, 0), (0, 0, 0), (0, 0, 0)])
def z_Kp81_1 : z_ce := (3, ((170, 96, [(0, .inr (.inr (false, [13]))), (1, .inl (0, 0, 0, 1, 10)), (2, .inl (0, 0, 0, 0, 10)), (3, .inl (0, 0, 0, 0, 999)), (4, .inl (0, 0, 0, 0, 999)), (5, .inl (0, 0, 0, 0, 99)), (6, .inl (0, 0, 0, 1, 1)), (7, .inr (.inl (0, 0, 0, (-9223372036854775808), 9223372036854775807))), (9, .inr (.inl (0, 0, 0, (-9223372036854775808), 9223372036854775807))), (11, .inl (0, 0, 0, (-2147483648), 2147483647)), (12, .inl (1, 0, 0, 2, 11))], [], 0, 0), [], z_H0c, 2, [], 900000), [(1, (0, 0, 12))], [(0, 1, 0), (1, 1, 11), (0, 1, 0)])
def z_Kd81 : List z_ce := [z_Kp81_0, z_Kp81_1]
theorem z_Ku81_0 : z_cok3 (z_G []) [(16, some [1]), (17, none)] [(16, some [1]), (17, none)] z_Tg0 12 1 ([]) (z_QX (z_lbk z_Kk81.2.2.1 z_Kk81.2.2.2.1) 1 900000 [(16, some [1]), (17, none)] z_Kk81.2.2.2.2.1) (z_atl [(170, 96)]) [] z_Kd81 30000 z_Kp81_0 = true := by decide +kernel
theorem z_Ku81_1 : z_cok3 (z_G []) [(16, some [1]), (17, none)] [(16, some [1]), (17, none)] z_Tg0 12 1 ([]) (z_QX (z_lbk z_Kk81.2.2.1 z_Kk81.2.2.2.1) 1 900000 [(16, some [1]), (17, none)] z_Kk81.2.2.2.2.1) (z_atl [(170, 96)]) [] z_Kd81 30000 z_Kp81_1 = true := by decide +kernel
theorem z_Kt81 : (z_Kd81.all fun C => z_cok3 (z_G []) [(16, some [1]), (17, none)] [(16, some [1]), (17, none)] z_Tg0 12 1 ([]) (z_QX (z_lbk z_Kk81.2.2.1 z_Kk81.2.2.2.1) 1 900000 [(16, some [1]), (17, none)] z_Kk81.2.2.2.2.1) (z_atl [(170, 96)]) [] z_Kd81 30000 C) = true := z_acn z_Ku81_0 (z_acn z_Ku81_1 (rfl))
theorem z_Kn81 {xs : List Int32} : z_cn (z_G xs) 12 z_J z_Kk81 := z_mkN (n := 1) (W := [(16, some [1]), (17, none)]) (D := [(16, some [1]), (17, none)]) z_Kk81 z_Kd81 rfl z_kn z_Kt81 rfl rfl rfl rfl
/-- C.heavy(I)I -/
def z_Ke82 : z_as_ := ((172, 0, [(0, .inr (.inr (false, [13]))), (1, .inl (0, 0, 0, (-2147483648), 2147483647))], [], 0, 0), [], z_H0c, 1, [], 900000)
def z_Kx82 : List z_Xe := [(some (.inl (0, 0, 0, (-2147483648), 2147483647)), [(13, .inr [(17, .inl (0, 0, 0, (-2147483648), 2147483647))]), (16, .inr [(1, .inl (0, 0, 0, 0, 4))]), (17, .inl (z_hg 17))], 0)]
def z_Kk82 : z_Kc := (172, 6, z_Ke82, [], z_Kx82, none)
def z_Kd82 : List z_ce := [(6, z_Ke82, [], [(0, 1, 0)])]
theorem z_Kt82 : (z_Kd82.all fun C => z_cok3 (z_G []) [(13, some [17]), (16, some [1]), (17, none)] [(13, some [17]), (16, some [1]), (17, none)] z_Tg0 12 1 ([z_Kk26, z_Kk47, z_Kk62]) (z_QX (z_lbk z_Kk82.2.2.1 z_Kk82.2.2.2.1) 1 900000 [(13, some [17]), (16, some [1]), (17, none)] z_Kk82.2.2.2.2.1) (z_atl []) [] z_Kd82 30000 C) = true := by decide +kernel
theorem z_Kn82 {xs : List Int32} : z_cn (z_G xs) 12 z_J z_Kk82 := z_mkN (n := 1) (W := [(13, some [17]), (16, some [1]), (17, none)]) (D := [(13, some [17]), (16, some [1]), (17, none)]) z_Kk82 z_Kd82 rfl (z_kc z_Kn26 (z_kc z_Kn47 (z_kc z_Kn62 z_kn))) z_Kt82 rfl rfl rfl rfl
end ZCN66
