section ZCN81
/-- C.has(II)I -/
def z_Ke311 : z_as_ := ((60, 0, [(0, .inr (.inr (false, [13]))), (1, .inl (0, 0, 0, (-2147483648), 2147483647)), (2, .inl (0, 0, 0, (-2147483648), 2147483647))], [], 0, 0), [], z_H0c, 1, [], 900000)
def z_Kx311 : List z_Xe := [(some (.inl (0, 0, 0, (-2147483648), 2147483647)), [], 0)]
def z_Kk311 : z_Kc := (60, 2, z_Ke311, [], z_Kx311, none)
def z_Kd311 : List z_ce := [(2, z_Ke311, [], [(0, 1, 0)])]
theorem z_Kt311 : (z_Kd311.all fun C => z_cok3 (z_G []) [] [] z_Tg0 13 1 ([]) (z_QX (z_lbk z_Kk311.2.2.1 z_Kk311.2.2.2.1) 1 900000 [] z_Kk311.2.2.2.2.1) (z_atl []) [] z_Kd311 30000 C) = true := by decide +kernel
theorem z_Kn311 {xs : List Int32} : z_cn (z_G xs) 13 z_J z_Kk311 := z_mkN (n := 1) (W := []) (D := []) z_Kk311 z_Kd311 rfl z_kn z_Kt311 rfl rfl rfl rfl
/-- C.lies(II)I -/
def z_Ke312 : z_as_ := ((63, 0, [(0, .inr (.inr (false, [13]))), (1, .inl (0, 0, 0, (-2147483648), 2147483647)), (2, .inl (0, 0, 0, (-2147483648), 2147483647))], [], 0, 0), [], z_H0c, 1, [], 900000)
def z_Kx312 : List z_Xe := [(some (.inl (0, 0, 0, (-2147483648), 2147483647)), [], 0)]
def z_Kk312 : z_Kc := (63, 3, z_Ke312, [], z_Kx312, none)
def z_Kd312 : List z_ce := [(3, z_Ke312, [], [(0, 1, 0)])]
theorem z_Kt312 : (z_Kd312.all fun C => z_cok3 (z_G []) [] [] z_Tg0 13 1 ([]) (z_QX (z_lbk z_Kk312.2.2.1 z_Kk312.2.2.2.1) 1 900000 [] z_Kk312.2.2.2.2.1) (z_atl []) [] z_Kd312 30000 C) = true := by decide +kernel
theorem z_Kn312 {xs : List Int32} : z_cn (z_G xs) 13 z_J z_Kk312 := z_mkN (n := 1) (W := []) (D := []) z_Kk312 z_Kd312 rfl z_kn z_Kt312 rfl rfl rfl rfl
/-- C.sheet(IIIII)I -/
def z_Ke313 : z_as_ := ((67, 0, [(0, .inr (.inr (false, [13]))), (1, .inl (0, 0, 0, (-2147483648), 2147483647)), (2, .inl (0, 0, 0, (-2147483648), 2147483647)), (3, .inl (0, 0, 0, (-2147483648), 2147483647)), (4, .inl (0, 0, 0, (-2147483648), 2147483647)), (5, .inl (0, 0, 0, (-2147483648), 2147483647))], [], 0, 0), [], z_H0c, 1, [], 900000)
def z_Kx313 : List z_Xe := [(some (.inl (0, 0, 0, (-2147483648), 2147483647)), [(30, .inl (z_hg 30))], 0)]
def z_Kk313 : z_Kc := (67, 4, z_Ke313, [], z_Kx313, none)
def z_Kd313 : List z_ce := [(4, z_Ke313, [], [(0, 2, 0), (0, 0, 0), (0, 0, 0)]),
  (4, ((67, 64, [(0, .inr (.inr (false, [13]))), (1, .inl (0, 0, 0, 0, 5)), (2, .inl (0, 0, 0, 0, 2)), (3, .inl (0, 0, 0, 0, 10)), (4, .inl (0, 0, 0, (-2147483648), 2147483647)), (5, .inl (0, 0, 0, (-2147483648), 2147483647)), (6, .inr (.inr (false, [30]))), (7, .inl (1, 0, 0, 0, 10))], [], 0, 0), [], z_H0c, 2, [], 900000), [(1, (0, 0, 7))], [(0, 1, 0), (1, 1, 10), (0, 1, 0)])]
theorem z_Kt313 : (z_Kd313.all fun C => z_cok3 (z_G []) [(30, none)] [(30, none)] z_Tg0 13 1 ([z_Kk44, z_Kk293]) (z_QX (z_lbk z_Kk313.2.2.1 z_Kk313.2.2.2.1) 1 900000 [(30, none)] z_Kk313.2.2.2.2.1) (z_atl [(67, 64)]) [] z_Kd313 30000 C) = true := by decide +kernel
theorem z_Kn313 {xs : List Int32} : z_cn (z_G xs) 13 z_J z_Kk313 := z_mkN (n := 1) (W := [(30, none)]) (D := [(30, none)]) z_Kk313 z_Kd313 rfl (z_kc z_Kn44 (z_kc z_Kn293 z_kn)) z_Kt313 rfl rfl rfl rfl
/-- C.lands(II)I -/
def z_Ke314 : z_as_ := ((71, 0, [(0, .inr (.inr (false, [13]))), (1, .inl (0, 0, 0, (-2147483648), 2147483647)), (2, .inl (0, 0, 0, (-2147483648), 2147483647))], [], 0, 0), [], z_H0c, 1, [], 900000)
def z_Kx314 : List z_Xe := [(some (.inl (0, 0, 0, (-1), 24)), [(16, .inr [(1, .inl (0, 0, 0, 0, 4))]), (17, .inl (z_hg 17)), (25, .inr [(0, .inl (0, 0, 0, 1, 998)), (1, .inl (0, 0, 0, (-1), 60)), (2, .inl (0, 0, 0, (-60), 60)), (3, .inl (0, 0, 0, (-2147483648), 2147483647)), (4, .inl (0, 0, 0, (-2147483648), 2147483647)), (5, .inl (0, 0, 0, (-2147483648), 2147483647)), (6, .inl (0, 0, 0, (-2147483648), 2147483647)), (7, .inl (0, 0, 0, (-2147483648), 2147483647))])], 0)]
def z_Kk314 : z_Kc := (71, 7, z_Ke314, [], z_Kx314, none)
def z_Kd314 : List z_ce := [(7, z_Ke314, [], [(0, 1, 0)])]
theorem z_Kt314 : (z_Kd314.all fun C => z_cok3 (z_G []) [(16, some [1]), (17, none), (25, some [0, 1, 2, 3, 4, 5, 6, 7])] [(16, some [1]), (17, none), (25, some [0, 1, 2, 3, 4, 5, 6, 7])] z_Tg0 13 1 ([z_Kk5]) (z_QX (z_lbk z_Kk314.2.2.1 z_Kk314.2.2.2.1) 1 900000 [(16, some [1]), (17, none), (25, some [0, 1, 2, 3, 4, 5, 6, 7])] z_Kk314.2.2.2.2.1) (z_atl []) [] z_Kd314 30000 C) = true := by decide +kernel
theorem z_Kn314 {xs : List Int32} : z_cn (z_G xs) 13 z_J z_Kk314 := z_mkN (n := 1) (W := [(16, some [1]), (17, none), (25, some [0, 1, 2, 3, 4, 5, 6, 7])]) (D := [(16, some [1]), (17, none), (25, some [0, 1, 2, 3, 4, 5, 6, 7])]) z_Kk314 z_Kd314 rfl (z_kc z_Kn5 z_kn) z_Kt314 rfl rfl rfl rfl
/-- C.mostOf([I)I -/
def z_Ke315 : z_as_ := ((83, 0, [(0, .inr (.inr (false, [13]))), (1, .inr (.inr (false, [30])))], [], 0, 0), [], z_H0c, 1, [], 900000)
def z_Kx315 : List z_Xe := [(some (.inl (0, 0, 0, (-1), 9)), [], 0)]
def z_Kk315 : z_Kc := (83, 1, z_Ke315, [], z_Kx315, none)
def z_Kd315 : List z_ce := [(1, z_Ke315, [], [(0, 2, 0), (0, 0, 0), (0, 0, 0)]),
  (1, ((83, 7, [(0, .inr (.inr (false, [13]))), (1, .inr (.inr (false, [30]))), (2, .inl (0, 0, 0, (-1), 9)), (3, .inl (0, 0, 0, (-2147483648), 2147483647)), (4, .inl (1, 0, 0, 0, 10))], [], 0, 0), [], z_H0c, 2, [], 900000), [(1, (0, 0, 4))], [(0, 1, 0), (1, 1, 10), (0, 1, 0)])]
theorem z_Kt315 : (z_Kd315.all fun C => z_cok3 (z_G []) [] [] z_Tg0 13 1 ([]) (z_QX (z_lbk z_Kk315.2.2.1 z_Kk315.2.2.2.1) 1 900000 [] z_Kk315.2.2.2.2.1) (z_atl [(83, 7)]) [] z_Kd315 30000 C) = true := by decide +kernel
theorem z_Kn315 {xs : List Int32} : z_cn (z_G xs) 13 z_J z_Kk315 := z_mkN (n := 1) (W := []) (D := []) z_Kk315 z_Kd315 rfl z_kn z_Kt315 rfl rfl rfl rfl
/-- C.Gusts.lineAt(I)I -/
def z_Ke316 : z_as_ := ((86, 0, [(0, .inr (.inr (false, [53, 57]))), (1, .inl (0, 0, 0, (-2147483648), 2147483647))], [], 0, 0), [], z_H0c, 1, [], 900000)
def z_Kx316 : List z_Xe := [(some (.inl (0, 0, 0, (-1), 9)), [], 0)]
def z_Kk316 : z_Kc := (86, 1, z_Ke316, [], z_Kx316, none)
def z_Kd316 : List z_ce := [(1, z_Ke316, [], [(0, 2, 0), (0, 0, 0), (0, 0, 0)]),
  (1, ((86, 20, [(0, .inr (.inr (false, [53, 57]))), (1, .inl (0, 0, 0, (-2147483648), 2147483647)), (2, .inl (0, 0, 0, (-2147483648), 2147483647)), (3, .inl (1, 0, 0, 0, 10))], [], 0, 0), [], z_H0c, 2, [], 900000), [(1, (0, 0, 3))], [(0, 1, 0), (1, 1, 10), (0, 1, 0)])]
theorem z_Kt316 : (z_Kd316.all fun C => z_cok3 (z_G []) [] [] z_Tg0 13 1 ([]) (z_QX (z_lbk z_Kk316.2.2.1 z_Kk316.2.2.2.1) 1 900000 [] z_Kk316.2.2.2.2.1) (z_atl [(86, 20)]) [] z_Kd316 30000 C) = true := by decide +kernel
theorem z_Kn316 {xs : List Int32} : z_cn (z_G xs) 13 z_J z_Kk316 := z_mkN (n := 1) (W := []) (D := []) z_Kk316 z_Kd316 rfl z_kn z_Kt316 rfl rfl rfl rfl
/-- C.windOfThrow()I -/
def z_Ke317 : z_as_ := ((85, 0, [(0, .inr (.inr (false, [13])))], [], 0, 0), [], z_H0c, 1, [], 900000)
def z_Kx317 : List z_Xe := [(some (.inl (0, 0, 0, (-60), 60)), [(28, .inr [(3, .inl (0, 0, 0, (-2147483648), 2147483647)), (4, .inl (0, 0, 0, (-2147483648), 2147483647))])], 0)]
def z_Kk317 : z_Kc := (85, 3, z_Ke317, [], z_Kx317, none)
def z_Kd317 : List z_ce := [(3, z_Ke317, [], [(0, 1, 0)])]
theorem z_Kt317 : (z_Kd317.all fun C => z_cok3 (z_G []) [(28, some [3, 4])] [(28, some [3, 4])] z_Tg0 13 1 ([z_Kk316]) (z_QX (z_lbk z_Kk317.2.2.1 z_Kk317.2.2.2.1) 1 900000 [(28, some [3, 4])] z_Kk317.2.2.2.2.1) (z_atl []) [] z_Kd317 30000 C) = true := by decide +kernel
theorem z_Kn317 {xs : List Int32} : z_cn (z_G xs) 13 z_J z_Kk317 := z_mkN (n := 1) (W := [(28, some [3, 4])]) (D := [(28, some [3, 4])]) z_Kk317 z_Kd317 rfl (z_kc z_Kn316 z_kn) z_Kt317 rfl rfl rfl rfl
/-- C.throwShovel([I)I -/
def z_Ke318 : z_as_ := ((84, 0, [(0, .inr (.inr (false, [13]))), (1, .inr (.inr (false, [30])))], [], 0, 0), [], z_H0c, 1, [], 900000)
def z_Kx318 : List z_Xe := [(some (.inl (0, 0, 0, (-2147483648), 2147483647)), [(25, .inr [(0, .inl (0, 0, 0, 1, 998)), (1, .inl (0, 0, 0, (-1), 60)), (2, .inl (0, 0, 0, (-60), 60)), (3, .inl (0, 0, 0, (-2147483648), 2147483647)), (4, .inl (0, 0, 0, (-2147483648), 2147483647)), (5, .inl (0, 0, 0, (-2147483648), 2147483647)), (6, .inl (0, 0, 0, (-2147483648), 2147483647)), (7, .inl (0, 0, 0, (-2147483648), 2147483647))]), (27, .inl (z_hg 27)), (28, .inr [(3, .inl (0, 0, 0, (-2147483648), 2147483647)), (4, .inl (0, 0, 0, (-2147483648), 2147483647))]), (30, .inl (z_hg 30)), (32, .inl (z_hg 32)), (33, .inl (z_hg 33))], 0)]
def z_Kk318 : z_Kc := (84, 9, z_Ke318, [], z_Kx318, none)
def z_Kd318 : List z_ce := [(9, z_Ke318, [], [(0, 2, 0), (0, 0, 0), (0, 0, 0)]),
  (9, ((84, 10, [(0, .inr (.inr (false, [13]))), (1, .inr (.inr (false, [30]))), (2, .inl (0, 0, 0, (-60), 60)), (3, .inl (0, 0, 0, (-2147483648), 2147483647)), (4, .inl (1, 0, 0, 0, 99))], [], 0, 0), [], z_H0c, 2, [], 900000), [(1, (0, 0, 4))], [(0, 1, 0), (1, 1, 99), (0, 1, 0)])]
theorem z_Kt318 : (z_Kd318.all fun C => z_cok3 (z_G []) [(25, some [0, 1, 2, 3, 4, 5, 6, 7]), (27, none), (28, some [3, 4]), (30, none), (32, none), (33, none)] [(25, some [0, 1, 2, 3, 4, 5, 6, 7]), (27, none), (28, some [3, 4]), (30, none), (32, none), (33, none)] z_Tg0 13 1 ([z_Kk6, z_Kk315, z_Kk317]) (z_QX (z_lbk z_Kk318.2.2.1 z_Kk318.2.2.2.1) 1 900000 [(25, some [0, 1, 2, 3, 4, 5, 6, 7]), (27, none), (28, some [3, 4]), (30, none), (32, none), (33, none)] z_Kk318.2.2.2.2.1) (z_atl [(84, 10)]) [] z_Kd318 30000 C) = true := by decide +kernel
theorem z_Kn318 {xs : List Int32} : z_cn (z_G xs) 13 z_J z_Kk318 := z_mkN (n := 1) (W := [(25, some [0, 1, 2, 3, 4, 5, 6, 7]), (27, none), (28, some [3, 4]), (30, none), (32, none), (33, none)]) (D := [(25, some [0, 1, 2, 3, 4, 5, 6, 7]), (27, none), (28, some [3, 4]), (30, none), (32, none), (33, none)]) z_Kk318 z_Kd318 rfl (z_kc z_Kn6 (z_kc z_Kn315 (z_kc z_Kn317 z_kn))) z_Kt318 rfl rfl rfl rfl
/-- C.go(II)I -/
def z_Ke319 : z_as_ := ((82, 0, [(0, .inr (.inr (false, [13]))), (1, .inl (0, 0, 0, (-2147483648), 2147483647)), (2, .inl (0, 0, 0, (-2147483648), 2147483647))], [], 0, 0), [], z_H0c, 1, [], 900000)
def z_Kx319 : List z_Xe := [(some (.inl (0, 0, 0, (-1), 500)), [(16, .inr [(1, .inl (0, 0, 0, 0, 4))]), (17, .inl (z_hg 17)), (25, .inr [(0, .inl (0, 0, 0, 1, 998)), (1, .inl (0, 0, 0, (-1), 60)), (2, .inl (0, 0, 0, (-60), 60)), (3, .inl (0, 0, 0, (-2147483648), 2147483647)), (4, .inl (0, 0, 0, (-2147483648), 2147483647)), (5, .inl (0, 0, 0, (-2147483648), 2147483647)), (6, .inl (0, 0, 0, (-2147483648), 2147483647)), (7, .inl (0, 0, 0, (-2147483648), 2147483647))]), (27, .inl (z_hg 27)), (28, .inr [(3, .inl (0, 0, 0, (-2147483648), 2147483647)), (4, .inl (0, 0, 0, (-2147483648), 2147483647))]), (30, .inl (z_hg 30)), (32, .inl (z_hg 32)), (33, .inl (z_hg 33))], 0)]
def z_Kk319 : z_Kc := (82, 11, z_Ke319, [], z_Kx319, none)
def z_Kd319 : List z_ce := [(11, z_Ke319, [], [(0, 2, 0), (0, 0, 0), (0, 0, 0)]),
  (11, ((82, 36, [(0, .inr (.inr (false, [13]))), (1, .inl (0, 0, 0, 0, 5)), (2, .inl (0, 0, 0, 0, 500)), (3, .inr (.inr (false, [30]))), (4, .inl (1, 0, 0, 0, 500)), (5, .inl (0, 0, 0, (-2147483648), 2147483647))], [], 0, 0), [], z_H0c, 2, [], 900000), [(1, (0, 0, 4))], [(0, 1, 0), (1, 1, 500), (0, 1, 0)])]
theorem z_Kt319 : (z_Kd319.all fun C => z_cok3 (z_G []) [(16, some [1]), (17, none), (25, some [0, 1, 2, 3, 4, 5, 6, 7]), (27, none), (28, some [3, 4]), (30, none), (32, none), (33, none)] [(16, some [1]), (17, none), (25, some [0, 1, 2, 3, 4, 5, 6, 7]), (27, none), (28, some [3, 4]), (30, none), (32, none), (33, none)] z_Tg0 13 1 ([z_Kk315, z_Kk318]) (z_QX (z_lbk z_Kk319.2.2.1 z_Kk319.2.2.2.1) 1 900000 [(16, some [1]), (17, none), (25, some [0, 1, 2, 3, 4, 5, 6, 7]), (27, none), (28, some [3, 4]), (30, none), (32, none), (33, none)] z_Kk319.2.2.2.2.1) (z_atl [(82, 36)]) [] z_Kd319 30000 C) = true := by decide +kernel
theorem z_Kn319 {xs : List Int32} : z_cn (z_G xs) 13 z_J z_Kk319 := z_mkN (n := 1) (W := [(16, some [1]), (17, none), (25, some [0, 1, 2, 3, 4, 5, 6, 7]), (27, none), (28, some [3, 4]), (30, none), (32, none), (33, none)]) (D := [(16, some [1]), (17, none), (25, some [0, 1, 2, 3, 4, 5, 6, 7]), (27, none), (28, some [3, 4]), (30, none), (32, none), (33, none)]) z_Kk319 z_Kd319 rfl (z_kc z_Kn315 (z_kc z_Kn318 z_kn)) z_Kt319 rfl rfl rfl rfl
/-- C.sign(I)I -/
def z_Ke320 : z_as_ := ((9, 0, [(0, .inr (.inr (false, [13]))), (1, .inl (0, 0, 0, (-2147483648), 2147483647))], [], 0, 0), [], z_H0c, 1, [], 900000)
def z_Kx320 : List z_Xe := [(some (.inl (0, 0, 0, (-1), 80)), [(14, .inr [(1, .inl (0, 0, 0, 0, 80))]), (15, .inl (z_hg 15))], 0)]
def z_Kk320 : z_Kc := (9, 2, z_Ke320, [], z_Kx320, none)
def z_Kd320 : List z_ce := [(2, z_Ke320, [], [(0, 1, 0)])]
theorem z_Kt320 : (z_Kd320.all fun C => z_cok3 (z_G []) [(14, some [1]), (15, none)] [(14, some [1]), (15, none)] z_Tg0 13 1 ([]) (z_QX (z_lbk z_Kk320.2.2.1 z_Kk320.2.2.2.1) 1 900000 [(14, some [1]), (15, none)] z_Kk320.2.2.2.2.1) (z_atl []) [] z_Kd320 30000 C) = true := by decide +kernel
theorem z_Kn320 {xs : List Int32} : z_cn (z_G xs) 13 z_J z_Kk320 := z_mkN (n := 1) (W := [(14, some [1]), (15, none)]) (D := [(14, some [1]), (15, none)]) z_Kk320 z_Kd320 rfl z_kn z_Kt320 rfl rfl rfl rfl
/-- C.Gusts.leftAt(I)I -/
def z_Ke321 : z_as_ := ((92, 0, [(0, .inr (.inr (false, [53, 57]))), (1, .inl (0, 0, 0, (-2147483648), 2147483647))], [], 0, 0), [], z_H0c, 1, [], 900000)
def z_Kx321 : List z_Xe := [(some (.inl (0, 0, 0, (-2147483648), 2147483647)), [], 0)]
def z_Kk321 : z_Kc := (92, 1, z_Ke321, [], z_Kx321, none)
def z_Kd321 : List z_ce := [(1, z_Ke321, [], [(0, 2, 0), (0, 0, 0), (0, 0, 0)]),
  (1, ((92, 20, [(0, .inr (.inr (false, [53, 57]))), (1, .inl (0, 0, 0, (-2147483648), 2147483647)), (2, .inl (0, 0, 0, (-2147483648), 2147483647)), (3, .inl (1, 0, 0, 0, 10))], [], 0, 0), [], z_H0c, 2, [], 900000), [(1, (0, 0, 3))], [(0, 1, 0), (1, 1, 10), (0, 1, 0)])]
theorem z_Kt321 : (z_Kd321.all fun C => z_cok3 (z_G []) [] [] z_Tg0 13 1 ([]) (z_QX (z_lbk z_Kk321.2.2.1 z_Kk321.2.2.2.1) 1 900000 [] z_Kk321.2.2.2.2.1) (z_atl [(92, 20)]) [] z_Kd321 30000 C) = true := by decide +kernel
theorem z_Kn321 {xs : List Int32} : z_cn (z_G xs) 13 z_J z_Kk321 := z_mkN (n := 1) (W := []) (D := []) z_Kk321 z_Kd321 rfl z_kn z_Kt321 rfl rfl rfl rfl
/-- C.blows()I -/
def z_Ke322 : z_as_ := ((91, 0, [(0, .inr (.inr (false, [13])))], [], 0, 0), [], z_H0c, 1, [], 900000)
def z_Kx322 : List z_Xe := [(some (.inl (0, 0, 0, (-60), 60)), [(16, .inr [(1, .inl (0, 0, 0, 0, 4))]), (17, .inl (z_hg 17))], 0)]
def z_Kk322 : z_Kc := (91, 3, z_Ke322, [], z_Kx322, none)
def z_Kd322 : List z_ce := [(3, z_Ke322, [], [(0, 1, 0)])]
theorem z_Kt322 : (z_Kd322.all fun C => z_cok3 (z_G []) [(16, some [1]), (17, none)] [(16, some [1]), (17, none)] z_Tg0 13 1 ([z_Kk316, z_Kk321]) (z_QX (z_lbk z_Kk322.2.2.1 z_Kk322.2.2.2.1) 1 900000 [(16, some [1]), (17, none)] z_Kk322.2.2.2.2.1) (z_atl []) [] z_Kd322 30000 C) = true := by decide +kernel
theorem z_Kn322 {xs : List Int32} : z_cn (z_G xs) 13 z_J z_Kk322 := z_mkN (n := 1) (W := [(16, some [1]), (17, none)]) (D := [(16, some [1]), (17, none)]) z_Kk322 z_Kd322 rfl (z_kc z_Kn316 (z_kc z_Kn321 z_kn)) z_Kt322 rfl rfl rfl rfl
/-- C.moveAll([I[I)I -/
def z_Ke323 : z_as_ := ((95, 0, [(0, .inr (.inr (false, [13]))), (1, .inr (.inr (false, [32]))), (2, .inr (.inr (false, [30])))], [], 0, 0), [], z_H0c, 1, [], 900000)
def z_Kx323 : List z_Xe := [(some (.inl (0, 0, 0, (-2147483648), 2147483647)), [(30, .inl (z_hg 30)), (32, .inl (z_hg 32))], 0)]
def z_Kk323 : z_Kc := (95, 2, z_Ke323, [], z_Kx323, none)
def z_Kd323 : List z_ce := [(2, z_Ke323, [], [(0, 2, 0), (0, 0, 0), (0, 0, 0)]),
  (2, ((95, 5, [(0, .inr (.inr (false, [13]))), (1, .inr (.inr (false, [32]))), (2, .inr (.inr (false, [30]))), (3, .inl (0, 0, 0, (-2147483648), 2147483647)), (4, .inl (1, 0, 0, 0, 10))], [], 0, 0), [], z_H0c, 2, [], 900000), [(1, (0, 0, 4))], [(0, 1, 0), (1, 1, 10), (0, 1, 0)])]
theorem z_Kt323 : (z_Kd323.all fun C => z_cok3 (z_G []) [(30, none), (32, none)] [(30, none), (32, none)] z_Tg0 13 1 ([]) (z_QX (z_lbk z_Kk323.2.2.1 z_Kk323.2.2.2.1) 1 900000 [(30, none), (32, none)] z_Kk323.2.2.2.2.1) (z_atl [(95, 5)]) [] z_Kd323 30000 C) = true := by decide +kernel
theorem z_Kn323 {xs : List Int32} : z_cn (z_G xs) 13 z_J z_Kk323 := z_mkN (n := 1) (W := [(30, none), (32, none)]) (D := [(30, none), (32, none)]) z_Kk323 z_Kd323 rfl z_kn z_Kt323 rfl rfl rfl rfl
/-- C.gather(III)I -/
def z_Ke324 : z_as_ := ((93, 0, [(0, .inr (.inr (false, [13]))), (1, .inl (0, 0, 0, (-2147483648), 2147483647)), (2, .inl (0, 0, 0, (-2147483648), 2147483647)), (3, .inl (0, 0, 0, (-2147483648), 2147483647))], [], 0, 0), [], z_H0c, 1, [], 900000)
def z_Kx324 : List z_Xe := [(some (.inl (0, 0, 0, (-2147483648), 2147483647)), [(30, .inl (z_hg 30)), (32, .inl (z_hg 32))], 0)]
def z_Kk324 : z_Kc := (93, 4, z_Ke324, [], z_Kx324, none)
def z_Kd324 : List z_ce := [(4, z_Ke324, [], [(0, 2, 0), (0, 0, 0), (0, 0, 0)]),
  (4, ((93, 24, [(0, .inr (.inr (false, [13]))), (1, .inl (0, 0, 0, 0, 2147483647)), (2, .inl (0, 0, 0, 0, 23)), (3, .inl (0, 0, 0, 0, 5)), (4, .inl (0, 0, 0, (-2147483648), 2147483647)), (5, .inl (1, 0, 0, 0, 2147483647))], [], 0, 0), [], z_H0c, 2, [], 900000), [(1, (0, 0, 5))], [(0, 1, 0), (1, 1, 2147483647), (0, 1, 0)])]
theorem z_Kt324 : (z_Kd324.all fun C => z_cok3 (z_G []) [(30, none), (32, none)] [(30, none), (32, none)] z_Tg0 13 1 ([z_Kk323]) (z_QX (z_lbk z_Kk324.2.2.1 z_Kk324.2.2.2.1) 1 900000 [(30, none), (32, none)] z_Kk324.2.2.2.2.1) (z_atl [(93, 24)]) [] z_Kd324 30000 C) = true := by decide +kernel
theorem z_Kn324 {xs : List Int32} : z_cn (z_G xs) 13 z_J z_Kk324 := z_mkN (n := 1) (W := [(30, none), (32, none)]) (D := [(30, none), (32, none)]) z_Kk324 z_Kd324 rfl (z_kc z_Kn323 z_kn) z_Kt324 rfl rfl rfl rfl
/-- C.moveAll([I[I)I -/
def z_Ke325 : z_as_ := ((95, 0, [(0, .inr (.inr (false, [13]))), (1, .inr (.inr (false, [30]))), (2, .inr (.inr (false, [30])))], [], 0, 0), [], z_H0c, 1, [], 900000)
def z_Kx325 : List z_Xe := [(some (.inl (0, 0, 0, (-2147483648), 2147483647)), [(30, .inl (z_hg 30))], 0)]
def z_Kk325 : z_Kc := (95, 2, z_Ke325, [], z_Kx325, none)
def z_Kd325 : List z_ce := [(2, z_Ke325, [], [(0, 2, 0), (0, 0, 0), (0, 0, 0)]),
  (2, ((95, 5, [(0, .inr (.inr (false, [13]))), (1, .inr (.inr (false, [30]))), (2, .inr (.inr (false, [30]))), (3, .inl (0, 0, 0, (-2147483648), 2147483647)), (4, .inl (1, 0, 0, 0, 10))], [], 0, 0), [], z_H0c, 2, [], 900000), [(1, (0, 0, 4))], [(0, 1, 0), (1, 1, 10), (0, 1, 0)])]
theorem z_Kt325 : (z_Kd325.all fun C => z_cok3 (z_G []) [(30, none)] [(30, none)] z_Tg0 13 1 ([]) (z_QX (z_lbk z_Kk325.2.2.1 z_Kk325.2.2.2.1) 1 900000 [(30, none)] z_Kk325.2.2.2.2.1) (z_atl [(95, 5)]) [] z_Kd325 30000 C) = true := by decide +kernel
theorem z_Kn325 {xs : List Int32} : z_cn (z_G xs) 13 z_J z_Kk325 := z_mkN (n := 1) (W := [(30, none)]) (D := [(30, none)]) z_Kk325 z_Kd325 rfl z_kn z_Kt325 rfl rfl rfl rfl
/-- C.mix(II)I -/
def z_Ke326 : z_as_ := ((97, 0, [(0, .inr (.inr (false, [13]))), (1, .inl (0, 0, 0, (-2147483648), 2147483647)), (2, .inl (0, 0, 0, (-2147483648), 2147483647))], [], 0, 0), [], z_H0c, 1, [], 900000)
def z_Kx326 : List z_Xe := [(some (.inl (0, 0, 0, (-2147483648), 2147483647)), [(30, .inl (z_hg 30))], 0)]
def z_Kk326 : z_Kc := (97, 4, z_Ke326, [], z_Kx326, none)
def z_Kd326 : List z_ce := [(4, z_Ke326, [], [(0, 1, 0)])]
theorem z_Kt326 : (z_Kd326.all fun C => z_cok3 (z_G []) [(30, none)] [(30, none)] z_Tg0 13 1 ([z_Kk325]) (z_QX (z_lbk z_Kk326.2.2.1 z_Kk326.2.2.2.1) 1 900000 [(30, none)] z_Kk326.2.2.2.2.1) (z_atl []) [] z_Kd326 30000 C) = true := by decide +kernel
theorem z_Kn326 {xs : List Int32} : z_cn (z_G xs) 13 z_J z_Kk326 := z_mkN (n := 1) (W := [(30, none)]) (D := [(30, none)]) z_Kk326 z_Kd326 rfl (z_kc z_Kn325 z_kn) z_Kt326 rfl rfl rfl rfl
/-- C.sieve(III)I -/
def z_Ke327 : z_as_ := ((99, 0, [(0, .inr (.inr (false, [13]))), (1, .inl (0, 0, 0, (-2147483648), 2147483647)), (2, .inl (0, 0, 0, (-2147483648), 2147483647)), (3, .inl (0, 0, 0, (-2147483648), 2147483647))], [], 0, 0), [], z_H0c, 1, [], 900000)
def z_Kx327 : List z_Xe := [(some (.inl (0, 0, 0, (-2147483648), 2147483647)), [(30, .inl (z_hg 30))], 0)]
def z_Kk327 : z_Kc := (99, 3, z_Ke327, [], z_Kx327, none)
def z_Kd327 : List z_ce := [(3, z_Ke327, [], [(0, 2, 0), (0, 0, 0), (0, 0, 0)]),
  (3, ((99, 23, [(0, .inr (.inr (false, [13]))), (1, .inl (0, 0, 0, 0, 5)), (2, .inl (0, 0, 0, 1, 60)), (3, .inl (0, 0, 0, 0, 5)), (4, .inl (0, 0, 0, (-2147483648), 2147483647)), (5, .inl (1, 0, 0, 0, 10))], [], 0, 0), [], z_H0c, 2, [], 900000), [(1, (0, 0, 5))], [(0, 1, 0), (1, 1, 10), (0, 1, 0)])]
theorem z_Kt327 : (z_Kd327.all fun C => z_cok3 (z_G []) [(30, none)] [(30, none)] z_Tg0 13 1 ([]) (z_QX (z_lbk z_Kk327.2.2.1 z_Kk327.2.2.2.1) 1 900000 [(30, none)] z_Kk327.2.2.2.2.1) (z_atl [(99, 23)]) [] z_Kd327 30000 C) = true := by decide +kernel
theorem z_Kn327 {xs : List Int32} : z_cn (z_G xs) 13 z_J z_Kk327 := z_mkN (n := 1) (W := [(30, none)]) (D := [(30, none)]) z_Kk327 z_Kd327 rfl z_kn z_Kt327 rfl rfl rfl rfl
end ZCN81
