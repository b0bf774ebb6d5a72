section ZCN83
/-- C.has(II)I -/
def z_Ke337 : z_as_ := ((60, 0, [(0, .inr (.inr (false, [13]))), (1, .inl (0, 0, 0, (-2147483648), 2147483647)), (2, .inl (0, 0, 0, (-2147483648), 2147483647))], [], 0, 0), [], z_H0c, 1, [], 900000)
def z_Kx337 : List z_Xe := [(some (.inl (0, 0, 0, (-2147483648), 2147483647)), [], 0)]
def z_Kk337 : z_Kc := (60, 2, z_Ke337, [], z_Kx337, none)
def z_Kd337 : List z_ce := [(2, z_Ke337, [], [(0, 1, 0)])]
theorem z_Kt337 : (z_Kd337.all fun C => z_cok3 (z_G []) [] [] z_Tg0 12 1 ([]) (z_QX (z_lbk z_Kk337.2.2.1 z_Kk337.2.2.2.1) 1 900000 [] z_Kk337.2.2.2.2.1) (z_atl []) [] z_Kd337 30000 C) = true := by decide +kernel
theorem z_Kn337 {xs : List Int32} : z_cn (z_G xs) 12 z_J z_Kk337 := z_mkN (n := 1) (W := []) (D := []) z_Kk337 z_Kd337 rfl z_kn z_Kt337 rfl rfl rfl rfl
/-- C.lies(II)I -/
def z_Ke338 : z_as_ := ((63, 0, [(0, .inr (.inr (false, [13]))), (1, .inl (0, 0, 0, (-2147483648), 2147483647)), (2, .inl (0, 0, 0, (-2147483648), 2147483647))], [], 0, 0), [], z_H0c, 1, [], 900000)
def z_Kx338 : List z_Xe := [(some (.inl (0, 0, 0, (-2147483648), 2147483647)), [], 0)]
def z_Kk338 : z_Kc := (63, 3, z_Ke338, [], z_Kx338, none)
def z_Kd338 : List z_ce := [(3, z_Ke338, [], [(0, 1, 0)])]
theorem z_Kt338 : (z_Kd338.all fun C => z_cok3 (z_G []) [] [] z_Tg0 12 1 ([]) (z_QX (z_lbk z_Kk338.2.2.1 z_Kk338.2.2.2.1) 1 900000 [] z_Kk338.2.2.2.2.1) (z_atl []) [] z_Kd338 30000 C) = true := by decide +kernel
theorem z_Kn338 {xs : List Int32} : z_cn (z_G xs) 12 z_J z_Kk338 := z_mkN (n := 1) (W := []) (D := []) z_Kk338 z_Kd338 rfl z_kn z_Kt338 rfl rfl rfl rfl
/-- C.sheet(IIIII)I -/
def z_Ke339 : z_as_ := ((67, 0, [(0, .inr (.inr (false, [13]))), (1, .inl (0, 0, 0, (-2147483648), 2147483647)), (2, .inl (0, 0, 0, (-2147483648), 2147483647)), (3, .inl (0, 0, 0, (-2147483648), 2147483647)), (4, .inl (0, 0, 0, (-2147483648), 2147483647)), (5, .inl (0, 0, 0, (-2147483648), 2147483647))], [], 0, 0), [], z_H0c, 1, [], 900000)
def z_Kx339 : List z_Xe := [(some (.inl (0, 0, 0, (-2147483648), 2147483647)), [(30, .inl (z_hg 30))], 0)]
def z_Kk339 : z_Kc := (67, 4, z_Ke339, [], z_Kx339, none)
def z_Kd339 : List z_ce := [(4, z_Ke339, [], [(0, 2, 0), (0, 0, 0), (0, 0, 0)]),
  (4, ((67, 64, [(0, .inr (.inr (false, [13]))), (1, .inl (0, 0, 0, 0, 5)), (2, .inl (0, 0, 0, 0, 2)), (3, .inl (0, 0, 0, 0, 10)), (4, .inl (0, 0, 0, (-2147483648), 2147483647)), (5, .inl (0, 0, 0, (-2147483648), 2147483647)), (6, .inr (.inr (false, [30]))), (7, .inl (1, 0, 0, 0, 10))], [], 0, 0), [], z_H0c, 2, [], 900000), [(1, (0, 0, 7))], [(0, 1, 0), (1, 1, 10), (0, 1, 0)])]
theorem z_Kt339 : (z_Kd339.all fun C => z_cok3 (z_G []) [(30, none)] [(30, none)] z_Tg0 12 1 ([z_Kk47, z_Kk319]) (z_QX (z_lbk z_Kk339.2.2.1 z_Kk339.2.2.2.1) 1 900000 [(30, none)] z_Kk339.2.2.2.2.1) (z_atl [(67, 64)]) [] z_Kd339 30000 C) = true := by decide +kernel
theorem z_Kn339 {xs : List Int32} : z_cn (z_G xs) 12 z_J z_Kk339 := z_mkN (n := 1) (W := [(30, none)]) (D := [(30, none)]) z_Kk339 z_Kd339 rfl (z_kc z_Kn47 (z_kc z_Kn319 z_kn)) z_Kt339 rfl rfl rfl rfl
/-- C.lands(II)I -/
def z_Ke340 : z_as_ := ((71, 0, [(0, .inr (.inr (false, [13]))), (1, .inl (0, 0, 0, (-2147483648), 2147483647)), (2, .inl (0, 0, 0, (-2147483648), 2147483647))], [], 0, 0), [], z_H0c, 1, [], 900000)
def z_Kx340 : List z_Xe := [(some (.inl (0, 0, 0, (-1), 24)), [(16, .inr [(1, .inl (0, 0, 0, 0, 4))]), (17, .inl (z_hg 17)), (25, .inr [(0, .inl (0, 0, 0, 1, 998)), (1, .inl (0, 0, 0, (-1), 60)), (2, .inl (0, 0, 0, (-60), 60)), (3, .inl (0, 0, 0, (-2147483648), 2147483647)), (4, .inl (0, 0, 0, (-2147483648), 2147483647)), (5, .inl (0, 0, 0, (-2147483648), 2147483647)), (6, .inl (0, 0, 0, (-2147483648), 2147483647)), (7, .inl (0, 0, 0, (-2147483648), 2147483647))])], 0)]
def z_Kk340 : z_Kc := (71, 7, z_Ke340, [], z_Kx340, none)
def z_Kd340 : List z_ce := [(7, z_Ke340, [], [(0, 1, 0)])]
theorem z_Kt340 : (z_Kd340.all fun C => z_cok3 (z_G []) [(16, some [1]), (17, none), (25, some [0, 1, 2, 3, 4, 5, 6, 7])] [(16, some [1]), (17, none), (25, some [0, 1, 2, 3, 4, 5, 6, 7])] z_Tg0 12 1 ([z_Kk5]) (z_QX (z_lbk z_Kk340.2.2.1 z_Kk340.2.2.2.1) 1 900000 [(16, some [1]), (17, none), (25, some [0, 1, 2, 3, 4, 5, 6, 7])] z_Kk340.2.2.2.2.1) (z_atl []) [] z_Kd340 30000 C) = true := by decide +kernel
theorem z_Kn340 {xs : List Int32} : z_cn (z_G xs) 12 z_J z_Kk340 := z_mkN (n := 1) (W := [(16, some [1]), (17, none), (25, some [0, 1, 2, 3, 4, 5, 6, 7])]) (D := [(16, some [1]), (17, none), (25, some [0, 1, 2, 3, 4, 5, 6, 7])]) z_Kk340 z_Kd340 rfl (z_kc z_Kn5 z_kn) z_Kt340 rfl rfl rfl rfl
/-- C.mostOf([I)I -/
def z_Ke341 : z_as_ := ((83, 0, [(0, .inr (.inr (false, [13]))), (1, .inr (.inr (false, [30])))], [], 0, 0), [], z_H0c, 1, [], 900000)
def z_Kx341 : List z_Xe := [(some (.inl (0, 0, 0, (-1), 9)), [], 0)]
def z_Kk341 : z_Kc := (83, 1, z_Ke341, [], z_Kx341, none)
def z_Kd341 : List z_ce := [(1, z_Ke341, [], [(0, 2, 0), (0, 0, 0), (0, 0, 0)]),
  (1, ((83, 7, [(0, .inr (.inr (false, [13]))), (1, .inr (.inr (false, [30]))), (2, .inl (0, 0, 0, (-1), 9)), (3, .inl (0, 0, 0, (-2147483648), 2147483647)), (4, .inl (1, 0, 0, 0, 10))], [], 0, 0), [], z_H0c, 2, [], 900000), [(1, (0, 0, 4))], [(0, 1, 0), (1, 1, 10), (0, 1, 0)])]
theorem z_Kt341 : (z_Kd341.all fun C => z_cok3 (z_G []) [] [] z_Tg0 12 1 ([]) (z_QX (z_lbk z_Kk341.2.2.1 z_Kk341.2.2.2.1) 1 900000 [] z_Kk341.2.2.2.2.1) (z_atl [(83, 7)]) [] z_Kd341 30000 C) = true := by decide +kernel
theorem z_Kn341 {xs : List Int32} : z_cn (z_G xs) 12 z_J z_Kk341 := z_mkN (n := 1) (W := []) (D := []) z_Kk341 z_Kd341 rfl z_kn z_Kt341 rfl rfl rfl rfl
/-- C.Gusts.lineAt(I)I -/
def z_Ke342 : z_as_ := ((86, 0, [(0, .inr (.inr (false, [53, 57]))), (1, .inl (0, 0, 0, (-2147483648), 2147483647))], [], 0, 0), [], z_H0c, 1, [], 900000)
def z_Kx342 : List z_Xe := [(some (.inl (0, 0, 0, (-1), 9)), [], 0)]
def z_Kk342 : z_Kc := (86, 1, z_Ke342, [], z_Kx342, none)
def z_Kd342 : List z_ce := [(1, z_Ke342, [], [(0, 2, 0), (0, 0, 0), (0, 0, 0)]),
  (1, ((86, 20, [(0, .inr (.inr (false, [53, 57]))), (1, .inl (0, 0, 0, (-2147483648), 2147483647)), (2, .inl (0, 0, 0, (-2147483648), 2147483647)), (3, .inl (1, 0, 0, 0, 10))], [], 0, 0), [], z_H0c, 2, [], 900000), [(1, (0, 0, 3))], [(0, 1, 0), (1, 1, 10), (0, 1, 0)])]
theorem z_Kt342 : (z_Kd342.all fun C => z_cok3 (z_G []) [] [] z_Tg0 12 1 ([]) (z_QX (z_lbk z_Kk342.2.2.1 z_Kk342.2.2.2.1) 1 900000 [] z_Kk342.2.2.2.2.1) (z_atl [(86, 20)]) [] z_Kd342 30000 C) = true := by decide +kernel
theorem z_Kn342 {xs : List Int32} : z_cn (z_G xs) 12 z_J z_Kk342 := z_mkN (n := 1) (W := []) (D := []) z_Kk342 z_Kd342 rfl z_kn z_Kt342 rfl rfl rfl rfl
/-- C.windOfThrow()I -/
def z_Ke343 : z_as_ := ((85, 0, [(0, .inr (.inr (false, [13])))], [], 0, 0), [], z_H0c, 1, [], 900000)
def z_Kx343 : List z_Xe := [(some (.inl (0, 0, 0, (-60), 60)), [(28, .inr [(3, .inl (0, 0, 0, (-2147483648), 2147483647)), (4, .inl (0, 0, 0, (-2147483648), 2147483647))])], 0)]
def z_Kk343 : z_Kc := (85, 3, z_Ke343, [], z_Kx343, none)
def z_Kd343 : List z_ce := [(3, z_Ke343, [], [(0, 1, 0)])]
theorem z_Kt343 : (z_Kd343.all fun C => z_cok3 (z_G []) [(28, some [3, 4])] [(28, some [3, 4])] z_Tg0 12 1 ([z_Kk342]) (z_QX (z_lbk z_Kk343.2.2.1 z_Kk343.2.2.2.1) 1 900000 [(28, some [3, 4])] z_Kk343.2.2.2.2.1) (z_atl []) [] z_Kd343 30000 C) = true := by decide +kernel
theorem z_Kn343 {xs : List Int32} : z_cn (z_G xs) 12 z_J z_Kk343 := z_mkN (n := 1) (W := [(28, some [3, 4])]) (D := [(28, some [3, 4])]) z_Kk343 z_Kd343 rfl (z_kc z_Kn342 z_kn) z_Kt343 rfl rfl rfl rfl
/-- C.throwShovel([I)I -/
def z_Ke344 : z_as_ := ((84, 0, [(0, .inr (.inr (false, [13]))), (1, .inr (.inr (false, [30])))], [], 0, 0), [], z_H0c, 1, [], 900000)
def z_Kx344 : List z_Xe := [(some (.inl (0, 0, 0, (-2147483648), 2147483647)), [(25, .inr [(0, .inl (0, 0, 0, 1, 998)), (1, .inl (0, 0, 0, (-1), 60)), (2, .inl (0, 0, 0, (-60), 60)), (3, .inl (0, 0, 0, (-2147483648), 2147483647)), (4, .inl (0, 0, 0, (-2147483648), 2147483647)), (5, .inl (0, 0, 0, (-2147483648), 2147483647)), (6, .inl (0, 0, 0, (-2147483648), 2147483647)), (7, .inl (0, 0, 0, (-2147483648), 2147483647))]), (27, .inl (z_hg 27)), (28, .inr [(3, .inl (0, 0, 0, (-2147483648), 2147483647)), (4, .inl (0, 0, 0, (-2147483648), 2147483647))]), (30, .inl (z_hg 30)), (32, .inl (z_hg 32)), (33, .inl (z_hg 33))], 0)]
def z_Kk344 : z_Kc := (84, 9, z_Ke344, [], z_Kx344, none)
def z_Kd344 : List z_ce := [(9, z_Ke344, [], [(0, 2, 0), (0, 0, 0), (0, 0, 0)]),
  (9, ((84, 10, [(0, .inr (.inr (false, [13]))), (1, .inr (.inr (false, [30]))), (2, .inl (0, 0, 0, (-60), 60)), (3, .inl (0, 0, 0, (-2147483648), 2147483647)), (4, .inl (1, 0, 0, 0, 99))], [], 0, 0), [], z_H0c, 2, [], 900000), [(1, (0, 0, 4))], [(0, 1, 0), (1, 1, 99), (0, 1, 0)])]
theorem z_Kt344 : (z_Kd344.all fun C => z_cok3 (z_G []) [(25, some [0, 1, 2, 3, 4, 5, 6, 7]), (27, none), (28, some [3, 4]), (30, none), (32, none), (33, none)] [(25, some [0, 1, 2, 3, 4, 5, 6, 7]), (27, none), (28, some [3, 4]), (30, none), (32, none), (33, none)] z_Tg0 12 1 ([z_Kk6, z_Kk341, z_Kk343]) (z_QX (z_lbk z_Kk344.2.2.1 z_Kk344.2.2.2.1) 1 900000 [(25, some [0, 1, 2, 3, 4, 5, 6, 7]), (27, none), (28, some [3, 4]), (30, none), (32, none), (33, none)] z_Kk344.2.2.2.2.1) (z_atl [(84, 10)]) [] z_Kd344 30000 C) = true := by decide +kernel
theorem z_Kn344 {xs : List Int32} : z_cn (z_G xs) 12 z_J z_Kk344 := z_mkN (n := 1) (W := [(25, some [0, 1, 2, 3, 4, 5, 6, 7]), (27, none), (28, some [3, 4]), (30, none), (32, none), (33, none)]) (D := [(25, some [0, 1, 2, 3, 4, 5, 6, 7]), (27, none), (28, some [3, 4]), (30, none), (32, none), (33, none)]) z_Kk344 z_Kd344 rfl (z_kc z_Kn6 (z_kc z_Kn341 (z_kc z_Kn343 z_kn))) z_Kt344 rfl rfl rfl rfl
/-- C.go(II)I -/
def z_Ke345 : z_as_ := ((82, 0, [(0, .inr (.inr (false, [13]))), (1, .inl (0, 0, 0, (-2147483648), 2147483647)), (2, .inl (0, 0, 0, (-2147483648), 2147483647))], [], 0, 0), [], z_H0c, 1, [], 900000)
def z_Kx345 : List z_Xe := [(some (.inl (0, 0, 0, (-1), 500)), [(16, .inr [(1, .inl (0, 0, 0, 0, 4))]), (17, .inl (z_hg 17)), (25, .inr [(0, .inl (0, 0, 0, 1, 998)), (1, .inl (0, 0, 0, (-1), 60)), (2, .inl (0, 0, 0, (-60), 60)), (3, .inl (0, 0, 0, (-2147483648), 2147483647)), (4, .inl (0, 0, 0, (-2147483648), 2147483647)), (5, .inl (0, 0, 0, (-2147483648), 2147483647)), (6, .inl (0, 0, 0, (-2147483648), 2147483647)), (7, .inl (0, 0, 0, (-2147483648), 2147483647))]), (27, .inl (z_hg 27)), (28, .inr [(3, .inl (0, 0, 0, (-2147483648), 2147483647)), (4, .inl (0, 0, 0, (-2147483648), 2147483647))]), (30, .inl (z_hg 30)), (32, .inl (z_hg 32)), (33, .inl (z_hg 33))], 0)]
def z_Kk345 : z_Kc := (82, 11, z_Ke345, [], z_Kx345, none)
def z_Kd345 : List z_ce := [(11, z_Ke345, [], [(0, 2, 0), (0, 0, 0), (0, 0, 0)]),
  (11, ((82, 36, [(0, .inr (.inr (false, [13]))), (1, .inl (0, 0, 0, 0, 5)), (2, .inl (0, 0, 0, 0, 500)), (3, .inr (.inr (false, [30]))), (4, .inl (1, 0, 0, 0, 500)), (5, .inl (0, 0, 0, (-2147483648), 2147483647))], [], 0, 0), [], z_H0c, 2, [], 900000), [(1, (0, 0, 4))], [(0, 1, 0), (1, 1, 500), (0, 1, 0)])]
theorem z_Kt345 : (z_Kd345.all fun C => z_cok3 (z_G []) [(16, some [1]), (17, none), (25, some [0, 1, 2, 3, 4, 5, 6, 7]), (27, none), (28, some [3, 4]), (30, none), (32, none), (33, none)] [(16, some [1]), (17, none), (25, some [0, 1, 2, 3, 4, 5, 6, 7]), (27, none), (28, some [3, 4]), (30, none), (32, none), (33, none)] z_Tg0 12 1 ([z_Kk341, z_Kk344]) (z_QX (z_lbk z_Kk345.2.2.1 z_Kk345.2.2.2.1) 1 900000 [(16, some [1]), (17, none), (25, some [0, 1, 2, 3, 4, 5, 6, 7]), (27, none), (28, some [3, 4]), (30, none), (32, none), (33, none)] z_Kk345.2.2.2.2.1) (z_atl [(82, 36)]) [] z_Kd345 30000 C) = true := by decide +kernel
theorem z_Kn345 {xs : List Int32} : z_cn (z_G xs) 12 z_J z_Kk345 := z_mkN (n := 1) (W := [(16, some [1]), (17, none), (25, some [0, 1, 2, 3, 4, 5, 6, 7]), (27, none), (28, some [3, 4]), (30, none), (32, none), (33, none)]) (D := [(16, some [1]), (17, none), (25, some [0, 1, 2, 3, 4, 5, 6, 7]), (27, none), (28, some [3, 4]), (30, none), (32, none), (33, none)]) z_Kk345 z_Kd345 rfl (z_kc z_Kn341 (z_kc z_Kn344 z_kn)) z_Kt345 rfl rfl rfl rfl
/-- C.sign(I)I -/
def z_Ke346 : z_as_ := ((9, 0, [(0, .inr (.inr (false, [13]))), (1, .inl (0, 0, 0, (-2147483648), 2147483647))], [], 0, 0), [], z_H0c, 1, [], 900000)
def z_Kx346 : List z_Xe := [(some (.inl (0, 0, 0, (-1), 80)), [(14, .inr [(1, .inl (0, 0, 0, 0, 80))]), (15, .inl (z_hg 15))], 0)]
def z_Kk346 : z_Kc := (9, 2, z_Ke346, [], z_Kx346, none)
def z_Kd346 : List z_ce := [(2, z_Ke346, [], [(0, 1, 0)])]
theorem z_Kt346 : (z_Kd346.all fun C => z_cok3 (z_G []) [(14, some [1]), (15, none)] [(14, some [1]), (15, none)] z_Tg0 12 1 ([]) (z_QX (z_lbk z_Kk346.2.2.1 z_Kk346.2.2.2.1) 1 900000 [(14, some [1]), (15, none)] z_Kk346.2.2.2.2.1) (z_atl []) [] z_Kd346 30000 C) = true := by decide +kernel
theorem z_Kn346 {xs : List Int32} : z_cn (z_G xs) 12 z_J z_Kk346 := z_mkN (n := 1) (W := [(14, some [1]), (15, none)]) (D := [(14, some [1]), (15, none)]) z_Kk346 z_Kd346 rfl z_kn z_Kt346 rfl rfl rfl rfl
/-- C.Gusts.leftAt(I)I -/
def z_Ke347 : z_as_ := ((92, 0, [(0, .inr (.inr (false, [53, 57]))), (1, .inl (0, 0, 0, (-2147483648), 2147483647))], [], 0, 0), [], z_H0c, 1, [], 900000)
def z_Kx347 : List z_Xe := [(some (.inl (0, 0, 0, (-2147483648), 2147483647)), [], 0)]
def z_Kk347 : z_Kc := (92, 1, z_Ke347, [], z_Kx347, none)
def z_Kd347 : List z_ce := [(1, z_Ke347, [], [(0, 2, 0), (0, 0, 0), (0, 0, 0)]),
  (1, ((92, 20, [(0, .inr (.inr (false, [53, 57]))), (1, .inl (0, 0, 0, (-2147483648), 2147483647)), (2, .inl (0, 0, 0, (-2147483648), 2147483647)), (3, .inl (1, 0, 0, 0, 10))], [], 0, 0), [], z_H0c, 2, [], 900000), [(1, (0, 0, 3))], [(0, 1, 0), (1, 1, 10), (0, 1, 0)])]
theorem z_Kt347 : (z_Kd347.all fun C => z_cok3 (z_G []) [] [] z_Tg0 12 1 ([]) (z_QX (z_lbk z_Kk347.2.2.1 z_Kk347.2.2.2.1) 1 900000 [] z_Kk347.2.2.2.2.1) (z_atl [(92, 20)]) [] z_Kd347 30000 C) = true := by decide +kernel
theorem z_Kn347 {xs : List Int32} : z_cn (z_G xs) 12 z_J z_Kk347 := z_mkN (n := 1) (W := []) (D := []) z_Kk347 z_Kd347 rfl z_kn z_Kt347 rfl rfl rfl rfl
/-- C.blows()I -/
def z_Ke348 : z_as_ := ((91, 0, [(0, .inr (.inr (false, [13])))], [], 0, 0), [], z_H0c, 1, [], 900000)
def z_Kx348 : List z_Xe := [(some (.inl (0, 0, 0, (-60), 60)), [(16, .inr [(1, .inl (0, 0, 0, 0, 4))]), (17, .inl (z_hg 17))], 0)]
def z_Kk348 : z_Kc := (91, 3, z_Ke348, [], z_Kx348, none)
def z_Kd348 : List z_ce := [(3, z_Ke348, [], [(0, 1, 0)])]
theorem z_Kt348 : (z_Kd348.all fun C => z_cok3 (z_G []) [(16, some [1]), (17, none)] [(16, some [1]), (17, none)] z_Tg0 12 1 ([z_Kk342, z_Kk347]) (z_QX (z_lbk z_Kk348.2.2.1 z_Kk348.2.2.2.1) 1 900000 [(16, some [1]), (17, none)] z_Kk348.2.2.2.2.1) (z_atl []) [] z_Kd348 30000 C) = true := by decide +kernel
theorem z_Kn348 {xs : List Int32} : z_cn (z_G xs) 12 z_J z_Kk348 := z_mkN (n := 1) (W := [(16, some [1]), (17, none)]) (D := [(16, some [1]), (17, none)]) z_Kk348 z_Kd348 rfl (z_kc z_Kn342 (z_kc z_Kn347 z_kn)) z_Kt348 rfl rfl rfl rfl
/-- C.moveAll([I[I)I -/
def z_Ke349 : z_as_ := ((95, 0, [(0, .inr (.inr (false, [13]))), (1, .inr (.inr (false, [32]))), (2, .inr (.inr (false, [30])))], [], 0, 0), [], z_H0c, 1, [], 900000)
def z_Kx349 : List z_Xe := [(some (.inl (0, 0, 0, (-2147483648), 2147483647)), [(30, .inl (z_hg 30)), (32, .inl (z_hg 32))], 0)]
def z_Kk349 : z_Kc := (95, 2, z_Ke349, [], z_Kx349, none)
def z_Kd349 : List z_ce := [(2, z_Ke349, [], [(0, 2, 0), (0, 0, 0), (0, 0, 0)]),
  (2, ((95, 5, [(0, .inr (.inr (false, [13]))), (1, .inr (.inr (false, [32]))), (2, .inr (.inr (false, [30]))), (3, .inl (0, 0, 0, (-2147483648), 2147483647)), (4, .inl (1, 0, 0, 0, 10))], [], 0, 0), [], z_H0c, 2, [], 900000), [(1, (0, 0, 4))], [(0, 1, 0), (1, 1, 10), (0, 1, 0)])]
theorem z_Kt349 : (z_Kd349.all fun C => z_cok3 (z_G []) [(30, none), (32, none)] [(30, none), (32, none)] z_Tg0 12 1 ([]) (z_QX (z_lbk z_Kk349.2.2.1 z_Kk349.2.2.2.1) 1 900000 [(30, none), (32, none)] z_Kk349.2.2.2.2.1) (z_atl [(95, 5)]) [] z_Kd349 30000 C) = true := by decide +kernel
theorem z_Kn349 {xs : List Int32} : z_cn (z_G xs) 12 z_J z_Kk349 := z_mkN (n := 1) (W := [(30, none), (32, none)]) (D := [(30, none), (32, none)]) z_Kk349 z_Kd349 rfl z_kn z_Kt349 rfl rfl rfl rfl
/-- C.gather(III)I -/
def z_Ke350 : z_as_ := ((93, 0, [(0, .inr (.inr (false, [13]))), (1, .inl (0, 0, 0, (-2147483648), 2147483647)), (2, .inl (0, 0, 0, (-2147483648), 2147483647)), (3, .inl (0, 0, 0, (-2147483648), 2147483647))], [], 0, 0), [], z_H0c, 1, [], 900000)
def z_Kx350 : List z_Xe := [(some (.inl (0, 0, 0, (-2147483648), 2147483647)), [(30, .inl (z_hg 30)), (32, .inl (z_hg 32))], 0)]
def z_Kk350 : z_Kc := (93, 4, z_Ke350, [], z_Kx350, none)
def z_Kd350 : List z_ce := [(4, z_Ke350, [], [(0, 2, 0), (0, 0, 0), (0, 0, 0)]),
  (4, ((93, 24, [(0, .inr (.inr (false, [13]))), (1, .inl (0, 0, 0, 0, 2147483647)), (2, .inl (0, 0, 0, 0, 23)), (3, .inl (0, 0, 0, 0, 5)), (4, .inl (0, 0, 0, (-2147483648), 2147483647)), (5, .inl (1, 0, 0, 0, 2147483647))], [], 0, 0), [], z_H0c, 2, [], 900000), [(1, (0, 0, 5))], [(0, 1, 0), (1, 1, 2147483647), (0, 1, 0)])]
theorem z_Kt350 : (z_Kd350.all fun C => z_cok3 (z_G []) [(30, none), (32, none)] [(30, none), (32, none)] z_Tg0 12 1 ([z_Kk349]) (z_QX (z_lbk z_Kk350.2.2.1 z_Kk350.2.2.2.1) 1 900000 [(30, none), (32, none)] z_Kk350.2.2.2.2.1) (z_atl [(93, 24)]) [] z_Kd350 30000 C) = true := by decide +kernel
theorem z_Kn350 {xs : List Int32} : z_cn (z_G xs) 12 z_J z_Kk350 := z_mkN (n := 1) (W := [(30, none), (32, none)]) (D := [(30, none), (32, none)]) z_Kk350 z_Kd350 rfl (z_kc z_Kn349 z_kn) z_Kt350 rfl rfl rfl rfl
/-- C.moveAll([I[I)I -/
def z_Ke351 : z_as_ := ((95, 0, [(0, .inr (.inr (false, [13]))), (1, .inr (.inr (false, [30]))), (2, .inr (.inr (false, [30])))], [], 0, 0), [], z_H0c, 1, [], 900000)
def z_Kx351 : List z_Xe := [(some (.inl (0, 0, 0, (-2147483648), 2147483647)), [(30, .inl (z_hg 30))], 0)]
def z_Kk351 : z_Kc := (95, 2, z_Ke351, [], z_Kx351, none)
def z_Kd351 : List z_ce := [(2, z_Ke351, [], [(0, 2, 0), (0, 0, 0), (0, 0, 0)]),
  (2, ((95, 5, [(0, .inr (.inr (false, [13]))), (1, .inr (.inr (false, [30]))), (2, .inr (.inr (false, [30]))), (3, .inl (0, 0, 0, (-2147483648), 2147483647)), (4, .inl (1, 0, 0, 0, 10))], [], 0, 0), [], z_H0c, 2, [], 900000), [(1, (0, 0, 4))], [(0, 1, 0), (1, 1, 10), (0, 1, 0)])]
theorem z_Kt351 : (z_Kd351.all fun C => z_cok3 (z_G []) [(30, none)] [(30, none)] z_Tg0 12 1 ([]) (z_QX (z_lbk z_Kk351.2.2.1 z_Kk351.2.2.2.1) 1 900000 [(30, none)] z_Kk351.2.2.2.2.1) (z_atl [(95, 5)]) [] z_Kd351 30000 C) = true := by decide +kernel
theorem z_Kn351 {xs : List Int32} : z_cn (z_G xs) 12 z_J z_Kk351 := z_mkN (n := 1) (W := [(30, none)]) (D := [(30, none)]) z_Kk351 z_Kd351 rfl z_kn z_Kt351 rfl rfl rfl rfl
/-- C.mix(II)I -/
def z_Ke352 : z_as_ := ((97, 0, [(0, .inr (.inr (false, [13]))), (1, .inl (0, 0, 0, (-2147483648), 2147483647)), (2, .inl (0, 0, 0, (-2147483648), 2147483647))], [], 0, 0), [], z_H0c, 1, [], 900000)
def z_Kx352 : List z_Xe := [(some (.inl (0, 0, 0, (-2147483648), 2147483647)), [(30, .inl (z_hg 30))], 0)]
def z_Kk352 : z_Kc := (97, 4, z_Ke352, [], z_Kx352, none)
def z_Kd352 : List z_ce := [(4, z_Ke352, [], [(0, 1, 0)])]
theorem z_Kt352 : (z_Kd352.all fun C => z_cok3 (z_G []) [(30, none)] [(30, none)] z_Tg0 12 1 ([z_Kk351]) (z_QX (z_lbk z_Kk352.2.2.1 z_Kk352.2.2.2.1) 1 900000 [(30, none)] z_Kk352.2.2.2.2.1) (z_atl []) [] z_Kd352 30000 C) = true := by decide +kernel
theorem z_Kn352 {xs : List Int32} : z_cn (z_G xs) 12 z_J z_Kk352 := z_mkN (n := 1) (W := [(30, none)]) (D := [(30, none)]) z_Kk352 z_Kd352 rfl (z_kc z_Kn351 z_kn) z_Kt352 rfl rfl rfl rfl
/-- C.sieve(III)I -/
def z_Ke353 : z_as_ := ((99, 0, [(0, .inr (.inr (false, [13]))), (1, .inl (0, 0, 0, (-2147483648), 2147483647)), (2, .inl (0, 0, 0, (-2147483648), 2147483647)), (3, .inl (0, 0, 0, (-2147483648), 2147483647))], [], 0, 0), [], z_H0c, 1, [], 900000)
def z_Kx353 : List z_Xe := [(some (.inl (0, 0, 0, (-2147483648), 2147483647)), [(30, .inl (z_hg 30))], 0)]
def z_Kk353 : z_Kc := (99, 3, z_Ke353, [], z_Kx353, none)
def z_Kd353 : List z_ce := [(3, z_Ke353, [], [(0, 2, 0), (0, 0, 0), (0, 0, 0)]),
  (3, ((99, 23, [(0, .inr (.inr (false, [13]))), (1, .inl (0, 0, 0, 0, 5)), (2, .inl (0, 0, 0, 1, 60)), (3, .inl (0, 0, 0, 0, 5)), (4, .inl (0, 0, 0, (-2147483648), 2147483647)), (5, .inl (1, 0, 0, 0, 10))], [], 0, 0), [], z_H0c, 2, [], 900000), [(1, (0, 0, 5))], [(0, 1, 0), (1, 1, 10), (0, 1, 0)])]
theorem z_Kt353 : (z_Kd353.all fun C => z_cok3 (z_G []) [(30, none)] [(30, none)] z_Tg0 12 1 ([]) (z_QX (z_lbk z_Kk353.2.2.1 z_Kk353.2.2.2.1) 1 900000 [(30, none)] z_Kk353.2.2.2.2.1) (z_atl [(99, 23)]) [] z_Kd353 30000 C) = true := by decide +kernel
theorem z_Kn353 {xs : List Int32} : z_cn (z_G xs) 12 z_J z_Kk353 := z_mkN (n := 1) (W := [(30, none)]) (D := [(30, none)]) z_Kk353 z_Kd353 rfl z_kn z_Kt353 rfl rfl rfl rfl
/-- C.end(I)Z -/
def z_Ke354 : z_as_ := ((11, 0, [(0, .inr (.inr (false, [13]))), (1, .inl (2, 0, 0, (-2147483648), 2147483647))], [], 0, 0), [], (z_hcs z_H0c [(14, (1, (true, true), none, [.inr (.inr (false, [15])), .inl (1, 0, 0, 0, 80), .inl (0, 0, 0, 0, 2147483647), .inl (0, 0, 0, 0, 76), .inl (0, 0, 0, 0, 1)]))]), 3, [(1, 2, 1)], 900000)
def z_Kx354 : List z_Xe := [(some (.inl (0, 0, 0, 0, 0)), [], 0)]
def z_Kk354 : z_Kc := (11, 2, z_Ke354, [(1, (1, 14, 1)), (2, (0, 0, 1))], z_Kx354, none)
def z_Kd354 : List z_ce := [(2, z_Ke354, [(1, (1, 14, 1)), (2, (0, 0, 1))], [(0, 1, 0)])]
theorem z_Kt354 : (z_Kd354.all fun C => z_cok3 (z_G []) [] [] z_Tg0 12 3 ([]) (z_QX (z_lbk z_Kk354.2.2.1 z_Kk354.2.2.2.1) 3 900000 [] z_Kk354.2.2.2.2.1) (z_atl []) [] z_Kd354 30000 C) = true := by decide +kernel
theorem z_Kn354 {xs : List Int32} : z_cn (z_G xs) 12 z_J z_Kk354 := z_mkN (n := 3) (W := []) (D := []) z_Kk354 z_Kd354 rfl z_kn z_Kt354 rfl rfl rfl rfl
/-- C.end(I)Z -/
def z_Ke355 : z_as_ := ((11, 0, [(0, .inr (.inr (false, [13]))), (1, .inl (1, 0, 0, 0, 80))], [], 0, 0), [], (z_hcs z_H0c [(14, (1, (true, true), none, [.inr (.inr (false, [15])), .inl (2, 0, 0, 0, 80), .inl (0, 0, 0, 0, 2147483647), .inl (0, 0, 0, 0, 76), .inl (0, 0, 0, 0, 1)]))]), 3, [(1, 2, 0)], 900000)
def z_Kx355 : List z_Xe := [(some (.inl (0, 0, 0, 1, 1)), [(14, .inr [(1, .inl (1, 0, 0, 0, 80))])], 0)]
def z_Kk355 : z_Kc := (11, 2, z_Ke355, [(1, (0, 0, 1)), (2, (1, 14, 1))], z_Kx355, none)
def z_Kd355 : List z_ce := [(2, z_Ke355, [(1, (0, 0, 1)), (2, (1, 14, 1))], [(0, 1, 0)])]
theorem z_Kt355 : (z_Kd355.all fun C => z_cok3 (z_G []) [(14, some [1])] [(14, some [1])] z_Tg0 12 3 ([]) (z_QX (z_lbk z_Kk355.2.2.1 z_Kk355.2.2.2.1) 3 900000 [(14, some [1])] z_Kk355.2.2.2.2.1) (z_atl []) [] z_Kd355 30000 C) = true := by decide +kernel
theorem z_Kn355 {xs : List Int32} : z_cn (z_G xs) 12 z_J z_Kk355 := z_mkN (n := 3) (W := [(14, some [1])]) (D := [(14, some [1])]) z_Kk355 z_Kd355 rfl z_kn z_Kt355 rfl rfl rfl rfl
/-- C.end(I)Z -/
def z_Ke356 : z_as_ := ((11, 0, [(0, .inr (.inr (false, [13]))), (1, .inl (0, 0, 0, (-2147483648), (-1)))], [], 0, 0), [], (z_hcs z_H0c [(14, (1, (true, true), none, [.inr (.inr (false, [15])), .inl (1, 0, 0, 0, 80), .inl (0, 0, 0, 0, 2147483647), .inl (0, 0, 0, 0, 76), .inl (0, 0, 0, 0, 1)]))]), 2, [(1, 1, 0)], 900000)
def z_Kx356 : List z_Xe := [(some (.inl (0, 0, 0, 0, 0)), [], 0)]
def z_Kk356 : z_Kc := (11, 2, z_Ke356, [(1, (1, 14, 1))], z_Kx356, none)
def z_Kd356 : List z_ce := [(2, z_Ke356, [(1, (1, 14, 1))], [(0, 1, 0)])]
theorem z_Kt356 : (z_Kd356.all fun C => z_cok3 (z_G []) [] [] z_Tg0 12 2 ([]) (z_QX (z_lbk z_Kk356.2.2.1 z_Kk356.2.2.2.1) 2 900000 [] z_Kk356.2.2.2.2.1) (z_atl []) [] z_Kd356 30000 C) = true := by decide +kernel
theorem z_Kn356 {xs : List Int32} : z_cn (z_G xs) 12 z_J z_Kk356 := z_mkN (n := 2) (W := []) (D := []) z_Kk356 z_Kd356 rfl z_kn z_Kt356 rfl rfl rfl rfl
/-- C.odds(IIII)I -/
def z_Ke357 : z_as_ := ((125, 0, [(0, .inr (.inr (false, [13]))), (1, .inl (0, 0, 0, (-2147483648), 2147483647)), (2, .inl (0, 0, 0, (-2147483648), 2147483647)), (3, .inl (0, 0, 0, (-2147483648), (-1))), (4, .inl (0, 0, 0, (-2147483648), 2147483647))], [], 0, 0), [], z_H0c, 1, [], 900000)
def z_Kx357 : List z_Xe := [(some (.inl (0, 0, 0, (-1), (-1))), [], 0)]
def z_Kk357 : z_Kc := (125, 2, z_Ke357, [], z_Kx357, none)
def z_Kd357 : List z_ce := [(2, z_Ke357, [], [(0, 1, 0)])]
theorem z_Kt357 : (z_Kd357.all fun C => z_cok3 (z_G []) [] [] z_Tg0 12 1 ([]) (z_QX (z_lbk z_Kk357.2.2.1 z_Kk357.2.2.2.1) 1 900000 [] z_Kk357.2.2.2.2.1) (z_atl []) [] z_Kd357 30000 C) = true := by decide +kernel
theorem z_Kn357 {xs : List Int32} : z_cn (z_G xs) 12 z_J z_Kk357 := z_mkN (n := 1) (W := []) (D := []) z_Kk357 z_Kd357 rfl z_kn z_Kt357 rfl rfl rfl rfl
/-- C.odds(IIII)I -/
def z_Ke358 : z_as_ := ((125, 0, [(0, .inr (.inr (false, [13]))), (1, .inl (0, 0, 0, (-2147483648), 2147483647)), (2, .inl (0, 0, 0, (-2147483648), 2147483647)), (3, .inl (2, 0, 0, (-2147483648), 2147483647)), (4, .inl (1, 0, 0, (-2147483648), 2147483647))], [], 0, 0), [], z_H0c, 3, [(1, 2, 1)], 900000)
def z_Kx358 : List z_Xe := [(some (.inl (0, 0, 0, (-1), (-1))), [], 0)]
def z_Kk358 : z_Kc := (125, 2, z_Ke358, [(1, (0, 0, 4)), (2, (0, 0, 3))], z_Kx358, none)
def z_Kd358 : List z_ce := [(2, z_Ke358, [(1, (0, 0, 4)), (2, (0, 0, 3))], [(0, 1, 0)])]
theorem z_Kt358 : (z_Kd358.all fun C => z_cok3 (z_G []) [] [] z_Tg0 12 3 ([]) (z_QX (z_lbk z_Kk358.2.2.1 z_Kk358.2.2.2.1) 3 900000 [] z_Kk358.2.2.2.2.1) (z_atl []) [] z_Kd358 30000 C) = true := by decide +kernel
theorem z_Kn358 {xs : List Int32} : z_cn (z_G xs) 12 z_J z_Kk358 := z_mkN (n := 3) (W := []) (D := []) z_Kk358 z_Kd358 rfl z_kn z_Kt358 rfl rfl rfl rfl
/-- C.odds(IIII)I -/
def z_Ke359 : z_as_ := ((125, 0, [(0, .inr (.inr (false, [13]))), (1, .inl (0, 0, 0, (-2147483648), 2147483647)), (2, .inl (0, 0, 0, (-2147483648), (-1))), (3, .inl (0, 0, 0, (-2147483648), 2147483647)), (4, .inl (0, 0, 0, (-2147483648), 2147483647))], [], 0, 0), [], z_H0c, 1, [], 900000)
def z_Kx359 : List z_Xe := [(some (.inl (0, 0, 0, (-1), (-1))), [], 0)]
def z_Kk359 : z_Kc := (125, 2, z_Ke359, [], z_Kx359, none)
def z_Kd359 : List z_ce := [(2, z_Ke359, [], [(0, 1, 0)])]
theorem z_Kt359 : (z_Kd359.all fun C => z_cok3 (z_G []) [] [] z_Tg0 12 1 ([]) (z_QX (z_lbk z_Kk359.2.2.1 z_Kk359.2.2.2.1) 1 900000 [] z_Kk359.2.2.2.2.1) (z_atl []) [] z_Kd359 30000 C) = true := by decide +kernel
theorem z_Kn359 {xs : List Int32} : z_cn (z_G xs) 12 z_J z_Kk359 := z_mkN (n := 1) (W := []) (D := []) z_Kk359 z_Kd359 rfl z_kn z_Kt359 rfl rfl rfl rfl
/-- C.odds(IIII)I -/
def z_Ke360 : z_as_ := ((125, 0, [(0, .inr (.inr (false, [13]))), (1, .inl (0, 0, 0, (-2147483648), 2147483647)), (2, .inl (2, 0, 0, (-2147483648), 2147483647)), (3, .inl (0, 0, 0, (-2147483648), 2147483647)), (4, .inl (0, 0, 0, (-2147483648), 2147483647))], [], 0, 0), [], (z_hcs z_H0c [(13, (0, (true, true), none, [.inr (.inr (false, [14])), .inr (.inr (false, [16])), .inr (.inr (false, [18])), .inr (.inr (false, [28])), .inr (.inr (false, [34])), .inr (.inr (false, [53])), .inr (.inr (false, [53, 57])), .inr (.inr (false, [61])), .inr (.inr (false, [79])), .inl (0, 0, 0, 0, 7), .inr (.inr (false, [80])), .inr (.inr (false, [81])), .inr (.inr (false, [83])), .inr (.inr (false, [84])), .inr (.inr (false, [85])), .inr (.inr (false, [87])), .inr (.inr (false, [89])), .inl (0, 0, 0, (-2147483648), 2147483647)])), (53, (6, (true, true), none, [.inr (.inr (false, [54])), .inr (.inr (false, [55])), .inr (.inr (false, [56])), .inl (1, 0, 0, 0, 10), .inl (0, 0, 0, (-2147483648), 2147483647)]))]), 3, [(1, 2, 0)], 900000)
def z_Kx360 : List z_Xe := [(some (.inl (0, 0, 0, (-1), (-1))), [], 0)]
def z_Kk360 : z_Kc := (125, 2, z_Ke360, [(1, (1, 53, 3)), (2, (0, 0, 2))], z_Kx360, none)
def z_Kd360 : List z_ce := [(2, z_Ke360, [(1, (1, 53, 3)), (2, (0, 0, 2))], [(0, 1, 0)])]
theorem z_Kt360 : (z_Kd360.all fun C => z_cok3 (z_G []) [] [] z_Tg0 12 3 ([]) (z_QX (z_lbk z_Kk360.2.2.1 z_Kk360.2.2.2.1) 3 900000 [] z_Kk360.2.2.2.2.1) (z_atl []) [] z_Kd360 30000 C) = true := by decide +kernel
theorem z_Kn360 {xs : List Int32} : z_cn (z_G xs) 12 z_J z_Kk360 := z_mkN (n := 3) (W := []) (D := []) z_Kk360 z_Kd360 rfl z_kn z_Kt360 rfl rfl rfl rfl
/-- C.odds(IIII)I -/
def z_Ke361 : z_as_ := ((125, 0, [(0, .inr (.inr (false, [13]))), (1, .inl (0, 0, 0, (-2147483648), 2147483647)), (2, .inl (2, 0, 0, (-2147483648), 2147483647)), (3, .inl (0, 0, 0, (-2147483648), 2147483647)), (4, .inl (0, 0, 0, (-2147483648), 2147483647))], [], 0, 0), [], (z_hcs z_H0c [(13, (0, (true, true), none, [.inr (.inr (false, [14])), .inr (.inr (false, [16])), .inr (.inr (false, [18])), .inr (.inr (false, [28])), .inr (.inr (false, [34])), .inr (.inr (false, [57])), .inr (.inr (false, [53, 57])), .inr (.inr (false, [61])), .inr (.inr (false, [79])), .inl (0, 0, 0, 0, 7), .inr (.inr (false, [80])), .inr (.inr (false, [81])), .inr (.inr (false, [83])), .inr (.inr (false, [84])), .inr (.inr (false, [85])), .inr (.inr (false, [87])), .inr (.inr (false, [89])), .inl (0, 0, 0, (-2147483648), 2147483647)])), (57, (6, (true, true), none, [.inr (.inr (false, [58])), .inr (.inr (false, [59])), .inr (.inr (false, [60])), .inl (1, 0, 0, 0, 10), .inl (0, 0, 0, (-2147483648), 2147483647)]))]), 3, [(1, 2, 0)], 900000)
def z_Kx361 : List z_Xe := [(some (.inl (0, 0, 0, (-1), (-1))), [], 0)]
def z_Kk361 : z_Kc := (125, 2, z_Ke361, [(1, (1, 57, 3)), (2, (0, 0, 2))], z_Kx361, none)
def z_Kd361 : List z_ce := [(2, z_Ke361, [(1, (1, 57, 3)), (2, (0, 0, 2))], [(0, 1, 0)])]
theorem z_Kt361 : (z_Kd361.all fun C => z_cok3 (z_G []) [] [] z_Tg0 12 3 ([]) (z_QX (z_lbk z_Kk361.2.2.1 z_Kk361.2.2.2.1) 3 900000 [] z_Kk361.2.2.2.2.1) (z_atl []) [] z_Kd361 30000 C) = true := by decide +kernel
theorem z_Kn361 {xs : List Int32} : z_cn (z_G xs) 12 z_J z_Kk361 := z_mkN (n := 3) (W := []) (D := []) z_Kk361 z_Kd361 rfl z_kn z_Kt361 rfl rfl rfl rfl
/-- C.odds(IIII)I -/
def z_Ke362 : z_as_ := ((125, 0, [(0, .inr (.inr (false, [13]))), (1, .inl (1, 0, 0, 0, 9)), (2, .inl (3, 0, 0, 0, 9)), (3, .inl (5, 0, 0, 0, 23)), (4, .inl (6, 0, 0, 0, 23))], [], 0, 0), [], (z_hcs z_H0c [(13, (0, (true, true), none, [.inr (.inr (false, [14])), .inr (.inr (false, [16])), .inr (.inr (false, [18])), .inr (.inr (false, [28])), .inr (.inr (false, [34])), .inr (.inr (false, [53])), .inr (.inr (false, [53, 57])), .inr (.inr (false, [61])), .inr (.inr (false, [79])), .inl (0, 0, 0, 0, 7), .inr (.inr (false, [80])), .inr (.inr (false, [81])), .inr (.inr (false, [83])), .inr (.inr (false, [84])), .inr (.inr (false, [85])), .inr (.inr (false, [87])), .inr (.inr (false, [89])), .inl (0, 0, 0, (-2147483648), 2147483647)])), (18, (3, (true, true), none, [.inr (.inr (false, [19])), .inr (.inr (false, [20])), .inr (.inr (false, [21])), .inr (.inr (false, [22])), .inr (.inr (false, [23])), .inl (2, 0, 0, 0, 10), .inl (7, 0, 0, 1, 24), .inl (0, 0, 0, 0, 10), .inl (0, 0, 0, 0, 24), .inl (0, 0, 0, (-1), 23), .inr (.inr (false, [24])), .inr (.inr (false, [25])), .inr (.inr (false, [26]))])), (53, (6, (true, true), none, [.inr (.inr (false, [54])), .inr (.inr (false, [55])), .inr (.inr (false, [56])), .inl (4, 0, 0, 0, 10), .inl (0, 0, 0, (-2147483648), 2147483647)]))]), 8, [(1, 2, 1), (3, 4, 1), (5, 6, 0), (6, 7, 1), (5, 7, 1)], 900000)
def z_Kx362 : List z_Xe := [(some (.inl (0, 0, 0, 0, 0)), [(16, .inr [(1, .inl (0, 0, 0, 0, 4))]), (17, .inl (z_hg 17)), (25, .inr [(0, .inl (0, 0, 0, 1, 998)), (1, .inl (0, 0, 0, (-1), 60)), (2, .inl (0, 0, 0, (-60), 60)), (3, .inl (0, 0, 0, (-2147483648), 2147483647)), (4, .inl (0, 0, 0, (-2147483648), 2147483647)), (5, .inl (0, 0, 0, (-2147483648), 2147483647)), (6, .inl (0, 0, 0, (-2147483648), 2147483647)), (7, .inl (0, 0, 0, (-2147483648), 2147483647))]), (27, .inl (z_hg 27))], 0)]
def z_Kk362 : z_Kc := (125, 9, z_Ke362, [(1, (0, 0, 1)), (2, (1, 18, 5)), (3, (0, 0, 2)), (4, (1, 53, 3)), (5, (0, 0, 3)), (6, (0, 0, 4)), (7, (1, 18, 6))], z_Kx362, none)
def z_Kp362_0 : z_ce := (9, z_Ke362, [(1, (0, 0, 1)), (2, (1, 18, 5)), (3, (0, 0, 2)), (4, (1, 53, 3)), (5, (0, 0, 3)), (6, (0, 0, 4)), (7, (1, 18, 6))], [(0, 2, 0), (0, 0, 0), (0, 0, 0)])
def z_Kp362_1 : z_ce := (9, ((125, 53, [(0, .inr (.inr (false, [13]))), (1, .inl (1, 0, 0, 0, 9)), (2, .inl (3, 0, 0, 0, 9)), (3, .inl (5, 0, 0, 0, 23)), (4, .inl (6, 0, 0, 0, 23)), (5, .inl (0, 0, 0, (-1), 20)), (6, .inl (0, 0, 0, (-2147483648), 2147483647)), (7, .inl (8, 0, 0, (-20), 22))], [], 0, 0), [], (z_hcs z_H0c [(13, (0, (true, true), none, [.inr (.inr (false, [14])), .inr (.inr (false, [16])), .inr (.inr (false, [18])), .inr (.inr (false, [28])), .inr (.inr (false, [34])), .inr (.inr (false, [53])), .inr (.inr (false, [53, 57])), .inr (.inr (false, [61])), .inr (.inr (false, [79])), .inl (0, 0, 0, 0, 7), .inr (.inr (false, [80])), .inr (.inr (false, [81])), .inr (.inr (false, [83])), .inr (.inr (false, [84])), .inr (.inr (false, [85])), .inr (.inr (false, [87])), .inr (.inr (false, [89])), .inl (0, 0, 0, (-2147483648), 2147483647)])), (18, (3, (true, true), none, [.inr (.inr (false, [19])), .inr (.inr (false, [20])), .inr (.inr (false, [21])), .inr (.inr (false, [22])), .inr (.inr (false, [23])), .inl (2, 0, 0, 1, 10), .inl (7, 0, 0, 1, 24), .inl (0, 0, 0, 0, 10), .inl (0, 0, 0, 0, 24), .inl (0, 0, 0, (-1), 23), .inr (.inr (false, [24])), .inr (.inr (false, [25])), .inr (.inr (false, [26]))])), (53, (6, (true, true), none, [.inr (.inr (false, [54])), .inr (.inr (false, [55])), .inr (.inr (false, [56])), .inl (4, 0, 0, 1, 10), .inl (0, 0, 0, (-2147483648), 2147483647)]))]), 9, [(1, 2, 1), (3, 4, 1), (5, 6, 0), (6, 7, 1), (5, 7, 1)], 900000), [(8, (0, 0, 7))], [(0, 1, 0), (1, 8, 22), (0, 1, 0)])
def z_Kd362 : List z_ce := [z_Kp362_0, z_Kp362_1]
theorem z_Ku362_0 : z_cok3 (z_G []) [(16, some [1]), (17, none), (25, some [0, 1, 2, 3, 4, 5, 6, 7]), (27, none)] [(16, some [1]), (17, none), (25, some [0, 1, 2, 3, 4, 5, 6, 7]), (27, none)] z_Tg0 12 8 ([z_Kk6, z_Kk26]) (z_QX (z_lbk z_Kk362.2.2.1 z_Kk362.2.2.2.1) 8 900000 [(16, some [1]), (17, none), (25, some [0, 1, 2, 3, 4, 5, 6, 7]), (27, none)] z_Kk362.2.2.2.2.1) (z_atl [(125, 53)]) [] z_Kd362 30000 z_Kp362_0 = true := by decide +kernel
theorem z_Ku362_1 : z_cok3 (z_G []) [(16, some [1]), (17, none), (25, some [0, 1, 2, 3, 4, 5, 6, 7]), (27, none)] [(16, some [1]), (17, none), (25, some [0, 1, 2, 3, 4, 5, 6, 7]), (27, none)] z_Tg0 12 8 ([z_Kk6, z_Kk26]) (z_QX (z_lbk z_Kk362.2.2.1 z_Kk362.2.2.2.1) 8 900000 [(16, some [1]), (17, none), (25, some [0, 1, 2, 3, 4, 5, 6, 7]), (27, none)] z_Kk362.2.2.2.2.1) (z_atl [(125, 53)]) [] z_Kd362 30000 z_Kp362_1 = true := by decide +kernel
theorem z_Kt362 : (z_Kd362.all fun C => z_cok3 (z_G []) [(16, some [1]), (17, none), (25, some [0, 1, 2, 3, 4, 5, 6, 7]), (27, none)] [(16, some [1]), (17, none), (25, some [0, 1, 2, 3, 4, 5, 6, 7]), (27, none)] z_Tg0 12 8 ([z_Kk6, z_Kk26]) (z_QX (z_lbk z_Kk362.2.2.1 z_Kk362.2.2.2.1) 8 900000 [(16, some [1]), (17, none), (25, some [0, 1, 2, 3, 4, 5, 6, 7]), (27, none)] z_Kk362.2.2.2.2.1) (z_atl [(125, 53)]) [] z_Kd362 30000 C) = true := z_acn z_Ku362_0 (z_acn z_Ku362_1 (rfl))
theorem z_Kn362 {xs : List Int32} : z_cn (z_G xs) 12 z_J z_Kk362 := z_mkN (n := 8) (W := [(16, some [1]), (17, none), (25, some [0, 1, 2, 3, 4, 5, 6, 7]), (27, none)]) (D := [(16, some [1]), (17, none), (25, some [0, 1, 2, 3, 4, 5, 6, 7]), (27, none)]) z_Kk362 z_Kd362 rfl (z_kc z_Kn6 (z_kc z_Kn26 z_kn)) z_Kt362 rfl rfl rfl rfl
end ZCN83
