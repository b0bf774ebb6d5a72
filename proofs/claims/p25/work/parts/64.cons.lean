section ZCN64
/-- C.Signs.number(III)I -/
def z_Ke36 : z_as_ := ((22, 0, [(0, .inr (.inr (false, [14]))), (1, .inl (0, 0, 0, 2, 2)), (2, .inl (0, 0, 0, 0, 0)), (3, .inl (0, 0, 0, 60, 60))], [], 0, 0), [], z_H0c, 1, [], 900000)
def z_Kx36 : List z_Xe := [(some (.inl (0, 0, 0, (-1), 60)), [(14, .inr [(2, .inl (0, 0, 0, 0, 2147483647))])], 0)]
def z_Kk36 : z_Kc := (22, 2, z_Ke36, [], z_Kx36, none)
def z_Kd36 : List z_ce := [(2, z_Ke36, [], [(0, 1, 0)])]
theorem z_Kt36 : (z_Kd36.all fun C => z_cok3 (z_G []) [(14, some [2])] [(14, some [2])] z_Tg0 12 1 ([]) (z_QX (z_lbk z_Kk36.2.2.1 z_Kk36.2.2.2.1) 1 900000 [(14, some [2])] z_Kk36.2.2.2.2.1) (z_atl []) [] z_Kd36 30000 C) = true := by decide +kernel
theorem z_Kn36 {xs : List Int32} : z_cn (z_G xs) 12 z_J z_Kk36 := z_mkN (n := 1) (W := [(14, some [2])]) (D := [(14, some [2])]) z_Kk36 z_Kd36 rfl z_kn z_Kt36 rfl rfl rfl rfl
/-- C.Signs.number(III)I -/
def z_Ke37 : z_as_ := ((22, 0, [(0, .inr (.inr (false, [14]))), (1, .inl (0, 0, 0, 2, 2)), (2, .inl (0, 0, 0, 1, 1)), (3, .inl (0, 0, 0, 60, 60))], [], 0, 0), [], z_H0c, 1, [], 900000)
def z_Kx37 : List z_Xe := [(some (.inl (0, 0, 0, (-1), 60)), [(14, .inr [(2, .inl (0, 0, 0, 0, 2147483647))])], 0)]
def z_Kk37 : z_Kc := (22, 2, z_Ke37, [], z_Kx37, none)
def z_Kd37 : List z_ce := [(2, z_Ke37, [], [(0, 1, 0)])]
theorem z_Kt37 : (z_Kd37.all fun C => z_cok3 (z_G []) [(14, some [2])] [(14, some [2])] z_Tg0 12 1 ([]) (z_QX (z_lbk z_Kk37.2.2.1 z_Kk37.2.2.2.1) 1 900000 [(14, some [2])] z_Kk37.2.2.2.2.1) (z_atl []) [] z_Kd37 30000 C) = true := by decide +kernel
theorem z_Kn37 {xs : List Int32} : z_cn (z_G xs) 12 z_J z_Kk37 := z_mkN (n := 1) (W := [(14, some [2])]) (D := [(14, some [2])]) z_Kk37 z_Kd37 rfl z_kn z_Kt37 rfl rfl rfl rfl
/-- C.Signs.number(III)I -/
def z_Ke38 : z_as_ := ((22, 0, [(0, .inr (.inr (false, [14]))), (1, .inl (0, 0, 0, 2, 2)), (2, .inl (0, 0, 0, 1, 1)), (3, .inl (0, 0, 0, 99, 99))], [], 0, 0), [], z_H0c, 1, [], 900000)
def z_Kx38 : List z_Xe := [(some (.inl (0, 0, 0, (-1), 99)), [(14, .inr [(2, .inl (0, 0, 0, 0, 2147483647))])], 0)]
def z_Kk38 : z_Kc := (22, 2, z_Ke38, [], z_Kx38, none)
def z_Kd38 : List z_ce := [(2, z_Ke38, [], [(0, 1, 0)])]
theorem z_Kt38 : (z_Kd38.all fun C => z_cok3 (z_G []) [(14, some [2])] [(14, some [2])] z_Tg0 12 1 ([]) (z_QX (z_lbk z_Kk38.2.2.1 z_Kk38.2.2.2.1) 1 900000 [(14, some [2])] z_Kk38.2.2.2.2.1) (z_atl []) [] z_Kd38 30000 C) = true := by decide +kernel
theorem z_Kn38 {xs : List Int32} : z_cn (z_G xs) 12 z_J z_Kk38 := z_mkN (n := 1) (W := [(14, some [2])]) (D := [(14, some [2])]) z_Kk38 z_Kd38 rfl z_kn z_Kt38 rfl rfl rfl rfl
/-- C.Signs.number(III)I -/
def z_Ke39 : z_as_ := ((22, 0, [(0, .inr (.inr (false, [14]))), (1, .inl (0, 0, 0, 3, 3)), (2, .inl (0, 0, 0, 0, 0)), (3, .inl (0, 0, 0, 999, 999))], [], 0, 0), [], z_H0c, 1, [], 900000)
def z_Kx39 : List z_Xe := [(some (.inl (0, 0, 0, (-1), 999)), [(14, .inr [(2, .inl (0, 0, 0, 0, 2147483647))])], 0)]
def z_Kk39 : z_Kc := (22, 2, z_Ke39, [], z_Kx39, none)
def z_Kd39 : List z_ce := [(2, z_Ke39, [], [(0, 1, 0)])]
theorem z_Kt39 : (z_Kd39.all fun C => z_cok3 (z_G []) [(14, some [2])] [(14, some [2])] z_Tg0 12 1 ([]) (z_QX (z_lbk z_Kk39.2.2.1 z_Kk39.2.2.2.1) 1 900000 [(14, some [2])] z_Kk39.2.2.2.2.1) (z_atl []) [] z_Kd39 30000 C) = true := by decide +kernel
theorem z_Kn39 {xs : List Int32} : z_cn (z_G xs) 12 z_J z_Kk39 := z_mkN (n := 1) (W := [(14, some [2])]) (D := [(14, some [2])]) z_Kk39 z_Kd39 rfl z_kn z_Kt39 rfl rfl rfl rfl
/-- C.Barn.readSort(LChaffInTheWind.Signs;I)Z -/
def z_Ke40 : z_as_ := ((24, 0, [(0, .inr (.inr (false, [18]))), (1, .inr (.inr (false, [14]))), (2, .inl (0, 0, 0, 0, 9))], [], 0, 0), [], z_H0c, 1, [], 900000)
def z_Kx40 : List z_Xe := [(some (.inl (0, 0, 0, 0, 1)), [(14, .inr [(2, .inl (0, 0, 0, 0, 2147483647))]), (18, .inr [(7, .inl (0, 0, 0, 0, 10))]), (19, .inl (z_hg 19)), (20, .inl (z_hg 20)), (21, .inl (z_hg 21)), (22, .inl (z_hg 22)), (23, .inl (z_hg 23))], 0)]
def z_Kk40 : z_Kc := (24, 7, z_Ke40, [], z_Kx40, none)
def z_Kd40 : List z_ce := [(7, z_Ke40, [], [(0, 1, 0)])]
theorem z_Kt40 : (z_Kd40.all fun C => z_cok3 (z_G []) [(14, some [2]), (18, some [7]), (19, none), (20, none), (21, none), (22, none), (23, none)] [(14, some [2]), (18, some [7]), (19, none), (20, none), (21, none), (22, none), (23, none)] z_Tg0 12 1 ([z_Kk35, z_Kk36, z_Kk37, z_Kk38, z_Kk39]) (z_QX (z_lbk z_Kk40.2.2.1 z_Kk40.2.2.2.1) 1 900000 [(14, some [2]), (18, some [7]), (19, none), (20, none), (21, none), (22, none), (23, none)] z_Kk40.2.2.2.2.1) (z_atl []) [] z_Kd40 30000 C) = true := by decide +kernel
theorem z_Kn40 {xs : List Int32} : z_cn (z_G xs) 12 z_J z_Kk40 := z_mkN (n := 1) (W := [(14, some [2]), (18, some [7]), (19, none), (20, none), (21, none), (22, none), (23, none)]) (D := [(14, some [2]), (18, some [7]), (19, none), (20, none), (21, none), (22, none), (23, none)]) z_Kk40 z_Kd40 rfl (z_kc z_Kn35 (z_kc z_Kn36 (z_kc z_Kn37 (z_kc z_Kn38 (z_kc z_Kn39 z_kn))))) z_Kt40 rfl rfl rfl rfl
/-- C.Barn.readLine(LChaffInTheWind.Signs;)Z -/
def z_Ke41 : z_as_ := ((18, 0, [(0, .inr (.inr (false, [18]))), (1, .inr (.inr (false, [14])))], [], 0, 0), [], z_H0c, 1, [], 900000)
def z_Kx41 : List z_Xe := [(some (.inl (0, 0, 0, 0, 1)), [(14, .inr [(2, .inl (0, 0, 0, 0, 2147483647))]), (18, .inr [(7, .inl (0, 0, 0, 0, 10)), (8, .inl (0, 0, 0, 0, 24)), (9, .inl (0, 0, 0, (-1), 23))]), (19, .inl (z_hg 19)), (20, .inl (z_hg 20)), (21, .inl (z_hg 21)), (22, .inl (z_hg 22)), (23, .inl (z_hg 23))], 0)]
def z_Kk41 : z_Kc := (18, 9, z_Ke41, [], z_Kx41, none)
def z_Kd41 : List z_ce := [(9, z_Ke41, [], [(0, 1, 0)])]
theorem z_Kt41 : (z_Kd41.all fun C => z_cok3 (z_G []) [(14, some [2]), (18, some [7, 8, 9]), (19, none), (20, none), (21, none), (22, none), (23, none)] [(14, some [2]), (18, some [7, 8, 9]), (19, none), (20, none), (21, none), (22, none), (23, none)] z_Tg0 12 1 ([z_Kk34, z_Kk40]) (z_QX (z_lbk z_Kk41.2.2.1 z_Kk41.2.2.2.1) 1 900000 [(14, some [2]), (18, some [7, 8, 9]), (19, none), (20, none), (21, none), (22, none), (23, none)] z_Kk41.2.2.2.2.1) (z_atl []) [] z_Kd41 30000 C) = true := by decide +kernel
theorem z_Kn41 {xs : List Int32} : z_cn (z_G xs) 12 z_J z_Kk41 := z_mkN (n := 1) (W := [(14, some [2]), (18, some [7, 8, 9]), (19, none), (20, none), (21, none), (22, none), (23, none)]) (D := [(14, some [2]), (18, some [7, 8, 9]), (19, none), (20, none), (21, none), (22, none), (23, none)]) z_Kk41 z_Kd41 rfl (z_kc z_Kn34 (z_kc z_Kn40 z_kn)) z_Kt41 rfl rfl rfl rfl
/-- C.Barn.read(LChaffInTheWind.Signs;)I -/
def z_Ke42 : z_as_ := ((16, 0, [(0, .inr (.inr (false, [18]))), (1, .inr (.inr (false, [14])))], [], 0, 0), [], z_H0c, 1, [], 900000)
def z_Kx42 : List z_Xe := [(some (.inl (0, 0, 0, (-1), 76)), [(14, .inr [(2, .inl (0, 0, 0, 0, 2147483647))]), (18, .inr [(7, .inl (0, 0, 0, 0, 10)), (8, .inl (0, 0, 0, 0, 24)), (9, .inl (0, 0, 0, (-1), 23))]), (19, .inl (z_hg 19)), (20, .inl (z_hg 20)), (21, .inl (z_hg 21)), (22, .inl (z_hg 22)), (23, .inl (z_hg 23))], 0)]
def z_Kk42 : z_Kc := (16, 11, z_Ke42, [], z_Kx42, none)
def z_Kd42 : List z_ce := [(11, z_Ke42, [], [(0, 2, 0), (0, 0, 0), (0, 0, 0)]),
  (11, ((16, 34, [(0, .inr (.inr (false, [18]))), (1, .inr (.inr (false, [14]))), (2, .inl (1, 0, 0, 1, 79))], [], 0, 0), [], (z_hcs z_H0c [(14, (1, (true, true), none, [.inr (.inr (false, [15])), .inl (0, 0, 0, 0, 80), .inl (0, 0, 0, 0, 76), .inl (0, 0, 0, 1, 76), .inl (0, 0, 0, 0, 1)]))]), 2, [], 900000), [(1, (0, 0, 2))], [(0, 1, 0), (1, 1, 79), (0, 1, 0)])]
theorem z_Kt42 : (z_Kd42.all fun C => z_cok3 (z_G []) [(14, some [2]), (18, some [7, 8, 9]), (19, none), (20, none), (21, none), (22, none), (23, none)] [(14, some [2]), (18, some [7, 8, 9]), (19, none), (20, none), (21, none), (22, none), (23, none)] z_Tg0 12 1 ([z_Kk41]) (z_QX (z_lbk z_Kk42.2.2.1 z_Kk42.2.2.2.1) 1 900000 [(14, some [2]), (18, some [7, 8, 9]), (19, none), (20, none), (21, none), (22, none), (23, none)] z_Kk42.2.2.2.2.1) (z_atl [(16, 34)]) [] z_Kd42 30000 C) = true := by decide +kernel
theorem z_Kn42 {xs : List Int32} : z_cn (z_G xs) 12 z_J z_Kk42 := z_mkN (n := 1) (W := [(14, some [2]), (18, some [7, 8, 9]), (19, none), (20, none), (21, none), (22, none), (23, none)]) (D := [(14, some [2]), (18, some [7, 8, 9]), (19, none), (20, none), (21, none), (22, none), (23, none)]) z_Kk42 z_Kd42 rfl (z_kc z_Kn41 z_kn) z_Kt42 rfl rfl rfl rfl
/-- C.barn()I -/
def z_Ke43 : z_as_ := ((13, 0, [(0, .inr (.inr (false, [13])))], [], 0, 0), [], z_H0c, 1, [], 900000)
def z_Kx43 : List z_Xe := [(some (.inl (0, 0, 0, (-2147483648), 76)), [(14, .inr [(1, .inl (0, 0, 0, 0, 0)), (2, .inl (0, 0, 0, 0, 2147483647)), (3, .inl (0, 0, 0, 0, 76)), (4, .inl (0, 0, 0, 0, 1))]), (18, .inr [(5, .inl (0, 0, 0, 0, 10)), (6, .inl (0, 0, 0, 1, 24)), (7, .inl (0, 0, 0, 0, 10)), (8, .inl (0, 0, 0, 0, 24)), (9, .inl (0, 0, 0, (-1), 23))]), (19, .inl (z_hg 19)), (20, .inl (z_hg 20)), (21, .inl (z_hg 21)), (22, .inl (z_hg 22)), (23, .inl (z_hg 23)), (24, .inl (z_hg 24)), (27, .inl (z_hg 27)), (30, .inl (z_hg 30)), (32, .inl (z_hg 32))], 0)]
def z_Kk43 : z_Kc := (13, 13, z_Ke43, [], z_Kx43, none)
def z_Kd43 : List z_ce := [(13, z_Ke43, [], [(0, 2, 0), (0, 0, 0), (0, 0, 0)]),
  (13, ((13, 86, [(0, .inr (.inr (false, [13]))), (1, .inl (0, 0, 0, 0, 76)), (2, .inl (0, 0, 0, 1, 1)), (3, .inl (1, 0, 0, 0, 10))], [], 0, 0), [], (z_hcs z_H0c [(14, (1, (true, true), none, [.inr (.inr (false, [15])), .inl (0, 0, 0, 0, 0), .inl (0, 0, 0, 0, 2147483647), .inl (0, 0, 0, 0, 76), .inl (0, 0, 0, 0, 0)]))]), 2, [], 900000), [(1, (0, 0, 3))], [(0, 1, 0), (1, 1, 10), (0, 1, 0)])]
theorem z_Kt43 : (z_Kd43.all fun C => z_cok3 (z_G []) [(14, some [1, 2, 3, 4]), (18, some [5, 6, 7, 8, 9]), (19, none), (20, none), (21, none), (22, none), (23, none), (24, none), (27, none), (30, none), (32, none)] [(14, some [1, 2, 3, 4]), (18, some [5, 6, 7, 8, 9]), (19, none), (20, none), (21, none), (22, none), (23, none), (24, none), (27, none), (30, none), (32, none)] z_Tg0 12 1 ([z_Kk31, z_Kk33, z_Kk42]) (z_QX (z_lbk z_Kk43.2.2.1 z_Kk43.2.2.2.1) 1 900000 [(14, some [1, 2, 3, 4]), (18, some [5, 6, 7, 8, 9]), (19, none), (20, none), (21, none), (22, none), (23, none), (24, none), (27, none), (30, none), (32, none)] z_Kk43.2.2.2.2.1) (z_atl [(13, 86)]) [] z_Kd43 30000 C) = true := by decide +kernel
theorem z_Kn43 {xs : List Int32} : z_cn (z_G xs) 12 z_J z_Kk43 := z_mkN (n := 1) (W := [(14, some [1, 2, 3, 4]), (18, some [5, 6, 7, 8, 9]), (19, none), (20, none), (21, none), (22, none), (23, none), (24, none), (27, none), (30, none), (32, none)]) (D := [(14, some [1, 2, 3, 4]), (18, some [5, 6, 7, 8, 9]), (19, none), (20, none), (21, none), (22, none), (23, none), (24, none), (27, none), (30, none), (32, none)]) z_Kk43 z_Kd43 rfl (z_kc z_Kn31 (z_kc z_Kn33 (z_kc z_Kn42 z_kn))) z_Kt43 rfl rfl rfl rfl
/-- java/util/Arrays.fill([II)V -/
def z_Ke44 : z_as_ := ((40, 0, [(0, .inr (.inr (false, [78]))), (1, .inl (0, 0, 0, 0, 0))], [], 0, 0), [], z_H0c, 1, [], 900000)
def z_Kx44 : List z_Xe := [(none, [(78, .inl (z_hg 78))], 0)]
def z_Kk44 : z_Kc := (40, 1, z_Ke44, [], z_Kx44, none)
def z_Kd44 : List z_ce := [(1, z_Ke44, [], [(0, 2, 0), (0, 0, 0), (0, 0, 0)]),
  (1, ((40, 5, [(0, .inr (.inr (false, [78]))), (1, .inl (0, 0, 0, 0, 0)), (2, .inl (1, 0, 0, 0, 8)), (3, .inl (0, 0, 0, 8, 8))], [], 0, 0), [], z_H0c, 2, [], 900000), [(1, (0, 0, 2))], [(0, 1, 0), (1, 1, 8), (0, 1, 0)])]
theorem z_Kt44 : (z_Kd44.all fun C => z_cok3 (z_G []) [(78, none)] [(78, none)] z_Tg0 12 1 ([]) (z_QX (z_lbk z_Kk44.2.2.1 z_Kk44.2.2.2.1) 1 900000 [(78, none)] z_Kk44.2.2.2.2.1) (z_atl [(40, 5)]) [] z_Kd44 30000 C) = true := by decide +kernel
theorem z_Kn44 {xs : List Int32} : z_cn (z_G xs) 12 z_J z_Kk44 := z_mkN (n := 1) (W := [(78, none)]) (D := [(78, none)]) z_Kk44 z_Kd44 rfl z_kn z_Kt44 rfl rfl rfl rfl
/-- C.Market.weigh(LChaffInTheWind.Barn;[I)V -/
def z_Ke45 : z_as_ := ((132, 0, [(0, .inr (.inr (false, [61]))), (1, .inr (.inr (false, [18]))), (2, .inr (.inr (false, [30])))], [], 0, 0), [], z_H0c, 1, [], 900000)
def z_Kx45 : List z_Xe := [(none, [(78, .inl (z_hg 78))], 0)]
def z_Kk45 : z_Kc := (132, 3, z_Ke45, [], z_Kx45, none)
def z_Kd45 : List z_ce := [(3, z_Ke45, [], [(0, 2, 0), (0, 0, 0), (0, 0, 0)]),
  (3, ((132, 10, [(0, .inr (.inr (false, [61]))), (1, .inr (.inr (false, [18]))), (2, .inr (.inr (false, [30]))), (3, .inl (1, 0, 0, 0, 10))], [], 0, 0), [], z_H0c, 2, [], 900000), [(1, (0, 0, 3))], [(0, 1, 0), (1, 1, 10), (0, 1, 0)])]
theorem z_Kt45 : (z_Kd45.all fun C => z_cok3 (z_G []) [(78, none)] [(78, none)] z_Tg0 12 1 ([z_Kk44]) (z_QX (z_lbk z_Kk45.2.2.1 z_Kk45.2.2.2.1) 1 900000 [(78, none)] z_Kk45.2.2.2.2.1) (z_atl [(132, 10)]) [] z_Kd45 30000 C) = true := by decide +kernel
theorem z_Kn45 {xs : List Int32} : z_cn (z_G xs) 12 z_J z_Kk45 := z_mkN (n := 1) (W := [(78, none)]) (D := [(78, none)]) z_Kk45 z_Kd45 rfl (z_kc z_Kn44 z_kn) z_Kt45 rfl rfl rfl rfl
/-- C.Market.worthOf(LChaffInTheWind.Barn;[I)I -/
def z_Ke46 : z_as_ := ((131, 0, [(0, .inr (.inr (false, [61]))), (1, .inr (.inr (false, [18]))), (2, .inr (.inr (false, [30])))], [], 0, 0), [], z_H0c, 1, [], 900000)
def z_Kx46 : List z_Xe := [(some (.inl (0, 0, 0, 0, 2147483647)), [(61, .inr [(3, .inl (0, 0, 0, (-1), 2))]), (65, .inl (z_hg 65)), (68, .inl (z_hg 68)), (71, .inl (z_hg 71)), (74, .inl (z_hg 74)), (77, .inl (z_hg 77)), (78, .inl (z_hg 78))], 0)]
def z_Kk46 : z_Kc := (131, 6, z_Ke46, [], z_Kx46, none)
def z_Kd46 : List z_ce := [(6, z_Ke46, [], [(0, 2, 0), (0, 0, 0), (0, 0, 0)]),
  (6, ((131, 16, [(0, .inr (.inr (false, [61]))), (1, .inr (.inr (false, [18]))), (2, .inr (.inr (false, [30]))), (3, .inl (0, 0, 0, 0, 99999)), (4, .inl (1, 0, 0, 0, 3))], [], 0, 0), [], z_H0c, 2, [], 900000), [(1, (0, 0, 4))], [(0, 1, 0), (1, 1, 3), (0, 1, 0)])]
theorem z_Kt46 : (z_Kd46.all fun C => z_cok3 (z_G []) [(61, some [3]), (65, none), (68, none), (71, none), (74, none), (77, none), (78, none)] [(61, some [3]), (65, none), (68, none), (71, none), (74, none), (77, none), (78, none)] z_Tg0 12 1 ([z_Kk1, z_Kk45]) (z_QX (z_lbk z_Kk46.2.2.1 z_Kk46.2.2.2.1) 1 900000 [(61, some [3]), (65, none), (68, none), (71, none), (74, none), (77, none), (78, none)] z_Kk46.2.2.2.2.1) (z_atl [(131, 16)]) [] z_Kd46 30000 C) = true := by decide +kernel
theorem z_Kn46 {xs : List Int32} : z_cn (z_G xs) 12 z_J z_Kk46 := z_mkN (n := 1) (W := [(61, some [3]), (65, none), (68, none), (71, none), (74, none), (77, none), (78, none)]) (D := [(61, some [3]), (65, none), (68, none), (71, none), (74, none), (77, none), (78, none)]) z_Kk46 z_Kd46 rfl (z_kc z_Kn1 (z_kc z_Kn45 z_kn)) z_Kt46 rfl rfl rfl rfl
/-- C.sumOf([I)I -/
def z_Ke47 : z_as_ := ((70, 0, [(0, .inr (.inr (false, [30])))], [], 0, 0), [], z_H0c, 1, [], 900000)
def z_Kx47 : List z_Xe := [(some (.inl (0, 0, 0, (-2147483648), 2147483647)), [], 0)]
def z_Kk47 : z_Kc := (70, 1, z_Ke47, [], z_Kx47, none)
def z_Kd47 : List z_ce := [(1, z_Ke47, [], [(0, 2, 0), (0, 0, 0), (0, 0, 0)]),
  (1, ((70, 10, [(0, .inr (.inr (false, [30]))), (1, .inl (0, 0, 0, (-2147483648), 2147483647)), (2, .inr (.inr (false, [30]))), (3, .inl (0, 0, 0, 10, 10)), (4, .inl (1, 0, 0, 0, 10))], [], 0, 0), [], z_H0c, 2, [], 900000), [(1, (0, 0, 4))], [(0, 1, 0), (1, 1, 10), (0, 1, 0)])]
theorem z_Kt47 : (z_Kd47.all fun C => z_cok3 (z_G []) [] [] z_Tg0 12 1 ([]) (z_QX (z_lbk z_Kk47.2.2.1 z_Kk47.2.2.2.1) 1 900000 [] z_Kk47.2.2.2.2.1) (z_atl [(70, 10)]) [] z_Kd47 30000 C) = true := by decide +kernel
theorem z_Kn47 {xs : List Int32} : z_cn (z_G xs) 12 z_J z_Kk47 := z_mkN (n := 1) (W := []) (D := []) z_Kk47 z_Kd47 rfl z_kn z_Kt47 rfl rfl rfl rfl
/-- C.worth(I)I -/
def z_Ke48 : z_as_ := ((130, 0, [(0, .inr (.inr (false, [13]))), (1, .inl (0, 0, 0, (-2147483648), 2147483647))], [], 0, 0), [], z_H0c, 1, [], 900000)
def z_Kx48 : List z_Xe := [(some (.inl (0, 0, 0, (-1), 2147483647)), [(16, .inr [(1, .inl (0, 0, 0, 0, 4))]), (17, .inl (z_hg 17)), (61, .inr [(3, .inl (0, 0, 0, (-1), 2))]), (65, .inl (z_hg 65)), (68, .inl (z_hg 68)), (71, .inl (z_hg 71)), (74, .inl (z_hg 74)), (77, .inl (z_hg 77)), (78, .inl (z_hg 78))], 0)]
def z_Kk48 : z_Kc := (130, 8, z_Ke48, [], z_Kx48, none)
def z_Kd48 : List z_ce := [(8, z_Ke48, [], [(0, 1, 0)])]
theorem z_Kt48 : (z_Kd48.all fun C => z_cok3 (z_G []) [(16, some [1]), (17, none), (61, some [3]), (65, none), (68, none), (71, none), (74, none), (77, none), (78, none)] [(16, some [1]), (17, none), (61, some [3]), (65, none), (68, none), (71, none), (74, none), (77, none), (78, none)] z_Tg0 12 1 ([z_Kk46, z_Kk47]) (z_QX (z_lbk z_Kk48.2.2.1 z_Kk48.2.2.2.1) 1 900000 [(16, some [1]), (17, none), (61, some [3]), (65, none), (68, none), (71, none), (74, none), (77, none), (78, none)] z_Kk48.2.2.2.2.1) (z_atl []) [] z_Kd48 30000 C) = true := by decide +kernel
theorem z_Kn48 {xs : List Int32} : z_cn (z_G xs) 12 z_J z_Kk48 := z_mkN (n := 1) (W := [(16, some [1]), (17, none), (61, some [3]), (65, none), (68, none), (71, none), (74, none), (77, none), (78, none)]) (D := [(16, some [1]), (17, none), (61, some [3]), (65, none), (68, none), (71, none), (74, none), (77, none), (78, none)]) z_Kk48 z_Kd48 rfl (z_kc z_Kn46 (z_kc z_Kn47 z_kn)) z_Kt48 rfl rfl rfl rfl
/-- C.Market.weigh(LChaffInTheWind.Barn;[I)V -/
def z_Ke49 : z_as_ := ((132, 0, [(0, .inr (.inr (false, [61]))), (1, .inr (.inr (false, [18]))), (2, .inr (.inr (false, [83])))], [], 0, 0), [], z_H0c, 1, [], 900000)
def z_Kx49 : List z_Xe := [(none, [(78, .inl (z_hg 78))], 0)]
def z_Kk49 : z_Kc := (132, 3, z_Ke49, [], z_Kx49, none)
def z_Kd49 : List z_ce := [(3, z_Ke49, [], [(0, 2, 0), (0, 0, 0), (0, 0, 0)]),
  (3, ((132, 10, [(0, .inr (.inr (false, [61]))), (1, .inr (.inr (false, [18]))), (2, .inr (.inr (false, [83]))), (3, .inl (1, 0, 0, 0, 10))], [], 0, 0), [], z_H0c, 2, [], 900000), [(1, (0, 0, 3))], [(0, 1, 0), (1, 1, 10), (0, 1, 0)])]
theorem z_Kt49 : (z_Kd49.all fun C => z_cok3 (z_G []) [(78, none)] [(78, none)] z_Tg0 12 1 ([z_Kk44]) (z_QX (z_lbk z_Kk49.2.2.1 z_Kk49.2.2.2.1) 1 900000 [(78, none)] z_Kk49.2.2.2.2.1) (z_atl [(132, 10)]) [] z_Kd49 30000 C) = true := by decide +kernel
theorem z_Kn49 {xs : List Int32} : z_cn (z_G xs) 12 z_J z_Kk49 := z_mkN (n := 1) (W := [(78, none)]) (D := [(78, none)]) z_Kk49 z_Kd49 rfl (z_kc z_Kn44 z_kn) z_Kt49 rfl rfl rfl rfl
/-- C.Market.worthOf(LChaffInTheWind.Barn;[I)I -/
def z_Ke50 : z_as_ := ((131, 0, [(0, .inr (.inr (false, [61]))), (1, .inr (.inr (false, [18]))), (2, .inr (.inr (false, [83])))], [], 0, 0), [], z_H0c, 1, [], 900000)
def z_Kx50 : List z_Xe := [(some (.inl (0, 0, 0, 0, 99999)), [(61, .inr [(3, .inl (0, 0, 0, (-1), 2))]), (65, .inl (z_hg 65)), (68, .inl (z_hg 68)), (71, .inl (z_hg 71)), (74, .inl (z_hg 74)), (77, .inl (z_hg 77)), (78, .inl (z_hg 78))], 0)]
def z_Kk50 : z_Kc := (131, 6, z_Ke50, [], z_Kx50, none)
def z_Kd50 : List z_ce := [(6, z_Ke50, [], [(0, 2, 0), (0, 0, 0), (0, 0, 0)]),
  (6, ((131, 16, [(0, .inr (.inr (false, [61]))), (1, .inr (.inr (false, [18]))), (2, .inr (.inr (false, [83]))), (3, .inl (0, 0, 0, 0, 99999)), (4, .inl (1, 0, 0, 0, 3))], [], 0, 0), [], z_H0c, 2, [], 900000), [(1, (0, 0, 4))], [(0, 1, 0), (1, 1, 3), (0, 1, 0)])]
theorem z_Kt50 : (z_Kd50.all fun C => z_cok3 (z_G []) [(61, some [3]), (65, none), (68, none), (71, none), (74, none), (77, none), (78, none)] [(61, some [3]), (65, none), (68, none), (71, none), (74, none), (77, none), (78, none)] z_Tg0 12 1 ([z_Kk1, z_Kk49]) (z_QX (z_lbk z_Kk50.2.2.1 z_Kk50.2.2.2.1) 1 900000 [(61, some [3]), (65, none), (68, none), (71, none), (74, none), (77, none), (78, none)] z_Kk50.2.2.2.2.1) (z_atl [(131, 16)]) [] z_Kd50 30000 C) = true := by decide +kernel
theorem z_Kn50 {xs : List Int32} : z_cn (z_G xs) 12 z_J z_Kk50 := z_mkN (n := 1) (W := [(61, some [3]), (65, none), (68, none), (71, none), (74, none), (77, none), (78, none)]) (D := [(61, some [3]), (65, none), (68, none), (71, none), (74, none), (77, none), (78, none)]) z_Kk50 z_Kd50 rfl (z_kc z_Kn1 (z_kc z_Kn49 z_kn)) z_Kt50 rfl rfl rfl rfl
end ZCN64
