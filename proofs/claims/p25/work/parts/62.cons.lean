section ZCN62
/-- C.Formula.operated(III)I -/
def z_Ke0 : z_as_ := ((105, 0, [(0, .inl (0, 0, 0, 2000, 2006)), (1, .inl (0, 0, 0, (-2147483648), 2147483647)), (2, .inl (0, 0, 0, (-2147483648), 2147483647))], [], 0, 0), [], z_H0c, 1, [], 900000)
def z_Kx0 : List z_Xe := [(some (.inl (0, 0, 0, (-2147483648), 2147483647)), [], 0)]
def z_Kk0 : z_Kc := (105, 1, z_Ke0, [], z_Kx0, none)
def z_Kd0 : List z_ce := [(1, z_Ke0, [], [(0, 1, 0)])]
theorem z_Kt0 : (z_Kd0.all fun C => z_cok3 (z_G []) [] [] z_Tg0 12 1 ([]) (z_QX (z_lbk z_Kk0.2.2.1 z_Kk0.2.2.2.1) 1 900000 [] z_Kk0.2.2.2.2.1) (z_atl []) [] z_Kd0 30000 C) = true := by decide +kernel
theorem z_Kn0 {xs : List Int32} : z_cn (z_G xs) 12 z_J z_Kk0 := z_mkN (n := 1) (W := []) (D := []) z_Kk0 z_Kd0 rfl z_kn z_Kt0 rfl rfl rfl rfl
/-- C.Formula.value([I)I -/
def z_Ke1 : z_as_ := ((104, 0, [(0, .inr (.inr (false, [63, 66, 69, 72, 75]))), (1, .inr (.inr (false, [78])))], [], 0, 0), [], z_H0c, 1, [], 900000)
def z_Kx1 : List z_Xe := [(some (.inl (0, 0, 0, (-2147483648), 2147483647)), [(65, .inl (z_hg 65)), (68, .inl (z_hg 68)), (71, .inl (z_hg 71)), (74, .inl (z_hg 74)), (77, .inl (z_hg 77))], 0)]
def z_Kk1 : z_Kc := (104, 3, z_Ke1, [], z_Kx1, none)
def z_Kd1 : List z_ce := [(3, z_Ke1, [], [(0, 2, 0), (0, 0, 0), (0, 0, 0)]),
  (3, ((104, 4, [(0, .inr (.inr (false, [63, 66, 69, 72, 75]))), (1, .inr (.inr (false, [78]))), (2, .inl (2, 0, 0, (-1), 39)), (3, .inl (1, 0, 0, 0, 40))], [], 0, 0), [], z_H0c, 3, [(2, 1, 1)], 900000), [(1, (0, 0, 3)), (2, (0, 0, 2))], [(0, 1, 0), (1, 1, 40), (0, 1, 0)])]
theorem z_Kt1 : (z_Kd1.all fun C => z_cok3 (z_G []) [(65, none), (68, none), (71, none), (74, none), (77, none)] [(65, none), (68, none), (71, none), (74, none), (77, none)] z_Tg0 12 1 ([z_Kk0]) (z_QX (z_lbk z_Kk1.2.2.1 z_Kk1.2.2.2.1) 1 900000 [(65, none), (68, none), (71, none), (74, none), (77, none)] z_Kk1.2.2.2.2.1) (z_atl [(104, 4)]) [] z_Kd1 30000 C) = true := by decide +kernel
theorem z_Kn1 {xs : List Int32} : z_cn (z_G xs) 12 z_J z_Kk1 := z_mkN (n := 1) (W := [(65, none), (68, none), (71, none), (74, none), (77, none)]) (D := [(65, none), (68, none), (71, none), (74, none), (77, none)]) z_Kk1 z_Kd1 rfl (z_kc z_Kn0 z_kn) z_Kt1 rfl rfl rfl rfl
/-- C.Market.flings(LChaffInTheWind.Barn;II)Z -/
def z_Ke2 : z_as_ := ((102, 0, [(0, .inr (.inr (false, [61]))), (1, .inr (.inr (false, [18]))), (2, .inl (0, 0, 0, 0, 9)), (3, .inl (0, 0, 0, 1, 9))], [], 0, 0), [], z_H0c, 1, [], 900000)
def z_Kx2 : List z_Xe := [(some (.inl (0, 0, 0, 0, 1)), [(65, .inl (z_hg 65)), (68, .inl (z_hg 68)), (71, .inl (z_hg 71)), (74, .inl (z_hg 74)), (77, .inl (z_hg 77)), (78, .inl (z_hg 78))], 0)]
def z_Kk2 : z_Kc := (102, 5, z_Ke2, [], z_Kx2, none)
def z_Kd2 : List z_ce := [(5, z_Ke2, [], [(0, 1, 0)])]
theorem z_Kt2 : (z_Kd2.all fun C => z_cok3 (z_G []) [(65, none), (68, none), (71, none), (74, none), (77, none), (78, none)] [(65, none), (68, none), (71, none), (74, none), (77, none), (78, none)] z_Tg0 12 1 ([z_Kk1]) (z_QX (z_lbk z_Kk2.2.2.1 z_Kk2.2.2.2.1) 1 900000 [(65, none), (68, none), (71, none), (74, none), (77, none), (78, none)] z_Kk2.2.2.2.2.1) (z_atl []) [] z_Kd2 30000 C) = true := by decide +kernel
theorem z_Kn2 {xs : List Int32} : z_cn (z_G xs) 12 z_J z_Kk2 := z_mkN (n := 1) (W := [(65, none), (68, none), (71, none), (74, none), (77, none), (78, none)]) (D := [(65, none), (68, none), (71, none), (74, none), (77, none), (78, none)]) z_Kk2 z_Kd2 rfl (z_kc z_Kn1 z_kn) z_Kt2 rfl rfl rfl rfl
/-- C.stroke(III)I -/
def z_Ke3 : z_as_ := ((101, 0, [(0, .inr (.inr (false, [13]))), (1, .inl (0, 0, 0, (-2147483648), 2147483647)), (2, .inl (0, 0, 0, (-2147483648), 2147483647)), (3, .inl (0, 0, 0, (-2147483648), 2147483647))], [], 0, 0), [], z_H0c, 1, [], 900000)
def z_Kx3 : List z_Xe := [(some (.inl (0, 0, 0, (-2147483648), 2147483647)), [(30, .inl (z_hg 30)), (65, .inl (z_hg 65)), (68, .inl (z_hg 68)), (71, .inl (z_hg 71)), (74, .inl (z_hg 74)), (77, .inl (z_hg 77)), (78, .inl (z_hg 78))], 0)]
def z_Kk3 : z_Kc := (101, 7, z_Ke3, [], z_Kx3, none)
def z_Kd3 : List z_ce := [(7, z_Ke3, [], [(0, 2, 0), (0, 0, 0), (0, 0, 0)]),
  (7, ((101, 27, [(0, .inr (.inr (false, [13]))), (1, .inl (0, 0, 0, 0, 5)), (2, .inl (0, 0, 0, 1, 9)), (3, .inl (0, 0, 0, 0, 5)), (4, .inl (0, 0, 0, (-2147483648), 2147483647)), (5, .inl (1, 0, 0, 0, 10))], [], 0, 0), [], z_H0c, 2, [], 900000), [(1, (0, 0, 5))], [(0, 1, 0), (1, 1, 10), (0, 1, 0)])]
theorem z_Kt3 : (z_Kd3.all fun C => z_cok3 (z_G []) [(30, none), (65, none), (68, none), (71, none), (74, none), (77, none), (78, none)] [(30, none), (65, none), (68, none), (71, none), (74, none), (77, none), (78, none)] z_Tg0 12 1 ([z_Kk2]) (z_QX (z_lbk z_Kk3.2.2.1 z_Kk3.2.2.2.1) 1 900000 [(30, none), (65, none), (68, none), (71, none), (74, none), (77, none), (78, none)] z_Kk3.2.2.2.2.1) (z_atl [(101, 27)]) [] z_Kd3 30000 C) = true := by decide +kernel
theorem z_Kn3 {xs : List Int32} : z_cn (z_G xs) 12 z_J z_Kk3 := z_mkN (n := 1) (W := [(30, none), (65, none), (68, none), (71, none), (74, none), (77, none), (78, none)]) (D := [(30, none), (65, none), (68, none), (71, none), (74, none), (77, none), (78, none)]) z_Kk3 z_Kd3 rfl (z_kc z_Kn2 z_kn) z_Kt3 rfl rfl rfl rfl
/-- C.Flight.fall(I)V -/
def z_Ke4 : z_as_ := ((76, 0, [(0, .inr (.inr (false, [25]))), (1, .inl (0, 0, 0, 1, 400))], [], 0, 0), [], z_H0c, 1, [], 900000)
def z_Kx4 : List z_Xe := [(none, [(25, .inr [(3, .inl (0, 0, 0, (-2147483648), 2147483647)), (4, .inl (0, 0, 0, (-2147483648), 2147483647)), (5, .inl (0, 0, 0, (-2147483648), 2147483647)), (6, .inl (0, 0, 0, (-2147483648), 2147483647)), (7, .inl (0, 0, 0, (-2147483648), 2147483647))])], 0)]
def z_Kk4 : z_Kc := (76, 3, z_Ke4, [], z_Kx4, none)
def z_Kd4 : List z_ce := [(3, z_Ke4, [], [(0, 2, 0), (0, 0, 0), (0, 0, 0)]),
  (3, ((76, 2, [(0, .inr (.inr (false, [25]))), (1, .inl (0, 0, 0, 1, 400)), (2, .inl (1, 0, 0, 0, 400))], [], 0, 0), [], z_H0c, 2, [], 900000), [(1, (0, 0, 2))], [(0, 1, 0), (1, 1, 400), (0, 1, 0)])]
theorem z_Kt4 : (z_Kd4.all fun C => z_cok3 (z_G []) [(25, some [3, 4, 5, 6, 7])] [(25, some [3, 4, 5, 6, 7])] z_Tg0 12 1 ([]) (z_QX (z_lbk z_Kk4.2.2.1 z_Kk4.2.2.2.1) 1 900000 [(25, some [3, 4, 5, 6, 7])] z_Kk4.2.2.2.2.1) (z_atl [(76, 2)]) [] z_Kd4 30000 C) = true := by decide +kernel
theorem z_Kn4 {xs : List Int32} : z_cn (z_G xs) 12 z_J z_Kk4 := z_mkN (n := 1) (W := [(25, some [3, 4, 5, 6, 7])]) (D := [(25, some [3, 4, 5, 6, 7])]) z_Kk4 z_Kd4 rfl z_kn z_Kt4 rfl rfl rfl rfl
/-- C.Barn.land(II)I -/
def z_Ke5 : z_as_ := ((73, 0, [(0, .inr (.inr (false, [18]))), (1, .inl (0, 0, 0, 0, 9)), (2, .inl (0, 0, 0, (-60), 60))], [], 0, 0), [], z_H0c, 1, [], 900000)
def z_Kx5 : List z_Xe := [(some (.inl (0, 0, 0, 0, 24)), [(25, .inr [(0, .inl (0, 0, 0, 1, 998)), (1, .inl (0, 0, 0, (-1), 60)), (2, .inl (0, 0, 0, (-60), 60)), (3, .inl (0, 0, 0, (-2147483648), 2147483647)), (4, .inl (0, 0, 0, (-2147483648), 2147483647)), (5, .inl (0, 0, 0, (-2147483648), 2147483647)), (6, .inl (0, 0, 0, (-2147483648), 2147483647)), (7, .inl (0, 0, 0, (-2147483648), 2147483647))])], 0)]
def z_Kk5 : z_Kc := (73, 5, z_Ke5, [], z_Kx5, none)
def z_Kd5 : List z_ce := [(5, z_Ke5, [], [(0, 1, 0)])]
theorem z_Kt5 : (z_Kd5.all fun C => z_cok3 (z_G []) [(25, some [0, 1, 2, 3, 4, 5, 6, 7])] [(25, some [0, 1, 2, 3, 4, 5, 6, 7])] z_Tg0 12 1 ([z_Kk4]) (z_QX (z_lbk z_Kk5.2.2.1 z_Kk5.2.2.2.1) 1 900000 [(25, some [0, 1, 2, 3, 4, 5, 6, 7])] z_Kk5.2.2.2.2.1) (z_atl []) [] z_Kd5 30000 C) = true := by decide +kernel
theorem z_Kn5 {xs : List Int32} : z_cn (z_G xs) 12 z_J z_Kk5 := z_mkN (n := 1) (W := [(25, some [0, 1, 2, 3, 4, 5, 6, 7])]) (D := [(25, some [0, 1, 2, 3, 4, 5, 6, 7])]) z_Kk5 z_Kd5 rfl (z_kc z_Kn4 z_kn) z_Kt5 rfl rfl rfl rfl
/-- C.Barn.landing(II)I -/
def z_Ke6 : z_as_ := ((90, 0, [(0, .inr (.inr (false, [18]))), (1, .inl (0, 0, 0, 0, 9)), (2, .inl (0, 0, 0, (-60), 60))], [], 0, 0), [], z_H0c, 1, [], 900000)
def z_Kx6 : List z_Xe := [(some (.inl (0, 0, 0, 0, 24)), [(25, .inr [(0, .inl (0, 0, 0, 1, 998)), (1, .inl (0, 0, 0, (-1), 60)), (2, .inl (0, 0, 0, (-60), 60)), (3, .inl (0, 0, 0, (-2147483648), 2147483647)), (4, .inl (0, 0, 0, (-2147483648), 2147483647)), (5, .inl (0, 0, 0, (-2147483648), 2147483647)), (6, .inl (0, 0, 0, (-2147483648), 2147483647)), (7, .inl (0, 0, 0, (-2147483648), 2147483647))]), (27, .inl (z_hg 27))], 0)]
def z_Kk6 : z_Kc := (90, 7, z_Ke6, [], z_Kx6, none)
def z_Kd6 : List z_ce := [(7, z_Ke6, [], [(0, 1, 0)])]
theorem z_Kt6 : (z_Kd6.all fun C => z_cok3 (z_G []) [(25, some [0, 1, 2, 3, 4, 5, 6, 7]), (27, none)] [(25, some [0, 1, 2, 3, 4, 5, 6, 7]), (27, none)] z_Tg0 12 1 ([z_Kk5]) (z_QX (z_lbk z_Kk6.2.2.1 z_Kk6.2.2.2.1) 1 900000 [(25, some [0, 1, 2, 3, 4, 5, 6, 7]), (27, none)] z_Kk6.2.2.2.2.1) (z_atl []) [] z_Kd6 30000 C) = true := by decide +kernel
theorem z_Kn6 {xs : List Int32} : z_cn (z_G xs) 12 z_J z_Kk6 := z_mkN (n := 1) (W := [(25, some [0, 1, 2, 3, 4, 5, 6, 7]), (27, none)]) (D := [(25, some [0, 1, 2, 3, 4, 5, 6, 7]), (27, none)]) z_Kk6 z_Kd6 rfl (z_kc z_Kn5 z_kn) z_Kt6 rfl rfl rfl rfl
/-- C.windBySize(I)I -/
def z_Ke7 : z_as_ := ((107, 0, [(0, .inl (0, 0, 0, 0, 120))], [], 0, 0), [], z_H0c, 1, [], 900000)
def z_Kx7 : List z_Xe := [(some (.inl (0, 0, 0, (-60), 60)), [], 0)]
def z_Kk7 : z_Kc := (107, 1, z_Ke7, [], z_Kx7, none)
def z_Kd7 : List z_ce := [(1, z_Ke7, [], [(0, 1, 0)])]
theorem z_Kt7 : (z_Kd7.all fun C => z_cok3 (z_G []) [] [] z_Tg0 12 1 ([]) (z_QX (z_lbk z_Kk7.2.2.1 z_Kk7.2.2.2.1) 1 900000 [] z_Kk7.2.2.2.2.1) (z_atl []) [] z_Kd7 30000 C) = true := by decide +kernel
theorem z_Kn7 {xs : List Int32} : z_cn (z_G xs) 12 z_J z_Kk7 := z_mkN (n := 1) (W := []) (D := []) z_Kk7 z_Kd7 rfl z_kn z_Kt7 rfl rfl rfl rfl
/-- java/lang/Math.abs(I)I -/
def z_Ke8 : z_as_ := ((108, 0, [(0, .inl (0, 0, 0, (-24), 24))], [], 0, 0), [], z_H0c, 1, [], 900000)
def z_Kx8 : List z_Xe := [(some (.inl (0, 0, 0, 0, 24)), [], 0)]
def z_Kk8 : z_Kc := (108, 1, z_Ke8, [], z_Kx8, none)
def z_Kd8 : List z_ce := [(1, z_Ke8, [], [(0, 1, 0)])]
theorem z_Kt8 : (z_Kd8.all fun C => z_cok3 (z_G []) [] [] z_Tg0 12 1 ([]) (z_QX (z_lbk z_Kk8.2.2.1 z_Kk8.2.2.2.1) 1 900000 [] z_Kk8.2.2.2.2.1) (z_atl []) [] z_Kd8 30000 C) = true := by decide +kernel
theorem z_Kn8 {xs : List Int32} : z_cn (z_G xs) 12 z_J z_Kk8 := z_mkN (n := 1) (W := []) (D := []) z_Kk8 z_Kd8 rfl z_kn z_Kt8 rfl rfl rfl rfl
/-- C.parts(II)I -/
def z_Ke9 : z_as_ := ((106, 0, [(0, .inr (.inr (false, [13]))), (1, .inl (0, 0, 0, (-2147483648), 2147483647)), (2, .inl (0, 0, 0, (-2147483648), 2147483647))], [], 0, 0), [], z_H0c, 1, [], 900000)
def z_Kx9 : List z_Xe := [(some (.inl (0, 0, 0, (-2147483648), 2147483647)), [(16, .inr [(1, .inl (0, 0, 0, 0, 4))]), (17, .inl (z_hg 17)), (25, .inr [(0, .inl (0, 0, 0, 1, 998)), (1, .inl (0, 0, 0, (-1), 60)), (2, .inl (0, 0, 0, (-60), 60)), (3, .inl (0, 0, 0, (-2147483648), 2147483647)), (4, .inl (0, 0, 0, (-2147483648), 2147483647)), (5, .inl (0, 0, 0, (-2147483648), 2147483647)), (6, .inl (0, 0, 0, (-2147483648), 2147483647)), (7, .inl (0, 0, 0, (-2147483648), 2147483647))]), (27, .inl (z_hg 27))], 0)]
def z_Kk9 : z_Kc := (106, 9, z_Ke9, [], z_Kx9, none)
def z_Kd9 : List z_ce := [(9, z_Ke9, [], [(0, 2, 0), (0, 0, 0), (0, 0, 0)]),
  (9, ((106, 29, [(0, .inr (.inr (false, [13]))), (1, .inl (0, 0, 0, 0, 9)), (2, .inl (0, 0, 0, 0, 9)), (3, .inl (0, 0, 0, (-2147483648), 2147483647)), (4, .inl (0, 0, 0, 0, 24)), (5, .inl (0, 0, 0, (-60), 60)), (6, .inl (1, 0, 0, 0, 121))], [], 0, 0), [], (z_hcs z_H0c [(18, (3, (true, true), none, [.inr (.inr (false, [19])), .inr (.inr (false, [20])), .inr (.inr (false, [21])), .inr (.inr (false, [22])), .inr (.inr (false, [23])), .inl (0, 0, 0, 1, 10), .inl (0, 0, 0, 1, 24), .inl (0, 0, 0, 0, 10), .inl (0, 0, 0, 0, 24), .inl (0, 0, 0, (-1), 23), .inr (.inr (false, [24])), .inr (.inr (false, [25])), .inr (.inr (false, [26]))]))]), 2, [], 900000), [(1, (0, 0, 6))], [(0, 1, 0), (1, 1, 121), (0, 1, 0)])]
theorem z_Kt9 : (z_Kd9.all fun C => z_cok3 (z_G []) [(16, some [1]), (17, none), (25, some [0, 1, 2, 3, 4, 5, 6, 7]), (27, none)] [(16, some [1]), (17, none), (25, some [0, 1, 2, 3, 4, 5, 6, 7]), (27, none)] z_Tg0 12 1 ([z_Kk6, z_Kk7, z_Kk8]) (z_QX (z_lbk z_Kk9.2.2.1 z_Kk9.2.2.2.1) 1 900000 [(16, some [1]), (17, none), (25, some [0, 1, 2, 3, 4, 5, 6, 7]), (27, none)] z_Kk9.2.2.2.2.1) (z_atl [(106, 29)]) [] z_Kd9 30000 C) = true := by decide +kernel
theorem z_Kn9 {xs : List Int32} : z_cn (z_G xs) 12 z_J z_Kk9 := z_mkN (n := 1) (W := [(16, some [1]), (17, none), (25, some [0, 1, 2, 3, 4, 5, 6, 7]), (27, none)]) (D := [(16, some [1]), (17, none), (25, some [0, 1, 2, 3, 4, 5, 6, 7]), (27, none)]) z_Kk9 z_Kd9 rfl (z_kc z_Kn6 (z_kc z_Kn7 (z_kc z_Kn8 z_kn))) z_Kt9 rfl rfl rfl rfl
/-- C.end(I)Z -/
def z_Ke10 : z_as_ := ((11, 0, [(0, .inr (.inr (false, [13]))), (1, .inl (0, 0, 0, (-2147483648), 2147483647))], [], 0, 0), [], z_H0c, 1, [], 900000)
def z_Kx10 : List z_Xe := [(some (.inl (0, 0, 0, 0, 1)), [(14, .inr [(1, .inl (0, 0, 0, 0, 80))])], 0)]
def z_Kk10 : z_Kc := (11, 2, z_Ke10, [], z_Kx10, none)
def z_Kd10 : List z_ce := [(2, z_Ke10, [], [(0, 1, 0)])]
theorem z_Kt10 : (z_Kd10.all fun C => z_cok3 (z_G []) [(14, some [1])] [(14, some [1])] z_Tg0 12 1 ([]) (z_QX (z_lbk z_Kk10.2.2.1 z_Kk10.2.2.2.1) 1 900000 [(14, some [1])] z_Kk10.2.2.2.2.1) (z_atl []) [] z_Kd10 30000 C) = true := by decide +kernel
theorem z_Kn10 {xs : List Int32} : z_cn (z_G xs) 12 z_J z_Kk10 := z_mkN (n := 1) (W := [(14, some [1])]) (D := [(14, some [1])]) z_Kk10 z_Kd10 rfl z_kn z_Kt10 rfl rfl rfl rfl
/-- C.landAlike(II)Z -/
def z_Ke11 : z_as_ := ((112, 0, [(0, .inr (.inr (false, [13]))), (1, .inl (0, 0, 0, 0, 9)), (2, .inl (0, 0, 0, 0, 9))], [], 0, 0), [], z_H0c, 1, [], 900000)
def z_Kx11 : List z_Xe := [(some (.inl (0, 0, 0, 0, 1)), [(25, .inr [(0, .inl (0, 0, 0, 1, 998)), (1, .inl (0, 0, 0, (-1), 60)), (2, .inl (0, 0, 0, (-60), 60)), (3, .inl (0, 0, 0, (-2147483648), 2147483647)), (4, .inl (0, 0, 0, (-2147483648), 2147483647)), (5, .inl (0, 0, 0, (-2147483648), 2147483647)), (6, .inl (0, 0, 0, (-2147483648), 2147483647)), (7, .inl (0, 0, 0, (-2147483648), 2147483647))]), (27, .inl (z_hg 27))], 0)]
def z_Kk11 : z_Kc := (112, 9, z_Ke11, [], z_Kx11, none)
def z_Kd11 : List z_ce := [(9, z_Ke11, [], [(0, 2, 0), (0, 0, 0), (0, 0, 0)]),
  (9, ((112, 3, [(0, .inr (.inr (false, [13]))), (1, .inl (0, 0, 0, 0, 9)), (2, .inl (0, 0, 0, 0, 9)), (3, .inl (1, 0, 0, (-60), 61))], [], 0, 0), [], z_H0c, 2, [], 900000), [(1, (0, 0, 3))], [(0, 1, 0), (1, 1, 61), (0, 1, 0)])]
theorem z_Kt11 : (z_Kd11.all fun C => z_cok3 (z_G []) [(25, some [0, 1, 2, 3, 4, 5, 6, 7]), (27, none)] [(25, some [0, 1, 2, 3, 4, 5, 6, 7]), (27, none)] z_Tg0 12 1 ([z_Kk6]) (z_QX (z_lbk z_Kk11.2.2.1 z_Kk11.2.2.2.1) 1 900000 [(25, some [0, 1, 2, 3, 4, 5, 6, 7]), (27, none)] z_Kk11.2.2.2.2.1) (z_atl [(112, 3)]) [] z_Kd11 30000 C) = true := by decide +kernel
theorem z_Kn11 {xs : List Int32} : z_cn (z_G xs) 12 z_J z_Kk11 := z_mkN (n := 1) (W := [(25, some [0, 1, 2, 3, 4, 5, 6, 7]), (27, none)]) (D := [(25, some [0, 1, 2, 3, 4, 5, 6, 7]), (27, none)]) z_Kk11 z_Kd11 rfl (z_kc z_Kn6 z_kn) z_Kt11 rfl rfl rfl rfl
/-- C.never()I -/
def z_Ke12 : z_as_ := ((110, 0, [(0, .inr (.inr (false, [13])))], [], 0, 0), [], z_H0c, 1, [], 900000)
def z_Kx12 : List z_Xe := [(some (.inl (0, 0, 0, (-2147483648), 2147483647)), [(16, .inr [(1, .inl (0, 0, 0, 0, 4))]), (17, .inl (z_hg 17)), (25, .inr [(0, .inl (0, 0, 0, 1, 998)), (1, .inl (0, 0, 0, (-1), 60)), (2, .inl (0, 0, 0, (-60), 60)), (3, .inl (0, 0, 0, (-2147483648), 2147483647)), (4, .inl (0, 0, 0, (-2147483648), 2147483647)), (5, .inl (0, 0, 0, (-2147483648), 2147483647)), (6, .inl (0, 0, 0, (-2147483648), 2147483647)), (7, .inl (0, 0, 0, (-2147483648), 2147483647))]), (27, .inl (z_hg 27))], 0)]
def z_Kk12 : z_Kc := (110, 11, z_Ke12, [], z_Kx12, none)
def z_Kp12_0 : z_ce := (11, z_Ke12, [], [(0, 2, 0), (0, 0, 0), (0, 0, 0), (0, 0, 0), (0, 0, 0)])
def z_Kp12_1 : z_ce := (11, ((110, 11, [(0, .inr (.inr (false, [13]))), (1, .inl (0, 0, 0, (-2147483648), 2147483647)), (2, .inl (1, 0, 0, 0, 10))], [], 0, 0), [], z_H0c, 2, [], 900000), [(1, (0, 0, 2))], [(0, 1, 0), (1, 1, 10), (0, 2, 0), (0, 0, 0), (0, 0, 0)])
def z_Kp12_2 : z_ce := (11, ((110, 24, [(0, .inr (.inr (false, [13]))), (1, .inl (0, 0, 0, (-2147483648), 2147483647)), (2, .inl (1, 0, 0, 0, 9)), (3, .inl (2, 0, 0, 0, 10))], [], 0, 0), [], (z_hcs z_H0c [(18, (3, (true, true), none, [.inr (.inr (false, [19])), .inr (.inr (false, [20])), .inr (.inr (false, [21])), .inr (.inr (false, [22])), .inr (.inr (false, [23])), .inl (0, 0, 0, 1, 10), .inl (0, 0, 0, 1, 24), .inl (0, 0, 0, 0, 10), .inl (0, 0, 0, 0, 24), .inl (0, 0, 0, (-1), 23), .inr (.inr (false, [24])), .inr (.inr (false, [25])), .inr (.inr (false, [26]))]))]), 3, [], 900000), [(1, (0, 0, 2)), (2, (0, 0, 3))], [(0, 1, 0), (1, 1, 10), (0, 1, 0), (1, 2, 10), (0, 1, 0)])
def z_Kd12 : List z_ce := [z_Kp12_0, z_Kp12_1, z_Kp12_2]
theorem z_Ku12_0 : z_cok3 (z_G []) [(16, some [1]), (17, none), (25, some [0, 1, 2, 3, 4, 5, 6, 7]), (27, none)] [(16, some [1]), (17, none), (25, some [0, 1, 2, 3, 4, 5, 6, 7]), (27, none)] z_Tg0 12 1 ([z_Kk11]) (z_QX (z_lbk z_Kk12.2.2.1 z_Kk12.2.2.2.1) 1 900000 [(16, some [1]), (17, none), (25, some [0, 1, 2, 3, 4, 5, 6, 7]), (27, none)] z_Kk12.2.2.2.2.1) (z_atl [(110, 11), (110, 24)]) [] z_Kd12 30000 z_Kp12_0 = true := by decide +kernel
theorem z_Ku12_1 : z_cok3 (z_G []) [(16, some [1]), (17, none), (25, some [0, 1, 2, 3, 4, 5, 6, 7]), (27, none)] [(16, some [1]), (17, none), (25, some [0, 1, 2, 3, 4, 5, 6, 7]), (27, none)] z_Tg0 12 1 ([z_Kk11]) (z_QX (z_lbk z_Kk12.2.2.1 z_Kk12.2.2.2.1) 1 900000 [(16, some [1]), (17, none), (25, some [0, 1, 2, 3, 4, 5, 6, 7]), (27, none)] z_Kk12.2.2.2.2.1) (z_atl [(110, 11), (110, 24)]) [] z_Kd12 30000 z_Kp12_1 = true := by decide +kernel
theorem z_Ku12_2 : z_cok3 (z_G []) [(16, some [1]), (17, none), (25, some [0, 1, 2, 3, 4, 5, 6, 7]), (27, none)] [(16, some [1]), (17, none), (25, some [0, 1, 2, 3, 4, 5, 6, 7]), (27, none)] z_Tg0 12 1 ([z_Kk11]) (z_QX (z_lbk z_Kk12.2.2.1 z_Kk12.2.2.2.1) 1 900000 [(16, some [1]), (17, none), (25, some [0, 1, 2, 3, 4, 5, 6, 7]), (27, none)] z_Kk12.2.2.2.2.1) (z_atl [(110, 11), (110, 24)]) [] z_Kd12 30000 z_Kp12_2 = true := by decide +kernel
theorem z_Kt12 : (z_Kd12.all fun C => z_cok3 (z_G []) [(16, some [1]), (17, none), (25, some [0, 1, 2, 3, 4, 5, 6, 7]), (27, none)] [(16, some [1]), (17, none), (25, some [0, 1, 2, 3, 4, 5, 6, 7]), (27, none)] z_Tg0 12 1 ([z_Kk11]) (z_QX (z_lbk z_Kk12.2.2.1 z_Kk12.2.2.2.1) 1 900000 [(16, some [1]), (17, none), (25, some [0, 1, 2, 3, 4, 5, 6, 7]), (27, none)] z_Kk12.2.2.2.2.1) (z_atl [(110, 11), (110, 24)]) [] z_Kd12 30000 C) = true := z_acn z_Ku12_0 (z_acn z_Ku12_1 (z_acn z_Ku12_2 (rfl)))
theorem z_Kn12 {xs : List Int32} : z_cn (z_G xs) 12 z_J z_Kk12 := z_mkN (n := 1) (W := [(16, some [1]), (17, none), (25, some [0, 1, 2, 3, 4, 5, 6, 7]), (27, none)]) (D := [(16, some [1]), (17, none), (25, some [0, 1, 2, 3, 4, 5, 6, 7]), (27, none)]) z_Kk12 z_Kd12 rfl (z_kc z_Kn11 z_kn) z_Kt12 rfl rfl rfl rfl
/-- C.cornOut([I)I -/
def z_Ke13 : z_as_ := ((117, 0, [(0, .inr (.inr (false, [13]))), (1, .inr (.inr (false, [30])))], [], 0, 0), [], z_H0c, 1, [], 900000)
def z_Kx13 : List z_Xe := [(some (.inl (0, 0, 0, (-2147483648), 2147483647)), [], 0)]
def z_Kk13 : z_Kc := (117, 2, z_Ke13, [], z_Kx13, none)
def z_Kd13 : List z_ce := [(2, z_Ke13, [], [(0, 2, 0), (0, 0, 0), (0, 0, 0)]),
  (2, ((117, 4, [(0, .inr (.inr (false, [13]))), (1, .inr (.inr (false, [30]))), (2, .inl (0, 0, 0, (-2147483648), 2147483647)), (3, .inl (1, 0, 0, 0, 10))], [], 0, 0), [], z_H0c, 2, [], 900000), [(1, (0, 0, 3))], [(0, 1, 0), (1, 1, 10), (0, 1, 0)])]
theorem z_Kt13 : (z_Kd13.all fun C => z_cok3 (z_G []) [] [] z_Tg0 12 1 ([]) (z_QX (z_lbk z_Kk13.2.2.1 z_Kk13.2.2.2.1) 1 900000 [] z_Kk13.2.2.2.2.1) (z_atl [(117, 4)]) [] z_Kd13 30000 C) = true := by decide +kernel
theorem z_Kn13 {xs : List Int32} : z_cn (z_G xs) 12 z_J z_Kk13 := z_mkN (n := 1) (W := []) (D := []) z_Kk13 z_Kd13 rfl z_kn z_Kt13 rfl rfl rfl rfl
/-- C.landAll(I)V -/
def z_Ke14 : z_as_ := ((114, 0, [(0, .inr (.inr (false, [13]))), (1, .inl (0, 0, 0, (-60), 60))], [], 0, 0), [], z_H0c, 1, [], 900000)
def z_Kx14 : List z_Xe := [(none, [(25, .inr [(0, .inl (0, 0, 0, 1, 998)), (1, .inl (0, 0, 0, (-1), 60)), (2, .inl (0, 0, 0, (-60), 60)), (3, .inl (0, 0, 0, (-2147483648), 2147483647)), (4, .inl (0, 0, 0, (-2147483648), 2147483647)), (5, .inl (0, 0, 0, (-2147483648), 2147483647)), (6, .inl (0, 0, 0, (-2147483648), 2147483647)), (7, .inl (0, 0, 0, (-2147483648), 2147483647))]), (27, .inl (z_hg 27)), (80, .inl (z_hg 80))], 0)]
def z_Kk14 : z_Kc := (114, 9, z_Ke14, [], z_Kx14, none)
def z_Kd14 : List z_ce := [(9, z_Ke14, [], [(0, 2, 0), (0, 0, 0), (0, 0, 0)]),
  (9, ((114, 2, [(0, .inr (.inr (false, [13]))), (1, .inl (0, 0, 0, (-60), 60)), (2, .inl (1, 0, 0, 0, 10))], [], 0, 0), [], z_H0c, 2, [], 900000), [(1, (0, 0, 2))], [(0, 1, 0), (1, 1, 10), (0, 1, 0)])]
theorem z_Kt14 : (z_Kd14.all fun C => z_cok3 (z_G []) [(25, some [0, 1, 2, 3, 4, 5, 6, 7]), (27, none), (80, none)] [(25, some [0, 1, 2, 3, 4, 5, 6, 7]), (27, none), (80, none)] z_Tg0 12 1 ([z_Kk6]) (z_QX (z_lbk z_Kk14.2.2.1 z_Kk14.2.2.2.1) 1 900000 [(25, some [0, 1, 2, 3, 4, 5, 6, 7]), (27, none), (80, none)] z_Kk14.2.2.2.2.1) (z_atl [(114, 2)]) [] z_Kd14 30000 C) = true := by decide +kernel
theorem z_Kn14 {xs : List Int32} : z_cn (z_G xs) 12 z_J z_Kk14 := z_mkN (n := 1) (W := [(25, some [0, 1, 2, 3, 4, 5, 6, 7]), (27, none), (80, none)]) (D := [(25, some [0, 1, 2, 3, 4, 5, 6, 7]), (27, none), (80, none)]) z_Kk14 z_Kd14 rfl (z_kc z_Kn6 z_kn) z_Kt14 rfl rfl rfl rfl
/-- C.isSoiled([I[II)Z -/
def z_Ke15 : z_as_ := ((116, 0, [(0, .inr (.inr (false, [13]))), (1, .inr (.inr (false, [30]))), (2, .inr (.inr (false, [80]))), (3, .inl (0, 0, 0, 0, 24))], [], 0, 0), [], z_H0c, 1, [], 900000)
def z_Kx15 : List z_Xe := [(some (.inl (0, 0, 0, 0, 1)), [], 0)]
def z_Kk15 : z_Kc := (116, 2, z_Ke15, [], z_Kx15, none)
def z_Kd15 : List z_ce := [(2, z_Ke15, [], [(0, 2, 0), (0, 0, 0), (0, 0, 0)]),
  (2, ((116, 3, [(0, .inr (.inr (false, [13]))), (1, .inr (.inr (false, [30]))), (2, .inr (.inr (false, [80]))), (3, .inl (0, 0, 0, 0, 24)), (4, .inl (1, 0, 0, 0, 10))], [], 0, 0), [], z_H0c, 2, [], 900000), [(1, (0, 0, 4))], [(0, 1, 0), (1, 1, 10), (0, 1, 0)])]
theorem z_Kt15 : (z_Kd15.all fun C => z_cok3 (z_G []) [] [] z_Tg0 12 1 ([]) (z_QX (z_lbk z_Kk15.2.2.1 z_Kk15.2.2.2.1) 1 900000 [] z_Kk15.2.2.2.2.1) (z_atl [(116, 3)]) [] z_Kd15 30000 C) = true := by decide +kernel
theorem z_Kn15 {xs : List Int32} : z_cn (z_G xs) 12 z_J z_Kk15 := z_mkN (n := 1) (W := []) (D := []) z_Kk15 z_Kd15 rfl z_kn z_Kt15 rfl rfl rfl rfl
/-- C.cleanCorn([I[I)I -/
def z_Ke16 : z_as_ := ((115, 0, [(0, .inr (.inr (false, [13]))), (1, .inr (.inr (false, [30]))), (2, .inr (.inr (false, [80])))], [], 0, 0), [], z_H0c, 1, [], 900000)
def z_Kx16 : List z_Xe := [(some (.inl (0, 0, 0, (-2147483648), 2147483647)), [], 0)]
def z_Kk16 : z_Kc := (115, 4, z_Ke16, [], z_Kx16, none)
def z_Kd16 : List z_ce := [(4, z_Ke16, [], [(0, 2, 0), (0, 0, 0), (0, 0, 0)]),
  (4, ((115, 5, [(0, .inr (.inr (false, [13]))), (1, .inr (.inr (false, [30]))), (2, .inr (.inr (false, [80]))), (3, .inl (0, 0, 0, (-2147483648), 2147483647)), (4, .inl (1, 0, 0, 0, 10))], [], 0, 0), [], z_H0c, 2, [], 900000), [(1, (0, 0, 4))], [(0, 1, 0), (1, 1, 10), (0, 1, 0)])]
theorem z_Kt16 : (z_Kd16.all fun C => z_cok3 (z_G []) [] [] z_Tg0 12 1 ([z_Kk15]) (z_QX (z_lbk z_Kk16.2.2.1 z_Kk16.2.2.2.1) 1 900000 [] z_Kk16.2.2.2.2.1) (z_atl [(115, 5)]) [] z_Kd16 30000 C) = true := by decide +kernel
theorem z_Kn16 {xs : List Int32} : z_cn (z_G xs) 12 z_J z_Kk16 := z_mkN (n := 1) (W := []) (D := []) z_Kk16 z_Kd16 rfl (z_kc z_Kn15 z_kn) z_Kt16 rfl rfl rfl rfl
/-- C.best(I)I -/
def z_Ke17 : z_as_ := ((113, 0, [(0, .inr (.inr (false, [13]))), (1, .inl (0, 0, 0, (-2147483648), 2147483647))], [], 0, 0), [], z_H0c, 1, [], 900000)
def z_Kx17 : List z_Xe := [(some (.inl (0, 0, 0, (-60), 60)), [(16, .inr [(1, .inl (0, 0, 0, 0, 4))]), (17, .inl (z_hg 17)), (25, .inr [(0, .inl (0, 0, 0, 1, 998)), (1, .inl (0, 0, 0, (-1), 60)), (2, .inl (0, 0, 0, (-60), 60)), (3, .inl (0, 0, 0, (-2147483648), 2147483647)), (4, .inl (0, 0, 0, (-2147483648), 2147483647)), (5, .inl (0, 0, 0, (-2147483648), 2147483647)), (6, .inl (0, 0, 0, (-2147483648), 2147483647)), (7, .inl (0, 0, 0, (-2147483648), 2147483647))]), (27, .inl (z_hg 27)), (80, .inl (z_hg 80))], 0)]
def z_Kk17 : z_Kc := (113, 11, z_Ke17, [], z_Kx17, none)
def z_Kd17 : List z_ce := [(11, z_Ke17, [], [(0, 2, 0), (0, 0, 0), (0, 0, 0)]),
  (11, ((113, 27, [(0, .inr (.inr (false, [13]))), (1, .inl (0, 0, 0, 0, 5)), (2, .inr (.inr (false, [30]))), (3, .inl (0, 0, 0, (-1), 2147483647)), (4, .inl (0, 0, 0, (-60), 60)), (5, .inl (1, 0, 0, 0, 121))], [], 0, 0), [], z_H0c, 2, [], 900000), [(1, (0, 0, 5))], [(0, 1, 0), (1, 1, 121), (0, 1, 0)])]
theorem z_Kt17 : (z_Kd17.all fun C => z_cok3 (z_G []) [(16, some [1]), (17, none), (25, some [0, 1, 2, 3, 4, 5, 6, 7]), (27, none), (80, none)] [(16, some [1]), (17, none), (25, some [0, 1, 2, 3, 4, 5, 6, 7]), (27, none), (80, none)] z_Tg0 12 1 ([z_Kk7, z_Kk13, z_Kk14, z_Kk16]) (z_QX (z_lbk z_Kk17.2.2.1 z_Kk17.2.2.2.1) 1 900000 [(16, some [1]), (17, none), (25, some [0, 1, 2, 3, 4, 5, 6, 7]), (27, none), (80, none)] z_Kk17.2.2.2.2.1) (z_atl [(113, 27)]) [] z_Kd17 30000 C) = true := by decide +kernel
theorem z_Kn17 {xs : List Int32} : z_cn (z_G xs) 12 z_J z_Kk17 := z_mkN (n := 1) (W := [(16, some [1]), (17, none), (25, some [0, 1, 2, 3, 4, 5, 6, 7]), (27, none), (80, none)]) (D := [(16, some [1]), (17, none), (25, some [0, 1, 2, 3, 4, 5, 6, 7]), (27, none), (80, none)]) z_Kk17 z_Kd17 rfl (z_kc z_Kn7 (z_kc z_Kn13 (z_kc z_Kn14 (z_kc z_Kn16 z_kn)))) z_Kt17 rfl rfl rfl rfl
/-- C.isSoiled([I[II)Z -/
def z_Ke18 : z_as_ := ((116, 0, [(0, .inr (.inr (false, [13]))), (1, .inr (.inr (false, [30]))), (2, .inr (.inr (false, [82]))), (3, .inl (0, 0, 0, 0, 24))], [], 0, 0), [], z_H0c, 1, [], 900000)
def z_Kx18 : List z_Xe := [(some (.inl (0, 0, 0, 0, 1)), [], 0)]
def z_Kk18 : z_Kc := (116, 2, z_Ke18, [], z_Kx18, none)
def z_Kd18 : List z_ce := [(2, z_Ke18, [], [(0, 2, 0), (0, 0, 0), (0, 0, 0)]),
  (2, ((116, 3, [(0, .inr (.inr (false, [13]))), (1, .inr (.inr (false, [30]))), (2, .inr (.inr (false, [82]))), (3, .inl (0, 0, 0, 0, 24)), (4, .inl (1, 0, 0, 0, 10))], [], 0, 0), [], z_H0c, 2, [], 900000), [(1, (0, 0, 4))], [(0, 1, 0), (1, 1, 10), (0, 1, 0)])]
theorem z_Kt18 : (z_Kd18.all fun C => z_cok3 (z_G []) [] [] z_Tg0 12 1 ([]) (z_QX (z_lbk z_Kk18.2.2.1 z_Kk18.2.2.2.1) 1 900000 [] z_Kk18.2.2.2.2.1) (z_atl [(116, 3)]) [] z_Kd18 30000 C) = true := by decide +kernel
theorem z_Kn18 {xs : List Int32} : z_cn (z_G xs) 12 z_J z_Kk18 := z_mkN (n := 1) (W := []) (D := []) z_Kk18 z_Kd18 rfl z_kn z_Kt18 rfl rfl rfl rfl
end ZCN62
