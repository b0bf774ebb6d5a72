section ZCN67
/-- C.cornOf([I)I -/
def z_Ke83 : z_as_ := ((174, 0, [(0, .inr (.inr (false, [13]))), (1, .inr (.inr (false, [30])))], [], 0, 0), [], z_H0c, 1, [], 900000)
def z_Kx83 : List z_Xe := [(some (.inl (0, 0, 0, (-2147483648), 2147483647)), [], 0)]
def z_Kk83 : z_Kc := (174, 2, z_Ke83, [], z_Kx83, none)
def z_Kd83 : List z_ce := [(2, z_Ke83, [], [(0, 2, 0), (0, 0, 0), (0, 0, 0)]),
  (2, ((174, 4, [(0, .inr (.inr (false, [13]))), (1, .inr (.inr (false, [30]))), (2, .inl (0, 0, 0, (-2147483648), 2147483647)), (3, .inl (1, 0, 0, 0, 10))], [], 0, 0), [], z_H0c, 2, [], 900000), [(1, (0, 0, 3))], [(0, 1, 0), (1, 1, 10), (0, 1, 0)])]
theorem z_Kt83 : (z_Kd83.all fun C => z_cok3 (z_G []) [] [] z_Tg0 12 1 ([]) (z_QX (z_lbk z_Kk83.2.2.1 z_Kk83.2.2.2.1) 1 900000 [] z_Kk83.2.2.2.2.1) (z_atl [(174, 4)]) [] z_Kd83 30000 C) = true := by decide +kernel
theorem z_Kn83 {xs : List Int32} : z_cn (z_G xs) 12 z_J z_Kk83 := z_mkN (n := 1) (W := []) (D := []) z_Kk83 z_Kd83 rfl z_kn z_Kt83 rfl rfl rfl rfl
/-- C.waysToTake(II)J -/
def z_Ke84 : z_as_ := ((175, 0, [(0, .inl (0, 0, 0, (-2147483648), 2147483647)), (1, .inl (0, 0, 0, 1, 4))], [], 0, 0), [], z_H0c, 1, [], 900000)
def z_Kx84 : List z_Xe := [(some (.inr (.inl (0, 0, 0, (-9223372036854775808), 9223372036854775807))), [], 0)]
def z_Kk84 : z_Kc := (175, 2, z_Ke84, [], z_Kx84, none)
def z_Kd84 : List z_ce := [(2, z_Ke84, [], [(0, 2, 0), (0, 0, 0), (0, 0, 0)]),
  (2, ((175, 5, [(0, .inl (0, 0, 0, (-2147483648), 2147483647)), (1, .inl (0, 0, 0, 1, 4)), (2, .inr (.inl (0, 0, 0, (-9223372036854775808), 9223372036854775807))), (4, .inl (1, 0, 0, 0, 4))], [], 0, 0), [], z_H0c, 2, [], 900000), [(1, (0, 0, 4))], [(0, 1, 0), (1, 1, 4), (0, 1, 0)])]
theorem z_Kt84 : (z_Kd84.all fun C => z_cok3 (z_G []) [] [] z_Tg0 12 1 ([]) (z_QX (z_lbk z_Kk84.2.2.1 z_Kk84.2.2.2.1) 1 900000 [] z_Kk84.2.2.2.2.1) (z_atl [(175, 5)]) [] z_Kd84 30000 C) = true := by decide +kernel
theorem z_Kn84 {xs : List Int32} : z_cn (z_G xs) 12 z_J z_Kk84 := z_mkN (n := 1) (W := []) (D := []) z_Kk84 z_Kd84 rfl z_kn z_Kt84 rfl rfl rfl rfl
/-- C.sample(II)I -/
def z_Ke85 : z_as_ := ((173, 0, [(0, .inr (.inr (false, [13]))), (1, .inl (0, 0, 0, (-2147483648), 2147483647)), (2, .inl (0, 0, 0, (-2147483648), 2147483647))], [], 0, 0), [], z_H0c, 1, [], 900000)
def z_Kx85 : List z_Xe := [(some (.inl (0, 0, 0, (-3), 0)), [(16, .inr [(1, .inl (0, 0, 0, 0, 4))]), (17, .inl (z_hg 17))], 0)]
def z_Kk85 : z_Kc := (173, 4, z_Ke85, [], z_Kx85, none)
def z_Kd85 : List z_ce := [(4, z_Ke85, [], [(0, 1, 0)])]
theorem z_Kt85 : (z_Kd85.all fun C => z_cok3 (z_G []) [(16, some [1]), (17, none)] [(16, some [1]), (17, none)] z_Tg0 12 1 ([z_Kk26, z_Kk47, z_Kk83, z_Kk84]) (z_QX (z_lbk z_Kk85.2.2.1 z_Kk85.2.2.2.1) 1 900000 [(16, some [1]), (17, none)] z_Kk85.2.2.2.2.1) (z_atl []) [] z_Kd85 30000 C) = true := by decide +kernel
theorem z_Kn85 {xs : List Int32} : z_cn (z_G xs) 12 z_J z_Kk85 := z_mkN (n := 1) (W := [(16, some [1]), (17, none)]) (D := [(16, some [1]), (17, none)]) z_Kk85 z_Kd85 rfl (z_kc z_Kn26 (z_kc z_Kn47 (z_kc z_Kn83 (z_kc z_Kn84 z_kn)))) z_Kt85 rfl rfl rfl rfl
/-- C.grains(II)I -/
def z_Ke86 : z_as_ := ((176, 0, [(0, .inr (.inr (false, [13]))), (1, .inl (0, 0, 0, (-2147483648), 2147483647)), (2, .inl (0, 0, 0, (-2147483648), 2147483647))], [], 0, 0), [], z_H0c, 1, [], 900000)
def z_Kx86 : List z_Xe := [(some (.inl (0, 0, 0, (-3), 4)), [], 0)]
def z_Kk86 : z_Kc := (176, 4, z_Ke86, [], z_Kx86, none)
def z_Kd86 : List z_ce := [(4, z_Ke86, [], [(0, 2, 0), (0, 0, 0), (0, 0, 0)]),
  (4, ((176, 61, [(0, .inr (.inr (false, [13]))), (1, .inl (0, 0, 0, 0, 5)), (2, .inl (0, 0, 0, 1, 100)), (3, .inl (0, 0, 0, (-2147483648), 2000)), (4, .inl (0, 0, 0, (-2147483648), 2147483647)), (5, .inl (1, 0, 0, 1, 5))], [], 0, 0), [], z_H0c, 2, [], 900000), [(1, (0, 0, 5))], [(0, 1, 0), (1, 1, 5), (0, 1, 0)])]
theorem z_Kt86 : (z_Kd86.all fun C => z_cok3 (z_G []) [] [] z_Tg0 12 1 ([z_Kk47, z_Kk83, z_Kk84]) (z_QX (z_lbk z_Kk86.2.2.1 z_Kk86.2.2.2.1) 1 900000 [] z_Kk86.2.2.2.2.1) (z_atl [(176, 61)]) [] z_Kd86 30000 C) = true := by decide +kernel
theorem z_Kn86 {xs : List Int32} : z_cn (z_G xs) 12 z_J z_Kk86 := z_mkN (n := 1) (W := []) (D := []) z_Kk86 z_Kd86 rfl (z_kc z_Kn47 (z_kc z_Kn83 (z_kc z_Kn84 z_kn))) z_Kt86 rfl rfl rfl rfl
/-- C.seed(I)I -/
def z_Ke87 : z_as_ := ((177, 0, [(0, .inr (.inr (false, [13]))), (1, .inl (0, 0, 0, (-2147483648), 2147483647))], [], 0, 0), [], z_H0c, 1, [], 900000)
def z_Kx87 : List z_Xe := [(some (.inl (0, 0, 0, (-2147483648), 2147483647)), [(28, .inr [(4, .inl (0, 0, 0, (-2147483648), 2147483647))])], 0)]
def z_Kk87 : z_Kc := (177, 1, z_Ke87, [], z_Kx87, none)
def z_Kd87 : List z_ce := [(1, z_Ke87, [], [(0, 1, 0)])]
theorem z_Kt87 : (z_Kd87.all fun C => z_cok3 (z_G []) [(28, some [4])] [(28, some [4])] z_Tg0 12 1 ([]) (z_QX (z_lbk z_Kk87.2.2.1 z_Kk87.2.2.2.1) 1 900000 [(28, some [4])] z_Kk87.2.2.2.2.1) (z_atl []) [] z_Kd87 30000 C) = true := by decide +kernel
theorem z_Kn87 {xs : List Int32} : z_cn (z_G xs) 12 z_J z_Kk87 := z_mkN (n := 1) (W := [(28, some [4])]) (D := [(28, some [4])]) z_Kk87 z_Kd87 rfl z_kn z_Kt87 rfl rfl rfl rfl
/-- C.keep(I)Z -/
def z_Ke88 : z_as_ := ((178, 0, [(0, .inr (.inr (false, [13]))), (1, .inl (0, 0, 0, (-2147483648), (-1)))], [], 0, 0), [], z_H0c, 1, [], 900000)
def z_Kx88 : List z_Xe := [(some (.inl (0, 0, 0, 0, 0)), [], 0)]
def z_Kk88 : z_Kc := (178, 1, z_Ke88, [], z_Kx88, none)
def z_Kd88 : List z_ce := [(1, z_Ke88, [], [(0, 1, 0)])]
theorem z_Kt88 : (z_Kd88.all fun C => z_cok3 (z_G []) [] [] z_Tg0 12 1 ([]) (z_QX (z_lbk z_Kk88.2.2.1 z_Kk88.2.2.2.1) 1 900000 [] z_Kk88.2.2.2.2.1) (z_atl []) [] z_Kd88 30000 C) = true := by decide +kernel
theorem z_Kn88 {xs : List Int32} : z_cn (z_G xs) 12 z_J z_Kk88 := z_mkN (n := 1) (W := []) (D := []) z_Kk88 z_Kd88 rfl z_kn z_Kt88 rfl rfl rfl rfl
/-- C.Store.copyOf(LChaffInTheWind.Store;)V -/
def z_Ke89 : z_as_ := ((179, 0, [(0, .inr (.inr (false, [35, 41, 47]))), (1, .inr (.inr (false, [28])))], [], 0, 0), [], z_H0c, 1, [], 900000)
def z_Kx89 : List z_Xe := [(none, [(35, .inr [(3, .inl (0, 0, 0, (-2147483648), 2147483647)), (4, .inl (0, 0, 0, (-2147483648), 2147483647))]), (37, .inl (z_hg 37)), (39, .inl (z_hg 39)), (40, .inl (z_hg 40)), (41, .inr [(3, .inl (0, 0, 0, (-2147483648), 2147483647)), (4, .inl (0, 0, 0, (-2147483648), 2147483647))]), (43, .inl (z_hg 43)), (45, .inl (z_hg 45)), (46, .inl (z_hg 46)), (47, .inr [(3, .inl (0, 0, 0, (-2147483648), 2147483647)), (4, .inl (0, 0, 0, (-2147483648), 2147483647))]), (49, .inl (z_hg 49)), (51, .inl (z_hg 51)), (52, .inl (z_hg 52))], 0)]
def z_Kk89 : z_Kc := (179, 2, z_Ke89, [], z_Kx89, none)
def z_Kd89 : List z_ce := [(2, z_Ke89, [], [(0, 3, 0), (0, 0, 0), (0, 0, 0)]),
  (2, ((179, 2, [(0, .inr (.inr (false, [35, 41, 47]))), (1, .inr (.inr (false, [28]))), (2, .inl (1, 0, 0, 0, 6))], [], 0, 0), [], z_H0c, 2, [], 900000), [(1, (0, 0, 2))], [(0, 2, 0), (1, 1, 6), (0, 1, 0)]),
  (2, ((179, 31, [(0, .inr (.inr (false, [35, 41, 47]))), (1, .inr (.inr (false, [28]))), (2, .inl (1, 0, 0, 0, 24))], [], 0, 0), [], z_H0c, 2, [], 900000), [(1, (0, 0, 2))], [(0, 1, 0), (1, 1, 24), (0, 1, 0)])]
theorem z_Kt89 : (z_Kd89.all fun C => z_cok3 (z_G []) [(35, some [3, 4]), (37, none), (39, none), (40, none), (41, some [3, 4]), (43, none), (45, none), (46, none), (47, some [3, 4]), (49, none), (51, none), (52, none)] [(35, some [3, 4]), (37, none), (39, none), (40, none), (41, some [3, 4]), (43, none), (45, none), (46, none), (47, some [3, 4]), (49, none), (51, none), (52, none)] z_Tg0 12 1 ([]) (z_QX (z_lbk z_Kk89.2.2.1 z_Kk89.2.2.2.1) 1 900000 [(35, some [3, 4]), (37, none), (39, none), (40, none), (41, some [3, 4]), (43, none), (45, none), (46, none), (47, some [3, 4]), (49, none), (51, none), (52, none)] z_Kk89.2.2.2.2.1) (z_atl [(179, 2), (179, 31)]) [] z_Kd89 30000 C) = true := by decide +kernel
theorem z_Kn89 {xs : List Int32} : z_cn (z_G xs) 12 z_J z_Kk89 := z_mkN (n := 1) (W := [(35, some [3, 4]), (37, none), (39, none), (40, none), (41, some [3, 4]), (43, none), (45, none), (46, none), (47, some [3, 4]), (49, none), (51, none), (52, none)]) (D := [(35, some [3, 4]), (37, none), (39, none), (40, none), (41, some [3, 4]), (43, none), (45, none), (46, none), (47, some [3, 4]), (49, none), (51, none), (52, none)]) z_Kk89 z_Kd89 rfl z_kn z_Kt89 rfl rfl rfl rfl
/-- C.keep(I)Z -/
def z_Ke90 : z_as_ := ((178, 0, [(0, .inr (.inr (false, [13]))), (1, .inl (0, 0, 0, 0, 2))], [], 0, 0), [], z_H0c, 1, [], 900000)
def z_Kx90 : List z_Xe := [(some (.inl (0, 0, 0, 1, 1)), [(35, .inr [(3, .inl (0, 0, 0, (-2147483648), 2147483647)), (4, .inl (0, 0, 0, (-2147483648), 2147483647)), (5, .inl (0, 0, 0, 0, 24))]), (37, .inl (z_hg 37)), (39, .inl (z_hg 39)), (40, .inl (z_hg 40)), (41, .inr [(3, .inl (0, 0, 0, (-2147483648), 2147483647)), (4, .inl (0, 0, 0, (-2147483648), 2147483647)), (5, .inl (0, 0, 0, 0, 24))]), (43, .inl (z_hg 43)), (45, .inl (z_hg 45)), (46, .inl (z_hg 46)), (47, .inr [(3, .inl (0, 0, 0, (-2147483648), 2147483647)), (4, .inl (0, 0, 0, (-2147483648), 2147483647)), (5, .inl (0, 0, 0, 0, 24))]), (49, .inl (z_hg 49)), (51, .inl (z_hg 51)), (52, .inl (z_hg 52))], 0)]
def z_Kk90 : z_Kc := (178, 4, z_Ke90, [], z_Kx90, none)
def z_Kd90 : List z_ce := [(4, z_Ke90, [], [(0, 1, 0)])]
theorem z_Kt90 : (z_Kd90.all fun C => z_cok3 (z_G []) [(35, some [3, 4, 5]), (37, none), (39, none), (40, none), (41, some [3, 4, 5]), (43, none), (45, none), (46, none), (47, some [3, 4, 5]), (49, none), (51, none), (52, none)] [(35, some [3, 4, 5]), (37, none), (39, none), (40, none), (41, some [3, 4, 5]), (43, none), (45, none), (46, none), (47, some [3, 4, 5]), (49, none), (51, none), (52, none)] z_Tg0 12 1 ([z_Kk89]) (z_QX (z_lbk z_Kk90.2.2.1 z_Kk90.2.2.2.1) 1 900000 [(35, some [3, 4, 5]), (37, none), (39, none), (40, none), (41, some [3, 4, 5]), (43, none), (45, none), (46, none), (47, some [3, 4, 5]), (49, none), (51, none), (52, none)] z_Kk90.2.2.2.2.1) (z_atl []) [] z_Kd90 30000 C) = true := by decide +kernel
theorem z_Kn90 {xs : List Int32} : z_cn (z_G xs) 12 z_J z_Kk90 := z_mkN (n := 1) (W := [(35, some [3, 4, 5]), (37, none), (39, none), (40, none), (41, some [3, 4, 5]), (43, none), (45, none), (46, none), (47, some [3, 4, 5]), (49, none), (51, none), (52, none)]) (D := [(35, some [3, 4, 5]), (37, none), (39, none), (40, none), (41, some [3, 4, 5]), (43, none), (45, none), (46, none), (47, some [3, 4, 5]), (49, none), (51, none), (52, none)]) z_Kk90 z_Kd90 rfl (z_kc z_Kn89 z_kn) z_Kt90 rfl rfl rfl rfl
/-- C.keep(I)Z -/
def z_Ke91 : z_as_ := ((178, 0, [(0, .inr (.inr (false, [13]))), (1, .inl (0, 0, 0, 3, 2147483647))], [], 0, 0), [], z_H0c, 1, [], 900000)
def z_Kx91 : List z_Xe := [(some (.inl (0, 0, 0, 0, 0)), [], 0)]
def z_Kk91 : z_Kc := (178, 1, z_Ke91, [], z_Kx91, none)
def z_Kd91 : List z_ce := [(1, z_Ke91, [], [(0, 1, 0)])]
theorem z_Kt91 : (z_Kd91.all fun C => z_cok3 (z_G []) [] [] z_Tg0 12 1 ([]) (z_QX (z_lbk z_Kk91.2.2.1 z_Kk91.2.2.2.1) 1 900000 [] z_Kk91.2.2.2.2.1) (z_atl []) [] z_Kd91 30000 C) = true := by decide +kernel
theorem z_Kn91 {xs : List Int32} : z_cn (z_G xs) 12 z_J z_Kk91 := z_mkN (n := 1) (W := []) (D := []) z_Kk91 z_Kd91 rfl z_kn z_Kt91 rfl rfl rfl rfl
/-- C.Store.copyOf(LChaffInTheWind.Store;)V -/
def z_Ke92 : z_as_ := ((179, 0, [(0, .inr (.inr (false, [28]))), (1, .inr (.inr (false, [35, 41, 47])))], [], 0, 0), [], z_H0c, 1, [], 900000)
def z_Kx92 : List z_Xe := [(none, [(28, .inr [(3, .inl (0, 0, 0, (-2147483648), 2147483647)), (4, .inl (0, 0, 0, (-2147483648), 2147483647))]), (30, .inl (z_hg 30)), (32, .inl (z_hg 32)), (33, .inl (z_hg 33))], 0)]
def z_Kk92 : z_Kc := (179, 2, z_Ke92, [], z_Kx92, none)
def z_Kd92 : List z_ce := [(2, z_Ke92, [], [(0, 3, 0), (0, 0, 0), (0, 0, 0)]),
  (2, ((179, 2, [(0, .inr (.inr (false, [28]))), (1, .inr (.inr (false, [35, 41, 47]))), (2, .inl (1, 0, 0, 0, 6))], [], 0, 0), [], z_H0c, 2, [], 900000), [(1, (0, 0, 2))], [(0, 2, 0), (1, 1, 6), (0, 1, 0)]),
  (2, ((179, 31, [(0, .inr (.inr (false, [28]))), (1, .inr (.inr (false, [35, 41, 47]))), (2, .inl (1, 0, 0, 0, 24))], [], 0, 0), [], z_H0c, 2, [], 900000), [(1, (0, 0, 2))], [(0, 1, 0), (1, 1, 24), (0, 1, 0)])]
theorem z_Kt92 : (z_Kd92.all fun C => z_cok3 (z_G []) [(28, some [3, 4]), (30, none), (32, none), (33, none)] [(28, some [3, 4]), (30, none), (32, none), (33, none)] z_Tg0 12 1 ([]) (z_QX (z_lbk z_Kk92.2.2.1 z_Kk92.2.2.2.1) 1 900000 [(28, some [3, 4]), (30, none), (32, none), (33, none)] z_Kk92.2.2.2.2.1) (z_atl [(179, 2), (179, 31)]) [] z_Kd92 30000 C) = true := by decide +kernel
theorem z_Kn92 {xs : List Int32} : z_cn (z_G xs) 12 z_J z_Kk92 := z_mkN (n := 1) (W := [(28, some [3, 4]), (30, none), (32, none), (33, none)]) (D := [(28, some [3, 4]), (30, none), (32, none), (33, none)]) z_Kk92 z_Kd92 rfl z_kn z_Kt92 rfl rfl rfl rfl
/-- C.again(I)Z -/
def z_Ke93 : z_as_ := ((180, 0, [(0, .inr (.inr (false, [13]))), (1, .inl (0, 0, 0, (-2147483648), 2147483647))], [], 0, 0), [], z_H0c, 1, [], 900000)
def z_Kx93 : List z_Xe := [(some (.inl (0, 0, 0, 0, 1)), [(28, .inr [(3, .inl (0, 0, 0, (-2147483648), 2147483647)), (4, .inl (0, 0, 0, (-2147483648), 2147483647))]), (30, .inl (z_hg 30)), (32, .inl (z_hg 32)), (33, .inl (z_hg 33))], 0)]
def z_Kk93 : z_Kc := (180, 4, z_Ke93, [], z_Kx93, none)
def z_Kd93 : List z_ce := [(4, z_Ke93, [], [(0, 1, 0)])]
theorem z_Kt93 : (z_Kd93.all fun C => z_cok3 (z_G []) [(28, some [3, 4]), (30, none), (32, none), (33, none)] [(28, some [3, 4]), (30, none), (32, none), (33, none)] z_Tg0 12 1 ([z_Kk92]) (z_QX (z_lbk z_Kk93.2.2.1 z_Kk93.2.2.2.1) 1 900000 [(28, some [3, 4]), (30, none), (32, none), (33, none)] z_Kk93.2.2.2.2.1) (z_atl []) [] z_Kd93 30000 C) = true := by decide +kernel
theorem z_Kn93 {xs : List Int32} : z_cn (z_G xs) 12 z_J z_Kk93 := z_mkN (n := 1) (W := [(28, some [3, 4]), (30, none), (32, none), (33, none)]) (D := [(28, some [3, 4]), (30, none), (32, none), (33, none)]) z_Kk93 z_Kd93 rfl (z_kc z_Kn92 z_kn) z_Kt93 rfl rfl rfl rfl
/-- C.sumOf([I)I -/
def z_Ke94 : z_as_ := ((70, 0, [(0, .inr (.inr (false, [32])))], [], 0, 0), [], z_H0c, 1, [], 900000)
def z_Kx94 : List z_Xe := [(some (.inl (0, 0, 0, (-2147483648), 2147483647)), [], 0)]
def z_Kk94 : z_Kc := (70, 1, z_Ke94, [], z_Kx94, none)
def z_Kd94 : List z_ce := [(1, z_Ke94, [], [(0, 2, 0), (0, 0, 0), (0, 0, 0)]),
  (1, ((70, 10, [(0, .inr (.inr (false, [32]))), (1, .inl (0, 0, 0, (-2147483648), 2147483647)), (2, .inr (.inr (false, [32]))), (3, .inl (0, 0, 0, 10, 10)), (4, .inl (1, 0, 0, 0, 10))], [], 0, 0), [], z_H0c, 2, [], 900000), [(1, (0, 0, 4))], [(0, 1, 0), (1, 1, 10), (0, 1, 0)])]
theorem z_Kt94 : (z_Kd94.all fun C => z_cok3 (z_G []) [] [] z_Tg0 12 1 ([]) (z_QX (z_lbk z_Kk94.2.2.1 z_Kk94.2.2.2.1) 1 900000 [] z_Kk94.2.2.2.2.1) (z_atl [(70, 10)]) [] z_Kd94 30000 C) = true := by decide +kernel
theorem z_Kn94 {xs : List Int32} : z_cn (z_G xs) 12 z_J z_Kk94 := z_mkN (n := 1) (W := []) (D := []) z_Kk94 z_Kd94 rfl z_kn z_Kt94 rfl rfl rfl rfl
/-- C.sumOfAll([[I)I -/
def z_Ke95 : z_as_ := ((183, 0, [(0, .inr (.inr (false, [31])))], [], 0, 0), [], z_H0c, 1, [], 900000)
def z_Kx95 : List z_Xe := [(some (.inl (0, 0, 0, (-2147483648), 2147483647)), [], 0)]
def z_Kk95 : z_Kc := (183, 3, z_Ke95, [], z_Kx95, none)
def z_Kd95 : List z_ce := [(3, z_Ke95, [], [(0, 2, 0), (0, 0, 0), (0, 0, 0)]),
  (3, ((183, 10, [(0, .inr (.inr (false, [31]))), (1, .inl (0, 0, 0, (-2147483648), 2147483647)), (2, .inr (.inr (false, [31]))), (3, .inl (0, 0, 0, 24, 24)), (4, .inl (1, 0, 0, 0, 24))], [], 0, 0), [], z_H0c, 2, [], 900000), [(1, (0, 0, 4))], [(0, 1, 0), (1, 1, 24), (0, 1, 0)])]
theorem z_Kt95 : (z_Kd95.all fun C => z_cok3 (z_G []) [] [] z_Tg0 12 1 ([z_Kk94]) (z_QX (z_lbk z_Kk95.2.2.1 z_Kk95.2.2.2.1) 1 900000 [] z_Kk95.2.2.2.2.1) (z_atl [(183, 10)]) [] z_Kd95 30000 C) = true := by decide +kernel
theorem z_Kn95 {xs : List Int32} : z_cn (z_G xs) 12 z_J z_Kk95 := z_mkN (n := 1) (W := []) (D := []) z_Kk95 z_Kd95 rfl (z_kc z_Kn94 z_kn) z_Kt95 rfl rfl rfl rfl
/-- C.sumOf([I)I -/
def z_Ke96 : z_as_ := ((70, 0, [(0, .inr (.inr (false, [33])))], [], 0, 0), [], z_H0c, 1, [], 900000)
def z_Kx96 : List z_Xe := [(some (.inl (0, 0, 0, (-2147483648), 2147483647)), [], 0)]
def z_Kk96 : z_Kc := (70, 1, z_Ke96, [], z_Kx96, none)
def z_Kd96 : List z_ce := [(1, z_Ke96, [], [(0, 2, 0), (0, 0, 0), (0, 0, 0)]),
  (1, ((70, 10, [(0, .inr (.inr (false, [33]))), (1, .inl (0, 0, 0, (-2147483648), 2147483647)), (2, .inr (.inr (false, [33]))), (3, .inl (0, 0, 0, 10, 10)), (4, .inl (1, 0, 0, 0, 10))], [], 0, 0), [], z_H0c, 2, [], 900000), [(1, (0, 0, 4))], [(0, 1, 0), (1, 1, 10), (0, 1, 0)])]
theorem z_Kt96 : (z_Kd96.all fun C => z_cok3 (z_G []) [] [] z_Tg0 12 1 ([]) (z_QX (z_lbk z_Kk96.2.2.1 z_Kk96.2.2.2.1) 1 900000 [] z_Kk96.2.2.2.2.1) (z_atl [(70, 10)]) [] z_Kd96 30000 C) = true := by decide +kernel
theorem z_Kn96 {xs : List Int32} : z_cn (z_G xs) 12 z_J z_Kk96 := z_mkN (n := 1) (W := []) (D := []) z_Kk96 z_Kd96 rfl z_kn z_Kt96 rfl rfl rfl rfl
/-- C.Market.told()I -/
def z_Ke97 : z_as_ := ((182, 0, [(0, .inr (.inr (false, [61])))], [], 0, 0), [], z_H0c, 1, [], 900000)
def z_Kx97 : List z_Xe := [(some (.inl (0, 0, 0, (-2147483648), 2147483647)), [], 0)]
def z_Kk97 : z_Kc := (182, 2, z_Ke97, [], z_Kx97, none)
def z_Kd97 : List z_ce := [(2, z_Ke97, [], [(0, 2, 0), (0, 0, 0), (0, 0, 0)]),
  (2, ((182, 4, [(0, .inr (.inr (false, [61]))), (1, .inl (0, 0, 0, (-2147483648), 2147483647)), (2, .inl (1, 0, 0, 0, 4))], [], 0, 0), [], z_H0c, 2, [], 900000), [(1, (0, 0, 2))], [(0, 1, 0), (1, 1, 4), (0, 1, 0)])]
theorem z_Kt97 : (z_Kd97.all fun C => z_cok3 (z_G []) [] [] z_Tg0 12 1 ([]) (z_QX (z_lbk z_Kk97.2.2.1 z_Kk97.2.2.2.1) 1 900000 [] z_Kk97.2.2.2.2.1) (z_atl [(182, 4)]) [] z_Kd97 30000 C) = true := by decide +kernel
theorem z_Kn97 {xs : List Int32} : z_cn (z_G xs) 12 z_J z_Kk97 := z_mkN (n := 1) (W := []) (D := []) z_Kk97 z_Kd97 rfl z_kn z_Kt97 rfl rfl rfl rfl
/-- C.sumOfAll([[I)I -/
def z_Ke98 : z_as_ := ((183, 0, [(0, .inr (.inr (false, [29])))], [], 0, 0), [], z_H0c, 1, [], 900000)
def z_Kx98 : List z_Xe := [(some (.inl (0, 0, 0, (-2147483648), 2147483647)), [], 0)]
def z_Kk98 : z_Kc := (183, 3, z_Ke98, [], z_Kx98, none)
def z_Kd98 : List z_ce := [(3, z_Ke98, [], [(0, 2, 0), (0, 0, 0), (0, 0, 0)]),
  (3, ((183, 10, [(0, .inr (.inr (false, [29]))), (1, .inl (0, 0, 0, (-2147483648), 2147483647)), (2, .inr (.inr (false, [29]))), (3, .inl (0, 0, 0, 6, 6)), (4, .inl (1, 0, 0, 0, 6))], [], 0, 0), [], z_H0c, 2, [], 900000), [(1, (0, 0, 4))], [(0, 1, 0), (1, 1, 6), (0, 1, 0)])]
theorem z_Kt98 : (z_Kd98.all fun C => z_cok3 (z_G []) [] [] z_Tg0 12 1 ([z_Kk47]) (z_QX (z_lbk z_Kk98.2.2.1 z_Kk98.2.2.2.1) 1 900000 [] z_Kk98.2.2.2.2.1) (z_atl [(183, 10)]) [] z_Kd98 30000 C) = true := by decide +kernel
theorem z_Kn98 {xs : List Int32} : z_cn (z_G xs) 12 z_J z_Kk98 := z_mkN (n := 1) (W := []) (D := []) z_Kk98 z_Kd98 rfl (z_kc z_Kn47 z_kn) z_Kt98 rfl rfl rfl rfl
/-- C.count(I)I -/
def z_Ke99 : z_as_ := ((181, 0, [(0, .inr (.inr (false, [13]))), (1, .inl (0, 0, 0, (-2147483648), 2147483647))], [], 0, 0), [], z_H0c, 1, [], 900000)
def z_Kx99 : List z_Xe := [(some (.inl (0, 0, 0, (-2147483648), 2147483647)), [], 0)]
def z_Kk99 : z_Kc := (181, 5, z_Ke99, [], z_Kx99, none)
def z_Kd99 : List z_ce := [(5, z_Ke99, [], [(0, 1, 0)])]
theorem z_Kt99 : (z_Kd99.all fun C => z_cok3 (z_G []) [] [] z_Tg0 12 1 ([z_Kk95, z_Kk96, z_Kk97, z_Kk98]) (z_QX (z_lbk z_Kk99.2.2.1 z_Kk99.2.2.2.1) 1 900000 [] z_Kk99.2.2.2.2.1) (z_atl []) [] z_Kd99 30000 C) = true := by decide +kernel
theorem z_Kn99 {xs : List Int32} : z_cn (z_G xs) 12 z_J z_Kk99 := z_mkN (n := 1) (W := []) (D := []) z_Kk99 z_Kd99 rfl (z_kc z_Kn95 (z_kc z_Kn96 (z_kc z_Kn97 (z_kc z_Kn98 z_kn)))) z_Kt99 rfl rfl rfl rfl
/-- C.sort(II)I -/
def z_Ke100 : z_as_ := ((184, 0, [(0, .inr (.inr (false, [13]))), (1, .inl (0, 0, 0, (-2147483648), 2147483647)), (2, .inl (0, 0, 0, (-2147483648), 2147483647))], [], 0, 0), [], z_H0c, 1, [], 900000)
def z_Kx100 : List z_Xe := [(some (.inl (0, 0, 0, (-1), 99)), [], 0)]
def z_Kk100 : z_Kc := (184, 6, z_Ke100, [], z_Kx100, none)
def z_Et100 : z_ce := (6, ((184, 17, [(0, .inr (.inr (false, [13]))), (1, .inl (0, 0, 0, (-2147483648), 2147483647)), (2, .inl (0, 0, 0, (-2147483648), 2147483647))], [], 0, 0), [], z_H0c, 1, [], 900000), [], [])
def z_Kd100 : List z_ce := [(6, z_Ke100, [], [(0, 1, 0)])]
theorem z_Kt100 : (z_Kd100.all fun C => z_cok3 (z_G []) [] [] z_Tg0 12 1 ([]) (z_QX (z_lbk z_Kk100.2.2.1 z_Kk100.2.2.2.1) 1 900000 [] z_Kk100.2.2.2.2.1) (z_atl [(184, 17)]) [z_Et100] z_Kd100 30000 C) = true := by decide +kernel
theorem z_Kth100 {xs : List Int32} {N : List Int} {al : Nat → Option Nat} {l : z_L} {P : z_H} {d : Nat} (hd : 6 ≤ d) (hS : z_gs (z_strs (z_G xs)) N al z_Ke100 (184, 0, l, [], 0, 0) [] P) (hf : z_fr 12 al) (hj : z_J al P) : z_prm (z_G xs) z_J N al z_Kx100 d 184 l P ∨ z_thrAt xs d 184 17 al l P [] := z_hthr (W := []) (D := []) (E := z_Et100) z_Kk100 z_Kd100 rfl z_kn z_Kt100 rfl rfl rfl rfl rfl ⟨_, rfl⟩ hd hS hf hj
/-- C.price(II)I -/
def z_Ke101 : z_as_ := ((185, 0, [(0, .inr (.inr (false, [13]))), (1, .inl (0, 0, 0, (-2147483648), 2147483647)), (2, .inl (0, 0, 0, (-2147483648), 2147483647))], [], 0, 0), [], z_H0c, 1, [], 900000)
def z_Kx101 : List z_Xe := [(some (.inl (0, 0, 0, (-99999), 2147483647)), [(65, .inl (z_hg 65)), (68, .inl (z_hg 68)), (71, .inl (z_hg 71)), (74, .inl (z_hg 74)), (77, .inl (z_hg 77)), (78, .inl (z_hg 78))], 0)]
def z_Kk101 : z_Kc := (185, 10, z_Ke101, [], z_Kx101, none)
def z_Et101 : z_ce := (10, ((185, 27, [(0, .inr (.inr (false, [13]))), (1, .inl (0, 0, 0, (-2147483648), 2147483647)), (2, .inl (0, 0, 0, (-2147483648), 2147483647))], [], 0, 0), [], z_H0c, 1, [], 900000), [], [])
def z_Kd101 : List z_ce := [(10, z_Ke101, [], [(0, 1, 0)])]
theorem z_Kt101 : (z_Kd101.all fun C => z_cok3 (z_G []) [(65, none), (68, none), (71, none), (74, none), (77, none), (78, none)] [(65, none), (68, none), (71, none), (74, none), (77, none), (78, none)] z_Tg0 12 1 ([z_Kk1, z_Kk45]) (z_QX (z_lbk z_Kk101.2.2.1 z_Kk101.2.2.2.1) 1 900000 [(65, none), (68, none), (71, none), (74, none), (77, none), (78, none)] z_Kk101.2.2.2.2.1) (z_atl [(185, 27)]) [z_Et101] z_Kd101 30000 C) = true := by decide +kernel
theorem z_Kth101 {xs : List Int32} {N : List Int} {al : Nat → Option Nat} {l : z_L} {P : z_H} {d : Nat} (hd : 10 ≤ d) (hS : z_gs (z_strs (z_G xs)) N al z_Ke101 (185, 0, l, [], 0, 0) [] P) (hf : z_fr 12 al) (hj : z_J al P) : z_prm (z_G xs) z_J N al z_Kx101 d 185 l P ∨ z_thrAt xs d 185 27 al l P [(65, none), (68, none), (71, none), (74, none), (77, none), (78, none)] := z_hthr (W := [(65, none), (68, none), (71, none), (74, none), (77, none), (78, none)]) (D := [(65, none), (68, none), (71, none), (74, none), (77, none), (78, none)]) (E := z_Et101) z_Kk101 z_Kd101 rfl (z_kc z_Kn1 (z_kc z_Kn45 z_kn)) z_Kt101 rfl rfl rfl rfl rfl ⟨_, rfl⟩ hd hS hf hj
/-- C.row(I)J -/
def z_Ke102 : z_as_ := ((186, 0, [(0, .inr (.inr (false, [13]))), (1, .inl (0, 0, 0, (-2147483648), 2147483647))], [], 0, 0), [], z_H0c, 1, [], 900000)
def z_Kx102 : List z_Xe := [(some (.inr (.inl (0, 0, 0, (-9223372036854775808), 9223372036854775807))), [], 0)]
def z_Kk102 : z_Kc := (186, 5, z_Ke102, [], z_Kx102, none)
def z_Et102 : z_ce := (5, ((186, 15, [(0, .inr (.inr (false, [13]))), (1, .inl (0, 0, 0, (-2147483648), 2147483647))], [], 0, 0), [], z_H0c, 1, [], 900000), [], [])
def z_Kd102 : List z_ce := [(5, z_Ke102, [], [(0, 1, 0)])]
theorem z_Kt102 : (z_Kd102.all fun C => z_cok3 (z_G []) [] [] z_Tg0 12 1 ([]) (z_QX (z_lbk z_Kk102.2.2.1 z_Kk102.2.2.2.1) 1 900000 [] z_Kk102.2.2.2.2.1) (z_atl [(186, 15)]) [z_Et102] z_Kd102 30000 C) = true := by decide +kernel
theorem z_Kth102 {xs : List Int32} {N : List Int} {al : Nat → Option Nat} {l : z_L} {P : z_H} {d : Nat} (hd : 5 ≤ d) (hS : z_gs (z_strs (z_G xs)) N al z_Ke102 (186, 0, l, [], 0, 0) [] P) (hf : z_fr 12 al) (hj : z_J al P) : z_prm (z_G xs) z_J N al z_Kx102 d 186 l P ∨ z_thrAt xs d 186 15 al l P [] := z_hthr (W := []) (D := []) (E := z_Et102) z_Kk102 z_Kd102 rfl z_kn z_Kt102 rfl rfl rfl rfl rfl ⟨_, rfl⟩ hd hS hf hj
/-- CModel.sign(I)I -/
def z_Ke103 : z_as_ := ((188, 0, [(0, .inr (.inr (false, [90]))), (1, .inl (0, 0, 0, (-2147483648), 2147483647))], [], 0, 0), [], z_H0c, 1, [], 900000)
def z_Kx103 : List z_Xe := [(some (.inl (0, 0, 0, (-1), 80)), [(90, .inr [(11, .inl (0, 0, 0, 0, 80)), (14, .inl (0, 0, 0, 0, 1))]), (97, .inl (z_hg 97))], 0)]
def z_Kk103 : z_Kc := (188, 1, z_Ke103, [], z_Kx103, none)
def z_Kd103 : List z_ce := [(1, z_Ke103, [], [(0, 1, 0)])]
theorem z_Kt103 : (z_Kd103.all fun C => z_cok3 (z_G []) [(90, some [11, 14]), (97, none)] [(90, some [11, 14]), (97, none)] z_Tg0 12 1 ([]) (z_QX (z_lbk z_Kk103.2.2.1 z_Kk103.2.2.2.1) 1 900000 [(90, some [11, 14]), (97, none)] z_Kk103.2.2.2.2.1) (z_atl []) [] z_Kd103 30000 C) = true := by decide +kernel
theorem z_Kn103 {xs : List Int32} : z_cn (z_G xs) 12 z_J z_Kk103 := z_mkN (n := 1) (W := [(90, some [11, 14]), (97, none)]) (D := [(90, some [11, 14]), (97, none)]) z_Kk103 z_Kd103 rfl z_kn z_Kt103 rfl rfl rfl rfl
/-- CModel.end(I)Z -/
def z_Ke104 : z_as_ := ((189, 0, [(0, .inr (.inr (false, [90]))), (1, .inl (0, 0, 0, (-2147483648), 2147483647))], [], 0, 0), [], z_H0c, 1, [], 900000)
def z_Kx104 : List z_Xe := [(some (.inl (0, 0, 0, 0, 1)), [(90, .inr [(11, .inl (0, 0, 0, 0, 80)), (14, .inl (0, 0, 0, 0, 1))])], 0)]
def z_Kk104 : z_Kc := (189, 2, z_Ke104, [], z_Kx104, none)
def z_Kd104 : List z_ce := [(2, z_Ke104, [], [(0, 1, 0)])]
theorem z_Kt104 : (z_Kd104.all fun C => z_cok3 (z_G []) [(90, some [11, 14])] [(90, some [11, 14])] z_Tg0 12 1 ([]) (z_QX (z_lbk z_Kk104.2.2.1 z_Kk104.2.2.2.1) 1 900000 [(90, some [11, 14])] z_Kk104.2.2.2.2.1) (z_atl []) [] z_Kd104 30000 C) = true := by decide +kernel
theorem z_Kn104 {xs : List Int32} : z_cn (z_G xs) 12 z_J z_Kk104 := z_mkN (n := 1) (W := [(90, some [11, 14])]) (D := [(90, some [11, 14])]) z_Kk104 z_Kd104 rfl z_kn z_Kt104 rfl rfl rfl rfl
/-- CModel.passes(C)Z -/
def z_Ke105 : z_as_ := ((198, 0, [(0, .inr (.inr (false, [90]))), (1, .inl (0, 0, 0, 42, 42))], [], 0, 0), [], (z_hcs z_H0c [(90, (10, (true, true), none, [.inl (0, 0, 0, 0, 10), .inr (.inr (false, [91])), .inr (.inr (false, [92])), .inr (.inr (false, [93])), .inr (.inr (false, [94])), .inl (0, 0, 0, 0, 24), .inr (.inr (false, [95])), .inr (.inr (false, [96])), .inl (0, 0, 0, (-2147483648), 2147483647), .inl (0, 0, 0, (-2147483648), 2147483647), .inr (.inr (false, [97])), .inl (0, 0, 0, 0, 80), .inr (.inr (false, [98])), .inl (0, 0, 0, 0, 4), .inl (0, 0, 0, 0, 1), .inr (.inr (false, [97])), .inl (0, 0, 0, 1, 80), .inl (0, 0, 0, 76, 76), .inl (1, 0, 0, 0, 76), .inl (0, 0, 0, (-1), (-1)), .inr (.inr (false, [99])), .inl (0, 0, 0, 0, 10), .inr (.inr (false, [100])), .inr (.inr (false, [101])), .inr (.inr (false, [102])), .inr (.inr (false, [103])), .inl (0, 0, 0, (-2147483648), 2147483647), .inr (.inr (false, [104])), .inr (.inr (false, [106])), .inl (0, 0, 0, 0, 1), .inr (.inr (true, [95, 111])), .inl (0, 0, 0, (-1), 50), .inl (0, 0, 0, (-1), 9), .inl (0, 0, 0, 0, 9), .inl (0, 0, 0, (-1), 2), .inl (0, 0, 0, (-2147483648), 2147483647), .inl (0, 0, 0, (-2147483648), 2147483647), .inl (0, 0, 0, (-2147483648), 2147483647), .inr (.inr (false, [107])), .inr (.inr (false, [108])), .inr (.inr (false, [109])), .inr (.inr (false, [110])), .inr (.inr (false, [111])), .inr (.inr (false, [112])), .inl (0, 0, 0, 0, 7), .inr (.inr (false, [113])), .inr (.inr (false, [114])), .inr (.inr (false, [115])), .inr (.inr (false, [116])), .inr (.inr (false, [117])), .inr (.inr (false, [118])), .inr (.inr (false, [119])), .inr (.inr (false, [120])), .inr (.inr (false, [121])), .inr (.inr (false, [122])), .inr (.inr (false, [123]))]))]), 2, [], 900000)
def z_Kx105 : List z_Xe := [(some (.inl (0, 0, 0, 0, 0)), [(90, .inr [(18, .inl (1, 0, 0, 0, 76))])], 0), (some (.inl (0, 0, 0, 1, 1)), [(90, .inr [(18, .inl (1, 1, 1, 1, 76))])], 0)]
def z_Kk105 : z_Kc := (198, 2, z_Ke105, [(1, (1, 90, 18))], z_Kx105, none)
def z_Kd105 : List z_ce := [(2, z_Ke105, [(1, (1, 90, 18))], [(0, 1, 0)])]
theorem z_Kt105 : (z_Kd105.all fun C => z_cok3 (z_G []) [(90, some [18])] [(90, some [18])] z_Tg0 12 2 ([]) (z_QX (z_lbk z_Kk105.2.2.1 z_Kk105.2.2.2.1) 2 900000 [(90, some [18])] z_Kk105.2.2.2.2.1) (z_atl []) [] z_Kd105 30000 C) = true := by decide +kernel
theorem z_Kn105 {xs : List Int32} : z_cn (z_G xs) 12 z_J z_Kk105 := z_mkN (n := 2) (W := [(90, some [18])]) (D := [(90, some [18])]) z_Kk105 z_Kd105 rfl z_kn z_Kt105 rfl rfl rfl rfl
/-- CModel.need(C)V -/
def z_Ke106 : z_as_ := ((197, 0, [(0, .inr (.inr (false, [90]))), (1, .inl (0, 0, 0, 42, 42))], [], 0, 0), [], (z_hcs z_H0c [(90, (10, (true, true), none, [.inl (0, 0, 0, 0, 10), .inr (.inr (false, [91])), .inr (.inr (false, [92])), .inr (.inr (false, [93])), .inr (.inr (false, [94])), .inl (0, 0, 0, 0, 24), .inr (.inr (false, [95])), .inr (.inr (false, [96])), .inl (0, 0, 0, (-2147483648), 2147483647), .inl (0, 0, 0, (-2147483648), 2147483647), .inr (.inr (false, [97])), .inl (0, 0, 0, 0, 80), .inr (.inr (false, [98])), .inl (0, 0, 0, 0, 4), .inl (0, 0, 0, 0, 1), .inr (.inr (false, [97])), .inl (0, 0, 0, 1, 80), .inl (0, 0, 0, 76, 76), .inl (1, 0, 0, 0, 76), .inl (0, 0, 0, (-1), (-1)), .inr (.inr (false, [99])), .inl (0, 0, 0, 0, 10), .inr (.inr (false, [100])), .inr (.inr (false, [101])), .inr (.inr (false, [102])), .inr (.inr (false, [103])), .inl (0, 0, 0, (-2147483648), 2147483647), .inr (.inr (false, [104])), .inr (.inr (false, [106])), .inl (0, 0, 0, 0, 1), .inr (.inr (true, [95, 111])), .inl (0, 0, 0, (-1), 50), .inl (0, 0, 0, (-1), 9), .inl (0, 0, 0, 0, 9), .inl (0, 0, 0, (-1), 2), .inl (0, 0, 0, (-2147483648), 2147483647), .inl (0, 0, 0, (-2147483648), 2147483647), .inl (0, 0, 0, (-2147483648), 2147483647), .inr (.inr (false, [107])), .inr (.inr (false, [108])), .inr (.inr (false, [109])), .inr (.inr (false, [110])), .inr (.inr (false, [111])), .inr (.inr (false, [112])), .inl (0, 0, 0, 0, 7), .inr (.inr (false, [113])), .inr (.inr (false, [114])), .inr (.inr (false, [115])), .inr (.inr (false, [116])), .inr (.inr (false, [117])), .inr (.inr (false, [118])), .inr (.inr (false, [119])), .inr (.inr (false, [120])), .inr (.inr (false, [121])), .inr (.inr (false, [122])), .inr (.inr (false, [123]))]))]), 2, [], 900000)
def z_Kx106 : List z_Xe := [(none, [(90, .inr [(18, .inl (1, 0, 0, 0, 76)), (19, .inl (1, 0, 0, 0, 76))])], 0), (none, [(90, .inr [(18, .inl (1, 1, 1, 1, 76)), (19, .inl (0, 0, 0, (-1), (-1)))])], 0)]
def z_Kk106 : z_Kc := (197, 4, z_Ke106, [(1, (1, 90, 18))], z_Kx106, none)
def z_Kd106 : List z_ce := [(4, z_Ke106, [(1, (1, 90, 18))], [(0, 1, 0)])]
theorem z_Kt106 : (z_Kd106.all fun C => z_cok3 (z_G []) [(90, some [18, 19])] [(90, some [18, 19])] z_Tg0 12 2 ([z_Kk105]) (z_QX (z_lbk z_Kk106.2.2.1 z_Kk106.2.2.2.1) 2 900000 [(90, some [18, 19])] z_Kk106.2.2.2.2.1) (z_atl []) [] z_Kd106 30000 C) = true := by decide +kernel
theorem z_Kn106 {xs : List Int32} : z_cn (z_G xs) 12 z_J z_Kk106 := z_mkN (n := 2) (W := [(90, some [18, 19])]) (D := [(90, some [18, 19])]) z_Kk106 z_Kd106 rfl (z_kc z_Kn105 z_kn) z_Kt106 rfl rfl rfl rfl
/-- CModel.number(III)I -/
def z_Ke107 : z_as_ := ((195, 0, [(0, .inr (.inr (false, [90]))), (1, .inl (0, 0, 0, 2, 2)), (2, .inl (0, 0, 0, 1, 1)), (3, .inl (0, 0, 0, 99, 99))], [], 0, 0), [], (z_hcs z_H0c [(90, (10, (true, true), none, [.inl (0, 0, 0, 0, 10), .inr (.inr (false, [91])), .inr (.inr (false, [92])), .inr (.inr (false, [93])), .inr (.inr (false, [94])), .inl (0, 0, 0, 0, 24), .inr (.inr (false, [95])), .inr (.inr (false, [96])), .inl (0, 0, 0, (-2147483648), 2147483647), .inl (0, 0, 0, (-2147483648), 2147483647), .inr (.inr (false, [97])), .inl (0, 0, 0, 0, 80), .inr (.inr (false, [98])), .inl (0, 0, 0, 0, 4), .inl (0, 0, 0, 0, 1), .inr (.inr (false, [97])), .inl (0, 0, 0, 1, 80), .inl (0, 0, 0, 76, 76), .inl (1, 0, 0, 0, 76), .inl (0, 0, 0, (-1), (-1)), .inr (.inr (false, [99])), .inl (0, 0, 0, 0, 10), .inr (.inr (false, [100])), .inr (.inr (false, [101])), .inr (.inr (false, [102])), .inr (.inr (false, [103])), .inl (0, 0, 0, (-2147483648), 2147483647), .inr (.inr (false, [104])), .inr (.inr (false, [106])), .inl (0, 0, 0, 0, 1), .inr (.inr (true, [95, 111])), .inl (0, 0, 0, (-1), 50), .inl (0, 0, 0, (-1), 9), .inl (0, 0, 0, 0, 9), .inl (0, 0, 0, (-1), 2), .inl (0, 0, 0, (-2147483648), 2147483647), .inl (0, 0, 0, (-2147483648), 2147483647), .inl (0, 0, 0, (-2147483648), 2147483647), .inr (.inr (false, [107])), .inr (.inr (false, [108])), .inr (.inr (false, [109])), .inr (.inr (false, [110])), .inr (.inr (false, [111])), .inr (.inr (false, [112])), .inl (0, 0, 0, 0, 7), .inr (.inr (false, [113])), .inr (.inr (false, [114])), .inr (.inr (false, [115])), .inr (.inr (false, [116])), .inr (.inr (false, [117])), .inr (.inr (false, [118])), .inr (.inr (false, [119])), .inr (.inr (false, [120])), .inr (.inr (false, [121])), .inr (.inr (false, [122])), .inr (.inr (false, [123]))]))]), 2, [], 900000)
def z_Kx107 : List z_Xe := [(some (.inl (0, 0, 0, 0, 0)), [(90, .inr [(18, .inl (1, 0, 2, 0, 76)), (19, .inl (0, 0, 0, 0, 76))])], 0), (some (.inl (0, 0, 0, 1, 99)), [(90, .inr [(18, .inl (1, 1, 2, 1, 76)), (19, .inl (0, 0, 0, (-1), (-1)))])], 0)]
def z_Kk107 : z_Kc := (195, 3, z_Ke107, [(1, (1, 90, 18))], z_Kx107, none)
def z_Kd107 : List z_ce := [(3, z_Ke107, [(1, (1, 90, 18))], [(0, 1, 0)])]
theorem z_Kt107 : (z_Kd107.all fun C => z_cok3 (z_G []) [(90, some [18, 19])] [(90, some [18, 19])] z_Tg0 12 2 ([]) (z_QX (z_lbk z_Kk107.2.2.1 z_Kk107.2.2.2.1) 2 900000 [(90, some [18, 19])] z_Kk107.2.2.2.2.1) (z_atl []) [] z_Kd107 30000 C) = true := by decide +kernel
theorem z_Kn107 {xs : List Int32} : z_cn (z_G xs) 12 z_J z_Kk107 := z_mkN (n := 2) (W := [(90, some [18, 19])]) (D := [(90, some [18, 19])]) z_Kk107 z_Kd107 rfl z_kn z_Kt107 rfl rfl rfl rfl
/-- CModel.number(III)I -/
def z_Ke108 : z_as_ := ((195, 0, [(0, .inr (.inr (false, [90]))), (1, .inl (0, 0, 0, 2, 2)), (2, .inl (0, 0, 0, 2, 2)), (3, .inl (0, 0, 0, 24, 24))], [], 0, 0), [], (z_hcs z_H0c [(90, (10, (true, true), none, [.inl (0, 0, 0, 0, 10), .inr (.inr (false, [91])), .inr (.inr (false, [92])), .inr (.inr (false, [93])), .inr (.inr (false, [94])), .inl (0, 0, 0, 0, 24), .inr (.inr (false, [95])), .inr (.inr (false, [96])), .inl (0, 0, 0, (-2147483648), 2147483647), .inl (0, 0, 0, (-2147483648), 2147483647), .inr (.inr (false, [97])), .inl (0, 0, 0, 0, 80), .inr (.inr (false, [98])), .inl (0, 0, 0, 0, 4), .inl (0, 0, 0, 0, 1), .inr (.inr (false, [97])), .inl (0, 0, 0, 1, 80), .inl (0, 0, 0, 76, 76), .inl (1, 0, 0, 0, 76), .inl (0, 0, 0, (-1), (-1)), .inr (.inr (false, [99])), .inl (0, 0, 0, 0, 10), .inr (.inr (false, [100])), .inr (.inr (false, [101])), .inr (.inr (false, [102])), .inr (.inr (false, [103])), .inl (0, 0, 0, (-2147483648), 2147483647), .inr (.inr (false, [104])), .inr (.inr (false, [106])), .inl (0, 0, 0, 0, 1), .inr (.inr (true, [95, 111])), .inl (0, 0, 0, (-1), 50), .inl (0, 0, 0, (-1), 9), .inl (0, 0, 0, 0, 9), .inl (0, 0, 0, (-1), 2), .inl (0, 0, 0, (-2147483648), 2147483647), .inl (0, 0, 0, (-2147483648), 2147483647), .inl (0, 0, 0, (-2147483648), 2147483647), .inr (.inr (false, [107])), .inr (.inr (false, [108])), .inr (.inr (false, [109])), .inr (.inr (false, [110])), .inr (.inr (false, [111])), .inr (.inr (false, [112])), .inl (0, 0, 0, 0, 7), .inr (.inr (false, [113])), .inr (.inr (false, [114])), .inr (.inr (false, [115])), .inr (.inr (false, [116])), .inr (.inr (false, [117])), .inr (.inr (false, [118])), .inr (.inr (false, [119])), .inr (.inr (false, [120])), .inr (.inr (false, [121])), .inr (.inr (false, [122])), .inr (.inr (false, [123]))]))]), 2, [], 900000)
def z_Kx108 : List z_Xe := [(some (.inl (0, 0, 0, 0, 0)), [(90, .inr [(18, .inl (1, 0, 2, 0, 76)), (19, .inl (0, 0, 0, 0, 76))])], 0), (some (.inl (0, 0, 0, 2, 24)), [(90, .inr [(18, .inl (1, 1, 2, 1, 76)), (19, .inl (0, 0, 0, (-1), (-1)))])], 0)]
def z_Kk108 : z_Kc := (195, 3, z_Ke108, [(1, (1, 90, 18))], z_Kx108, none)
def z_Kd108 : List z_ce := [(3, z_Ke108, [(1, (1, 90, 18))], [(0, 1, 0)])]
theorem z_Kt108 : (z_Kd108.all fun C => z_cok3 (z_G []) [(90, some [18, 19])] [(90, some [18, 19])] z_Tg0 12 2 ([]) (z_QX (z_lbk z_Kk108.2.2.1 z_Kk108.2.2.2.1) 2 900000 [(90, some [18, 19])] z_Kk108.2.2.2.2.1) (z_atl []) [] z_Kd108 30000 C) = true := by decide +kernel
theorem z_Kn108 {xs : List Int32} : z_cn (z_G xs) 12 z_J z_Kk108 := z_mkN (n := 2) (W := [(90, some [18, 19])]) (D := [(90, some [18, 19])]) z_Kk108 z_Kd108 rfl z_kn z_Kt108 rfl rfl rfl rfl
end ZCN67
