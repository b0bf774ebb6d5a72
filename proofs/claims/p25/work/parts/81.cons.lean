section ZCN81
/-- CModel.cornOf(I)I -/
def z_Ke300 : z_as_ := ((282, 0, [(0, .inr (.inr (false, [90]))), (1, .inl (0, 0, 0, 0, 5))], [], 0, 0), [], z_H0c, 1, [], 900000)
def z_Kx300 : List z_Xe := [(some (.inl (0, 0, 0, (-2147483648), 2147483647)), [], 0)]
def z_Kk300 : z_Kc := (282, 2, z_Ke300, [], z_Kx300, none)
def z_Kd300 : List z_ce := [(2, z_Ke300, [], [(0, 2, 0), (0, 0, 0), (0, 0, 0)]),
  (2, ((282, 4, [(0, .inr (.inr (false, [90]))), (1, .inl (0, 0, 0, 0, 5)), (2, .inl (0, 0, 0, (-2147483648), 2147483647)), (3, .inl (1, 0, 0, 0, 10))], [], 0, 0), [], z_H0c, 2, [], 900000), [(1, (0, 0, 3))], [(0, 1, 0), (1, 1, 10), (0, 1, 0)])]
theorem z_Kt300 : (z_Kd300.all fun C => z_cok3 (z_G []) [] [] z_Tg0 12 1 ([]) (z_QX (z_lbk z_Kk300.2.2.1 z_Kk300.2.2.2.1) 1 900000 [] z_Kk300.2.2.2.2.1) (z_atl [(282, 4)]) [] z_Kd300 30000 C) = true := by decide +kernel
theorem z_Kn300 {xs : List Int32} : z_cn (z_G xs) 12 z_J z_Kk300 := z_mkN (n := 1) (W := []) (D := []) z_Kk300 z_Kd300 rfl z_kn z_Kt300 rfl rfl rfl rfl
/-- CModel.ways(II)J -/
def z_Ke301 : z_as_ := ((283, 0, [(0, .inl (0, 0, 0, (-2147483648), 2147483647)), (1, .inl (0, 0, 0, 1, 1))], [], 0, 0), [], z_H0c, 1, [], 900000)
def z_Kx301 : List z_Xe := [(some (.inr (.inl (0, 0, 0, 0, 2147483647))), [], 0)]
def z_Kk301 : z_Kc := (283, 2, z_Ke301, [], z_Kx301, none)
def z_Kd301 : List z_ce := [(2, z_Ke301, [], [(0, 1, 0)])]
theorem z_Kt301 : (z_Kd301.all fun C => z_cok3 (z_G []) [] [] z_Tg0 12 1 ([]) (z_QX (z_lbk z_Kk301.2.2.1 z_Kk301.2.2.2.1) 1 900000 [] z_Kk301.2.2.2.2.1) (z_atl []) [] z_Kd301 30000 C) = true := by decide +kernel
theorem z_Kn301 {xs : List Int32} : z_cn (z_G xs) 12 z_J z_Kk301 := z_mkN (n := 1) (W := []) (D := []) z_Kk301 z_Kd301 rfl z_kn z_Kt301 rfl rfl rfl rfl
/-- CModel.ways(II)J -/
def z_Ke302 : z_as_ := ((283, 0, [(0, .inl (0, 0, 0, 1, 2000)), (1, .inl (0, 0, 0, 1, 1))], [], 0, 0), [], z_H0c, 1, [], 900000)
def z_Kx302 : List z_Xe := [(some (.inr (.inl (0, 0, 0, 1, 2000))), [], 0)]
def z_Kk302 : z_Kc := (283, 2, z_Ke302, [], z_Kx302, none)
def z_Kd302 : List z_ce := [(2, z_Ke302, [], [(0, 1, 0)])]
theorem z_Kt302 : (z_Kd302.all fun C => z_cok3 (z_G []) [] [] z_Tg0 12 1 ([]) (z_QX (z_lbk z_Kk302.2.2.1 z_Kk302.2.2.2.1) 1 900000 [] z_Kk302.2.2.2.2.1) (z_atl []) [] z_Kd302 30000 C) = true := by decide +kernel
theorem z_Kn302 {xs : List Int32} : z_cn (z_G xs) 12 z_J z_Kk302 := z_mkN (n := 1) (W := []) (D := []) z_Kk302 z_Kd302 rfl z_kn z_Kt302 rfl rfl rfl rfl
/-- CModel.ways(II)J -/
def z_Ke303 : z_as_ := ((283, 0, [(0, .inl (0, 0, 0, (-2147483648), 2147483647)), (1, .inl (0, 0, 0, 2, 2))], [], 0, 0), [], z_H0c, 1, [], 900000)
def z_Kx303 : List z_Xe := [(some (.inr (.inl (0, 0, 0, 0, 4611686011984936962))), [], 0)]
def z_Kk303 : z_Kc := (283, 2, z_Ke303, [], z_Kx303, none)
def z_Kd303 : List z_ce := [(2, z_Ke303, [], [(0, 1, 0)])]
theorem z_Kt303 : (z_Kd303.all fun C => z_cok3 (z_G []) [] [] z_Tg0 12 1 ([]) (z_QX (z_lbk z_Kk303.2.2.1 z_Kk303.2.2.2.1) 1 900000 [] z_Kk303.2.2.2.2.1) (z_atl []) [] z_Kd303 30000 C) = true := by decide +kernel
theorem z_Kn303 {xs : List Int32} : z_cn (z_G xs) 12 z_J z_Kk303 := z_mkN (n := 1) (W := []) (D := []) z_Kk303 z_Kd303 rfl z_kn z_Kt303 rfl rfl rfl rfl
/-- CModel.ways(II)J -/
def z_Ke304 : z_as_ := ((283, 0, [(0, .inl (0, 0, 0, 2, 2000)), (1, .inl (0, 0, 0, 2, 2))], [], 0, 0), [], z_H0c, 1, [], 900000)
def z_Kx304 : List z_Xe := [(some (.inr (.inl (0, 0, 0, 2, 3998000))), [], 0)]
def z_Kk304 : z_Kc := (283, 2, z_Ke304, [], z_Kx304, none)
def z_Kd304 : List z_ce := [(2, z_Ke304, [], [(0, 1, 0)])]
theorem z_Kt304 : (z_Kd304.all fun C => z_cok3 (z_G []) [] [] z_Tg0 12 1 ([]) (z_QX (z_lbk z_Kk304.2.2.1 z_Kk304.2.2.2.1) 1 900000 [] z_Kk304.2.2.2.2.1) (z_atl []) [] z_Kd304 30000 C) = true := by decide +kernel
theorem z_Kn304 {xs : List Int32} : z_cn (z_G xs) 12 z_J z_Kk304 := z_mkN (n := 1) (W := []) (D := []) z_Kk304 z_Kd304 rfl z_kn z_Kt304 rfl rfl rfl rfl
/-- CModel.ways(II)J -/
def z_Ke305 : z_as_ := ((283, 0, [(0, .inl (0, 0, 0, (-2147483648), 2147483647)), (1, .inl (0, 0, 0, 3, 3))], [], 0, 0), [], z_H0c, 1, [], 900000)
def z_Kx305 : List z_Xe := [(some (.inr (.inl (0, 0, 0, (-9223372036854775808), 9223372036854775807))), [], 0)]
def z_Kk305 : z_Kc := (283, 2, z_Ke305, [], z_Kx305, none)
def z_Kd305 : List z_ce := [(2, z_Ke305, [], [(0, 1, 0)])]
theorem z_Kt305 : (z_Kd305.all fun C => z_cok3 (z_G []) [] [] z_Tg0 12 1 ([]) (z_QX (z_lbk z_Kk305.2.2.1 z_Kk305.2.2.2.1) 1 900000 [] z_Kk305.2.2.2.2.1) (z_atl []) [] z_Kd305 30000 C) = true := by decide +kernel
theorem z_Kn305 {xs : List Int32} : z_cn (z_G xs) 12 z_J z_Kk305 := z_mkN (n := 1) (W := []) (D := []) z_Kk305 z_Kd305 rfl z_kn z_Kt305 rfl rfl rfl rfl
/-- CModel.ways(II)J -/
def z_Ke306 : z_as_ := ((283, 0, [(0, .inl (0, 0, 0, 3, 2000)), (1, .inl (0, 0, 0, 3, 3))], [], 0, 0), [], z_H0c, 1, [], 900000)
def z_Kx306 : List z_Xe := [(some (.inr (.inl (0, 0, 0, 6, 7988004000))), [], 0)]
def z_Kk306 : z_Kc := (283, 2, z_Ke306, [], z_Kx306, none)
def z_Kd306 : List z_ce := [(2, z_Ke306, [], [(0, 1, 0)])]
theorem z_Kt306 : (z_Kd306.all fun C => z_cok3 (z_G []) [] [] z_Tg0 12 1 ([]) (z_QX (z_lbk z_Kk306.2.2.1 z_Kk306.2.2.2.1) 1 900000 [] z_Kk306.2.2.2.2.1) (z_atl []) [] z_Kd306 30000 C) = true := by decide +kernel
theorem z_Kn306 {xs : List Int32} : z_cn (z_G xs) 12 z_J z_Kk306 := z_mkN (n := 1) (W := []) (D := []) z_Kk306 z_Kd306 rfl z_kn z_Kt306 rfl rfl rfl rfl
/-- CModel.ways(II)J -/
def z_Ke307 : z_as_ := ((283, 0, [(0, .inl (0, 0, 0, (-2147483648), 2147483647)), (1, .inl (0, 0, 0, 4, 4))], [], 0, 0), [], z_H0c, 1, [], 900000)
def z_Kx307 : List z_Xe := [(some (.inr (.inl (0, 0, 0, (-9223372036854775808), 9223372036854775807))), [], 0)]
def z_Kk307 : z_Kc := (283, 2, z_Ke307, [], z_Kx307, none)
def z_Kd307 : List z_ce := [(2, z_Ke307, [], [(0, 1, 0)])]
theorem z_Kt307 : (z_Kd307.all fun C => z_cok3 (z_G []) [] [] z_Tg0 12 1 ([]) (z_QX (z_lbk z_Kk307.2.2.1 z_Kk307.2.2.2.1) 1 900000 [] z_Kk307.2.2.2.2.1) (z_atl []) [] z_Kd307 30000 C) = true := by decide +kernel
theorem z_Kn307 {xs : List Int32} : z_cn (z_G xs) 12 z_J z_Kk307 := z_mkN (n := 1) (W := []) (D := []) z_Kk307 z_Kd307 rfl z_kn z_Kt307 rfl rfl rfl rfl
/-- CModel.ways(II)J -/
def z_Ke308 : z_as_ := ((283, 0, [(0, .inl (0, 0, 0, 4, 2000)), (1, .inl (0, 0, 0, 4, 4))], [], 0, 0), [], z_H0c, 1, [], 900000)
def z_Kx308 : List z_Xe := [(some (.inr (.inl (0, 0, 0, 24, 15952043988000))), [], 0)]
def z_Kk308 : z_Kc := (283, 2, z_Ke308, [], z_Kx308, none)
def z_Kd308 : List z_ce := [(2, z_Ke308, [], [(0, 1, 0)])]
theorem z_Kt308 : (z_Kd308.all fun C => z_cok3 (z_G []) [] [] z_Tg0 12 1 ([]) (z_QX (z_lbk z_Kk308.2.2.1 z_Kk308.2.2.2.1) 1 900000 [] z_Kk308.2.2.2.2.1) (z_atl []) [] z_Kd308 30000 C) = true := by decide +kernel
theorem z_Kn308 {xs : List Int32} : z_cn (z_G xs) 12 z_J z_Kk308 := z_mkN (n := 1) (W := []) (D := []) z_Kk308 z_Kd308 rfl z_kn z_Kt308 rfl rfl rfl rfl
/-- CModel.sample(II)I -/
def z_Ke309 : z_as_ := ((281, 0, [(0, .inr (.inr (false, [90]))), (1, .inl (0, 0, 0, (-2147483648), 2147483647)), (2, .inl (0, 0, 0, (-2147483648), 2147483647))], [], 0, 0), [], z_H0c, 1, [], 900000)
def z_Kx309 : List z_Xe := [(some (.inl (0, 0, 0, (-3), 0)), [(90, .inr [(13, .inl (0, 0, 0, 0, 4)), (14, .inl (0, 0, 0, 0, 1))]), (98, .inl (z_hg 98))], 0)]
def z_Kk309 : z_Kc := (281, 213, z_Ke309, [], z_Kx309, none)
def z_Kd309 : List z_ce := [(213, z_Ke309, [], [(0, 1, 0)])]
theorem z_Kt309 : (z_Kd309.all fun C => z_cok3 (z_G []) [(90, some [13, 14]), (98, none)] [(90, some [13, 14]), (98, none)] z_Tg0 12 1 ([z_Kk302, z_Kk304, z_Kk306, z_Kk308, z_Kk249, z_Kk300, z_Kk301, z_Kk303, z_Kk305, z_Kk307, z_Kkh_common]) (z_QX (z_lbk z_Kk309.2.2.1 z_Kk309.2.2.2.1) 1 900000 [(90, some [13, 14]), (98, none)] z_Kk309.2.2.2.2.1) (z_atl []) [] z_Kd309 30000 C) = true := by decide +kernel
theorem z_Kn309 {xs : List Int32} : z_cn (z_G xs) 12 z_J z_Kk309 := z_mkN (n := 1) (W := [(90, some [13, 14]), (98, none)]) (D := [(90, some [13, 14]), (98, none)]) z_Kk309 z_Kd309 rfl (z_kc z_Kn302 (z_kc z_Kn304 (z_kc z_Kn306 (z_kc z_Kn308 (z_kc z_Kn249 (z_kc z_Kn300 (z_kc z_Kn301 (z_kc z_Kn303 (z_kc z_Kn305 (z_kc z_Kn307 (z_kc z_Knh_common z_kn))))))))))) z_Kt309 rfl rfl rfl rfl
/-- CModel.ways(II)J -/
def z_Ke310 : z_as_ := ((283, 0, [(0, .inl (0, 0, 0, (-2147483648), 2147483647)), (1, .inl (0, 0, 0, 1, 4))], [], 0, 0), [], z_H0c, 1, [], 900000)
def z_Kx310 : List z_Xe := [(some (.inr (.inl (0, 0, 0, (-9223372036854775808), 9223372036854775807))), [], 0)]
def z_Kk310 : z_Kc := (283, 2, z_Ke310, [], z_Kx310, none)
def z_Kd310 : List z_ce := [(2, z_Ke310, [], [(0, 1, 0)])]
theorem z_Kt310 : (z_Kd310.all fun C => z_cok3 (z_G []) [] [] z_Tg0 12 1 ([]) (z_QX (z_lbk z_Kk310.2.2.1 z_Kk310.2.2.2.1) 1 900000 [] z_Kk310.2.2.2.2.1) (z_atl []) [] z_Kd310 30000 C) = true := by decide +kernel
theorem z_Kn310 {xs : List Int32} : z_cn (z_G xs) 12 z_J z_Kk310 := z_mkN (n := 1) (W := []) (D := []) z_Kk310 z_Kd310 rfl z_kn z_Kt310 rfl rfl rfl rfl
/-- CModel.grains(II)I -/
def z_Ke311 : z_as_ := ((284, 0, [(0, .inr (.inr (false, [90]))), (1, .inl (0, 0, 0, (-2147483648), 2147483647)), (2, .inl (0, 0, 0, (-2147483648), 2147483647))], [], 0, 0), [], z_H0c, 1, [], 900000)
def z_Kx311 : List z_Xe := [(some (.inl (0, 0, 0, (-3), 4)), [(90, .inr [(14, .inl (0, 0, 0, 0, 1))])], 0)]
def z_Kk311 : z_Kc := (284, 4, z_Ke311, [], z_Kx311, none)
def z_Kd311 : List z_ce := [(4, z_Ke311, [], [(0, 2, 0), (0, 0, 0), (0, 0, 0)]),
  (4, ((284, 43, [(0, .inr (.inr (false, [90]))), (1, .inl (0, 0, 0, 0, 5)), (2, .inl (0, 0, 0, 1, 100)), (3, .inl (0, 0, 0, (-2147483648), 2000)), (4, .inl (1, 0, 0, 1, 5))], [], 0, 0), [], (z_hcs z_H0c [(90, (10, (true, true), none, [.inl (0, 0, 0, 0, 10), .inr (.inr (false, [91])), .inr (.inr (false, [92])), .inr (.inr (false, [93])), .inr (.inr (false, [94])), .inl (0, 0, 0, 0, 24), .inr (.inr (false, [95])), .inr (.inr (false, [96])), .inl (0, 0, 0, (-2147483648), 2147483647), .inl (0, 0, 0, (-2147483648), 2147483647), .inr (.inr (false, [97])), .inl (0, 0, 0, 0, 80), .inr (.inr (false, [98])), .inl (0, 0, 0, 0, 4), .inl (0, 0, 0, 0, 0), .inr (.inr (true, [97, 105])), .inl (0, 0, 0, 0, 2147483647), .inl (0, 0, 0, 0, 76), .inl (0, 0, 0, 0, 76), .inl (0, 0, 0, (-1), 80), .inr (.inr (false, [99])), .inl (0, 0, 0, 0, 10), .inr (.inr (false, [100])), .inr (.inr (false, [101])), .inr (.inr (false, [102])), .inr (.inr (false, [103])), .inl (0, 0, 0, (-2147483648), 2147483647), .inr (.inr (false, [104])), .inr (.inr (false, [106])), .inl (0, 0, 0, 0, 1), .inr (.inr (true, [95, 111])), .inl (0, 0, 0, (-1), 50), .inl (0, 0, 0, (-1), 9), .inl (0, 0, 0, 0, 9), .inl (0, 0, 0, (-1), 2), .inl (0, 0, 0, (-2147483648), 2147483647), .inl (0, 0, 0, (-2147483648), 2147483647), .inl (0, 0, 0, (-2147483648), 2147483647), .inr (.inr (false, [107])), .inr (.inr (false, [108])), .inr (.inr (false, [109])), .inr (.inr (false, [110])), .inr (.inr (false, [111])), .inr (.inr (false, [112])), .inl (0, 0, 0, 0, 7), .inr (.inr (false, [113])), .inr (.inr (false, [114])), .inr (.inr (false, [115])), .inr (.inr (false, [116])), .inr (.inr (false, [117])), .inr (.inr (false, [118])), .inr (.inr (false, [119])), .inr (.inr (false, [120])), .inr (.inr (false, [121])), .inr (.inr (false, [122])), .inr (.inr (false, [123]))]))]), 2, [], 900000), [(1, (0, 0, 4))], [(0, 1, 0), (1, 1, 5), (0, 1, 0)])]
theorem z_Kt311 : (z_Kd311.all fun C => z_cok3 (z_G []) [(90, some [14])] [(90, some [14])] z_Tg0 12 1 ([z_Kk249, z_Kk300, z_Kk310]) (z_QX (z_lbk z_Kk311.2.2.1 z_Kk311.2.2.2.1) 1 900000 [(90, some [14])] z_Kk311.2.2.2.2.1) (z_atl [(284, 43)]) [] z_Kd311 30000 C) = true := by decide +kernel
theorem z_Kn311 {xs : List Int32} : z_cn (z_G xs) 12 z_J z_Kk311 := z_mkN (n := 1) (W := [(90, some [14])]) (D := [(90, some [14])]) z_Kk311 z_Kd311 rfl (z_kc z_Kn249 (z_kc z_Kn300 (z_kc z_Kn310 z_kn))) z_Kt311 rfl rfl rfl rfl
/-- CModel.seed(I)I -/
def z_Ke312 : z_as_ := ((285, 0, [(0, .inr (.inr (false, [90]))), (1, .inl (0, 0, 0, (-2147483648), 2147483647))], [], 0, 0), [], z_H0c, 1, [], 900000)
def z_Kx312 : List z_Xe := [(some (.inl (0, 0, 0, (-2147483648), 2147483647)), [(90, .inr [(9, .inl (0, 0, 0, (-2147483648), 2147483647)), (14, .inl (0, 0, 0, 0, 1))])], 0)]
def z_Kk312 : z_Kc := (285, 1, z_Ke312, [], z_Kx312, none)
def z_Kd312 : List z_ce := [(1, z_Ke312, [], [(0, 1, 0)])]
theorem z_Kt312 : (z_Kd312.all fun C => z_cok3 (z_G []) [(90, some [9, 14])] [(90, some [9, 14])] z_Tg0 12 1 ([]) (z_QX (z_lbk z_Kk312.2.2.1 z_Kk312.2.2.2.1) 1 900000 [(90, some [9, 14])] z_Kk312.2.2.2.2.1) (z_atl []) [] z_Kd312 30000 C) = true := by decide +kernel
theorem z_Kn312 {xs : List Int32} : z_cn (z_G xs) 12 z_J z_Kk312 := z_mkN (n := 1) (W := [(90, some [9, 14])]) (D := [(90, some [9, 14])]) z_Kk312 z_Kd312 rfl z_kn z_Kt312 rfl rfl rfl rfl
/-- CModel.keep(I)Z -/
def z_Ke313 : z_as_ := ((286, 0, [(0, .inr (.inr (false, [90]))), (1, .inl (0, 0, 0, (-2147483648), (-1)))], [], 0, 0), [], z_H0c, 1, [], 900000)
def z_Kx313 : List z_Xe := [(some (.inl (0, 0, 0, 0, 0)), [(90, .inr [(14, .inl (0, 0, 0, 0, 1))])], 0)]
def z_Kk313 : z_Kc := (286, 2, z_Ke313, [], z_Kx313, none)
def z_Kd313 : List z_ce := [(2, z_Ke313, [], [(0, 1, 0)])]
theorem z_Kt313 : (z_Kd313.all fun C => z_cok3 (z_G []) [(90, some [14])] [(90, some [14])] z_Tg0 12 1 ([]) (z_QX (z_lbk z_Kk313.2.2.1 z_Kk313.2.2.2.1) 1 900000 [(90, some [14])] z_Kk313.2.2.2.2.1) (z_atl []) [] z_Kd313 30000 C) = true := by decide +kernel
theorem z_Kn313 {xs : List Int32} : z_cn (z_G xs) 12 z_J z_Kk313 := z_mkN (n := 1) (W := [(90, some [14])]) (D := [(90, some [14])]) z_Kk313 z_Kd313 rfl z_kn z_Kt313 rfl rfl rfl rfl
/-- CModel.keep(I)Z -/
def z_Ke314 : z_as_ := ((286, 0, [(0, .inr (.inr (false, [90]))), (1, .inl (0, 0, 0, 0, 2))], [], 0, 0), [], z_H0c, 1, [], 900000)
def z_Kx314 : List z_Xe := [(some (.inl (0, 0, 0, 1, 1)), [(90, .inr [(14, .inl (0, 0, 0, 0, 1))]), (118, .inl (z_hg 118)), (119, .inl (z_hg 119)), (120, .inl (z_hg 120)), (121, .inl (z_hg 121)), (122, .inl (z_hg 122)), (123, .inl (z_hg 123))], 0)]
def z_Kk314 : z_Kc := (286, 2, z_Ke314, [], z_Kx314, none)
def z_Kd314 : List z_ce := [(2, z_Ke314, [], [(0, 2, 0), (0, 0, 0), (0, 0, 0)]),
  (2, ((286, 65, [(0, .inr (.inr (false, [90]))), (1, .inl (0, 0, 0, 0, 2)), (2, .inl (1, 0, 0, 0, 400))], [], 0, 0), [], (z_hcs z_H0c [(90, (10, (true, true), none, [.inl (0, 0, 0, 0, 10), .inr (.inr (false, [91])), .inr (.inr (false, [92])), .inr (.inr (false, [93])), .inr (.inr (false, [94])), .inl (0, 0, 0, 0, 24), .inr (.inr (false, [95])), .inr (.inr (false, [96])), .inl (0, 0, 0, (-2147483648), 2147483647), .inl (0, 0, 0, (-2147483648), 2147483647), .inr (.inr (false, [97])), .inl (0, 0, 0, 0, 80), .inr (.inr (false, [98])), .inl (0, 0, 0, 0, 4), .inl (0, 0, 0, 0, 0), .inr (.inr (true, [97, 105])), .inl (0, 0, 0, 0, 2147483647), .inl (0, 0, 0, 0, 76), .inl (0, 0, 0, 0, 76), .inl (0, 0, 0, (-1), 80), .inr (.inr (false, [99])), .inl (0, 0, 0, 0, 10), .inr (.inr (false, [100])), .inr (.inr (false, [101])), .inr (.inr (false, [102])), .inr (.inr (false, [103])), .inl (0, 0, 0, (-2147483648), 2147483647), .inr (.inr (false, [104])), .inr (.inr (false, [106])), .inl (0, 0, 0, 0, 1), .inr (.inr (true, [95, 111])), .inl (0, 0, 0, (-1), 50), .inl (0, 0, 0, (-1), 9), .inl (0, 0, 0, 0, 9), .inl (0, 0, 0, (-1), 2), .inl (0, 0, 0, (-2147483648), 2147483647), .inl (0, 0, 0, (-2147483648), 2147483647), .inl (0, 0, 0, (-2147483648), 2147483647), .inr (.inr (false, [107])), .inr (.inr (false, [108])), .inr (.inr (false, [109])), .inr (.inr (false, [110])), .inr (.inr (false, [111])), .inr (.inr (false, [112])), .inl (0, 0, 0, 0, 7), .inr (.inr (false, [113])), .inr (.inr (false, [114])), .inr (.inr (false, [115])), .inr (.inr (false, [116])), .inr (.inr (false, [117])), .inr (.inr (false, [118])), .inr (.inr (false, [119])), .inr (.inr (false, [120])), .inr (.inr (false, [121])), .inr (.inr (false, [122])), .inr (.inr (false, [123]))]))]), 2, [], 900000), [(1, (0, 0, 2))], [(0, 1, 0), (1, 1, 400), (0, 1, 0)])]
theorem z_Kt314 : (z_Kd314.all fun C => z_cok3 (z_G []) [(90, some [14]), (118, none), (119, none), (120, none), (121, none), (122, none), (123, none)] [(90, some [14]), (118, none), (119, none), (120, none), (121, none), (122, none), (123, none)] z_Tg0 12 1 ([]) (z_QX (z_lbk z_Kk314.2.2.1 z_Kk314.2.2.2.1) 1 900000 [(90, some [14]), (118, none), (119, none), (120, none), (121, none), (122, none), (123, none)] z_Kk314.2.2.2.2.1) (z_atl [(286, 65)]) [] z_Kd314 30000 C) = true := by decide +kernel
theorem z_Kn314 {xs : List Int32} : z_cn (z_G xs) 12 z_J z_Kk314 := z_mkN (n := 1) (W := [(90, some [14]), (118, none), (119, none), (120, none), (121, none), (122, none), (123, none)]) (D := [(90, some [14]), (118, none), (119, none), (120, none), (121, none), (122, none), (123, none)]) z_Kk314 z_Kd314 rfl z_kn z_Kt314 rfl rfl rfl rfl
/-- CModel.keep(I)Z -/
def z_Ke315 : z_as_ := ((286, 0, [(0, .inr (.inr (false, [90]))), (1, .inl (0, 0, 0, 3, 2147483647))], [], 0, 0), [], z_H0c, 1, [], 900000)
def z_Kx315 : List z_Xe := [(some (.inl (0, 0, 0, 0, 0)), [(90, .inr [(14, .inl (0, 0, 0, 0, 1))])], 0)]
def z_Kk315 : z_Kc := (286, 2, z_Ke315, [], z_Kx315, none)
def z_Kd315 : List z_ce := [(2, z_Ke315, [], [(0, 1, 0)])]
theorem z_Kt315 : (z_Kd315.all fun C => z_cok3 (z_G []) [(90, some [14])] [(90, some [14])] z_Tg0 12 1 ([]) (z_QX (z_lbk z_Kk315.2.2.1 z_Kk315.2.2.2.1) 1 900000 [(90, some [14])] z_Kk315.2.2.2.2.1) (z_atl []) [] z_Kd315 30000 C) = true := by decide +kernel
theorem z_Kn315 {xs : List Int32} : z_cn (z_G xs) 12 z_J z_Kk315 := z_mkN (n := 1) (W := [(90, some [14])]) (D := [(90, some [14])]) z_Kk315 z_Kd315 rfl z_kn z_Kt315 rfl rfl rfl rfl
/-- CModel.again(I)Z -/
def z_Ke316 : z_as_ := ((287, 0, [(0, .inr (.inr (false, [90]))), (1, .inl (0, 0, 0, (-2147483648), 2147483647))], [], 0, 0), [], z_H0c, 1, [], 900000)
def z_Kx316 : List z_Xe := [(some (.inl (0, 0, 0, 0, 1)), [(90, .inr [(8, .inl (0, 0, 0, (-2147483648), 2147483647)), (9, .inl (0, 0, 0, (-2147483648), 2147483647)), (14, .inl (0, 0, 0, 0, 1))]), (95, .inl (z_hg 95))], 0)]
def z_Kk316 : z_Kc := (287, 2, z_Ke316, [], z_Kx316, none)
def z_Kd316 : List z_ce := [(2, z_Ke316, [], [(0, 2, 0), (0, 0, 0), (0, 0, 0)]),
  (2, ((287, 60, [(0, .inr (.inr (false, [90]))), (1, .inl (0, 0, 0, 0, 2)), (2, .inl (1, 0, 0, 0, 400))], [], 0, 0), [], (z_hcs z_H0c [(90, (10, (true, true), none, [.inl (0, 0, 0, 0, 10), .inr (.inr (false, [91])), .inr (.inr (false, [92])), .inr (.inr (false, [93])), .inr (.inr (false, [94])), .inl (0, 0, 0, 0, 24), .inr (.inr (false, [95])), .inr (.inr (false, [96])), .inl (0, 0, 0, (-2147483648), 2147483647), .inl (0, 0, 0, (-2147483648), 2147483647), .inr (.inr (false, [97])), .inl (0, 0, 0, 0, 80), .inr (.inr (false, [98])), .inl (0, 0, 0, 0, 4), .inl (0, 0, 0, 0, 0), .inr (.inr (true, [97, 105])), .inl (0, 0, 0, 0, 2147483647), .inl (0, 0, 0, 0, 76), .inl (0, 0, 0, 0, 76), .inl (0, 0, 0, (-1), 80), .inr (.inr (false, [99])), .inl (0, 0, 0, 0, 10), .inr (.inr (false, [100])), .inr (.inr (false, [101])), .inr (.inr (false, [102])), .inr (.inr (false, [103])), .inl (0, 0, 0, (-2147483648), 2147483647), .inr (.inr (false, [104])), .inr (.inr (false, [106])), .inl (0, 0, 0, 0, 1), .inr (.inr (true, [95, 111])), .inl (0, 0, 0, (-1), 50), .inl (0, 0, 0, (-1), 9), .inl (0, 0, 0, 0, 9), .inl (0, 0, 0, (-1), 2), .inl (0, 0, 0, (-2147483648), 2147483647), .inl (0, 0, 0, (-2147483648), 2147483647), .inl (0, 0, 0, (-2147483648), 2147483647), .inr (.inr (false, [107])), .inr (.inr (false, [108])), .inr (.inr (false, [109])), .inr (.inr (false, [110])), .inr (.inr (false, [111])), .inr (.inr (false, [112])), .inl (0, 0, 0, 0, 7), .inr (.inr (false, [113])), .inr (.inr (false, [114])), .inr (.inr (false, [115])), .inr (.inr (false, [116])), .inr (.inr (false, [117])), .inr (.inr (false, [118])), .inr (.inr (false, [119])), .inr (.inr (false, [120])), .inr (.inr (false, [121])), .inr (.inr (false, [122])), .inr (.inr (false, [123]))]))]), 2, [], 900000), [(1, (0, 0, 2))], [(0, 1, 0), (1, 1, 400), (0, 1, 0)])]
theorem z_Kt316 : (z_Kd316.all fun C => z_cok3 (z_G []) [(90, some [8, 9, 14]), (95, none)] [(90, some [8, 9, 14]), (95, none)] z_Tg0 12 1 ([]) (z_QX (z_lbk z_Kk316.2.2.1 z_Kk316.2.2.2.1) 1 900000 [(90, some [8, 9, 14]), (95, none)] z_Kk316.2.2.2.2.1) (z_atl [(287, 60)]) [] z_Kd316 30000 C) = true := by decide +kernel
theorem z_Kn316 {xs : List Int32} : z_cn (z_G xs) 12 z_J z_Kk316 := z_mkN (n := 1) (W := [(90, some [8, 9, 14]), (95, none)]) (D := [(90, some [8, 9, 14]), (95, none)]) z_Kk316 z_Kd316 rfl z_kn z_Kt316 rfl rfl rfl rfl
/-- CModel.count(I)I -/
def z_Ke317 : z_as_ := ((288, 0, [(0, .inr (.inr (false, [90]))), (1, .inl (0, 0, 0, (-2147483648), 2147483647))], [], 0, 0), [], z_H0c, 1, [], 900000)
def z_Kx317 : List z_Xe := [(some (.inl (0, 0, 0, (-2147483648), 2147483647)), [(90, .inr [(14, .inl (0, 0, 0, 0, 1))])], 0)]
def z_Kk317 : z_Kc := (288, 4, z_Ke317, [], z_Kx317, none)
def z_Kd317 : List z_ce := [(4, z_Ke317, [], [(0, 4, 0), (0, 0, 0), (0, 0, 0)]),
  (4, ((288, 81, [(0, .inr (.inr (false, [90]))), (1, .inl (0, 0, 0, 3, 3)), (2, .inl (0, 0, 0, (-2147483648), 2147483647)), (3, .inl (1, 0, 0, 0, 4))], [], 0, 0), [], (z_hcs z_H0c [(90, (10, (true, true), none, [.inl (0, 0, 0, 0, 10), .inr (.inr (false, [91])), .inr (.inr (false, [92])), .inr (.inr (false, [93])), .inr (.inr (false, [94])), .inl (0, 0, 0, 0, 24), .inr (.inr (false, [95])), .inr (.inr (false, [96])), .inl (0, 0, 0, (-2147483648), 2147483647), .inl (0, 0, 0, (-2147483648), 2147483647), .inr (.inr (false, [97])), .inl (0, 0, 0, 0, 80), .inr (.inr (false, [98])), .inl (0, 0, 0, 0, 4), .inl (0, 0, 0, 0, 0), .inr (.inr (true, [97, 105])), .inl (0, 0, 0, 0, 2147483647), .inl (0, 0, 0, 0, 76), .inl (0, 0, 0, 0, 76), .inl (0, 0, 0, (-1), 80), .inr (.inr (false, [99])), .inl (0, 0, 0, 0, 10), .inr (.inr (false, [100])), .inr (.inr (false, [101])), .inr (.inr (false, [102])), .inr (.inr (false, [103])), .inl (0, 0, 0, (-2147483648), 2147483647), .inr (.inr (false, [104])), .inr (.inr (false, [106])), .inl (0, 0, 0, 0, 1), .inr (.inr (true, [95, 111])), .inl (0, 0, 0, (-1), 50), .inl (0, 0, 0, (-1), 9), .inl (0, 0, 0, 0, 9), .inl (0, 0, 0, (-1), 2), .inl (0, 0, 0, (-2147483648), 2147483647), .inl (0, 0, 0, (-2147483648), 2147483647), .inl (0, 0, 0, (-2147483648), 2147483647), .inr (.inr (false, [107])), .inr (.inr (false, [108])), .inr (.inr (false, [109])), .inr (.inr (false, [110])), .inr (.inr (false, [111])), .inr (.inr (false, [112])), .inl (0, 0, 0, 0, 7), .inr (.inr (false, [113])), .inr (.inr (false, [114])), .inr (.inr (false, [115])), .inr (.inr (false, [116])), .inr (.inr (false, [117])), .inr (.inr (false, [118])), .inr (.inr (false, [119])), .inr (.inr (false, [120])), .inr (.inr (false, [121])), .inr (.inr (false, [122])), .inr (.inr (false, [123]))]))]), 2, [], 900000), [(1, (0, 0, 3))], [(0, 1, 0), (1, 1, 4), (0, 1, 0)]),
  (4, ((288, 120, [(0, .inr (.inr (false, [90]))), (1, .inl (0, 0, 0, 5, 5)), (2, .inl (0, 0, 0, (-2147483648), 2147483647)), (3, .inl (1, 0, 0, 0, 6))], [], 0, 0), [], (z_hcs z_H0c [(90, (10, (true, true), none, [.inl (0, 0, 0, 0, 10), .inr (.inr (false, [91])), .inr (.inr (false, [92])), .inr (.inr (false, [93])), .inr (.inr (false, [94])), .inl (0, 0, 0, 0, 24), .inr (.inr (false, [95])), .inr (.inr (false, [96])), .inl (0, 0, 0, (-2147483648), 2147483647), .inl (0, 0, 0, (-2147483648), 2147483647), .inr (.inr (false, [97])), .inl (0, 0, 0, 0, 80), .inr (.inr (false, [98])), .inl (0, 0, 0, 0, 4), .inl (0, 0, 0, 0, 0), .inr (.inr (true, [97, 105])), .inl (0, 0, 0, 0, 2147483647), .inl (0, 0, 0, 0, 76), .inl (0, 0, 0, 0, 76), .inl (0, 0, 0, (-1), 80), .inr (.inr (false, [99])), .inl (0, 0, 0, 0, 10), .inr (.inr (false, [100])), .inr (.inr (false, [101])), .inr (.inr (false, [102])), .inr (.inr (false, [103])), .inl (0, 0, 0, (-2147483648), 2147483647), .inr (.inr (false, [104])), .inr (.inr (false, [106])), .inl (0, 0, 0, 0, 1), .inr (.inr (true, [95, 111])), .inl (0, 0, 0, (-1), 50), .inl (0, 0, 0, (-1), 9), .inl (0, 0, 0, 0, 9), .inl (0, 0, 0, (-1), 2), .inl (0, 0, 0, (-2147483648), 2147483647), .inl (0, 0, 0, (-2147483648), 2147483647), .inl (0, 0, 0, (-2147483648), 2147483647), .inr (.inr (false, [107])), .inr (.inr (false, [108])), .inr (.inr (false, [109])), .inr (.inr (false, [110])), .inr (.inr (false, [111])), .inr (.inr (false, [112])), .inl (0, 0, 0, 0, 7), .inr (.inr (false, [113])), .inr (.inr (false, [114])), .inr (.inr (false, [115])), .inr (.inr (false, [116])), .inr (.inr (false, [117])), .inr (.inr (false, [118])), .inr (.inr (false, [119])), .inr (.inr (false, [120])), .inr (.inr (false, [121])), .inr (.inr (false, [122])), .inr (.inr (false, [123]))]))]), 2, [], 900000), [(1, (0, 0, 3))], [(0, 2, 0), (1, 1, 6), (0, 1, 0)]),
  (4, ((288, 144, [(0, .inr (.inr (false, [90]))), (1, .inl (0, 0, 0, 6, 6)), (2, .inl (0, 0, 0, (-2147483648), 2147483647)), (3, .inl (1, 0, 0, 0, 24))], [], 0, 0), [], (z_hcs z_H0c [(90, (10, (true, true), none, [.inl (0, 0, 0, 0, 10), .inr (.inr (false, [91])), .inr (.inr (false, [92])), .inr (.inr (false, [93])), .inr (.inr (false, [94])), .inl (0, 0, 0, 0, 24), .inr (.inr (false, [95])), .inr (.inr (false, [96])), .inl (0, 0, 0, (-2147483648), 2147483647), .inl (0, 0, 0, (-2147483648), 2147483647), .inr (.inr (false, [97])), .inl (0, 0, 0, 0, 80), .inr (.inr (false, [98])), .inl (0, 0, 0, 0, 4), .inl (0, 0, 0, 0, 0), .inr (.inr (true, [97, 105])), .inl (0, 0, 0, 0, 2147483647), .inl (0, 0, 0, 0, 76), .inl (0, 0, 0, 0, 76), .inl (0, 0, 0, (-1), 80), .inr (.inr (false, [99])), .inl (0, 0, 0, 0, 10), .inr (.inr (false, [100])), .inr (.inr (false, [101])), .inr (.inr (false, [102])), .inr (.inr (false, [103])), .inl (0, 0, 0, (-2147483648), 2147483647), .inr (.inr (false, [104])), .inr (.inr (false, [106])), .inl (0, 0, 0, 0, 1), .inr (.inr (true, [95, 111])), .inl (0, 0, 0, (-1), 50), .inl (0, 0, 0, (-1), 9), .inl (0, 0, 0, 0, 9), .inl (0, 0, 0, (-1), 2), .inl (0, 0, 0, (-2147483648), 2147483647), .inl (0, 0, 0, (-2147483648), 2147483647), .inl (0, 0, 0, (-2147483648), 2147483647), .inr (.inr (false, [107])), .inr (.inr (false, [108])), .inr (.inr (false, [109])), .inr (.inr (false, [110])), .inr (.inr (false, [111])), .inr (.inr (false, [112])), .inl (0, 0, 0, 0, 7), .inr (.inr (false, [113])), .inr (.inr (false, [114])), .inr (.inr (false, [115])), .inr (.inr (false, [116])), .inr (.inr (false, [117])), .inr (.inr (false, [118])), .inr (.inr (false, [119])), .inr (.inr (false, [120])), .inr (.inr (false, [121])), .inr (.inr (false, [122])), .inr (.inr (false, [123]))]))]), 2, [], 900000), [(1, (0, 0, 3))], [(0, 3, 0), (1, 1, 24), (0, 1, 0)])]
theorem z_Kt317 : (z_Kd317.all fun C => z_cok3 (z_G []) [(90, some [14])] [(90, some [14])] z_Tg0 12 1 ([z_Kk249]) (z_QX (z_lbk z_Kk317.2.2.1 z_Kk317.2.2.2.1) 1 900000 [(90, some [14])] z_Kk317.2.2.2.2.1) (z_atl [(288, 81), (288, 120), (288, 144)]) [] z_Kd317 30000 C) = true := by decide +kernel
theorem z_Kn317 {xs : List Int32} : z_cn (z_G xs) 12 z_J z_Kk317 := z_mkN (n := 1) (W := [(90, some [14])]) (D := [(90, some [14])]) z_Kk317 z_Kd317 rfl (z_kc z_Kn249 z_kn) z_Kt317 rfl rfl rfl rfl
/-- CModel.row(I)J -/
def z_Ke318 : z_as_ := ((289, 0, [(0, .inr (.inr (false, [90]))), (1, .inl (0, 0, 0, (-2147483648), 2147483647))], [], 0, 0), [], z_H0c, 1, [], 900000)
def z_Kx318 : List z_Xe := [(some (.inr (.inl (0, 0, 0, (-9223372036854775808), 9223372036854775807))), [(90, .inr [(14, .inl (0, 0, 0, 0, 1))])], 0)]
def z_Kk318 : z_Kc := (289, 2, z_Ke318, [], z_Kx318, none)
def z_Kd318 : List z_ce := [(2, z_Ke318, [], [(0, 1, 0)])]
theorem z_Kt318 : (z_Kd318.all fun C => z_cok3 (z_G []) [(90, some [14])] [(90, some [14])] z_Tg0 12 1 ([]) (z_QX (z_lbk z_Kk318.2.2.1 z_Kk318.2.2.2.1) 1 900000 [(90, some [14])] z_Kk318.2.2.2.2.1) (z_atl []) [] z_Kd318 30000 C) = true := by decide +kernel
theorem z_Kn318 {xs : List Int32} : z_cn (z_G xs) 12 z_J z_Kk318 := z_mkN (n := 1) (W := [(90, some [14])]) (D := [(90, some [14])]) z_Kk318 z_Kd318 rfl z_kn z_Kt318 rfl rfl rfl rfl
/-- java/util/Arrays.fill([II)V -/
def z_Ke319 : z_as_ := ((40, 0, [(0, .inr (.inr (false, [30]))), (1, .inl (0, 0, 0, 0, 0))], [], 0, 0), [], z_H0c, 1, [], 900000)
def z_Kx319 : List z_Xe := [(none, [(30, .inl (z_hg 30))], 0)]
def z_Kk319 : z_Kc := (40, 1, z_Ke319, [], z_Kx319, none)
def z_Kd319 : List z_ce := [(1, z_Ke319, [], [(0, 2, 0), (0, 0, 0), (0, 0, 0)]),
  (1, ((40, 5, [(0, .inr (.inr (false, [30]))), (1, .inl (0, 0, 0, 0, 0)), (2, .inl (1, 0, 0, 0, 10)), (3, .inl (0, 0, 0, 10, 10))], [], 0, 0), [], z_H0c, 2, [], 900000), [(1, (0, 0, 2))], [(0, 1, 0), (1, 1, 10), (0, 1, 0)])]
theorem z_Kt319 : (z_Kd319.all fun C => z_cok3 (z_G []) [(30, none)] [(30, none)] z_Tg0 12 1 ([]) (z_QX (z_lbk z_Kk319.2.2.1 z_Kk319.2.2.2.1) 1 900000 [(30, none)] z_Kk319.2.2.2.2.1) (z_atl [(40, 5)]) [] z_Kd319 30000 C) = true := by decide +kernel
theorem z_Kn319 {xs : List Int32} : z_cn (z_G xs) 12 z_J z_Kk319 := z_mkN (n := 1) (W := [(30, none)]) (D := [(30, none)]) z_Kk319 z_Kd319 rfl z_kn z_Kt319 rfl rfl rfl rfl
/-- C.Gusts.readLine(LChaffInTheWind.Signs;I)Z -/
def z_Ke320 : z_as_ := ((45, 0, [(0, .inr (.inr (false, [53, 57]))), (1, .inr (.inr (false, [14]))), (2, .inl (0, 0, 0, 0, 9))], [], 0, 0), [], z_H0c, 1, [], 900000)
def z_Kx320 : List z_Xe := [(some (.inl (0, 0, 0, 0, 1)), [(14, .inr [(2, .inl (0, 0, 0, 0, 2147483647))]), (54, .inl (z_hg 54)), (55, .inl (z_hg 55)), (56, .inl (z_hg 56)), (58, .inl (z_hg 58)), (59, .inl (z_hg 59)), (60, .inl (z_hg 60))], 0)]
def z_Kk320 : z_Kc := (45, 4, z_Ke320, [], z_Kx320, none)
def z_Kd320 : List z_ce := [(4, z_Ke320, [], [(0, 1, 0)])]
theorem z_Kt320 : (z_Kd320.all fun C => z_cok3 (z_G []) [(14, some [2]), (54, none), (55, none), (56, none), (58, none), (59, none), (60, none)] [(14, some [2]), (54, none), (55, none), (56, none), (58, none), (59, none), (60, none)] z_Tg0 12 1 ([z_Kk36, z_Kk38, z_Kk248]) (z_QX (z_lbk z_Kk320.2.2.1 z_Kk320.2.2.2.1) 1 900000 [(14, some [2]), (54, none), (55, none), (56, none), (58, none), (59, none), (60, none)] z_Kk320.2.2.2.2.1) (z_atl []) [] z_Kd320 30000 C) = true := by decide +kernel
theorem z_Kn320 {xs : List Int32} : z_cn (z_G xs) 12 z_J z_Kk320 := z_mkN (n := 1) (W := [(14, some [2]), (54, none), (55, none), (56, none), (58, none), (59, none), (60, none)]) (D := [(14, some [2]), (54, none), (55, none), (56, none), (58, none), (59, none), (60, none)]) z_Kk320 z_Kd320 rfl (z_kc z_Kn36 (z_kc z_Kn38 (z_kc z_Kn248 z_kn))) z_Kt320 rfl rfl rfl rfl
end ZCN81
