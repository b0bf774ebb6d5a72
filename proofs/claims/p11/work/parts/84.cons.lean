section ZCN84
/-- C.sign(I)I -/
def z_Ke365 : z_as_ := ((9, 0, [(0, .inr (.inr (false, [13]))), (1, .inl (0, 0, 0, (-2147483648), 2147483647))], [], 0, 0), [], (z_hcs z_H0c [(14, (1, (true, true), none, [.inr (.inr (false, [15])), .inl (1, 0, 0, 77, 80), .inl (0, 0, 0, 0, 2147483647), .inl (0, 0, 0, 0, 76), .inl (0, 0, 0, 0, 1)]))]), 2, [(1, 1, 0)], 900000)
def z_Kx365 : List z_Xe := [(some (.inl (0, 0, 0, (-1), (-1))), [], 0)]
def z_Kk365 : z_Kc := (9, 2, z_Ke365, [(1, (1, 14, 1))], z_Kx365, none)
def z_Kd365 : List z_ce := [(2, z_Ke365, [(1, (1, 14, 1))], [(0, 1, 0)])]
theorem z_Kt365 : (z_Kd365.all fun C => z_cok3 (z_G []) [] [] z_Tg0 12 2 ([]) (z_QX (z_lbk z_Kk365.2.2.1 z_Kk365.2.2.2.1) 2 900000 [] z_Kk365.2.2.2.2.1) (z_atl []) [] z_Kd365 30000 C) = true := by decide +kernel
theorem z_Kn365 {xs : List Int32} : z_cn (z_G xs) 12 z_J z_Kk365 := z_mkN (n := 2) (W := []) (D := []) z_Kk365 z_Kd365 rfl z_kn z_Kt365 rfl rfl rfl rfl
/-- C.sign(I)I -/
def z_Ke366 : z_as_ := ((9, 0, [(0, .inr (.inr (false, [13]))), (1, .inl (0, 0, 0, (-2147483648), 2147483647))], [], 0, 0), [], (z_hcs z_H0c [(14, (1, (true, true), none, [.inr (.inr (false, [15])), .inl (1, 0, 0, 0, 76), .inl (0, 0, 0, 0, 2147483647), .inl (0, 0, 0, 0, 76), .inl (0, 0, 0, 0, 1)]))]), 2, [(1, 1, 0)], 900000)
def z_Kx366 : List z_Xe := [(some (.inl (1, 4, 4, 4, 80)), [(14, .inr [(1, .inl (1, 4, 4, 4, 80))]), (15, .inl (z_hg 15))], 0)]
def z_Kk366 : z_Kc := (9, 2, z_Ke366, [(1, (1, 14, 1))], z_Kx366, none)
def z_Kd366 : List z_ce := [(2, z_Ke366, [(1, (1, 14, 1))], [(0, 1, 0)])]
theorem z_Kt366 : (z_Kd366.all fun C => z_cok3 (z_G []) [(14, some [1]), (15, none)] [(14, some [1]), (15, none)] z_Tg0 12 2 ([]) (z_QX (z_lbk z_Kk366.2.2.1 z_Kk366.2.2.2.1) 2 900000 [(14, some [1]), (15, none)] z_Kk366.2.2.2.2.1) (z_atl []) [] z_Kd366 30000 C) = true := by decide +kernel
theorem z_Kn366 {xs : List Int32} : z_cn (z_G xs) 12 z_J z_Kk366 := z_mkN (n := 2) (W := [(14, some [1]), (15, none)]) (D := [(14, some [1]), (15, none)]) z_Kk366 z_Kd366 rfl z_kn z_Kt366 rfl rfl rfl rfl
end ZCN84
