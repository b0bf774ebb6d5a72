section ZEXS
/-- the law ahead of its call of sort -/
def z_Dx6 : z_ce := (800, ((291, 404, [(0, .inr (.inr (false, [12]))), (1, .inr (.inr (false, [13]))), (2, .inr (.inr (false, [248]))), (3, .inr (.inr (false, [285]))), (4, .inl (z_tc (0)))], [.inr (.inr (false, [285])), .inl ((3, 0, 0, -2147483648, 2147483647)), .inl ((2, 0, 0, -2147483648, 2147483647)), .inr (.inr (false, [13]))], 282, 6856), [], z_H0, 8, [], 282), z_bp, [])
theorem z_kx6 : z_cok (z_G []) z_md 13 (fun _ _ => false) (fun x pc => Nat.beq x 291 && Nat.beq pc 404) [z_Dx6] [z_De 390] 5000 (z_De 390) = true := by decide +kernel
def z_Dy6 : z_ce := (100, ((184, 0, [(0, .inr (.inr (false, [13]))), (1, .inl (2, 0, 0, -2147483648, 2147483647)), (2, .inl (3, 0, 0, -2147483648, 2147483647))], [], 0, 0), [], z_H0, 8, [], 282), z_bp, [])
def z_Dn6 : z_ce := (100, ((184, 17, [], [], 0, 0), [], z_H0, 8, [], 282), z_bp, [])
theorem z_ky6 : z_cok (z_G []) z_md 13 (fun _ _ => false) (fun x pc => Nat.beq x 184 && Nat.beq pc 17) [z_Dn6] [z_Dy6] 5000 z_Dy6 = true := by decide +kernel
def z_Dz6 : z_ce := (800, ((291, 407, [(0, .inr (.inr (false, [12]))), (1, .inr (.inr (false, [13]))), (2, .inr (.inr (false, [248]))), (3, .inr (.inr (false, [285]))), (4, .inl (z_tc (0)))], [.inl (z_tc (1))], 283, 6862), [], z_H0, 8, [], 283), z_bp, [(0, 1, 0)])
theorem z_kz6 : z_cok (z_G []) z_md 13 z_Q1 (fun _ _ => false) [] [z_Dz6] 5000 z_Dz6 = true := by decide +kernel
/-- the law ahead of its call of price -/
def z_Dx26 : z_ce := (800, ((291, 1199, [(0, .inr (.inr (false, [12]))), (1, .inr (.inr (false, [13]))), (2, .inr (.inr (false, [248]))), (3, .inr (.inr (false, [285]))), (4, .inl (z_tc (0)))], [.inr (.inr (false, [285])), .inl ((3, 0, 0, -2147483648, 2147483647)), .inl ((2, 0, 0, -2147483648, 2147483647)), .inr (.inr (false, [13]))], 282, 6856), [], z_H0, 8, [], 282), z_bp, [])
theorem z_kx26 : z_cok (z_G []) z_md 13 (fun _ _ => false) (fun x pc => Nat.beq x 291 && Nat.beq pc 1199) [z_Dx26] [z_De 1185] 5000 (z_De 1185) = true := by decide +kernel
def z_Dy26 : z_ce := (100, ((185, 0, [(0, .inr (.inr (false, [13]))), (1, .inl (2, 0, 0, -2147483648, 2147483647)), (2, .inl (3, 0, 0, -2147483648, 2147483647))], [], 0, 0), [], z_H0, 8, [], 282), z_bp, [])
def z_Dn26 : z_ce := (100, ((185, 27, [], [], 0, 0), [], z_H0, 8, [], 282), z_bp, [])
theorem z_ky26 : z_cok (z_G []) z_md 13 (fun _ _ => false) (fun x pc => Nat.beq x 185 && Nat.beq pc 27) [z_Dn26] [z_Dy26] 5000 z_Dy26 = true := by decide +kernel
def z_Dz26 : z_ce := (800, ((291, 1202, [(0, .inr (.inr (false, [12]))), (1, .inr (.inr (false, [13]))), (2, .inr (.inr (false, [248]))), (3, .inr (.inr (false, [285]))), (4, .inl (z_tc (0)))], [.inl (z_tc (1))], 283, 6862), [], z_H0, 8, [], 283), z_bp, [(0, 1, 0)])
theorem z_kz26 : z_cok (z_G []) z_md 13 z_Q1 (fun _ _ => false) [] [z_Dz26] 5000 z_Dz26 = true := by decide +kernel
/-- the law ahead of its call of row -/
def z_Dx48 : z_ce := (800, ((291, 2018, [(0, .inr (.inr (false, [12]))), (1, .inr (.inr (false, [13]))), (2, .inr (.inr (false, [248]))), (3, .inr (.inr (false, [285]))), (4, .inl (z_tc (0)))], [.inr (.inr (false, [285])), .inl ((2, 0, 0, -2147483648, 2147483647)), .inr (.inr (false, [13]))], 282, 6856), [], z_H0, 8, [], 282), z_bp, [])
theorem z_kx48 : z_cok (z_G []) z_md 13 (fun _ _ => false) (fun x pc => Nat.beq x 291 && Nat.beq pc 2018) [z_Dx48] [z_De 2010] 5000 (z_De 2010) = true := by decide +kernel
def z_Dy48 : z_ce := (100, ((186, 0, [(0, .inr (.inr (false, [13]))), (1, .inl (2, 0, 0, -2147483648, 2147483647))], [], 0, 0), [], z_H0, 8, [], 282), z_bp, [])
def z_Dn48 : z_ce := (100, ((186, 15, [], [], 0, 0), [], z_H0, 8, [], 282), z_bp, [])
theorem z_ky48 : z_cok (z_G []) z_md 13 (fun _ _ => false) (fun x pc => Nat.beq x 186 && Nat.beq pc 15) [z_Dn48] [z_Dy48] 5000 z_Dy48 = true := by decide +kernel
def z_Dz48 : z_ce := (800, ((291, 2021, [(0, .inr (.inr (false, [12]))), (1, .inr (.inr (false, [13]))), (2, .inr (.inr (false, [248]))), (3, .inr (.inr (false, [285]))), (4, .inl (z_tc (0)))], [.inl (z_tc (1))], 283, 6862), [], z_H0, 8, [], 283), z_bp, [(0, 1, 0)])
theorem z_kz48 : z_cok (z_G []) z_md 13 z_Q1 (fun _ _ => false) [] [z_Dz48] 5000 z_Dz48 = true := by decide +kernel
end ZEXS
