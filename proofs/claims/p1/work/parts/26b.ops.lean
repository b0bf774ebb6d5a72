section ZP1B
def z_c5_0_0 : z_ce := (800, ((291, 353, [(0, .inr (.inr (false, [12]))), (1, .inr (.inr (false, [13]))), (2, .inr (.inr (false, [248]))), (3, .inr (.inr (false, [285]))), (4, .inl (z_tc (0)))], [], 282, 6856), [], z_hset z_H0 [(12, (103, (true, false), none, [.inl ((1, 0, 0, -2147483648, 2147483647)), .inl ((2, 0, 0, -2147483648, -1)), .inl ((3, 0, 0, -2147483648, 2147483647)), .inl ((4, 0, 0, -2147483648, 2147483647)), .inl ((5, 0, 0, -2147483648, 2147483647)), .inl ((6, 0, 0, -2147483648, 2147483647))]))], 8, [], 282), [(1, 1, 12, 0), (2, 1, 12, 1), (3, 1, 12, 2), (4, 1, 12, 3), (5, 1, 12, 4), (6, 1, 12, 5)], [(0, 1000, 0), (0, 0, 0), (0, 999, 0), (0, 0, 0), (0, 999, 0), (0, 0, 0)])
def z_T5_0 : List z_ce := [z_c5_0_0]
def z_at5_0 (x pc : Nat) : Bool := (Nat.beq x 40 && Nat.beq pc 5) || (Nat.beq x 42 && Nat.beq pc 2)
/-- 78 steps -/
theorem z_k5_0_0 : z_cok (z_G []) z_md 13 z_Q1 z_at5_0 [] z_T5_0 50000 z_c5_0_0 = true := by decide +kernel
theorem z_o5_0 : ∀ C ∈ z_T5_0, z_cok (z_G []) z_md 13 z_Q1 z_at5_0 [] z_T5_0 50000 C = true := by
  intro C hC
  unfold z_T5_0 at hC
  simp only [List.mem_cons, List.not_mem_nil, or_false] at hC
  rcases hC with rfl
  · exact z_k5_0_0
def z_c5_1_0 : z_ce := (800, ((291, 353, [(0, .inr (.inr (false, [12]))), (1, .inr (.inr (false, [13]))), (2, .inr (.inr (false, [248]))), (3, .inr (.inr (false, [285]))), (4, .inl (z_tc (0)))], [], 282, 6856), [], z_hset z_H0 [(12, (103, (true, false), none, [.inl ((1, 0, 0, -2147483648, 2147483647)), .inl ((2, 0, 0, 0, 0)), .inl ((3, 0, 0, -2147483648, 2147483647)), .inl ((4, 0, 0, -2147483648, 2147483647)), .inl ((5, 0, 0, -2147483648, 2147483647)), .inl ((6, 0, 0, -2147483648, 2147483647))]))], 8, [], 282), [(1, 1, 12, 0), (2, 1, 12, 1), (3, 1, 12, 2), (4, 1, 12, 3), (5, 1, 12, 4), (6, 1, 12, 5)], [(0, 1000, 0), (0, 0, 0), (0, 999, 0), (0, 0, 0), (0, 999, 0), (0, 0, 0)])
def z_c5_1_1 : z_ce := (797, ((42, 2, [(0, .inr (.inr (false, [18]))), (1, .inl ((8, 0, 0, 0, 10)))], [], 0, 0), [(59, 15, [(0, .inr (.inr (false, [18]))), (1, .inl (z_tc (0))), (2, .inl ((3, 0, 0, 1, 400))), (3, .inl (z_tc (100)))], [], 0, 0), (56, 41, [(0, .inr (.inr (false, [13]))), (1, .inl (z_tc (0))), (2, .inl ((3, 0, 0, 1, 400)))], [], 0, 0), (291, 366, [(0, .inr (.inr (false, [12]))), (1, .inr (.inr (false, [13]))), (2, .inr (.inr (false, [248]))), (3, .inr (.inr (false, [285]))), (4, .inl (z_tc (0)))], [], 282, 6856)], z_hset z_H0 [(12, (103, (true, false), none, [.inl ((1, 0, 0, -2147483648, 2147483647)), .inl (z_tc (0)), .inl ((3, 0, 0, 1, 400)), .inl ((4, 0, 0, -2147483648, 2147483647)), .inl ((5, 0, 0, -2147483648, 2147483647)), .inl ((6, 0, 0, -2147483648, 2147483647))])), (24, (103, (true, true), none, [.inl ((3, 0, 0, 1, 400)), .inl (z_tc (0)), .inl (z_tc (0)), .inl (z_tc (20)), .inl (z_tc (0))])), (27, (103, (false, true), some 121, [.inl ((0, 0, 0, -1, 0))]))], 9, [], 282), [(1, 1, 12, 0), (2, 1, 12, 1), (3, 1, 12, 2), (4, 1, 12, 3), (5, 1, 12, 4), (6, 1, 12, 5), (8, 0, 0, 1)], [(0, 900, 0), (1, 8, 1000), (0, 999, 0), (0, 0, 0), (0, 999, 0), (0, 0, 0)])
def z_c5_1_2 : z_ce := (796, ((40, 5, [(0, .inr (.inr (false, [27]))), (1, .inl (z_tc (-1))), (2, .inl ((9, 0, 0, 0, 121))), (3, .inl (z_tc (121)))], [], 0, 0), [(42, 15, [(0, .inr (.inr (false, [18]))), (1, .inl ((8, 0, 0, 0, 9)))], [], 0, 0), (59, 15, [(0, .inr (.inr (false, [18]))), (1, .inl (z_tc (0))), (2, .inl ((3, 0, 0, 1, 400))), (3, .inl (z_tc (100)))], [], 0, 0), (56, 41, [(0, .inr (.inr (false, [13]))), (1, .inl (z_tc (0))), (2, .inl ((3, 0, 0, 1, 400)))], [], 0, 0), (291, 366, [(0, .inr (.inr (false, [12]))), (1, .inr (.inr (false, [13]))), (2, .inr (.inr (false, [248]))), (3, .inr (.inr (false, [285]))), (4, .inl (z_tc (0)))], [], 282, 6856)], z_hset z_H0 [(12, (103, (true, false), none, [.inl ((1, 0, 0, -2147483648, 2147483647)), .inl (z_tc (0)), .inl ((3, 0, 0, 1, 400)), .inl ((4, 0, 0, -2147483648, 2147483647)), .inl ((5, 0, 0, -2147483648, 2147483647)), .inl ((6, 0, 0, -2147483648, 2147483647))])), (24, (103, (true, true), none, [.inl ((3, 0, 0, 1, 400)), .inl (z_tc (0)), .inl (z_tc (0)), .inl (z_tc (20)), .inl (z_tc (0))])), (27, (103, (false, true), some 121, [.inl ((0, 0, 0, -1, 0))]))], 10, [], 282), [(1, 1, 12, 0), (3, 1, 12, 2), (4, 1, 12, 3), (5, 1, 12, 4), (6, 1, 12, 5), (8, 0, 1, 1), (9, 0, 0, 2)], [(0, 900, 0), (1, 8, 1000), (0, 899, 0), (1, 9, 1000), (0, 999, 0), (0, 0, 0)])
def z_T5_1 : List z_ce := [z_c5_1_0, z_c5_1_1, z_c5_1_2]
def z_at5_1 (x pc : Nat) : Bool := (Nat.beq x 40 && Nat.beq pc 5) || (Nat.beq x 42 && Nat.beq pc 2)
/-- 203 steps -/
theorem z_k5_1_0 : z_cok (z_G []) z_md 13 z_Q1 z_at5_1 [] z_T5_1 50000 z_c5_1_0 = true := by decide +kernel
/-- 100 steps -/
theorem z_k5_1_1 : z_cok (z_G []) z_md 13 z_Q1 z_at5_1 [] z_T5_1 50000 z_c5_1_1 = true := by decide +kernel
/-- 12 steps -/
theorem z_k5_1_2 : z_cok (z_G []) z_md 13 z_Q1 z_at5_1 [] z_T5_1 50000 z_c5_1_2 = true := by decide +kernel
theorem z_o5_1 : ∀ C ∈ z_T5_1, z_cok (z_G []) z_md 13 z_Q1 z_at5_1 [] z_T5_1 50000 C = true := by
  intro C hC
  unfold z_T5_1 at hC
  simp only [List.mem_cons, List.not_mem_nil, or_false] at hC
  rcases hC with rfl | rfl | rfl
  · exact z_k5_1_0
  · exact z_k5_1_1
  · exact z_k5_1_2
def z_c5_2_0 : z_ce := (800, ((291, 353, [(0, .inr (.inr (false, [12]))), (1, .inr (.inr (false, [13]))), (2, .inr (.inr (false, [248]))), (3, .inr (.inr (false, [285]))), (4, .inl (z_tc (0)))], [], 282, 6856), [], z_hset z_H0 [(12, (103, (true, false), none, [.inl ((1, 0, 0, -2147483648, 2147483647)), .inl ((2, 0, 0, 1, 1)), .inl ((3, 0, 0, -2147483648, 2147483647)), .inl ((4, 0, 0, -2147483648, 2147483647)), .inl ((5, 0, 0, -2147483648, 2147483647)), .inl ((6, 0, 0, -2147483648, 2147483647))]))], 8, [], 282), [(1, 1, 12, 0), (2, 1, 12, 1), (3, 1, 12, 2), (4, 1, 12, 3), (5, 1, 12, 4), (6, 1, 12, 5)], [(0, 1000, 0), (0, 0, 0), (0, 999, 0), (0, 0, 0), (0, 999, 0), (0, 0, 0)])
def z_c5_2_1 : z_ce := (797, ((42, 2, [(0, .inr (.inr (false, [18]))), (1, .inl ((8, 0, 0, 0, 10)))], [], 0, 0), [(59, 15, [(0, .inr (.inr (false, [18]))), (1, .inl (z_tc (1))), (2, .inl ((3, 0, 0, -40, 40))), (3, .inl (z_tc (0)))], [], 0, 0), (56, 41, [(0, .inr (.inr (false, [13]))), (1, .inl (z_tc (1))), (2, .inl ((3, 0, 0, -40, 40)))], [], 0, 0), (291, 366, [(0, .inr (.inr (false, [12]))), (1, .inr (.inr (false, [13]))), (2, .inr (.inr (false, [248]))), (3, .inr (.inr (false, [285]))), (4, .inl (z_tc (0)))], [], 282, 6856)], z_hset z_H0 [(12, (103, (true, false), none, [.inl ((1, 0, 0, -2147483648, 2147483647)), .inl (z_tc (1)), .inl ((3, 0, 0, -40, 40)), .inl ((4, 0, 0, -2147483648, 2147483647)), .inl ((5, 0, 0, -2147483648, 2147483647)), .inl ((6, 0, 0, -2147483648, 2147483647))])), (24, (103, (true, true), none, [.inl (z_tc (100)), .inl ((3, 0, 0, -40, 40)), .inl (z_tc (0)), .inl (z_tc (20)), .inl (z_tc (0))])), (27, (103, (false, true), some 121, [.inl ((0, 0, 0, -1, 0))]))], 9, [], 282), [(1, 1, 12, 0), (2, 1, 12, 1), (3, 1, 12, 2), (4, 1, 12, 3), (5, 1, 12, 4), (6, 1, 12, 5), (8, 0, 0, 1)], [(0, 900, 0), (1, 8, 1000), (0, 999, 0), (0, 0, 0), (0, 999, 0), (0, 0, 0)])
def z_c5_2_2 : z_ce := (796, ((40, 5, [(0, .inr (.inr (false, [27]))), (1, .inl (z_tc (-1))), (2, .inl ((9, 0, 0, 0, 121))), (3, .inl (z_tc (121)))], [], 0, 0), [(42, 15, [(0, .inr (.inr (false, [18]))), (1, .inl ((8, 0, 0, 0, 9)))], [], 0, 0), (59, 15, [(0, .inr (.inr (false, [18]))), (1, .inl (z_tc (1))), (2, .inl ((3, 0, 0, -40, 40))), (3, .inl (z_tc (0)))], [], 0, 0), (56, 41, [(0, .inr (.inr (false, [13]))), (1, .inl (z_tc (1))), (2, .inl ((3, 0, 0, -40, 40)))], [], 0, 0), (291, 366, [(0, .inr (.inr (false, [12]))), (1, .inr (.inr (false, [13]))), (2, .inr (.inr (false, [248]))), (3, .inr (.inr (false, [285]))), (4, .inl (z_tc (0)))], [], 282, 6856)], z_hset z_H0 [(12, (103, (true, false), none, [.inl ((1, 0, 0, -2147483648, 2147483647)), .inl (z_tc (1)), .inl ((3, 0, 0, -40, 40)), .inl ((4, 0, 0, -2147483648, 2147483647)), .inl ((5, 0, 0, -2147483648, 2147483647)), .inl ((6, 0, 0, -2147483648, 2147483647))])), (24, (103, (true, true), none, [.inl (z_tc (100)), .inl ((3, 0, 0, -40, 40)), .inl (z_tc (0)), .inl (z_tc (20)), .inl (z_tc (0))])), (27, (103, (false, true), some 121, [.inl ((0, 0, 0, -1, 0))]))], 10, [], 282), [(1, 1, 12, 0), (3, 1, 12, 2), (4, 1, 12, 3), (5, 1, 12, 4), (6, 1, 12, 5), (8, 0, 1, 1), (9, 0, 0, 2)], [(0, 900, 0), (1, 8, 1000), (0, 899, 0), (1, 9, 1000), (0, 999, 0), (0, 0, 0)])
def z_T5_2 : List z_ce := [z_c5_2_0, z_c5_2_1, z_c5_2_2]
def z_at5_2 (x pc : Nat) : Bool := (Nat.beq x 40 && Nat.beq pc 5) || (Nat.beq x 42 && Nat.beq pc 2)
/-- 196 steps -/
theorem z_k5_2_0 : z_cok (z_G []) z_md 13 z_Q1 z_at5_2 [] z_T5_2 50000 z_c5_2_0 = true := by decide +kernel
/-- 98 steps -/
theorem z_k5_2_1 : z_cok (z_G []) z_md 13 z_Q1 z_at5_2 [] z_T5_2 50000 z_c5_2_1 = true := by decide +kernel
/-- 12 steps -/
theorem z_k5_2_2 : z_cok (z_G []) z_md 13 z_Q1 z_at5_2 [] z_T5_2 50000 z_c5_2_2 = true := by decide +kernel
theorem z_o5_2 : ∀ C ∈ z_T5_2, z_cok (z_G []) z_md 13 z_Q1 z_at5_2 [] z_T5_2 50000 C = true := by
  intro C hC
  unfold z_T5_2 at hC
  simp only [List.mem_cons, List.not_mem_nil, or_false] at hC
  rcases hC with rfl | rfl | rfl
  · exact z_k5_2_0
  · exact z_k5_2_1
  · exact z_k5_2_2
def z_c5_3_0 : z_ce := (800, ((291, 353, [(0, .inr (.inr (false, [12]))), (1, .inr (.inr (false, [13]))), (2, .inr (.inr (false, [248]))), (3, .inr (.inr (false, [285]))), (4, .inl (z_tc (0)))], [], 282, 6856), [], z_hset z_H0 [(12, (103, (true, false), none, [.inl ((1, 0, 0, -2147483648, 2147483647)), .inl ((2, 0, 0, 2, 2)), .inl ((3, 0, 0, -2147483648, 2147483647)), .inl ((4, 0, 0, -2147483648, 2147483647)), .inl ((5, 0, 0, -2147483648, 2147483647)), .inl ((6, 0, 0, -2147483648, 2147483647))]))], 8, [], 282), [(1, 1, 12, 0), (2, 1, 12, 1), (3, 1, 12, 2), (4, 1, 12, 3), (5, 1, 12, 4), (6, 1, 12, 5)], [(0, 1000, 0), (0, 0, 0), (0, 999, 0), (0, 0, 0), (0, 999, 0), (0, 0, 0)])
def z_c5_3_1 : z_ce := (797, ((42, 2, [(0, .inr (.inr (false, [18]))), (1, .inl ((8, 0, 0, 0, 10)))], [], 0, 0), [(59, 15, [(0, .inr (.inr (false, [18]))), (1, .inl (z_tc (2))), (2, .inl ((3, 0, 0, 0, 11))), (3, .inl (z_tc (0)))], [], 0, 0), (56, 41, [(0, .inr (.inr (false, [13]))), (1, .inl (z_tc (2))), (2, .inl ((3, 0, 0, 0, 11)))], [], 0, 0), (291, 366, [(0, .inr (.inr (false, [12]))), (1, .inr (.inr (false, [13]))), (2, .inr (.inr (false, [248]))), (3, .inr (.inr (false, [285]))), (4, .inl (z_tc (0)))], [], 282, 6856)], z_hset z_H0 [(12, (103, (true, false), none, [.inl ((1, 0, 0, -2147483648, 2147483647)), .inl (z_tc (2)), .inl ((3, 0, 0, 0, 11)), .inl ((4, 0, 0, -2147483648, 2147483647)), .inl ((5, 0, 0, -2147483648, 2147483647)), .inl ((6, 0, 0, -2147483648, 2147483647))])), (24, (103, (true, true), none, [.inl (z_tc (100)), .inl (z_tc (0)), .inl ((3, 0, 0, 0, 11)), .inl (z_tc (20)), .inl (z_tc (0))])), (27, (103, (false, true), some 121, [.inl ((0, 0, 0, -1, 0))]))], 9, [], 282), [(1, 1, 12, 0), (2, 1, 12, 1), (3, 1, 12, 2), (4, 1, 12, 3), (5, 1, 12, 4), (6, 1, 12, 5), (8, 0, 0, 1)], [(0, 900, 0), (1, 8, 1000), (0, 999, 0), (0, 0, 0), (0, 999, 0), (0, 0, 0)])
def z_c5_3_2 : z_ce := (796, ((40, 5, [(0, .inr (.inr (false, [27]))), (1, .inl (z_tc (-1))), (2, .inl ((9, 0, 0, 0, 121))), (3, .inl (z_tc (121)))], [], 0, 0), [(42, 15, [(0, .inr (.inr (false, [18]))), (1, .inl ((8, 0, 0, 0, 9)))], [], 0, 0), (59, 15, [(0, .inr (.inr (false, [18]))), (1, .inl (z_tc (2))), (2, .inl ((3, 0, 0, 0, 11))), (3, .inl (z_tc (0)))], [], 0, 0), (56, 41, [(0, .inr (.inr (false, [13]))), (1, .inl (z_tc (2))), (2, .inl ((3, 0, 0, 0, 11)))], [], 0, 0), (291, 366, [(0, .inr (.inr (false, [12]))), (1, .inr (.inr (false, [13]))), (2, .inr (.inr (false, [248]))), (3, .inr (.inr (false, [285]))), (4, .inl (z_tc (0)))], [], 282, 6856)], z_hset z_H0 [(12, (103, (true, false), none, [.inl ((1, 0, 0, -2147483648, 2147483647)), .inl (z_tc (2)), .inl ((3, 0, 0, 0, 11)), .inl ((4, 0, 0, -2147483648, 2147483647)), .inl ((5, 0, 0, -2147483648, 2147483647)), .inl ((6, 0, 0, -2147483648, 2147483647))])), (24, (103, (true, true), none, [.inl (z_tc (100)), .inl (z_tc (0)), .inl ((3, 0, 0, 0, 11)), .inl (z_tc (20)), .inl (z_tc (0))])), (27, (103, (false, true), some 121, [.inl ((0, 0, 0, -1, 0))]))], 10, [], 282), [(1, 1, 12, 0), (3, 1, 12, 2), (4, 1, 12, 3), (5, 1, 12, 4), (6, 1, 12, 5), (8, 0, 1, 1), (9, 0, 0, 2)], [(0, 900, 0), (1, 8, 1000), (0, 899, 0), (1, 9, 1000), (0, 999, 0), (0, 0, 0)])
def z_T5_3 : List z_ce := [z_c5_3_0, z_c5_3_1, z_c5_3_2]
def z_at5_3 (x pc : Nat) : Bool := (Nat.beq x 40 && Nat.beq pc 5) || (Nat.beq x 42 && Nat.beq pc 2)
/-- 222 steps -/
theorem z_k5_3_0 : z_cok (z_G []) z_md 13 z_Q1 z_at5_3 [] z_T5_3 50000 z_c5_3_0 = true := by decide +kernel
/-- 107 steps -/
theorem z_k5_3_1 : z_cok (z_G []) z_md 13 z_Q1 z_at5_3 [] z_T5_3 50000 z_c5_3_1 = true := by decide +kernel
/-- 12 steps -/
theorem z_k5_3_2 : z_cok (z_G []) z_md 13 z_Q1 z_at5_3 [] z_T5_3 50000 z_c5_3_2 = true := by decide +kernel
theorem z_o5_3 : ∀ C ∈ z_T5_3, z_cok (z_G []) z_md 13 z_Q1 z_at5_3 [] z_T5_3 50000 C = true := by
  intro C hC
  unfold z_T5_3 at hC
  simp only [List.mem_cons, List.not_mem_nil, or_false] at hC
  rcases hC with rfl | rfl | rfl
  · exact z_k5_3_0
  · exact z_k5_3_1
  · exact z_k5_3_2
def z_c5_4_0 : z_ce := (800, ((291, 353, [(0, .inr (.inr (false, [12]))), (1, .inr (.inr (false, [13]))), (2, .inr (.inr (false, [248]))), (3, .inr (.inr (false, [285]))), (4, .inl (z_tc (0)))], [], 282, 6856), [], z_hset z_H0 [(12, (103, (true, false), none, [.inl ((1, 0, 0, -2147483648, 2147483647)), .inl ((2, 0, 0, 3, 3)), .inl ((3, 0, 0, -2147483648, 2147483647)), .inl ((4, 0, 0, -2147483648, 2147483647)), .inl ((5, 0, 0, -2147483648, 2147483647)), .inl ((6, 0, 0, -2147483648, 2147483647))]))], 8, [], 282), [(1, 1, 12, 0), (2, 1, 12, 1), (3, 1, 12, 2), (4, 1, 12, 3), (5, 1, 12, 4), (6, 1, 12, 5)], [(0, 1000, 0), (0, 0, 0), (0, 999, 0), (0, 0, 0), (0, 999, 0), (0, 0, 0)])
def z_c5_4_1 : z_ce := (797, ((42, 2, [(0, .inr (.inr (false, [18]))), (1, .inl ((8, 0, 0, 0, 10)))], [], 0, 0), [(59, 15, [(0, .inr (.inr (false, [18]))), (1, .inl (z_tc (3))), (2, .inl ((3, 0, 0, 1, 99))), (3, .inl (z_tc (20)))], [], 0, 0), (56, 41, [(0, .inr (.inr (false, [13]))), (1, .inl (z_tc (3))), (2, .inl ((3, 0, 0, 1, 99)))], [], 0, 0), (291, 366, [(0, .inr (.inr (false, [12]))), (1, .inr (.inr (false, [13]))), (2, .inr (.inr (false, [248]))), (3, .inr (.inr (false, [285]))), (4, .inl (z_tc (0)))], [], 282, 6856)], z_hset z_H0 [(12, (103, (true, false), none, [.inl ((1, 0, 0, -2147483648, 2147483647)), .inl (z_tc (3)), .inl ((3, 0, 0, 1, 99)), .inl ((4, 0, 0, -2147483648, 2147483647)), .inl ((5, 0, 0, -2147483648, 2147483647)), .inl ((6, 0, 0, -2147483648, 2147483647))])), (24, (103, (true, true), none, [.inl (z_tc (100)), .inl (z_tc (0)), .inl (z_tc (0)), .inl ((3, 0, 0, 1, 99)), .inl (z_tc (0))])), (27, (103, (false, true), some 121, [.inl ((0, 0, 0, -1, 0))]))], 9, [], 282), [(1, 1, 12, 0), (2, 1, 12, 1), (3, 1, 12, 2), (4, 1, 12, 3), (5, 1, 12, 4), (6, 1, 12, 5), (8, 0, 0, 1)], [(0, 900, 0), (1, 8, 1000), (0, 999, 0), (0, 0, 0), (0, 999, 0), (0, 0, 0)])
def z_c5_4_2 : z_ce := (796, ((40, 5, [(0, .inr (.inr (false, [27]))), (1, .inl (z_tc (-1))), (2, .inl ((9, 0, 0, 0, 121))), (3, .inl (z_tc (121)))], [], 0, 0), [(42, 15, [(0, .inr (.inr (false, [18]))), (1, .inl ((8, 0, 0, 0, 9)))], [], 0, 0), (59, 15, [(0, .inr (.inr (false, [18]))), (1, .inl (z_tc (3))), (2, .inl ((3, 0, 0, 1, 99))), (3, .inl (z_tc (20)))], [], 0, 0), (56, 41, [(0, .inr (.inr (false, [13]))), (1, .inl (z_tc (3))), (2, .inl ((3, 0, 0, 1, 99)))], [], 0, 0), (291, 366, [(0, .inr (.inr (false, [12]))), (1, .inr (.inr (false, [13]))), (2, .inr (.inr (false, [248]))), (3, .inr (.inr (false, [285]))), (4, .inl (z_tc (0)))], [], 282, 6856)], z_hset z_H0 [(12, (103, (true, false), none, [.inl ((1, 0, 0, -2147483648, 2147483647)), .inl (z_tc (3)), .inl ((3, 0, 0, 1, 99)), .inl ((4, 0, 0, -2147483648, 2147483647)), .inl ((5, 0, 0, -2147483648, 2147483647)), .inl ((6, 0, 0, -2147483648, 2147483647))])), (24, (103, (true, true), none, [.inl (z_tc (100)), .inl (z_tc (0)), .inl (z_tc (0)), .inl ((3, 0, 0, 1, 99)), .inl (z_tc (0))])), (27, (103, (false, true), some 121, [.inl ((0, 0, 0, -1, 0))]))], 10, [], 282), [(1, 1, 12, 0), (3, 1, 12, 2), (4, 1, 12, 3), (5, 1, 12, 4), (6, 1, 12, 5), (8, 0, 1, 1), (9, 0, 0, 2)], [(0, 900, 0), (1, 8, 1000), (0, 899, 0), (1, 9, 1000), (0, 999, 0), (0, 0, 0)])
def z_T5_4 : List z_ce := [z_c5_4_0, z_c5_4_1, z_c5_4_2]
def z_at5_4 (x pc : Nat) : Bool := (Nat.beq x 40 && Nat.beq pc 5) || (Nat.beq x 42 && Nat.beq pc 2)
/-- 224 steps -/
theorem z_k5_4_0 : z_cok (z_G []) z_md 13 z_Q1 z_at5_4 [] z_T5_4 50000 z_c5_4_0 = true := by decide +kernel
/-- 109 steps -/
theorem z_k5_4_1 : z_cok (z_G []) z_md 13 z_Q1 z_at5_4 [] z_T5_4 50000 z_c5_4_1 = true := by decide +kernel
/-- 12 steps -/
theorem z_k5_4_2 : z_cok (z_G []) z_md 13 z_Q1 z_at5_4 [] z_T5_4 50000 z_c5_4_2 = true := by decide +kernel
theorem z_o5_4 : ∀ C ∈ z_T5_4, z_cok (z_G []) z_md 13 z_Q1 z_at5_4 [] z_T5_4 50000 C = true := by
  intro C hC
  unfold z_T5_4 at hC
  simp only [List.mem_cons, List.not_mem_nil, or_false] at hC
  rcases hC with rfl | rfl | rfl
  · exact z_k5_4_0
  · exact z_k5_4_1
  · exact z_k5_4_2
def z_c5_5_0 : z_ce := (800, ((291, 353, [(0, .inr (.inr (false, [12]))), (1, .inr (.inr (false, [13]))), (2, .inr (.inr (false, [248]))), (3, .inr (.inr (false, [285]))), (4, .inl (z_tc (0)))], [], 282, 6856), [], z_hset z_H0 [(12, (103, (true, false), none, [.inl ((1, 0, 0, -2147483648, 2147483647)), .inl ((2, 0, 0, 4, 4)), .inl ((3, 0, 0, -2147483648, 2147483647)), .inl ((4, 0, 0, -2147483648, 2147483647)), .inl ((5, 0, 0, -2147483648, 2147483647)), .inl ((6, 0, 0, -2147483648, 2147483647))]))], 8, [], 282), [(1, 1, 12, 0), (2, 1, 12, 1), (3, 1, 12, 2), (4, 1, 12, 3), (5, 1, 12, 4), (6, 1, 12, 5)], [(0, 1000, 0), (0, 0, 0), (0, 999, 0), (0, 0, 0), (0, 999, 0), (0, 0, 0)])
def z_c5_5_1 : z_ce := (797, ((42, 2, [(0, .inr (.inr (false, [18]))), (1, .inl ((8, 0, 0, 0, 10)))], [], 0, 0), [(59, 15, [(0, .inr (.inr (false, [18]))), (1, .inl (z_tc (4))), (2, .inl ((3, 0, 0, 0, 50))), (3, .inl (z_tc (0)))], [], 0, 0), (56, 41, [(0, .inr (.inr (false, [13]))), (1, .inl (z_tc (4))), (2, .inl ((3, 0, 0, 0, 50)))], [], 0, 0), (291, 366, [(0, .inr (.inr (false, [12]))), (1, .inr (.inr (false, [13]))), (2, .inr (.inr (false, [248]))), (3, .inr (.inr (false, [285]))), (4, .inl (z_tc (0)))], [], 282, 6856)], z_hset z_H0 [(12, (103, (true, false), none, [.inl ((1, 0, 0, -2147483648, 2147483647)), .inl (z_tc (4)), .inl ((3, 0, 0, 0, 50)), .inl ((4, 0, 0, -2147483648, 2147483647)), .inl ((5, 0, 0, -2147483648, 2147483647)), .inl ((6, 0, 0, -2147483648, 2147483647))])), (24, (103, (true, true), none, [.inl (z_tc (100)), .inl (z_tc (0)), .inl (z_tc (0)), .inl (z_tc (20)), .inl ((3, 0, 0, 0, 50))])), (27, (103, (false, true), some 121, [.inl ((0, 0, 0, -1, 0))]))], 9, [], 282), [(1, 1, 12, 0), (2, 1, 12, 1), (3, 1, 12, 2), (4, 1, 12, 3), (5, 1, 12, 4), (6, 1, 12, 5), (8, 0, 0, 1)], [(0, 900, 0), (1, 8, 1000), (0, 999, 0), (0, 0, 0), (0, 999, 0), (0, 0, 0)])
def z_c5_5_2 : z_ce := (796, ((40, 5, [(0, .inr (.inr (false, [27]))), (1, .inl (z_tc (-1))), (2, .inl ((9, 0, 0, 0, 121))), (3, .inl (z_tc (121)))], [], 0, 0), [(42, 15, [(0, .inr (.inr (false, [18]))), (1, .inl ((8, 0, 0, 0, 9)))], [], 0, 0), (59, 15, [(0, .inr (.inr (false, [18]))), (1, .inl (z_tc (4))), (2, .inl ((3, 0, 0, 0, 50))), (3, .inl (z_tc (0)))], [], 0, 0), (56, 41, [(0, .inr (.inr (false, [13]))), (1, .inl (z_tc (4))), (2, .inl ((3, 0, 0, 0, 50)))], [], 0, 0), (291, 366, [(0, .inr (.inr (false, [12]))), (1, .inr (.inr (false, [13]))), (2, .inr (.inr (false, [248]))), (3, .inr (.inr (false, [285]))), (4, .inl (z_tc (0)))], [], 282, 6856)], z_hset z_H0 [(12, (103, (true, false), none, [.inl ((1, 0, 0, -2147483648, 2147483647)), .inl (z_tc (4)), .inl ((3, 0, 0, 0, 50)), .inl ((4, 0, 0, -2147483648, 2147483647)), .inl ((5, 0, 0, -2147483648, 2147483647)), .inl ((6, 0, 0, -2147483648, 2147483647))])), (24, (103, (true, true), none, [.inl (z_tc (100)), .inl (z_tc (0)), .inl (z_tc (0)), .inl (z_tc (20)), .inl ((3, 0, 0, 0, 50))])), (27, (103, (false, true), some 121, [.inl ((0, 0, 0, -1, 0))]))], 10, [], 282), [(1, 1, 12, 0), (3, 1, 12, 2), (4, 1, 12, 3), (5, 1, 12, 4), (6, 1, 12, 5), (8, 0, 1, 1), (9, 0, 0, 2)], [(0, 900, 0), (1, 8, 1000), (0, 899, 0), (1, 9, 1000), (0, 999, 0), (0, 0, 0)])
def z_T5_5 : List z_ce := [z_c5_5_0, z_c5_5_1, z_c5_5_2]
def z_at5_5 (x pc : Nat) : Bool := (Nat.beq x 40 && Nat.beq pc 5) || (Nat.beq x 42 && Nat.beq pc 2)
/-- 223 steps -/
theorem z_k5_5_0 : z_cok (z_G []) z_md 13 z_Q1 z_at5_5 [] z_T5_5 50000 z_c5_5_0 = true := by decide +kernel
/-- 109 steps -/
theorem z_k5_5_1 : z_cok (z_G []) z_md 13 z_Q1 z_at5_5 [] z_T5_5 50000 z_c5_5_1 = true := by decide +kernel
/-- 12 steps -/
theorem z_k5_5_2 : z_cok (z_G []) z_md 13 z_Q1 z_at5_5 [] z_T5_5 50000 z_c5_5_2 = true := by decide +kernel
theorem z_o5_5 : ∀ C ∈ z_T5_5, z_cok (z_G []) z_md 13 z_Q1 z_at5_5 [] z_T5_5 50000 C = true := by
  intro C hC
  unfold z_T5_5 at hC
  simp only [List.mem_cons, List.not_mem_nil, or_false] at hC
  rcases hC with rfl | rfl | rfl
  · exact z_k5_5_0
  · exact z_k5_5_1
  · exact z_k5_5_2
def z_c5_6_0 : z_ce := (800, ((291, 353, [(0, .inr (.inr (false, [12]))), (1, .inr (.inr (false, [13]))), (2, .inr (.inr (false, [248]))), (3, .inr (.inr (false, [285]))), (4, .inl (z_tc (0)))], [], 282, 6856), [], z_hset z_H0 [(12, (103, (true, false), none, [.inl ((1, 0, 0, -2147483648, 2147483647)), .inl ((2, 0, 0, 5, 2147483647)), .inl ((3, 0, 0, -2147483648, 2147483647)), .inl ((4, 0, 0, -2147483648, 2147483647)), .inl ((5, 0, 0, -2147483648, 2147483647)), .inl ((6, 0, 0, -2147483648, 2147483647))]))], 8, [], 282), [(1, 1, 12, 0), (2, 1, 12, 1), (3, 1, 12, 2), (4, 1, 12, 3), (5, 1, 12, 4), (6, 1, 12, 5)], [(0, 1000, 0), (0, 0, 0), (0, 999, 0), (0, 0, 0), (0, 999, 0), (0, 0, 0)])
def z_T5_6 : List z_ce := [z_c5_6_0]
def z_at5_6 (x pc : Nat) : Bool := (Nat.beq x 40 && Nat.beq pc 5) || (Nat.beq x 42 && Nat.beq pc 2)
/-- 84 steps -/
theorem z_k5_6_0 : z_cok (z_G []) z_md 13 z_Q1 z_at5_6 [] z_T5_6 50000 z_c5_6_0 = true := by decide +kernel
theorem z_o5_6 : ∀ C ∈ z_T5_6, z_cok (z_G []) z_md 13 z_Q1 z_at5_6 [] z_T5_6 50000 C = true := by
  intro C hC
  unfold z_T5_6 at hC
  simp only [List.mem_cons, List.not_mem_nil, or_false] at hC
  rcases hC with rfl
  · exact z_k5_6_0
def z_c13_0_0 : z_ce := (800, ((291, 692, [(0, .inr (.inr (false, [12]))), (1, .inr (.inr (false, [13]))), (2, .inr (.inr (false, [248]))), (3, .inr (.inr (false, [285]))), (4, .inl (z_tc (0)))], [], 282, 6856), [], z_H0, 8, [], 282), [(1, 1, 12, 0), (2, 1, 12, 1), (3, 1, 12, 2), (4, 1, 12, 3), (5, 1, 12, 4), (6, 1, 12, 5)], [(0, 1000, 0), (0, 0, 0), (0, 999, 0), (0, 0, 0), (0, 999, 0), (0, 0, 0)])
def z_T13_0 : List z_ce := [z_c13_0_0]
def z_at13_0 (x pc : Nat) : Bool := false
/-- 4059 steps -/
theorem z_k13_0_0 : z_cok (z_G []) z_md 13 z_Q1 z_at13_0 [] z_T13_0 50000 z_c13_0_0 = true := by decide +kernel
theorem z_o13_0 : ∀ C ∈ z_T13_0, z_cok (z_G []) z_md 13 z_Q1 z_at13_0 [] z_T13_0 50000 C = true := by
  intro C hC
  unfold z_T13_0 at hC
  simp only [List.mem_cons, List.not_mem_nil, or_false] at hC
  rcases hC with rfl
  · exact z_k13_0_0
def z_c30_0_0 : z_ce := (800, ((291, 1352, [(0, .inr (.inr (false, [12]))), (1, .inr (.inr (false, [13]))), (2, .inr (.inr (false, [248]))), (3, .inr (.inr (false, [285]))), (4, .inl (z_tc (0)))], [], 282, 6856), [], z_H0, 8, [], 282), [(1, 1, 12, 0), (2, 1, 12, 1), (3, 1, 12, 2), (4, 1, 12, 3), (5, 1, 12, 4), (6, 1, 12, 5)], [(0, 1000, 0), (0, 0, 0), (0, 999, 0), (0, 0, 0), (0, 999, 0), (0, 0, 0)])
def z_T30_0 : List z_ce := [z_c30_0_0]
def z_at30_0 (x pc : Nat) : Bool := false
/-- 3971 steps -/
theorem z_k30_0_0 : z_cok (z_G []) z_md 13 z_Q1 z_at30_0 [] z_T30_0 50000 z_c30_0_0 = true := by decide +kernel
theorem z_o30_0 : ∀ C ∈ z_T30_0, z_cok (z_G []) z_md 13 z_Q1 z_at30_0 [] z_T30_0 50000 C = true := by
  intro C hC
  unfold z_T30_0 at hC
  simp only [List.mem_cons, List.not_mem_nil, or_false] at hC
  rcases hC with rfl
  · exact z_k30_0_0
def z_c45_0_0 : z_ce := (800, ((291, 1935, [(0, .inr (.inr (false, [12]))), (1, .inr (.inr (false, [13]))), (2, .inr (.inr (false, [248]))), (3, .inr (.inr (false, [285]))), (4, .inl (z_tc (0)))], [], 282, 6856), [], z_hset z_H0 [(12, (103, (true, false), none, [.inl ((1, 0, 0, -2147483648, 2147483647)), .inl ((2, 0, 0, -2147483648, -1)), .inl ((3, 0, 0, -2147483648, 2147483647)), .inl ((4, 0, 0, -2147483648, 2147483647)), .inl ((5, 0, 0, -2147483648, 2147483647)), .inl ((6, 0, 0, -2147483648, 2147483647))]))], 8, [], 282), [(1, 1, 12, 0), (2, 1, 12, 1), (3, 1, 12, 2), (4, 1, 12, 3), (5, 1, 12, 4), (6, 1, 12, 5)], [(0, 1000, 0), (0, 0, 0), (0, 999, 0), (0, 0, 0), (0, 999, 0), (0, 0, 0)])
def z_T45_0 : List z_ce := [z_c45_0_0]
def z_at45_0 (x pc : Nat) : Bool := (Nat.beq x 287 && Nat.beq pc 65)
/-- 44 steps -/
theorem z_k45_0_0 : z_cok (z_G []) z_md 13 z_Q1 z_at45_0 [] z_T45_0 50000 z_c45_0_0 = true := by decide +kernel
theorem z_o45_0 : ∀ C ∈ z_T45_0, z_cok (z_G []) z_md 13 z_Q1 z_at45_0 [] z_T45_0 50000 C = true := by
  intro C hC
  unfold z_T45_0 at hC
  simp only [List.mem_cons, List.not_mem_nil, or_false] at hC
  rcases hC with rfl
  · exact z_k45_0_0
def z_c45_1_0 : z_ce := (800, ((291, 1935, [(0, .inr (.inr (false, [12]))), (1, .inr (.inr (false, [13]))), (2, .inr (.inr (false, [248]))), (3, .inr (.inr (false, [285]))), (4, .inl (z_tc (0)))], [], 282, 6856), [], z_hset z_H0 [(12, (103, (true, false), none, [.inl ((1, 0, 0, -2147483648, 2147483647)), .inl ((2, 0, 0, 0, 0)), .inl ((3, 0, 0, -2147483648, 2147483647)), .inl ((4, 0, 0, -2147483648, 2147483647)), .inl ((5, 0, 0, -2147483648, 2147483647)), .inl ((6, 0, 0, -2147483648, 2147483647))]))], 8, [], 282), [(1, 1, 12, 0), (2, 1, 12, 1), (3, 1, 12, 2), (4, 1, 12, 3), (5, 1, 12, 4), (6, 1, 12, 5)], [(0, 1000, 0), (0, 0, 0), (0, 999, 0), (0, 0, 0), (0, 999, 0), (0, 0, 0)])
def z_c45_1_1 : z_ce := (799, ((287, 65, [(0, .inr (.inr (false, [248]))), (1, .inl (z_tc (0))), (2, .inl ((8, 0, 0, 0, 400)))], [], 0, 0), [(291, 1952, [(0, .inr (.inr (false, [12]))), (1, .inr (.inr (false, [13]))), (2, .inr (.inr (false, [248]))), (3, .inr (.inr (false, [285]))), (4, .inl (z_tc (0)))], [.inl (z_tc (1))], 282, 6856)], z_hset z_H0 [(12, (103, (true, false), none, [.inl ((1, 0, 0, -2147483648, 2147483647)), .inl (z_tc (0)), .inl ((3, 0, 0, -2147483648, 2147483647)), .inl ((4, 0, 0, -2147483648, 2147483647)), .inl ((5, 0, 0, -2147483648, 2147483647)), .inl ((6, 0, 0, -2147483648, 2147483647))])), (63, (5, (true, true), none, [.inr (.inr (false, [64])), .inr (.inr (false, [71])), .inr (.inr (false, [96])), .inl (z_tc (0)), .inl (z_tc (1)), .inl (z_tc (12))])), (280, (100, (true, true), none, [.inl (z_tc (1)), .inl (z_tc (0)), .inl (z_tc (0))])), (282, (103, (true, true), none, [.inl (z_tc (12)), .inl (z_tc (0)), .inl (z_tc (0))])), (284, (103, (true, true), none, [.inl (z_tc (1)), .inl (z_tc (0)), .inl (z_tc (0))]))], 9, [], 282), [(1, 1, 12, 0), (2, 1, 12, 1), (3, 1, 12, 2), (4, 1, 12, 3), (5, 1, 12, 4), (6, 1, 12, 5), (8, 0, 0, 2)], [(0, 900, 0), (1, 8, 1000), (0, 999, 0), (0, 0, 0), (0, 999, 0), (0, 0, 0)])
def z_T45_1 : List z_ce := [z_c45_1_0, z_c45_1_1]
def z_at45_1 (x pc : Nat) : Bool := (Nat.beq x 287 && Nat.beq pc 65)
/-- 745 steps -/
theorem z_k45_1_0 : z_cok (z_G []) z_md 13 z_Q1 z_at45_1 [] z_T45_1 50000 z_c45_1_0 = true := by decide +kernel
/-- 30 steps -/
theorem z_k45_1_1 : z_cok (z_G []) z_md 13 z_Q1 z_at45_1 [] z_T45_1 50000 z_c45_1_1 = true := by decide +kernel
theorem z_o45_1 : ∀ C ∈ z_T45_1, z_cok (z_G []) z_md 13 z_Q1 z_at45_1 [] z_T45_1 50000 C = true := by
  intro C hC
  unfold z_T45_1 at hC
  simp only [List.mem_cons, List.not_mem_nil, or_false] at hC
  rcases hC with rfl | rfl
  · exact z_k45_1_0
  · exact z_k45_1_1
def z_c45_2_0 : z_ce := (800, ((291, 1935, [(0, .inr (.inr (false, [12]))), (1, .inr (.inr (false, [13]))), (2, .inr (.inr (false, [248]))), (3, .inr (.inr (false, [285]))), (4, .inl (z_tc (0)))], [], 282, 6856), [], z_hset z_H0 [(12, (103, (true, false), none, [.inl ((1, 0, 0, -2147483648, 2147483647)), .inl ((2, 0, 0, 1, 1)), .inl ((3, 0, 0, -2147483648, 2147483647)), .inl ((4, 0, 0, -2147483648, 2147483647)), .inl ((5, 0, 0, -2147483648, 2147483647)), .inl ((6, 0, 0, -2147483648, 2147483647))]))], 8, [], 282), [(1, 1, 12, 0), (2, 1, 12, 1), (3, 1, 12, 2), (4, 1, 12, 3), (5, 1, 12, 4), (6, 1, 12, 5)], [(0, 1000, 0), (0, 0, 0), (0, 999, 0), (0, 0, 0), (0, 999, 0), (0, 0, 0)])
def z_c45_2_1 : z_ce := (799, ((287, 65, [(0, .inr (.inr (false, [248]))), (1, .inl (z_tc (1))), (2, .inl ((8, 0, 0, 0, 400)))], [], 0, 0), [(291, 1952, [(0, .inr (.inr (false, [12]))), (1, .inr (.inr (false, [13]))), (2, .inr (.inr (false, [248]))), (3, .inr (.inr (false, [285]))), (4, .inl (z_tc (0)))], [.inl (z_tc (1))], 282, 6856)], z_hset z_H0 [(12, (103, (true, false), none, [.inl ((1, 0, 0, -2147483648, 2147483647)), .inl (z_tc (1)), .inl ((3, 0, 0, -2147483648, 2147483647)), .inl ((4, 0, 0, -2147483648, 2147483647)), .inl ((5, 0, 0, -2147483648, 2147483647)), .inl ((6, 0, 0, -2147483648, 2147483647))])), (97, (5, (true, true), none, [.inr (.inr (false, [98])), .inr (.inr (false, [105])), .inr (.inr (false, [130])), .inl (z_tc (0)), .inl (z_tc (1)), .inl (z_tc (12))])), (280, (100, (true, true), none, [.inl (z_tc (0)), .inl (z_tc (1)), .inl (z_tc (0))])), (282, (103, (true, true), none, [.inl (z_tc (0)), .inl (z_tc (12)), .inl (z_tc (0))])), (284, (103, (true, true), none, [.inl (z_tc (0)), .inl (z_tc (1)), .inl (z_tc (0))]))], 9, [], 282), [(1, 1, 12, 0), (2, 1, 12, 1), (3, 1, 12, 2), (4, 1, 12, 3), (5, 1, 12, 4), (6, 1, 12, 5), (8, 0, 0, 2)], [(0, 900, 0), (1, 8, 1000), (0, 999, 0), (0, 0, 0), (0, 999, 0), (0, 0, 0)])
def z_T45_2 : List z_ce := [z_c45_2_0, z_c45_2_1]
def z_at45_2 (x pc : Nat) : Bool := (Nat.beq x 287 && Nat.beq pc 65)
/-- 745 steps -/
theorem z_k45_2_0 : z_cok (z_G []) z_md 13 z_Q1 z_at45_2 [] z_T45_2 50000 z_c45_2_0 = true := by decide +kernel
/-- 30 steps -/
theorem z_k45_2_1 : z_cok (z_G []) z_md 13 z_Q1 z_at45_2 [] z_T45_2 50000 z_c45_2_1 = true := by decide +kernel
theorem z_o45_2 : ∀ C ∈ z_T45_2, z_cok (z_G []) z_md 13 z_Q1 z_at45_2 [] z_T45_2 50000 C = true := by
  intro C hC
  unfold z_T45_2 at hC
  simp only [List.mem_cons, List.not_mem_nil, or_false] at hC
  rcases hC with rfl | rfl
  · exact z_k45_2_0
  · exact z_k45_2_1
def z_c45_3_0 : z_ce := (800, ((291, 1935, [(0, .inr (.inr (false, [12]))), (1, .inr (.inr (false, [13]))), (2, .inr (.inr (false, [248]))), (3, .inr (.inr (false, [285]))), (4, .inl (z_tc (0)))], [], 282, 6856), [], z_hset z_H0 [(12, (103, (true, false), none, [.inl ((1, 0, 0, -2147483648, 2147483647)), .inl ((2, 0, 0, 2, 2)), .inl ((3, 0, 0, -2147483648, 2147483647)), .inl ((4, 0, 0, -2147483648, 2147483647)), .inl ((5, 0, 0, -2147483648, 2147483647)), .inl ((6, 0, 0, -2147483648, 2147483647))]))], 8, [], 282), [(1, 1, 12, 0), (2, 1, 12, 1), (3, 1, 12, 2), (4, 1, 12, 3), (5, 1, 12, 4), (6, 1, 12, 5)], [(0, 1000, 0), (0, 0, 0), (0, 999, 0), (0, 0, 0), (0, 999, 0), (0, 0, 0)])
def z_c45_3_1 : z_ce := (799, ((287, 65, [(0, .inr (.inr (false, [248]))), (1, .inl (z_tc (2))), (2, .inl ((8, 0, 0, 0, 400)))], [], 0, 0), [(291, 1952, [(0, .inr (.inr (false, [12]))), (1, .inr (.inr (false, [13]))), (2, .inr (.inr (false, [248]))), (3, .inr (.inr (false, [285]))), (4, .inl (z_tc (0)))], [.inl (z_tc (1))], 282, 6856)], z_hset z_H0 [(12, (103, (true, false), none, [.inl ((1, 0, 0, -2147483648, 2147483647)), .inl (z_tc (2)), .inl ((3, 0, 0, -2147483648, 2147483647)), .inl ((4, 0, 0, -2147483648, 2147483647)), .inl ((5, 0, 0, -2147483648, 2147483647)), .inl ((6, 0, 0, -2147483648, 2147483647))])), (131, (5, (true, true), none, [.inr (.inr (false, [132])), .inr (.inr (false, [139])), .inr (.inr (false, [164])), .inl (z_tc (0)), .inl (z_tc (1)), .inl (z_tc (12))])), (280, (100, (true, true), none, [.inl (z_tc (0)), .inl (z_tc (0)), .inl (z_tc (1))])), (282, (103, (true, true), none, [.inl (z_tc (0)), .inl (z_tc (0)), .inl (z_tc (12))])), (284, (103, (true, true), none, [.inl (z_tc (0)), .inl (z_tc (0)), .inl (z_tc (1))]))], 9, [], 282), [(1, 1, 12, 0), (2, 1, 12, 1), (3, 1, 12, 2), (4, 1, 12, 3), (5, 1, 12, 4), (6, 1, 12, 5), (8, 0, 0, 2)], [(0, 900, 0), (1, 8, 1000), (0, 999, 0), (0, 0, 0), (0, 999, 0), (0, 0, 0)])
def z_T45_3 : List z_ce := [z_c45_3_0, z_c45_3_1]
def z_at45_3 (x pc : Nat) : Bool := (Nat.beq x 287 && Nat.beq pc 65)
/-- 745 steps -/
theorem z_k45_3_0 : z_cok (z_G []) z_md 13 z_Q1 z_at45_3 [] z_T45_3 50000 z_c45_3_0 = true := by decide +kernel
/-- 30 steps -/
theorem z_k45_3_1 : z_cok (z_G []) z_md 13 z_Q1 z_at45_3 [] z_T45_3 50000 z_c45_3_1 = true := by decide +kernel
theorem z_o45_3 : ∀ C ∈ z_T45_3, z_cok (z_G []) z_md 13 z_Q1 z_at45_3 [] z_T45_3 50000 C = true := by
  intro C hC
  unfold z_T45_3 at hC
  simp only [List.mem_cons, List.not_mem_nil, or_false] at hC
  rcases hC with rfl | rfl
  · exact z_k45_3_0
  · exact z_k45_3_1
def z_c45_4_0 : z_ce := (800, ((291, 1935, [(0, .inr (.inr (false, [12]))), (1, .inr (.inr (false, [13]))), (2, .inr (.inr (false, [248]))), (3, .inr (.inr (false, [285]))), (4, .inl (z_tc (0)))], [], 282, 6856), [], z_hset z_H0 [(12, (103, (true, false), none, [.inl ((1, 0, 0, -2147483648, 2147483647)), .inl ((2, 0, 0, 3, 2147483647)), .inl ((3, 0, 0, -2147483648, 2147483647)), .inl ((4, 0, 0, -2147483648, 2147483647)), .inl ((5, 0, 0, -2147483648, 2147483647)), .inl ((6, 0, 0, -2147483648, 2147483647))]))], 8, [], 282), [(1, 1, 12, 0), (2, 1, 12, 1), (3, 1, 12, 2), (4, 1, 12, 3), (5, 1, 12, 4), (6, 1, 12, 5)], [(0, 1000, 0), (0, 0, 0), (0, 999, 0), (0, 0, 0), (0, 999, 0), (0, 0, 0)])
def z_T45_4 : List z_ce := [z_c45_4_0]
def z_at45_4 (x pc : Nat) : Bool := (Nat.beq x 287 && Nat.beq pc 65)
/-- 50 steps -/
theorem z_k45_4_0 : z_cok (z_G []) z_md 13 z_Q1 z_at45_4 [] z_T45_4 50000 z_c45_4_0 = true := by decide +kernel
theorem z_o45_4 : ∀ C ∈ z_T45_4, z_cok (z_G []) z_md 13 z_Q1 z_at45_4 [] z_T45_4 50000 C = true := by
  intro C hC
  unfold z_T45_4 at hC
  simp only [List.mem_cons, List.not_mem_nil, or_false] at hC
  rcases hC with rfl
  · exact z_k45_4_0
def z_c47_0_0 : z_ce := (800, ((291, 1985, [(0, .inr (.inr (false, [12]))), (1, .inr (.inr (false, [13]))), (2, .inr (.inr (false, [248]))), (3, .inr (.inr (false, [285]))), (4, .inl (z_tc (0)))], [], 282, 6856), [], z_H0, 8, [], 282), [(1, 1, 12, 0), (2, 1, 12, 1), (3, 1, 12, 2), (4, 1, 12, 3), (5, 1, 12, 4), (6, 1, 12, 5)], [(0, 1000, 0), (0, 0, 0), (0, 999, 0), (0, 0, 0), (0, 999, 0), (0, 0, 0)])
def z_T47_0 : List z_ce := [z_c47_0_0]
def z_at47_0 (x pc : Nat) : Bool := false
/-- 5888 steps -/
theorem z_k47_0_0 : z_cok (z_G []) z_md 13 z_Q1 z_at47_0 [] z_T47_0 50000 z_c47_0_0 = true := by decide +kernel
theorem z_o47_0 : ∀ C ∈ z_T47_0, z_cok (z_G []) z_md 13 z_Q1 z_at47_0 [] z_T47_0 50000 C = true := by
  intro C hC
  unfold z_T47_0 at hC
  simp only [List.mem_cons, List.not_mem_nil, or_false] at hC
  rcases hC with rfl
  · exact z_k47_0_0
end ZP1B
