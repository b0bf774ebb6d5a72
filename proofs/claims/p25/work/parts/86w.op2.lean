/-! The operations, what is held alike carried along. -/
section ZOPW
variable {xs : List Int32} {d : Nat} {Ψ : z_S → Prop} {c n i : Nat} {l : z_L} {P : z_H} {iv : Int32}
/-- the law's locals -/
def z_Lc (l : z_L) (ax am ao : Nat) (j : Int32) : Prop := z_get l 0 = some (.ref (z_far + 12)) ∧ z_get l 1 = some (.ref ax) ∧ z_get l 2 = some (.ref am) ∧ z_get l 3 = some (.ref ao) ∧ z_get l 4 = some (.int j)
/-- the law's cells and counters: t rounds are through -/
def z_Is (xs : List Int32) (t ax am ao : Nat) (P : z_H) (c n : Nat) : Prop := (∃ al u, z_In2 xs u u al P ∧ al ax = some 13 ∧ al am = some 90 ∧ al ao = some 124) ∧ P.length ≤ c ∧ c ≤ 282 + t ∧ n ≤ 6856 + 6 * t
theorem z_plc13 {al : Nat → Option Nat} {a : Nat} (h : z_In xs al P) (ha : al a = some 13) : a < z_far ∧ ∃ q, P[a]? = some (0, q) := by
  obtain ⟨h1, -, vs, h2, -⟩ := z_plr h.1 ha (A := z_hg 13) rfl rfl
  exact ⟨h1, vs, h2⟩
theorem z_plc90 {al : Nat → Option Nat} {a : Nat} (h : z_In xs al P) (ha : al a = some 90) : a < z_far ∧ ∃ q, P[a]? = some (10, q) := by
  obtain ⟨h1, -, vs, h2, -⟩ := z_plr h.1 ha (A := z_hg 90) rfl rfl
  exact ⟨h1, vs, h2⟩
/-- an operation: both sides, their answers let go, to the round's end -/
def z_ck2 (pc : Nat) (ks : List Nat) (iv1 y1 iv2 y2 : Nat) : Bool := z_cks pc 1 ks iv1 y1 && (z_eqc (pc + 4 + 6 * ks.length) (.pop, 1) && (z_cks (pc + 5 + 6 * ks.length) 2 ks iv2 y2 && (z_eqc (pc + 9 + 12 * ks.length) (.pop, 1) && (z_eqc (pc + 10 + 12 * ks.length) (.goto ((1982 : Int) - ((pc + 10 + 12 * ks.length : Nat) : Int)), 3) && (Nat.ble (pc + 10 + 12 * ks.length) 1982 && (Nat.beq (z_rcv (z_G []) y1) 0 && (Nat.beq (z_rcv (z_G []) y2) 10 && (Nat.ble (z_mc (z_G []) y1) 1 && (Nat.ble (z_ms (z_G []) y1) 6 && (Nat.beq (z_mc (z_G []) y2) 0 && Nat.beq (z_ms (z_G []) y2) 0))))))))))
theorem z_op2 {k1 k2 pc iv1 y1 iv2 y2 t ax am ao : Nat} {ks : List Nat} {j : Int32} (hk : ∀ u : yc_G, ∃ w, z_kd k2 (z_kd k1 u u).1 (z_kd k1 u u).2 = (w, w)) (h : z_ck2 pc ks iv1 y1 iv2 y2 = true) (u1 : z_UseT xs k1 y1 13 (List.replicate ks.length z_tI) z_isi) (u2 : z_UseT xs k2 y2 90 (List.replicate ks.length z_tI) z_isi) (hI : z_Is xs t ax am ao P c n) (hL : z_Lc l ax am ao j) (hj : j.toInt = ((6 * t : Nat) : Int)) (hl : 6 * t + 6 ≤ xs.length) (hx : xs.length ≤ 3072)
    (kk : ∀ P' c' n', z_Is xs (t + 1) ax am ao P' c' n' → z_Rh (z_G xs) 800 290 Ψ (1982, l, [], P', c', n')) : z_Rh (z_G xs) 800 290 Ψ (pc, l, [], P, c, n) := by
  unfold z_ck2 at h
  simp only [Bool.and_eq_true] at h
  obtain ⟨b1, b2, b3, b4, b5, b6, b7, b8, b9, b10, b11, b12⟩ := h
  have b6 := Nat.le_of_ble_eq_true b6
  have b7 := Nat.eq_of_beq_eq_true b7
  have b8 := Nat.eq_of_beq_eq_true b8
  have b9 := Nat.le_of_ble_eq_true b9
  have b10 := Nat.le_of_ble_eq_true b10
  have b11 := Nat.eq_of_beq_eq_true b11
  have b12 := Nat.eq_of_beq_eq_true b12
  obtain ⟨l0, l1, l2, l3, l4⟩ := hL
  obtain ⟨⟨al, u, hIn, hax, ham, hao⟩, hPc, hc, hn⟩ := hI
  obtain ⟨f1, q1, p1⟩ := z_plc13 hIn.1 hax
  obtain ⟨rv1, P1, al1, o1, g1, g2, g3, g4, g5, g6⟩ := u1 hIn hax (by omega) (z_vals_ok (xs := xs) (i := 6 * t) (ks := ks))
  obtain ⟨v1, rfl⟩ := z_isi_ok g1 g2
  refine z_side (rl := 1) b1 l1 l0 l4 hj hl hx (by decide) (by decide) p1 f1 b7 (by omega) (by omega) g3 ?_
  refine z_r_pu (ins := .pop) (len := 1) (t := pc + 5 + 6 * ks.length) (st' := []) (z_eqc_ok b2) rfl rfl (by omega) rfl ?_
  obtain ⟨f2, q2, p2⟩ := z_plc90 g4.1 (g5 _ _ ham)
  obtain ⟨rv2, P2, al2, o2, k1, k2, k3, k4, k5, k6⟩ := u2 g4 (g5 _ _ ham) (by omega) (z_vals_ok (xs := xs) (i := 6 * t) (ks := ks))
  obtain ⟨v2, rfl⟩ := z_isi_ok k1 k2
  refine z_side (rl := 2) b3 l2 l0 l4 hj hl hx (by decide) (by decide) p2 f2 b8 (by omega) (by omega) k3 ?_
  rw [b11, b12, show pc + 5 + 6 * ks.length + 4 + 6 * ks.length = pc + 9 + 12 * ks.length by omega]
  refine z_r_pu (ins := .pop) (len := 1) (t := pc + 10 + 12 * ks.length) (st' := []) (z_eqc_ok b4) rfl rfl (by omega) rfl ?_
  obtain ⟨w, hw⟩ := hk u
  rw [hw] at k4
  refine z_r_jm (ins := .goto _) (len := 3) (t := 1982) (z_eqc_ok b5) rfl rfl rfl (z_gty ?_) (kk P2 _ _ ⟨⟨al2, w, k4, k5 _ _ (g5 _ _ hax), k5 _ _ (g5 _ _ ham), k5 _ _ (g5 _ _ hao)⟩, by omega, by omega, by omega⟩)
  unfold z_tg
  rw [if_pos (by omega)]
  congr 1
  omega

theorem z_wsv {xs : List Int32} {i : Nat} {ks : List Nat} : (ks.map fun k => xs.getD (i + k) 0).map Value.int = z_vals xs i ks := by
  unfold z_vals
  rw [List.map_map]
  rfl
/-- an operation told on both sides, its answers let go -/
theorem z_opS {pc iv1 y1 iv2 y2 t ax am ao : Nat} {ks : List Nat} {j : Int32} {Sp : yc_G → List Int32 → Int32 → yc_G → Prop} (hdet : ∀ {τ x r r' w w'}, Sp τ x r w → Sp τ x r' w' → r = r' ∧ w = w') (h : z_ck2 pc ks iv1 y1 iv2 y2 = true) (u1 : z_Told xs y1 13 false Sp ks.length) (u2 : z_Told xs y2 90 true Sp ks.length) (hI : z_Is xs t ax am ao P c n) (hL : z_Lc l ax am ao j) (hj : j.toInt = ((6 * t : Nat) : Int)) (hl : 6 * t + 6 ≤ xs.length) (hx : xs.length ≤ 3072)
    (kk : ∀ P' c' n', z_Is xs (t + 1) ax am ao P' c' n' → z_Rh (z_G xs) 800 290 Ψ (1982, l, [], P', c', n')) : z_Rh (z_G xs) 800 290 Ψ (pc, l, [], P, c, n) := by
  unfold z_ck2 at h
  simp only [Bool.and_eq_true] at h
  obtain ⟨b1, b2, b3, b4, b5, b6, b7, b8, b9, b10, b11, b12⟩ := h
  have b6 := Nat.le_of_ble_eq_true b6
  have b7 := Nat.eq_of_beq_eq_true b7
  have b8 := Nat.eq_of_beq_eq_true b8
  have b9 := Nat.le_of_ble_eq_true b9
  have b10 := Nat.le_of_ble_eq_true b10
  have b11 := Nat.eq_of_beq_eq_true b11
  have b12 := Nat.eq_of_beq_eq_true b12
  obtain ⟨l0, l1, l2, l3, l4⟩ := hL
  obtain ⟨⟨al, u, hIn, hax, ham, hao⟩, hPc, hc, hn⟩ := hI
  obtain ⟨f1, q1, p1⟩ := z_plc13 hIn.1 hax
  obtain ⟨r1, w1, P1, al1, s1, g3, g4, g5, g6⟩ := u1 (ws := ks.map fun k => xs.getD (6 * t + k) 0) hIn hax (by omega) (List.length_map ..)
  have s1 : Sp u (ks.map fun k => xs.getD (6 * t + k) 0) r1 w1 := s1
  have g4 : z_In2 xs w1 u al1 P1 := g4
  rw [z_wsv] at g3
  refine z_side (rl := 1) b1 l1 l0 l4 hj hl hx (by decide) (by decide) p1 f1 b7 (by omega) (by omega) g3 ?_
  refine z_r_pu (ins := .pop) (len := 1) (t := pc + 5 + 6 * ks.length) (st' := []) (z_eqc_ok b2) rfl rfl (by omega) rfl ?_
  obtain ⟨f2, q2, p2⟩ := z_plc90 g4.1 (g5 _ _ ham)
  obtain ⟨r2, w2, P2, al2, s2, k3, k4, k5, k6⟩ := u2 (ws := ks.map fun k => xs.getD (6 * t + k) 0) g4 (g5 _ _ ham) (by omega) (List.length_map ..)
  have s2 : Sp u (ks.map fun k => xs.getD (6 * t + k) 0) r2 w2 := s2
  have k4 : z_In2 xs w1 w2 al2 P2 := k4
  rw [z_wsv] at k3
  obtain ⟨-, hw⟩ := hdet s1 s2
  rw [← hw] at k4
  refine z_side (rl := 2) b3 l2 l0 l4 hj hl hx (by decide) (by decide) p2 f2 b8 (by omega) (by omega) k3 ?_
  rw [b11, b12, show pc + 5 + 6 * ks.length + 4 + 6 * ks.length = pc + 9 + 12 * ks.length by omega]
  refine z_r_pu (ins := .pop) (len := 1) (t := pc + 10 + 12 * ks.length) (st' := []) (z_eqc_ok b4) rfl rfl (by omega) rfl ?_
  refine z_r_jm (ins := .goto _) (len := 3) (t := 1982) (z_eqc_ok b5) rfl rfl rfl (z_gty ?_) (kk P2 _ _ ⟨⟨al2, w1, k4, k5 _ _ (g5 _ _ hax), k5 _ _ (g5 _ _ ham), k5 _ _ (g5 _ _ hao)⟩, by omega, by omega, by omega⟩)
  unfold z_tg
  rw [if_pos (by omega)]
  congr 1
  omega
def z_ckE (pc : Nat) (ks : List Nat) (iv1 y1 iv2 y2 : Nat) (g : Int) : Bool := z_cks pc 1 ks iv1 y1 && (z_cks (pc + 4 + 6 * ks.length) 2 ks iv2 y2 && (z_eqc (pc + 8 + 12 * ks.length) (.if_icmp .eq g, 3) && (true && (true && (Nat.ble pc 1982 && (Nat.beq (z_rcv (z_G []) y1) 0 && (Nat.beq (z_rcv (z_G []) y2) 10 && (Nat.ble (z_mc (z_G []) y1) 1 && (Nat.ble (z_ms (z_G []) y1) 6 && (Nat.beq (z_mc (z_G []) y2) 0 && Nat.beq (z_ms (z_G []) y2) 0))))))))))
/-- an operation told on both sides, its answers compared -/
theorem z_opE {pc iv1 y1 iv2 y2 t ax am ao : Nat} {ks : List Nat} {g : Int} {j : Int32} {Sp : yc_G → List Int32 → Int32 → yc_G → Prop} (hdet : ∀ {τ x r r' w w'}, Sp τ x r w → Sp τ x r' w' → r = r' ∧ w = w') (h : z_ckE pc ks iv1 y1 iv2 y2 g = true) (htg : z_tg (pc + 8 + 12 * ks.length) g = some 1982) (u1 : z_Told xs y1 13 false Sp ks.length) (u2 : z_Told xs y2 90 true Sp ks.length) (hI : z_Is xs t ax am ao P c n) (hL : z_Lc l ax am ao j) (hj : j.toInt = ((6 * t : Nat) : Int)) (hl : 6 * t + 6 ≤ xs.length) (hx : xs.length ≤ 3072)
    (kk : ∀ P' c' n', z_Is xs (t + 1) ax am ao P' c' n' → z_Rh (z_G xs) 800 290 Ψ (1982, l, [], P', c', n')) : z_Rh (z_G xs) 800 290 Ψ (pc, l, [], P, c, n) := by
  unfold z_ckE at h
  simp only [Bool.and_eq_true] at h
  obtain ⟨b1, b3, b4, -, -, b6, b7, b8, b9, b10, b11, b12⟩ := h
  have b6 := Nat.le_of_ble_eq_true b6
  have b7 := Nat.eq_of_beq_eq_true b7
  have b8 := Nat.eq_of_beq_eq_true b8
  have b9 := Nat.le_of_ble_eq_true b9
  have b10 := Nat.le_of_ble_eq_true b10
  have b11 := Nat.eq_of_beq_eq_true b11
  have b12 := Nat.eq_of_beq_eq_true b12
  obtain ⟨l0, l1, l2, l3, l4⟩ := hL
  obtain ⟨⟨al, u, hIn, hax, ham, hao⟩, hPc, hc, hn⟩ := hI
  obtain ⟨f1, q1, p1⟩ := z_plc13 hIn.1 hax
  obtain ⟨r1, w1, P1, al1, s1, g3, g4, g5, g6⟩ := u1 (ws := ks.map fun k => xs.getD (6 * t + k) 0) hIn hax (by omega) (List.length_map ..)
  have s1 : Sp u (ks.map fun k => xs.getD (6 * t + k) 0) r1 w1 := s1
  have g4 : z_In2 xs w1 u al1 P1 := g4
  rw [z_wsv] at g3
  refine z_side (rl := 1) b1 l1 l0 l4 hj hl hx (by decide) (by decide) p1 f1 b7 (by omega) (by omega) g3 ?_
  obtain ⟨f2, q2, p2⟩ := z_plc90 g4.1 (g5 _ _ ham)
  obtain ⟨r2, w2, P2, al2, s2, k3, k4, k5, k6⟩ := u2 (ws := ks.map fun k => xs.getD (6 * t + k) 0) g4 (g5 _ _ ham) (by omega) (List.length_map ..)
  have s2 : Sp u (ks.map fun k => xs.getD (6 * t + k) 0) r2 w2 := s2
  have k4 : z_In2 xs w1 w2 al2 P2 := k4
  rw [z_wsv] at k3
  obtain ⟨hr, hw⟩ := hdet s1 s2
  rw [← hw] at k4
  refine z_side (rl := 2) (st := [.int r1]) b3 l2 l0 l4 hj hl hx (by decide) (Nat.le_of_ble_eq_true rfl) p2 f2 b8 (by omega) (by omega) k3 ?_
  rw [b11, b12, show pc + 4 + 6 * ks.length + 4 + 6 * ks.length = pc + 8 + 12 * ks.length by omega]
  exact z_r_jm (ins := .if_icmp .eq g) (len := 3) (t := 1982) (z_eqc_ok b4) rfl rfl rfl (z_icy (t := 1982) htg (by rw [z_c_eq]; exact decide_eq_true (by rw [hr]))) (kk P2 _ _ ⟨⟨al2, w1, k4, k5 _ _ (g5 _ _ hax), k5 _ _ (g5 _ _ ham), k5 _ _ (g5 _ _ hao)⟩, by omega, by omega, by omega⟩)
end ZOPW
