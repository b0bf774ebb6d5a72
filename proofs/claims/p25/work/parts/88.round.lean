/-! The operations of the law that are not alike the others; a round. -/
section ZSPC
variable {xs : List Int32} {t ax am ao c n d i : Nat} {l : z_L} {P : z_H} {j : Int32} {Ψ : z_S → Prop}
theorem z_r_inv {pc a tc iv y : Nat} {vals st q : List Value} {rv : Option Value} {P1 : z_H} (b3 : z_eqc pc (.invokevirtual iv, 3) = true) (b4 : z_call (z_G []) 290 (.invokevirtual iv) = some (y, 1)) (b5 : z_na (z_G []) y = vals.length + 1) (b6 : Nat.ble (z_nL (z_G []) y) 45 = true) (b7 : Nat.ble (vals.length + 1) (z_nL (z_G []) y) = true) (hcat : z_cat vals = vals.length) (hd : 1 ≤ d) (hst : z_cat st ≤ 8) (hP : P[a]? = some (tc, q)) (ha : a < z_far) (ht : z_rcv (z_G []) y = tc) (hmc : c + z_mc (z_G []) y ≤ 601024) (hms : n + z_ms (z_G []) y ≤ 7293034)
    (hrun : z_Runs (z_G xs) (d - 1) y (0, lv_args 0 (.ref a :: vals), [], P, 0, 0) rv P1) (kk : z_Rh (z_G xs) d 290 Ψ (pc + 3, l, rv.toList ++ st, P1, c + z_mc (z_G []) y, n + z_ms (z_G []) y)) : z_Rh (z_G xs) d 290 Ψ (pc, l, vals.reverse ++ .ref a :: st, P, c, n) := by
  have hna : z_na (z_G xs) y = vals.length + 1 := by rw [z_na_xs, b5]
  have hlen : vals.reverse.length = vals.length := List.length_reverse
  refine z_r_cl (ins := .invokevirtual iv) (y := y) (kd := 1) (as := .ref a :: vals) (r := st) (rv := rv) (P1 := P1) (z_eqc_ok b3) (by rw [z_call_xs]; exact b4) (by decide) ?_ rfl hrun ?_
  · refine z_argsv ?_ ?_ ?_ hd hst ?_ ?_ ?_ ?_ ?_ ?_
    · rw [hna, List.take_append, hlen, show vals.length + 1 - vals.length = 1 by omega, List.take_of_length_le (by rw [hlen]; omega)]
      simp
    · rw [hna, List.drop_append, hlen, show vals.length + 1 - vals.length = 1 by omega, List.drop_of_length_le (by rw [hlen]; omega)]
      rfl
    · rw [hna]
      refine Nat.ble_eq.mpr ?_
      rw [List.length_append, hlen, List.length_cons]
      omega
    · rw [z_nL_xs]
      exact b6
    · rw [z_nL_xs]
      have e : z_cat (Value.ref a :: vals) = 1 + z_cat vals := by
        unfold z_cat
        rw [List.map_cons, List.sum_cons]
        rfl
      rw [e, hcat]
      have := Nat.le_of_ble_eq_true b7
      omega
    · rw [z_mc_xs]
      exact hmc
    · rw [z_ms_xs]
      exact hms
    · right
      rw [hna]
      exact Nat.le_add_left 1 _
    · right
      exact z_atv (z_lkn ha hP) (by rw [z_rcv_xs]; exact ht)
  · rw [z_mc_xs, z_ms_xs]
    exact kk
def z_tB : z_av := .inl (0, 0, 0, 0, 1)
/-- half of hole -/
theorem z_half_h {pc : Nat} {rl : Fin 4} {a : Nat} (hck : (z_eqc pc (.aload_n rl, 1) && (z_ckb (pc + 1) 1 && (z_ckb (pc + 7) 2 && (z_eqc (pc + 13) (.ifCond .eq 7, 3) && (z_eqc (pc + 16) (.iconst 1, 1) && (z_eqc (pc + 17) (.goto 4, 3) && z_eqc (pc + 20) (.iconst 0, 1))))))) = true) (htg : z_tg (pc + 13) 7 = some (pc + 20)) (htg2 : z_tg (pc + 17) 4 = some (pc + 21)) (hr : z_get l rl = some (.ref a)) (h0 : z_get l 0 = some (.ref (z_far + 12))) (h4 : z_get l 4 = some (.int j)) (hi : j.toInt = (i : Int)) (hl : i + 6 ≤ xs.length) (hx : xs.length ≤ 3072)
    (kk : ∀ b : Int32, z_gv [0] (fun _ => none) z_tB (.int b) → z_Rh (z_G xs) d 290 Ψ (pc + 21, l, [.int b, .int (xs.getD (i + 1) 0), .ref a], P, c, n)) : z_Rh (z_G xs) d 290 Ψ (pc, l, [], P, c, n) := by
  simp only [Bool.and_eq_true] at hck
  obtain ⟨b1, b2, b3, b4, b5, b6, b7⟩ := hck
  refine z_r_ld (ins := .aload_n rl) (len := 1) (t := pc + 1) (i := rl) (z_eqc_ok b1) rfl rfl rfl rfl (fun _ => rfl) hr rfl ?_
  refine z_r_blk b2 (by decide) h0 h4 hi (by omega) hx ?_
  refine z_r_blk b3 (by decide) h0 h4 hi (by omega) hx ?_
  by_cases hz : xs.getD (i + 2) 0 = 0
  · refine z_r_jm (ins := .ifCond .eq 7) (len := 3) (t := pc + 20) (z_eqc_ok b4) rfl rfl rfl (z_ify (t := pc + 20) htg (by rw [hz]; rfl)) ?_
    refine z_r_pu (ins := .iconst 0) (len := 1) (t := pc + 21) (z_eqc_ok b7) rfl rfl rfl rfl ?_
    exact kk _ ⟨_, rfl, by decide, by decide, Or.inl rfl⟩
  · refine z_r_jm (ins := .ifCond .eq 7) (len := 3) (t := pc + 16) (z_eqc_ok b4) rfl rfl rfl (z_ifn (t := pc + 20) htg (by rw [z_c_eq]; exact decide_eq_false (fun q => hz (Int32.toInt_inj.mp q)))) ?_
    refine z_r_pu (ins := .iconst 1) (len := 1) (t := pc + 17) (z_eqc_ok b5) rfl rfl rfl rfl ?_
    refine z_r_jm (ins := .goto 4) (len := 3) (t := pc + 21) (z_eqc_ok b6) rfl rfl rfl (z_gty htg2) ?_
    exact kk _ ⟨_, rfl, by decide, by decide, Or.inl rfl⟩
theorem z_tB_al {al : Nat → Option Nat} {b : Int32} (h : z_gv [0] (fun _ => none) z_tB (.int b)) : z_gv [0] al z_tB (.int b) := h
theorem z_op_1456 (hI : z_Is xs t ax am ao P c n) (hL : z_Lc l ax am ao j) (hj : j.toInt = ((6 * t : Nat) : Int)) (hl : 6 * t + 6 ≤ xs.length) (hx : xs.length ≤ 3072) (kk : ∀ P' c' n', z_Is xs (t + 1) ax am ao P' c' n' → z_Rh (z_G xs) 800 290 Ψ (1982, l, [], P', c', n')) : z_Rh (z_G xs) 800 290 Ψ (1456, l, [], P, c, n) := by
  have u1 : z_UseT xs 0 150 13 [z_tI, z_tB] z_isi := z_useT_of (K := z_Kk67) z_Kn67 rfl rfl (by decide +kernel) rfl
  have u2 : z_UseT xs 0 264 90 [z_tI, z_tB] z_isi := z_useT_of (K := z_Kk286) z_Kn286 rfl rfl (by decide +kernel) rfl
  obtain ⟨l0, l1, l2, l3, l4⟩ := hL
  obtain ⟨⟨al, u, hIn, hax, ham, hao⟩, hPc, hc, hn⟩ := hI
  obtain ⟨f1, q1, p1⟩ := z_plc13 hIn.1 hax
  refine z_half_h (rl := 1) (by decide +kernel) rfl rfl l1 l0 l4 hj hl hx fun b hb => ?_
  obtain ⟨rv1, P1, al1, o1, g1, g2, g3, g4, g5, g6⟩ := u1 (vs := [.int (xs.getD (6 * t + 1) 0), .int b]) hIn hax (by omega) ⟨z_tI_ok _, z_tB_al hb, trivial⟩
  obtain ⟨v1, rfl⟩ := z_isi_ok g1 g2
  have m1 : z_mc (z_G []) 150 = 1 := rfl
  have m2 : z_ms (z_G []) 150 = 6 := rfl
  have m3 : z_mc (z_G []) 264 = 0 := rfl
  have m4 : z_ms (z_G []) 264 = 0 := rfl
  refine z_r_inv (vals := [.int (xs.getD (6 * t + 1) 0), .int b]) (st := []) (iv := 169) (y := 150) (by decide +kernel) (by decide +kernel) rfl rfl rfl rfl (by decide) (by decide) p1 f1 rfl (by rw [m1]; omega) (by rw [m2]; omega) g3 ?_
  refine z_r_pu (ins := .pop) (len := 1) (t := 1456 + 25) (st' := []) (z_eqc_ok (by decide +kernel)) rfl rfl rfl rfl ?_
  obtain ⟨f2, q2, p2⟩ := z_plc90 g4.1 (g5 _ _ ham)
  refine z_half_h (rl := 2) (by decide +kernel) rfl rfl l2 l0 l4 hj hl hx fun b2 hb2 => ?_
  obtain ⟨rv2, P2, al2, o2, k1, k2, k3, k4, k5, k6⟩ := u2 (vs := [.int (xs.getD (6 * t + 1) 0), .int b2]) g4 (g5 _ _ ham) (by rw [m1] at g6; omega) ⟨z_tI_ok _, z_tB_al hb2, trivial⟩
  obtain ⟨v2, rfl⟩ := z_isi_ok k1 k2
  rw [m1] at g6
  rw [m3] at k6
  refine z_r_inv (vals := [.int (xs.getD (6 * t + 1) 0), .int b2]) (st := []) (iv := 173) (y := 264) (by decide +kernel) (by decide +kernel) rfl rfl rfl rfl (by decide) (by decide) p2 f2 rfl (by rw [m1, m3]; omega) (by rw [m2, m4]; omega) k3 ?_
  rw [m1, m2, m3, m4]
  refine z_r_pu (ins := .pop) (len := 1) (t := 1456 + 50) (st' := []) (z_eqc_ok (by decide +kernel)) rfl rfl rfl rfl ?_
  exact z_r_jm (ins := .goto 476) (len := 3) (t := 1982) (z_eqc_ok (by decide +kernel)) rfl rfl rfl (z_gty rfl) (kk P2 _ _ ⟨⟨al2, u, k4, k5 _ _ (g5 _ _ hax), k5 _ _ (g5 _ _ ham), k5 _ _ (g5 _ _ hao)⟩, by omega, by omega, by omega⟩)
def z_isv (v : Int) : Option z_av → Bool
  | some (.inl t) => z_ile v (z_lo t) && z_ile (z_hi t) v
  | _ => false
theorem z_isv_ok {N : List Int} {al : Nat → Option Nat} {o : Option z_av} {rv : Option Value} {v : Int} (h : z_isv v o = true) (k : z_go_ N al o rv) : ∃ u : Int32, rv = some (.int u) ∧ u.toInt = v := by
  unfold z_isv at h
  split at h
  · rename_i t
    rw [Bool.and_eq_true] at h
    have h1 := z_ile_t h.1
    have h2 := z_ile_t h.2
    match rv, k with
    | some w, k =>
      obtain ⟨x, e, k1, k2, -⟩ := k
      exact ⟨x, by rw [e], by omega⟩
  · cases h
/-- the next round -/
def z_PsN (xs : List Int32) (t ax am ao : Nat) (q : z_S) : Prop := ∃ l P c n j, q = (23, l, [], P, c, n) ∧ z_Lc l ax am ao j ∧ j.toInt = ((6 * (t + 1) : Nat) : Int) ∧ z_Is xs (t + 1) ax am ao P c n ∧ 6 * t + 6 ≤ xs.length
theorem z_rh_mono {G : z_Pg} {x : Nat} {Ψ Ψ' : z_S → Prop} {q : z_S} (h : ∀ q, Ψ q → Ψ' q) (k : z_Rh G d x Ψ q) : z_Rh G d x Ψ' q := by
  obtain ⟨q', k1, k2⟩ := k
  exact ⟨q', k1, h _ k2⟩
/-- where a round comes to: the end; the next round; a call that may throw -/
def z_PsR (xs : List Int32) (t ax am ao : Nat) (q : z_S) : Prop := (∃ l P c n, q = (1989, l, [.int 1], P, c, n) ∧ c ≤ 601024 ∧ n ≤ 7293034) ∨ (∃ l P c n j, q = (23, l, [], P, c, n) ∧ z_Lc l ax am ao j ∧ j.toInt = ((6 * (t + 1) : Nat) : Int) ∧ z_Is xs (t + 1) ax am ao P c n ∧ 6 * t + 6 ≤ xs.length) ∨
  (∃ l P c n j, z_Lc l ax am ao j ∧ j.toInt = ((6 * t : Nat) : Int) ∧ z_Is xs t ax am ao P c n ∧ 6 * t + 6 ≤ xs.length ∧ (q = (404, l, [.ref ao, .int (xs.getD (6 * t + 2) 0), .int (xs.getD (6 * t + 1) 0), .ref ax], P, c, n) ∨ q = (1171, l, [.ref ao, .int (xs.getD (6 * t + 2) 0), .int (xs.getD (6 * t + 1) 0), .ref ax], P, c, n) ∨ q = (1962, l, [.ref ao, .int (xs.getD (6 * t + 1) 0), .ref ax], P, c, n)))
/-- the round's end -/
theorem z_rnd_end (hI : z_Is xs (t + 1) ax am ao P c n) (hL : z_Lc l ax am ao j) (hj : j.toInt = ((6 * t : Nat) : Int)) (hl : 6 * t + 6 ≤ xs.length) (hx : xs.length ≤ 3072) : z_Rh (z_G xs) 800 290 (z_PsN xs t ax am ao) (1982, l, [], P, c, n) := by
  obtain ⟨l0, l1, l2, l3, l4⟩ := hL
  refine z_r_ic (ins := .iinc 4 6) (len := 3) (t := 1985) (i := 4) (kk := 6) (z_eqc_ok (by decide +kernel)) rfl rfl rfl rfl rfl l4 fun l' h4 hk => ?_
  have h0 := hk _ _ l0 (by decide) (Or.inl (by decide))
  have h1 := hk _ _ l1 (by decide) (Or.inl (by decide))
  have h2 := hk _ _ l2 (by decide) (Or.inl (by decide))
  have h3 := hk _ _ l3 (by decide) (Or.inr (by show (1 : Nat) ≠ 2; decide))
  refine z_r_jm (ins := .goto (-1962)) (len := 3) (t := 23) (z_eqc_ok (by decide +kernel)) rfl rfl rfl (z_gty rfl) ?_
  refine z_rh_end ⟨l', P, c, n, _, rfl, ⟨h0, h1, h2, h3, h4⟩, ?_, hI, hl⟩
  have e6 : (Int32.ofInt 6).toInt = 6 := rfl
  rw [z_ad32 (by rw [e6]; omega) (by rw [e6]; omega), e6]
  omega
/-- ahead of a call that may throw -/
theorem z_x2 {pc : Nat} (h : (z_eqc pc (.aload_n 1, 1) && (z_cka (pc + 1) [1, 2] && z_eqc (pc + 13) (.aload_n 3, 1))) = true) (hL : z_Lc l ax am ao j) (hj : j.toInt = ((6 * t : Nat) : Int)) (hl : 6 * t + 6 ≤ xs.length) (hx : xs.length ≤ 3072) (kk : z_Rh (z_G xs) d 290 Ψ (pc + 14, l, [.ref ao, .int (xs.getD (6 * t + 2) 0), .int (xs.getD (6 * t + 1) 0), .ref ax], P, c, n)) : z_Rh (z_G xs) d 290 Ψ (pc, l, [], P, c, n) := by
  simp only [Bool.and_eq_true] at h
  obtain ⟨b1, b2, b3⟩ := h
  obtain ⟨l0, l1, l2, l3, l4⟩ := hL
  refine z_r_ld (ins := .aload_n 1) (len := 1) (t := pc + 1) (i := 1) (z_eqc_ok b1) rfl rfl rfl rfl (fun _ => rfl) l1 rfl ?_
  refine z_r_args b2 l0 l4 hj hl hx ?_
  exact z_r_ld (ins := .aload_n 3) (len := 1) (t := pc + 14) (i := 3) (z_eqc_ok b3) rfl rfl rfl rfl (fun _ => rfl) l3 rfl kk
theorem z_x1 {pc : Nat} (h : (z_eqc pc (.aload_n 1, 1) && (z_cka (pc + 1) [1] && z_eqc (pc + 7) (.aload_n 3, 1))) = true) (hL : z_Lc l ax am ao j) (hj : j.toInt = ((6 * t : Nat) : Int)) (hl : 6 * t + 6 ≤ xs.length) (hx : xs.length ≤ 3072) (kk : z_Rh (z_G xs) d 290 Ψ (pc + 8, l, [.ref ao, .int (xs.getD (6 * t + 1) 0), .ref ax], P, c, n)) : z_Rh (z_G xs) d 290 Ψ (pc, l, [], P, c, n) := by
  simp only [Bool.and_eq_true] at h
  obtain ⟨b1, b2, b3⟩ := h
  obtain ⟨l0, l1, l2, l3, l4⟩ := hL
  refine z_r_ld (ins := .aload_n 1) (len := 1) (t := pc + 1) (i := 1) (z_eqc_ok b1) rfl rfl rfl rfl (fun _ => rfl) l1 rfl ?_
  refine z_r_args b2 l0 l4 hj hl hx ?_
  exact z_r_ld (ins := .aload_n 3) (len := 1) (t := pc + 8) (i := 3) (z_eqc_ok b3) rfl rfl rfl rfl (fun _ => rfl) l3 rfl kk
/-- behind a call that may throw -/
theorem z_y2 {pc iv y : Nat} (h : (z_eqc pc (.istore 5, 2) && (z_cks (pc + 2) 2 [1, 2] iv y && (z_eqc (pc + 18) (.istore 6, 2) && (z_eqc (pc + 20) (.goto ((1982 : Int) - ((pc + 20 : Nat) : Int)), 3) && (Nat.ble (pc + 20) 1982 && (Nat.beq (z_rcv (z_G []) y) 10 && (Nat.beq (z_mc (z_G []) y) 0 && Nat.beq (z_ms (z_G []) y) 0))))))) = true) (u2 : z_UseT xs 0 y 90 [z_tI, z_tI] z_isi) (hI : z_Is xs (t + 1) ax am ao P c n) (hL : z_Lc l ax am ao j) (hj : j.toInt = ((6 * t : Nat) : Int)) (hl : 6 * t + 6 ≤ xs.length) (hx : xs.length ≤ 3072) (v : Int32) : z_Rh (z_G xs) 800 290 (z_PsN xs t ax am ao) (pc, l, [.int v], P, c, n) := by
  simp only [Bool.and_eq_true] at h
  obtain ⟨b1, b2, b3, b4, b5, b6, b7, b8⟩ := h
  have b5 := Nat.le_of_ble_eq_true b5
  have b6 := Nat.eq_of_beq_eq_true b6
  have b7 := Nat.eq_of_beq_eq_true b7
  have b8 := Nat.eq_of_beq_eq_true b8
  obtain ⟨l0, l1, l2, l3, l4⟩ := hL
  obtain ⟨⟨al, u, hIn, hax, ham, hao⟩, hPc, hc, hn⟩ := hI
  refine z_r_is (kk := z_isI) (ins := .istore 5) (len := 2) (t := pc + 2) (i := 5) (z_eqc_ok b1) rfl rfl rfl rfl rfl rfl rfl fun l' h5 hk => ?_
  have l0 := hk _ _ l0 (by decide) (Or.inl (by decide))
  have l1 := hk _ _ l1 (by decide) (Or.inl (by decide))
  have l2 := hk _ _ l2 (by decide) (Or.inl (by decide))
  have l3 := hk _ _ l3 (by decide) (Or.inl (by decide))
  have l4 := hk _ _ l4 (by decide) (Or.inr (by show (1 : Nat) ≠ 2; decide))
  obtain ⟨f2, q2, p2⟩ := z_plc90 hIn.1 ham
  obtain ⟨rv2, P2, al2, o2, k1, k2, k3, k4, k5, k6⟩ := u2 hIn ham (by omega) (z_vals_ok (xs := xs) (i := 6 * t) (ks := [1, 2]))
  obtain ⟨v2, rfl⟩ := z_isi_ok k1 k2
  rw [b7] at k6
  refine z_side (rl := 2) b2 l2 l0 l4 hj hl hx (by decide) (by decide) p2 f2 b6 (by rw [b7]; omega) (by rw [b8]; omega) k3 ?_
  rw [b7, b8]
  refine z_r_is (kk := z_isI) (ins := .istore 6) (len := 2) (t := pc + 20) (i := 6) (z_eqc_ok b3) rfl rfl rfl rfl rfl rfl rfl fun l'' h6 hk => ?_
  have l0 := hk _ _ l0 (by decide) (Or.inl (by decide))
  have l1 := hk _ _ l1 (by decide) (Or.inl (by decide))
  have l2 := hk _ _ l2 (by decide) (Or.inl (by decide))
  have l3 := hk _ _ l3 (by decide) (Or.inl (by decide))
  have l4 := hk _ _ l4 (by decide) (Or.inl (by decide))
  refine z_r_jm (ins := .goto _) (len := 3) (t := 1982) (z_eqc_ok b4) rfl rfl rfl (z_gty ?_) (z_rnd_end ⟨⟨al2, u, k4, k5 _ _ hax, k5 _ _ ham, k5 _ _ hao⟩, by omega, by omega, by omega⟩ ⟨l0, l1, l2, l3, l4⟩ hj hl hx)
  unfold z_tg
  rw [if_pos (by omega)]
  exact congrArg some (by omega)
theorem z_isl_ok {N : List Int} {al : Nat → Option Nat} {o : Option z_av} {rv : Option Value} (h : (match o with | some (.inr (.inl _)) => true | _ => false) = true) (k : z_go_ N al o rv) : ∃ v : Int64, rv = some (.long v) := by
  split at h
  · match rv, k with
    | some w, k =>
      obtain ⟨x, e, -⟩ := k
      exact ⟨x, by rw [e]⟩
  · cases h
def z_isl : Option z_av → Bool
  | some (.inr (.inl _)) => true
  | _ => false
theorem z_y1 {pc iv y : Nat} (h : (z_eqc pc (.istore 5, 2) && (z_cks (pc + 2) 2 [1] iv y && (z_eqc (pc + 12) (.lstore 6, 2) && (z_eqc (pc + 14) (.goto ((1982 : Int) - ((pc + 14 : Nat) : Int)), 3) && (Nat.ble (pc + 14) 1982 && (Nat.beq (z_rcv (z_G []) y) 10 && (Nat.beq (z_mc (z_G []) y) 0 && Nat.beq (z_ms (z_G []) y) 0))))))) = true) (u2 : z_UseT xs 0 y 90 [z_tI] z_isl) (hI : z_Is xs (t + 1) ax am ao P c n) (hL : z_Lc l ax am ao j) (hj : j.toInt = ((6 * t : Nat) : Int)) (hl : 6 * t + 6 ≤ xs.length) (hx : xs.length ≤ 3072) (v : Int32) : z_Rh (z_G xs) 800 290 (z_PsN xs t ax am ao) (pc, l, [.int v], P, c, n) := by
  simp only [Bool.and_eq_true] at h
  obtain ⟨b1, b2, b3, b4, b5, b6, b7, b8⟩ := h
  have b5 := Nat.le_of_ble_eq_true b5
  have b6 := Nat.eq_of_beq_eq_true b6
  have b7 := Nat.eq_of_beq_eq_true b7
  have b8 := Nat.eq_of_beq_eq_true b8
  obtain ⟨l0, l1, l2, l3, l4⟩ := hL
  obtain ⟨⟨al, u, hIn, hax, ham, hao⟩, hPc, hc, hn⟩ := hI
  refine z_r_is (kk := z_isI) (ins := .istore 5) (len := 2) (t := pc + 2) (i := 5) (z_eqc_ok b1) rfl rfl rfl rfl rfl rfl rfl fun l' h5 hk => ?_
  have l0 := hk _ _ l0 (by decide) (Or.inl (by decide))
  have l1 := hk _ _ l1 (by decide) (Or.inl (by decide))
  have l2 := hk _ _ l2 (by decide) (Or.inl (by decide))
  have l3 := hk _ _ l3 (by decide) (Or.inl (by decide))
  have l4 := hk _ _ l4 (by decide) (Or.inr (by show (1 : Nat) ≠ 2; decide))
  obtain ⟨f2, q2, p2⟩ := z_plc90 hIn.1 ham
  obtain ⟨rv2, P2, al2, o2, k1, k2, k3, k4, k5, k6⟩ := u2 hIn ham (by omega) (z_vals_ok (xs := xs) (i := 6 * t) (ks := [1]))
  obtain ⟨v2, rfl⟩ := z_isl_ok k1 k2
  rw [b7] at k6
  refine z_side (rl := 2) b2 l2 l0 l4 hj hl hx (by decide) (by decide) p2 f2 b6 (by rw [b7]; omega) (by rw [b8]; omega) k3 ?_
  rw [b7, b8]
  refine z_r_ls (ins := .lstore 6) (len := 2) (t := pc + 14) (i := 6) (z_eqc_ok b3) rfl rfl rfl rfl rfl rfl fun l'' h6 hk => ?_
  have l0 := hk _ _ l0 (by decide) (by decide) (Or.inl (by decide))
  have l1 := hk _ _ l1 (by decide) (by decide) (Or.inl (by decide))
  have l2 := hk _ _ l2 (by decide) (by decide) (Or.inl (by decide))
  have l3 := hk _ _ l3 (by decide) (by decide) (Or.inl (by decide))
  have l4 := hk _ _ l4 (by decide) (by decide) (Or.inl (by decide))
  refine z_r_jm (ins := .goto _) (len := 3) (t := 1982) (z_eqc_ok b4) rfl rfl rfl (z_gty ?_) (z_rnd_end ⟨⟨al2, u, k4, k5 _ _ hax, k5 _ _ ham, k5 _ _ hao⟩, by omega, by omega, by omega⟩ ⟨l0, l1, l2, l3, l4⟩ hj hl hx)
  unfold z_tg
  rw [if_pos (by omega)]
  exact congrArg some (by omega)
theorem z_yy0 (hI : z_Is xs (t + 1) ax am ao P c n) (hL : z_Lc l ax am ao j) (hj : j.toInt = ((6 * t : Nat) : Int)) (hl : 6 * t + 6 ≤ xs.length) (hx : xs.length ≤ 3072) (v : Int32) : z_Rh (z_G xs) 800 290 (z_PsN xs t ax am ao) (404 + 3, l, [.int v], P, c, n) := z_y2 (pc := 404 + 3) (iv := 58) (y := 211) (by decide +kernel) (z_useT_of (K := z_Kk242) z_Kn242 rfl rfl (by decide +kernel) rfl) hI hL hj hl hx v
theorem z_yy1 (hI : z_Is xs (t + 1) ax am ao P c n) (hL : z_Lc l ax am ao j) (hj : j.toInt = ((6 * t : Nat) : Int)) (hl : 6 * t + 6 ≤ xs.length) (hx : xs.length ≤ 3072) (v : Int32) : z_Rh (z_G xs) 800 290 (z_PsN xs t ax am ao) (1171 + 3, l, [.int v], P, c, n) := z_y2 (pc := 1171 + 3) (iv := 140) (y := 252) (by decide +kernel) (z_useT_of (K := z_Kk275) z_Kn275 rfl rfl (by decide +kernel) rfl) hI hL hj hl hx v
theorem z_yy2 (hI : z_Is xs (t + 1) ax am ao P c n) (hL : z_Lc l ax am ao j) (hj : j.toInt = ((6 * t : Nat) : Int)) (hl : 6 * t + 6 ≤ xs.length) (hx : xs.length ≤ 3072) (v : Int32) : z_Rh (z_G xs) 800 290 (z_PsN xs t ax am ao) (1962 + 3, l, [.int v], P, c, n) := z_y1 (pc := 1962 + 3) (iv := 229) (y := 289) (by decide +kernel) (z_useT_of (K := z_Kk318) z_Kn318 rfl rfl (by decide +kernel) rfl) hI hL hj hl hx v
theorem z_Is_up (h : z_Is xs t ax am ao P c n) : z_Is xs (t + 1) ax am ao P c n := ⟨h.1, h.2.1, by have := h.2.2.1; omega, by have := h.2.2.2; omega⟩
def z_pcs : List Nat := [252, 277, 302, 315, 328, 353, 390, 430, 467, 504, 577, 614, 651, 664, 713, 750, 799, 848, 885, 898, 923, 960, 997, 1034, 1095, 1120, 1157, 1197, 1222, 1247, 1296, 1333, 1358, 1407, 1456, 1509, 1534, 1583, 1632, 1657, 1682, 1755, 1780, 1817, 1854, 1879, 1904, 1929, 1954, 1982]
/-- an operation, whichever -/
theorem z_dsp (hI : z_Is xs t ax am ao P c n) (hL : z_Lc l ax am ao j) (hj : j.toInt = ((6 * t : Nat) : Int)) (hl : 6 * t + 6 ≤ xs.length) (hx : xs.length ≤ 3072) : ∀ pc ∈ z_pcs, z_Rh (z_G xs) 800 290 (z_PsR xs t ax am ao) (pc, l, [], P, c, n) := by
  have kk : ∀ P' c' n', z_Is xs (t + 1) ax am ao P' c' n' → z_Rh (z_G xs) 800 290 (z_PsR xs t ax am ao) (1982, l, [], P', c', n') := fun P' c' n' hI' => z_rh_mono (fun q h => Or.inr (Or.inl h)) (z_rnd_end hI' hL hj hl hx)
  intro pc hpc
  unfold z_pcs at hpc
  simp only [List.mem_cons, List.not_mem_nil, or_false] at hpc
  rcases hpc with rfl | rfl | rfl | rfl | rfl | rfl | rfl | rfl | rfl | rfl | rfl | rfl | rfl | rfl | rfl | rfl | rfl | rfl | rfl | rfl | rfl | rfl | rfl | rfl | rfl | rfl | rfl | rfl | rfl | rfl | rfl | rfl | rfl | rfl | rfl | rfl | rfl | rfl | rfl | rfl | rfl | rfl | rfl | rfl | rfl | rfl | rfl | rfl | rfl | rfl
  · exact z_op_252 hI hL hj hl hx kk
  · exact z_op_277 hI hL hj hl hx kk
  · exact z_op_302 hI hL hj hl hx kk
  · exact z_op_315 hI hL hj hl hx kk
  · exact z_op_328 hI hL hj hl hx kk
  · exact z_op_353 hI hL hj hl hx kk
  · exact z_x2 (pc := 390) (by decide +kernel) hL hj hl hx (z_rh_end (Or.inr (Or.inr ⟨l, P, c, n, j, hL, hj, hI, hl, Or.inl rfl⟩)))
  · exact z_op_430 hI hL hj hl hx kk
  · exact z_op_467 hI hL hj hl hx kk
  · exact z_op_504 hI hL hj hl hx kk
  · exact z_op_577 hI hL hj hl hx kk
  · exact z_op_614 hI hL hj hl hx kk
  · exact z_op_651 hI hL hj hl hx kk
  · exact z_op_664 hI hL hj hl hx kk
  · exact z_op_713 hI hL hj hl hx kk
  · exact z_op_750 hI hL hj hl hx kk
  · exact z_op_799 hI hL hj hl hx kk
  · exact z_op_848 hI hL hj hl hx kk
  · exact z_op_885 hI hL hj hl hx kk
  · exact z_op_898 hI hL hj hl hx kk
  · exact z_op_923 hI hL hj hl hx kk
  · exact z_op_960 hI hL hj hl hx kk
  · exact z_op_997 hI hL hj hl hx kk
  · exact z_op_1034 hI hL hj hl hx kk
  · exact z_op_1095 hI hL hj hl hx kk
  · exact z_op_1120 hI hL hj hl hx kk
  · exact z_x2 (pc := 1157) (by decide +kernel) hL hj hl hx (z_rh_end (Or.inr (Or.inr ⟨l, P, c, n, j, hL, hj, hI, hl, Or.inr (Or.inl rfl)⟩)))
  · exact z_op_1197 hI hL hj hl hx kk
  · exact z_op_1222 hI hL hj hl hx kk
  · exact z_op_1247 hI hL hj hl hx kk
  · exact z_op_1296 hI hL hj hl hx kk
  · exact z_op_1333 hI hL hj hl hx kk
  · exact z_op_1358 hI hL hj hl hx kk
  · exact z_op_1407 hI hL hj hl hx kk
  · exact z_op_1456 hI hL hj hl hx kk
  · exact z_op_1509 hI hL hj hl hx kk
  · exact z_op_1534 hI hL hj hl hx kk
  · exact z_op_1583 hI hL hj hl hx kk
  · exact z_op_1632 hI hL hj hl hx kk
  · exact z_op_1657 hI hL hj hl hx kk
  · exact z_op_1682 hI hL hj hl hx kk
  · exact z_op_1755 hI hL hj hl hx kk
  · exact z_op_1780 hI hL hj hl hx kk
  · exact z_op_1817 hI hL hj hl hx kk
  · exact z_op_1854 hI hL hj hl hx kk
  · exact z_op_1879 hI hL hj hl hx kk
  · exact z_op_1904 hI hL hj hl hx kk
  · exact z_op_1929 hI hL hj hl hx kk
  · exact z_x1 (pc := 1954) (by decide +kernel) hL hj hl hx (z_rh_end (Or.inr (Or.inr ⟨l, P, c, n, j, hL, hj, hI, hl, Or.inr (Or.inr rfl)⟩)))
  · exact kk P c n (z_Is_up hI)
theorem z_tsw {pc : Nat} {dflt lo hi : Int} {offs : Array Int} {v : Int32} {r : List Value} {ok : Nat → Bool} (h : ((dflt :: offs.toList).all fun o => match z_tg pc o with | some t => ok t | none => false) = true) (hlen : offs.size = (hi - lo + 1).toNat) (hlh : lo ≤ hi) : ∃ t, ok t = true ∧ z_jmp (.tableswitch dflt lo hi offs) pc (.int v :: r) = some (t, r) := by
  have key : ∀ o ∈ dflt :: offs.toList, ∃ t, ok t = true ∧ z_tg pc o = some t := fun o ho => by
    have := List.all_eq_true.mp h o ho
    split at this
    · rename_i t ht
      exact ⟨t, this, ht⟩
    · cases this
  unfold z_jmp
  dsimp only
  by_cases hv : v.toInt < lo ∨ hi < v.toInt
  · rw [if_pos hv]
    obtain ⟨t, h1, h2⟩ := key dflt List.mem_cons_self
    exact ⟨t, h1, by rw [h2]; rfl⟩
  · rw [if_neg hv]
    have hlt : (v.toInt - lo).toNat < offs.size := by rw [hlen]; omega
    rw [Array.getElem?_eq_getElem hlt]
    obtain ⟨t, h1, h2⟩ := key _ (List.mem_cons_of_mem _ (Array.getElem_mem_toList hlt))
    exact ⟨t, h1, by dsimp only; rw [h2]; rfl⟩
/-- a round -/
theorem z_round (hI : z_Is xs t ax am ao P c n) (hL : z_Lc l ax am ao j) (hj : j.toInt = ((6 * t : Nat) : Int)) (ht : 6 * t ≤ 3072) (hx : xs.length ≤ 3072) : z_Rh (z_G xs) 800 290 (z_PsR xs t ax am ao) (23, l, [], P, c, n) := by
  obtain ⟨l0, l1, l2, l3, l4⟩ := id hL
  refine z_r_ld (ins := .iload 4) (len := 2) (t := 25) (i := 4) (z_eqc_ok (by decide +kernel)) rfl rfl rfl rfl (fun _ => rfl) l4 rfl ?_
  refine z_r_ld (ins := .aload_n 0) (len := 1) (t := 26) (i := 0) (z_eqc_ok (by decide +kernel)) rfl rfl rfl rfl (fun _ => rfl) l0 rfl ?_
  refine z_r_rd (ins := .arraylength) (len := 1) (t := 27) (z_eqc_ok (by decide +kernel)) rfl rfl rfl rfl (show z_alen (z_nA (z_G xs)) (z_lk (z_strs (z_G xs)) P) (.ref (z_far + 12) :: [.int j]) = some (.int (Int32.ofNat (xs.map Value.int).length) :: [.int j]) from ?_) ?_
  · unfold z_alen
    dsimp only
    rw [z_strs_xs, z_lkfj.trans z_fc12]
    dsimp only
    rw [if_pos ⟨by decide, (Nat.le_of_ble_eq_true rfl : 104 ≤ 100 + z_nA (z_G xs))⟩]
  refine z_r_pu (ins := .bipush 6) (len := 2) (t := 29) (z_eqc_ok (by decide +kernel)) rfl rfl rfl rfl ?_
  refine z_r_pu (ins := .isub) (len := 1) (t := 30) (z_eqc_ok (by decide +kernel)) rfl rfl rfl rfl ?_
  have e6 : ((Int8.ofInt 6).toInt32).toInt = 6 := rfl
  have elen : (Int32.ofNat (xs.map Value.int).length).toInt = (xs.length : Int) := by
    rw [List.length_map]
    exact Int32.toInt_ofNat_of_lt (by omega)
  have esub : (Int32.ofNat (xs.map Value.int).length - (Int8.ofInt 6).toInt32).toInt = (xs.length : Int) - 6 := by
    rw [z_sb32 (by rw [elen, e6]; omega) (by rw [elen, e6]; omega), elen, e6]
  by_cases hend : (xs.length : Int) - 6 < j.toInt
  · refine z_r_jm (ins := .if_icmp .gt 1958) (len := 3) (t := 1988) (z_eqc_ok (by decide +kernel)) rfl rfl rfl (z_icy (t := 1988) rfl (by rw [z_c_gt, esub]; exact decide_eq_true hend)) ?_
    refine z_r_pu (ins := .iconst 1) (len := 1) (t := 1989) (z_eqc_ok (by decide +kernel)) rfl rfl rfl rfl ?_
    exact z_rh_end (Or.inl ⟨l, P, c, n, rfl, by have := hI.2.2.1; omega, by have := hI.2.2.2; omega⟩)
  have hl : 6 * t + 6 ≤ xs.length := by omega
  refine z_r_jm (ins := .if_icmp .gt 1958) (len := 3) (t := 33) (z_eqc_ok (by decide +kernel)) rfl rfl rfl (z_icn (t := 1988) rfl (by rw [z_c_gt, esub]; exact decide_eq_false hend)) ?_
  refine z_r_ld (ins := .aload_n 0) (len := 1) (t := 34) (i := 0) (z_eqc_ok (by decide +kernel)) rfl rfl rfl rfl (fun _ => rfl) l0 rfl ?_
  refine z_r_ld (ins := .iload 4) (len := 2) (t := 36) (i := 4) (z_eqc_ok (by decide +kernel)) rfl rfl rfl rfl (fun _ => rfl) l4 rfl ?_
  refine z_r_rd (ins := .iaload) (len := 1) (t := 37) (z_eqc_ok (by decide +kernel)) rfl rfl rfl rfl (z_iav (H := z_lk (z_strs (z_G xs)) P) (vs := xs.map Value.int) (v := xs.getD (6 * t) 0) (show z_lk (z_strs (z_G xs)) P (z_far + 12) = some (103, xs.map Value.int) from z_lkfj.trans z_fc12) hj ?_) ?_
  · rw [List.getElem?_map, List.getElem?_eq_getElem (by omega)]
    simp [show 6 * t < xs.length by omega]
  refine z_r_pu (ins := .bipush 63) (len := 2) (t := 39) (z_eqc_ok (by decide +kernel)) rfl rfl rfl rfl ?_
  refine z_r_pu (ins := .iand) (len := 1) (t := 40) (z_eqc_ok (by decide +kernel)) rfl rfl rfl rfl ?_
  obtain ⟨tg, h1, h2⟩ := z_tsw (pc := 40) (dflt := (1942)) (lo := (0)) (hi := (48)) (offs := #[212, 237, 262, 275, 288, 313, 350, 390, 427, 464, 537, 574, 611, 624, 673, 710, 759, 808, 845, 858, 883, 920, 957, 994, 1055, 1080, 1117, 1157, 1182, 1207, 1256, 1293, 1318, 1367, 1416, 1469, 1494, 1543, 1592, 1617, 1642, 1715, 1740, 1777, 1814, 1839, 1864, 1889, 1914]) (v := xs.getD (6 * t) 0 &&& (Int8.ofInt 63).toInt32) (r := []) (ok := fun q => z_nin q z_pcs) (by decide +kernel) rfl (by decide)
  exact z_r_jm (ins := .tableswitch (1942) (0) (48) #[212, 237, 262, 275, 288, 313, 350, 390, 427, 464, 537, 574, 611, 624, 673, 710, 759, 808, 845, 858, 883, 920, 957, 994, 1055, 1080, 1117, 1157, 1182, 1207, 1256, 1293, 1318, 1367, 1416, 1469, 1494, 1543, 1592, 1617, 1642, 1715, 1740, 1777, 1814, 1839, 1864, 1889, 1914]) (len := 212) (t := tg) (z_eqc_ok (by decide +kernel)) rfl rfl rfl h2 (z_dsp hI hL hj hl hx tg (z_nin_ok h1))
end ZSPC
