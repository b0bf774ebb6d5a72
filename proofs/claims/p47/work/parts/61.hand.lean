section ZHND
theorem z_gpT : z_Gap z_Tg0 z_J := z_gap_J fun c q h => by
  have h : (bif Nat.beq c 64 || Nat.beq c 67 || Nat.beq c 70 || Nat.beq c 73 || Nat.beq c 76 then some ((1007 : Int), (2000 : Int)) else none) = some q := h
  cases hb : (Nat.beq c 64 || Nat.beq c 67 || Nat.beq c 70 || Nat.beq c 73 || Nat.beq c 76) with
  | false => rw [hb] at h; cases h
  | true =>
    rw [hb] at h
    cases h
    refine ⟨?_, rfl⟩
    simp only [Bool.or_eq_true] at hb
    rcases hb with (((hb | hb) | hb) | hb) | hb <;> (rw [Nat.eq_of_beq_eq_true hb]; rfl)
theorem z_G_setS (xs : List Int32) : z_setS (z_G []) (z_strl, xs) = z_G xs := rfl
theorem z_mkN {xs : List Int32} {W D : z_Ws} {hs : List (Nat × Nat)} {n : Nat} {Ks : List z_Kc} {R : List (Nat × Nat × Int)} (K : z_Kc) (Ds : List z_ce) (hd : z_jd D = true) (hKs : ∀ K' ∈ Ks, z_cn (z_G xs) 13 z_J K') (hall : (Ds.all fun C => z_cok3 (z_G []) W D z_Tg0 13 n Ks (z_QX (z_lbk K.2.2.1 K.2.2.2.1) n 900000 W K.2.2.2.2.1) (z_atl hs) [] Ds 30000 C) = true) (hD : z_wsub D W = true) (hC : Ds.head? = some (K.2.1, K.2.2.1, K.2.2.2.1, R)) (hn : K.2.2.1.2.2.2.1 = n) (hB : K.2.2.1.2.2.2.2.2 = 900000) : z_cn (z_G xs) 13 z_J K := by
  have hKs' : ∀ K' ∈ Ks, z_cn (z_setS (z_G []) (z_strl, xs)) 13 z_J K' := hKs
  have h : z_cn (z_setS (z_G []) (z_strl, xs)) 13 z_J K := z_cn_mk2 (G0 := z_G []) (s := (z_strl, xs)) (K := K) (C := (K.2.1, K.2.2.1, K.2.2.2.1, R)) (z_Jok_d hd) z_gpT hKs' hall hD hC rfl rfl rfl hn hB
  exact @h
theorem z_mkM {xs : List Int32} {W D : z_Ws} {hs : List (Nat × Nat)} {n M c0 : Nat} {cap w r : Int} {Kint Kext : List z_Kc} {R : List (Nat × Nat × Int)} (K : z_Kc) (Ds : List z_ce) (hw : 0 ≤ w) (hd : z_jd D = true) (hext : ∀ K' ∈ Kext, z_cn (z_G xs) 13 z_J K')
    (hint : ∀ K' ∈ Kint, ∃ dl r' : Int, K'.2.2.2.2.2 = some (1, 1, dl) ∧ (K'.2.1 : Int) + (dl * w + r - r') = c0 ∧ 1 ≤ dl * w + r - r' ∧ 0 ≤ r' ∧ z_ubk K'.2.2.1 K'.2.2.2.1 1 = some cap ∧ ∀ M', M' < M → z_cM (z_G xs) 13 z_J cap w r' c0 K' M')
    (hall : (Ds.all fun C => z_cok3 (z_G []) W D z_Tg0 13 n (Kint ++ Kext) (z_QX (z_lbk K.2.2.1 K.2.2.2.1) n 900000 W K.2.2.2.2.1) (z_atl hs) [] Ds 30000 C) = true) (hD : z_wsub D W = true) (hC : Ds.head? = some (c0, K.2.2.1, K.2.2.2.1, R)) (hn : K.2.2.1.2.2.2.1 = n) (hB : K.2.2.1.2.2.2.2.2 = 900000) : z_cM (z_G xs) 13 z_J cap w r c0 K M := by
  have h : z_cM (z_setS (z_G []) (z_strl, xs)) 13 z_J cap w r c0 K M := z_cM_mk (G0 := z_G []) (s := (z_strl, xs)) (K := K) (M := M) (c0 := c0) (cap := cap) (w := w) (r := r) (C := (c0, K.2.2.1, K.2.2.2.1, R)) hw (z_Jok_d hd) z_gpT hext hint hall hD hC rfl rfl rfl hn hB
  exact @h
theorem z_acn {α : Type} {p : α → Bool} {a : α} {l : List α} (h : p a = true) (k : l.all p = true) : (a :: l).all p = true := by rw [List.all_cons, h, k]; rfl
def z_Keh_lineNow : z_as_ := ((225, 0, [(0, .inr (.inr (false, [90])))], [], 0, 0), [], z_H0c, 1, [], 900000)
def z_Kkh_lineNow : z_Kc := (225, 2, z_Keh_lineNow, [], [(some (.inl (0, 0, 0, (-1), 11)), [(90, .inr [(26, .inl (0, 0, 0, (-2147483648), 2147483647))])], 0)], none)
def z_Keh_common : z_as_ := ((249, 0, [(0, .inr (.inl (0, 0, 0, (-9223372036854775808), 9223372036854775807))), (2, .inr (.inl (0, 0, 0, 1, 9223372036854775807)))], [], 0, 0), [], z_H0c, 1, [], 900000)
def z_Kkh_common : z_Kc := (249, 200, z_Keh_common, [], [(some (.inr (.inl (0, 0, 0, (-9223372036854775808), (-1)))), [], 0), (some (.inr (.inl (0, 0, 0, 1, 9223372036854775807))), [], 0)], none)
/-- CModel.ofHeap(C)I -/
def z_Ke198 : z_as_ := ((208, 0, [(0, .inr (.inr (false, [90]))), (1, .inl (0, 0, 0, 99, 120))], [], 0, 0), [], (z_hcs z_H0c [(90, (10, (true, true), none, [.inl (0, 0, 0, 0, 10), .inr (.inr (false, [91])), .inr (.inr (false, [92])), .inr (.inr (false, [93])), .inr (.inr (false, [94])), .inl (0, 0, 0, 2, 24), .inr (.inr (false, [95])), .inr (.inr (false, [96])), .inl (0, 0, 0, (-2147483648), 2147483647), .inl (0, 0, 0, (-2147483648), 2147483647), .inr (.inr (false, [97])), .inl (0, 0, 0, 0, 80), .inr (.inr (false, [98])), .inl (0, 0, 0, 0, 4), .inl (0, 0, 0, 0, 1), .inr (.inr (false, [105])), .inl (0, 0, 0, 1, 2147483647), .inl (0, 0, 0, 40, 40), .inl (0, 0, 0, 0, 40), .inl (0, 0, 0, (-1), (-1)), .inr (.inr (false, [99])), .inl (0, 0, 0, 0, 10), .inr (.inr (false, [100])), .inr (.inr (false, [101])), .inr (.inr (false, [102])), .inr (.inr (false, [103])), .inl (0, 0, 0, (-2147483648), 2147483647), .inr (.inr (false, [104])), .inr (.inr (false, [106])), .inl (0, 0, 0, 0, 0), .inr (.inr (false, [111])), .inl (0, 0, 0, 0, 0), .inl (0, 0, 0, (-1), 9), .inl (0, 0, 0, 0, 9), .inl (0, 0, 0, (-1), 2), .inl (0, 0, 0, (-2147483648), 2147483647), .inl (0, 0, 0, (-2147483648), 2147483647), .inl (0, 0, 0, (-2147483648), 2147483647), .inr (.inr (false, [107])), .inr (.inr (false, [108])), .inr (.inr (false, [109])), .inr (.inr (false, [110])), .inr (.inr (false, [111])), .inr (.inr (false, [112])), .inl (0, 0, 0, 0, 7), .inr (.inr (false, [113])), .inr (.inr (false, [114])), .inr (.inr (false, [115])), .inr (.inr (false, [116])), .inr (.inr (false, [117])), .inr (.inr (false, [118])), .inr (.inr (false, [119])), .inr (.inr (false, [120])), .inr (.inr (false, [121])), .inr (.inr (false, [122])), .inr (.inr (false, [123]))]))]), 1, [], 900000)
def z_Kx198 : List z_Xe := [(some (.inl (0, 0, 0, (-2147483648), 2147483647)), [], 0)]
def z_Kk198 : z_Kc := (208, 7, z_Ke198, [], z_Kx198, none)
/-- CModel.ofHeap(C)I -/
def z_Ke208 : z_as_ := ((208, 0, [(0, .inr (.inr (false, [90]))), (1, .inl (0, 0, 0, 99, 120))], [], 0, 0), [], (z_hcs z_H0c [(90, (10, (true, true), none, [.inl (0, 0, 0, 0, 10), .inr (.inr (false, [91])), .inr (.inr (false, [92])), .inr (.inr (false, [93])), .inr (.inr (false, [94])), .inl (0, 0, 0, 2, 24), .inr (.inr (false, [95])), .inr (.inr (false, [96])), .inl (0, 0, 0, (-2147483648), 2147483647), .inl (0, 0, 0, (-2147483648), 2147483647), .inr (.inr (false, [97])), .inl (0, 0, 0, 0, 80), .inr (.inr (false, [98])), .inl (0, 0, 0, 0, 4), .inl (0, 0, 0, 0, 1), .inr (.inr (false, [105])), .inl (0, 0, 0, 1, 2147483647), .inl (0, 0, 0, 40, 40), .inl (0, 0, 0, 0, 40), .inl (0, 0, 0, (-1), (-1)), .inr (.inr (false, [99])), .inl (0, 0, 0, 0, 10), .inr (.inr (false, [100])), .inr (.inr (false, [101])), .inr (.inr (false, [102])), .inr (.inr (false, [103])), .inl (0, 0, 0, (-2147483648), 2147483647), .inr (.inr (false, [104])), .inr (.inr (false, [106])), .inl (0, 0, 0, 0, 0), .inr (.inr (false, [95])), .inl (0, 0, 0, 0, 50), .inl (0, 0, 0, (-1), 9), .inl (0, 0, 0, 0, 9), .inl (0, 0, 0, (-1), 2), .inl (0, 0, 0, (-2147483648), 2147483647), .inl (0, 0, 0, (-2147483648), 2147483647), .inl (0, 0, 0, (-2147483648), 2147483647), .inr (.inr (false, [107])), .inr (.inr (false, [108])), .inr (.inr (false, [109])), .inr (.inr (false, [110])), .inr (.inr (false, [111])), .inr (.inr (false, [112])), .inl (0, 0, 0, 0, 7), .inr (.inr (false, [113])), .inr (.inr (false, [114])), .inr (.inr (false, [115])), .inr (.inr (false, [116])), .inr (.inr (false, [117])), .inr (.inr (false, [118])), .inr (.inr (false, [119])), .inr (.inr (false, [120])), .inr (.inr (false, [121])), .inr (.inr (false, [122])), .inr (.inr (false, [123]))]))]), 1, [], 900000)
def z_Kx208 : List z_Xe := [(some (.inl (0, 0, 0, (-2147483648), 2147483647)), [], 0)]
def z_Kk208 : z_Kc := (208, 7, z_Ke208, [], z_Kx208, none)
/-- CModel.marks(I)I -/
def z_Ke255 : z_as_ := ((256, 0, [(0, .inr (.inr (false, [90]))), (1, .inl (0, 0, 0, (-2147483648), 2147483647))], [], 0, 0), [], z_H0c, 1, [], 900000)
def z_Kx255 : List z_Xe := [(some (.inl (0, 0, 0, (-2147483648), 2147483647)), [(90, .inr [(13, .inl (0, 0, 0, 0, 4)), (14, .inl (0, 0, 0, 0, 1)), (15, .inr (.inr (true, [97, 105]))), (16, .inl (0, 0, 0, 0, 2147483647)), (17, .inl (0, 0, 0, 0, 76)), (18, .inl (0, 0, 0, 0, 76)), (19, .inl (0, 0, 0, (-1), 80)), (29, .inl (0, 0, 0, 0, 1)), (30, .inr (.inr (true, [95, 111]))), (31, .inl (0, 0, 0, (-1), 50)), (34, .inl (0, 0, 0, (-1), 2))]), (98, .inl (z_hg 98)), (110, .inl (z_hg 110)), (111, .inl (z_hg 111)), (112, .inl (z_hg 112))], 0)]
def z_Kk255 : z_Kc := (256, 202, z_Ke255, [], z_Kx255, none)
theorem z_Knh_lineNow {xs : List Int32} : z_cn (z_G xs) 13 z_J z_Kkh_lineNow := sorry
theorem z_Knh_common {xs : List Int32} : z_cn (z_G xs) 13 z_J z_Kkh_common := sorry
theorem z_Kn198 {xs : List Int32} : z_cn (z_G xs) 13 z_J z_Kk198 := sorry
theorem z_Kn208 {xs : List Int32} : z_cn (z_G xs) 13 z_J z_Kk208 := sorry
theorem z_Kn255 {xs : List Int32} : z_cn (z_G xs) 13 z_J z_Kk255 := sorry
end ZHND
