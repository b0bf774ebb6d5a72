section ZOPS
variable {xs : List Int32} {t ax am ao c n : Nat} {l : z_L} {P : z_H} {j : Int32} {Ψ : z_S → Prop}
/-- C.sign(I)I -/
theorem z_op_252 (hI : z_Is xs t ax am ao P c n) (hL : z_Lc l ax am ao j) (hj : j.toInt = ((6 * t : Nat) : Int)) (hl : 6 * t + 6 ≤ xs.length) (hx : xs.length ≤ 3072) (kk : ∀ P' c' n', z_Is xs (t + 1) ax am ao P' c' n' → z_Rh (z_G xs) 800 290 Ψ (1982, l, [], P', c', n')) : z_Rh (z_G xs) 800 290 Ψ (252, l, [], P, c, n) :=
  z_op2 (pc := 252) (ks := [1]) (iv1 := 26) (y1 := 9) (iv2 := 30) (y2 := 188) (by decide +kernel) (z_use_of (K := z_Kk348) z_Kn348 rfl rfl (by decide +kernel) rfl) (z_use_of (K := z_Kk103) z_Kn103 rfl rfl (by decide +kernel) rfl) hI hL hj hl hx kk
/-- C.end(I)Z -/
theorem z_op_277 (hI : z_Is xs t ax am ao P c n) (hL : z_Lc l ax am ao j) (hj : j.toInt = ((6 * t : Nat) : Int)) (hl : 6 * t + 6 ≤ xs.length) (hx : xs.length ≤ 3072) (kk : ∀ P' c' n', z_Is xs (t + 1) ax am ao P' c' n' → z_Rh (z_G xs) 800 290 Ψ (1982, l, [], P', c', n')) : z_Rh (z_G xs) 800 290 Ψ (277, l, [], P, c, n) :=
  z_op2 (pc := 277) (ks := [1]) (iv1 := 31) (y1 := 11) (iv2 := 35) (y2 := 189) (by decide +kernel) (z_use_of (K := z_Kk10) z_Kn10 rfl rfl (by decide +kernel) rfl) (z_use_of (K := z_Kk104) z_Kn104 rfl rfl (by decide +kernel) rfl) hI hL hj hl hx kk
/-- C.barn()I -/
theorem z_op_302 (hI : z_Is xs t ax am ao P c n) (hL : z_Lc l ax am ao j) (hj : j.toInt = ((6 * t : Nat) : Int)) (hl : 6 * t + 6 ≤ xs.length) (hx : xs.length ≤ 3072) (kk : ∀ P' c' n', z_Is xs (t + 1) ax am ao P' c' n' → z_Rh (z_G xs) 800 290 Ψ (1982, l, [], P', c', n')) : z_Rh (z_G xs) 800 290 Ψ (302, l, [], P, c, n) :=
  z_op2 (pc := 302) (ks := []) (iv1 := 36) (y1 := 13) (iv2 := 40) (y2 := 191) (by decide +kernel) (z_use_of (K := z_Kk43) z_Kn43 rfl rfl (by decide +kernel) rfl) (z_use_of (K := z_Ko125) z_Kn125 rfl rfl (by decide +kernel) rfl) hI hL hj hl hx kk
/-- C.wind()I -/
theorem z_op_315 (hI : z_Is xs t ax am ao P c n) (hL : z_Lc l ax am ao j) (hj : j.toInt = ((6 * t : Nat) : Int)) (hl : 6 * t + 6 ≤ xs.length) (hx : xs.length ≤ 3072) (kk : ∀ P' c' n', z_Is xs (t + 1) ax am ao P' c' n' → z_Rh (z_G xs) 800 290 Ψ (1982, l, [], P', c', n')) : z_Rh (z_G xs) 800 290 Ψ (315, l, [], P, c, n) :=
  z_op2 (pc := 315) (ks := []) (iv1 := 41) (y1 := 43) (iv2 := 44) (y2 := 201) (by decide +kernel) (z_use_of (K := z_Kk324) z_Kn324 rfl rfl (by decide +kernel) rfl) (z_use_of (K := z_Kk209) z_Kn209 rfl rfl (by decide +kernel) rfl) hI hL hj hl hx kk
/-- C.says(I)I -/
theorem z_op_328 (hI : z_Is xs t ax am ao P c n) (hL : z_Lc l ax am ao j) (hj : j.toInt = ((6 * t : Nat) : Int)) (hl : 6 * t + 6 ≤ xs.length) (hx : xs.length ≤ 3072) (kk : ∀ P' c' n', z_Is xs (t + 1) ax am ao P' c' n' → z_Rh (z_G xs) 800 290 Ψ (1982, l, [], P', c', n')) : z_Rh (z_G xs) 800 290 Ψ (328, l, [], P, c, n) :=
  z_op2 (pc := 328) (ks := [1]) (iv1 := 45) (y1 := 46) (iv2 := 48) (y2 := 202) (by decide +kernel) (z_use_of (K := z_Kk337) z_Kn337 rfl rfl (by decide +kernel) rfl) (z_use_of (K := z_Kk218) z_Kn218 rfl rfl (by decide +kernel) rfl) hI hL hj hl hx kk
/-- C.set(II)I -/
theorem z_op_353 (hI : z_Is xs t ax am ao P c n) (hL : z_Lc l ax am ao j) (hj : j.toInt = ((6 * t : Nat) : Int)) (hl : 6 * t + 6 ≤ xs.length) (hx : xs.length ≤ 3072) (kk : ∀ P' c' n', z_Is xs (t + 1) ax am ao P' c' n' → z_Rh (z_G xs) 800 290 Ψ (1982, l, [], P', c', n')) : z_Rh (z_G xs) 800 290 Ψ (353, l, [], P, c, n) :=
  z_op2 (pc := 353) (ks := [1, 2]) (iv1 := 49) (y1 := 56) (iv2 := 52) (y2 := 210) (by decide +kernel) (z_use_of (K := z_Kk338) z_Kn338 rfl rfl (by decide +kernel) rfl) (z_use_of (K := z_Kk243) z_Kn243 rfl rfl (by decide +kernel) rfl) hI hL hj hl hx kk
/-- C.has(II)I -/
theorem z_op_430 (hI : z_Is xs t ax am ao P c n) (hL : z_Lc l ax am ao j) (hj : j.toInt = ((6 * t : Nat) : Int)) (hl : 6 * t + 6 ≤ xs.length) (hx : xs.length ≤ 3072) (kk : ∀ P' c' n', z_Is xs (t + 1) ax am ao P' c' n' → z_Rh (z_G xs) 800 290 Ψ (1982, l, [], P', c', n')) : z_Rh (z_G xs) 800 290 Ψ (430, l, [], P, c, n) :=
  z_op2 (pc := 430) (ks := [1, 2]) (iv1 := 59) (y1 := 60) (iv2 := 62) (y2 := 214) (by decide +kernel) (z_use_of (K := z_Kk339) z_Kn339 rfl rfl (by decide +kernel) rfl) (z_use_of (K := z_Kk245) z_Kn245 rfl rfl (by decide +kernel) rfl) hI hL hj hl hx kk
/-- C.lies(II)I -/
theorem z_op_467 (hI : z_Is xs t ax am ao P c n) (hL : z_Lc l ax am ao j) (hj : j.toInt = ((6 * t : Nat) : Int)) (hl : 6 * t + 6 ≤ xs.length) (hx : xs.length ≤ 3072) (kk : ∀ P' c' n', z_Is xs (t + 1) ax am ao P' c' n' → z_Rh (z_G xs) 800 290 Ψ (1982, l, [], P', c', n')) : z_Rh (z_G xs) 800 290 Ψ (467, l, [], P, c, n) :=
  z_op2 (pc := 467) (ks := [1, 2]) (iv1 := 63) (y1 := 63) (iv2 := 66) (y2 := 216) (by decide +kernel) (z_use_of (K := z_Kk340) z_Kn340 rfl rfl (by decide +kernel) rfl) (z_use_of (K := z_Kk246) z_Kn246 rfl rfl (by decide +kernel) rfl) hI hL hj hl hx kk
/-- C.sheet(IIIII)I -/
theorem z_op_504 (hI : z_Is xs t ax am ao P c n) (hL : z_Lc l ax am ao j) (hj : j.toInt = ((6 * t : Nat) : Int)) (hl : 6 * t + 6 ≤ xs.length) (hx : xs.length ≤ 3072) (kk : ∀ P' c' n', z_Is xs (t + 1) ax am ao P' c' n' → z_Rh (z_G xs) 800 290 Ψ (1982, l, [], P', c', n')) : z_Rh (z_G xs) 800 290 Ψ (504, l, [], P, c, n) :=
  z_op2 (pc := 504) (ks := [1, 2, 3, 4, 5]) (iv1 := 67) (y1 := 67) (iv2 := 71) (y2 := 217) (by decide +kernel) (z_use_of (K := z_Kk341) z_Kn341 rfl rfl (by decide +kernel) rfl) (z_use_of (K := z_Kk247) z_Kn247 rfl rfl (by decide +kernel) rfl) hI hL hj hl hx kk
/-- C.lands(II)I -/
theorem z_op_577 (hI : z_Is xs t ax am ao P c n) (hL : z_Lc l ax am ao j) (hj : j.toInt = ((6 * t : Nat) : Int)) (hl : 6 * t + 6 ≤ xs.length) (hx : xs.length ≤ 3072) (kk : ∀ P' c' n', z_Is xs (t + 1) ax am ao P' c' n' → z_Rh (z_G xs) 800 290 Ψ (1982, l, [], P', c', n')) : z_Rh (z_G xs) 800 290 Ψ (577, l, [], P, c, n) :=
  z_op2 (pc := 577) (ks := [1, 2]) (iv1 := 72) (y1 := 71) (iv2 := 75) (y2 := 218) (by decide +kernel) (z_use_of (K := z_Kk342) z_Kn342 rfl rfl (by decide +kernel) rfl) (z_use_of (K := z_Kk249) z_Kn249 rfl rfl (by decide +kernel) rfl) hI hL hj hl hx kk
/-- C.go(II)I -/
theorem z_op_614 (hI : z_Is xs t ax am ao P c n) (hL : z_Lc l ax am ao j) (hj : j.toInt = ((6 * t : Nat) : Int)) (hl : 6 * t + 6 ≤ xs.length) (hx : xs.length ≤ 3072) (kk : ∀ P' c' n', z_Is xs (t + 1) ax am ao P' c' n' → z_Rh (z_G xs) 800 290 Ψ (1982, l, [], P', c', n')) : z_Rh (z_G xs) 800 290 Ψ (614, l, [], P, c, n) :=
  z_op2 (pc := 614) (ks := [1, 2]) (iv1 := 76) (y1 := 82) (iv2 := 79) (y2 := 223) (by decide +kernel) (z_use_of (K := z_Kk347) z_Kn347 rfl rfl (by decide +kernel) rfl) (z_use_of (K := z_Kk252) z_Kn252 rfl rfl (by decide +kernel) rfl) hI hL hj hl hx kk
/-- C.blows()I -/
theorem z_op_651 (hI : z_Is xs t ax am ao P c n) (hL : z_Lc l ax am ao j) (hj : j.toInt = ((6 * t : Nat) : Int)) (hl : 6 * t + 6 ≤ xs.length) (hx : xs.length ≤ 3072) (kk : ∀ P' c' n', z_Is xs (t + 1) ax am ao P' c' n' → z_Rh (z_G xs) 800 290 Ψ (1982, l, [], P', c', n')) : z_Rh (z_G xs) 800 290 Ψ (651, l, [], P, c, n) :=
  z_op2 (pc := 651) (ks := []) (iv1 := 80) (y1 := 91) (iv2 := 83) (y2 := 228) (by decide +kernel) (z_use_of (K := z_Kk350) z_Kn350 rfl rfl (by decide +kernel) rfl) (z_use_of (K := z_Kk253) z_Kn253 rfl rfl (by decide +kernel) rfl) hI hL hj hl hx kk
/-- C.gather(III)I -/
theorem z_op_664 (hI : z_Is xs t ax am ao P c n) (hL : z_Lc l ax am ao j) (hj : j.toInt = ((6 * t : Nat) : Int)) (hl : 6 * t + 6 ≤ xs.length) (hx : xs.length ≤ 3072) (kk : ∀ P' c' n', z_Is xs (t + 1) ax am ao P' c' n' → z_Rh (z_G xs) 800 290 Ψ (1982, l, [], P', c', n')) : z_Rh (z_G xs) 800 290 Ψ (664, l, [], P, c, n) :=
  z_op2 (pc := 664) (ks := [1, 2, 3]) (iv1 := 84) (y1 := 93) (iv2 := 88) (y2 := 229) (by decide +kernel) (z_use_of (K := z_Kk352) z_Kn352 rfl rfl (by decide +kernel) rfl) (z_use_of (K := z_Kk255) z_Kn255 rfl rfl (by decide +kernel) rfl) hI hL hj hl hx kk
/-- C.mix(II)I -/
theorem z_op_713 (hI : z_Is xs t ax am ao P c n) (hL : z_Lc l ax am ao j) (hj : j.toInt = ((6 * t : Nat) : Int)) (hl : 6 * t + 6 ≤ xs.length) (hx : xs.length ≤ 3072) (kk : ∀ P' c' n', z_Is xs (t + 1) ax am ao P' c' n' → z_Rh (z_G xs) 800 290 Ψ (1982, l, [], P', c', n')) : z_Rh (z_G xs) 800 290 Ψ (713, l, [], P, c, n) :=
  z_op2 (pc := 713) (ks := [1, 2]) (iv1 := 89) (y1 := 97) (iv2 := 92) (y2 := 233) (by decide +kernel) (z_use_of (K := z_Kk354) z_Kn354 rfl rfl (by decide +kernel) rfl) (z_use_of (K := z_Kk256) z_Kn256 rfl rfl (by decide +kernel) rfl) hI hL hj hl hx kk
/-- C.sieve(III)I -/
theorem z_op_750 (hI : z_Is xs t ax am ao P c n) (hL : z_Lc l ax am ao j) (hj : j.toInt = ((6 * t : Nat) : Int)) (hl : 6 * t + 6 ≤ xs.length) (hx : xs.length ≤ 3072) (kk : ∀ P' c' n', z_Is xs (t + 1) ax am ao P' c' n' → z_Rh (z_G xs) 800 290 Ψ (1982, l, [], P', c', n')) : z_Rh (z_G xs) 800 290 Ψ (750, l, [], P, c, n) :=
  z_op2 (pc := 750) (ks := [1, 2, 3]) (iv1 := 93) (y1 := 99) (iv2 := 96) (y2 := 234) (by decide +kernel) (z_use_of (K := z_Kk355) z_Kn355 rfl rfl (by decide +kernel) rfl) (z_use_of (K := z_Kk257) z_Kn257 rfl rfl (by decide +kernel) rfl) hI hL hj hl hx kk
/-- C.stroke(III)I -/
theorem z_op_799 (hI : z_Is xs t ax am ao P c n) (hL : z_Lc l ax am ao j) (hj : j.toInt = ((6 * t : Nat) : Int)) (hl : 6 * t + 6 ≤ xs.length) (hx : xs.length ≤ 3072) (kk : ∀ P' c' n', z_Is xs (t + 1) ax am ao P' c' n' → z_Rh (z_G xs) 800 290 Ψ (1982, l, [], P', c', n')) : z_Rh (z_G xs) 800 290 Ψ (799, l, [], P, c, n) :=
  z_op2 (pc := 799) (ks := [1, 2, 3]) (iv1 := 97) (y1 := 101) (iv2 := 100) (y2 := 235) (by decide +kernel) (z_use_of (K := z_Kk3) z_Kn3 rfl rfl (by decide +kernel) rfl) (z_use_of (K := z_Kk258) z_Kn258 rfl rfl (by decide +kernel) rfl) hI hL hj hl hx kk
/-- C.parts(II)I -/
theorem z_op_848 (hI : z_Is xs t ax am ao P c n) (hL : z_Lc l ax am ao j) (hj : j.toInt = ((6 * t : Nat) : Int)) (hl : 6 * t + 6 ≤ xs.length) (hx : xs.length ≤ 3072) (kk : ∀ P' c' n', z_Is xs (t + 1) ax am ao P' c' n' → z_Rh (z_G xs) 800 290 Ψ (1982, l, [], P', c', n')) : z_Rh (z_G xs) 800 290 Ψ (848, l, [], P, c, n) :=
  z_op2 (pc := 848) (ks := [1, 2]) (iv1 := 101) (y1 := 106) (iv2 := 104) (y2 := 237) (by decide +kernel) (z_use_of (K := z_Kk9) z_Kn9 rfl rfl (by decide +kernel) rfl) (z_use_of (K := z_Kk260) z_Kn260 rfl rfl (by decide +kernel) rfl) hI hL hj hl hx kk
/-- C.never()I -/
theorem z_op_885 (hI : z_Is xs t ax am ao P c n) (hL : z_Lc l ax am ao j) (hj : j.toInt = ((6 * t : Nat) : Int)) (hl : 6 * t + 6 ≤ xs.length) (hx : xs.length ≤ 3072) (kk : ∀ P' c' n', z_Is xs (t + 1) ax am ao P' c' n' → z_Rh (z_G xs) 800 290 Ψ (1982, l, [], P', c', n')) : z_Rh (z_G xs) 800 290 Ψ (885, l, [], P, c, n) :=
  z_op2 (pc := 885) (ks := []) (iv1 := 105) (y1 := 110) (iv2 := 108) (y2 := 239) (by decide +kernel) (z_use_of (K := z_Kk12) z_Kn12 rfl rfl (by decide +kernel) rfl) (z_use_of (K := z_Kk262) z_Kn262 rfl rfl (by decide +kernel) rfl) hI hL hj hl hx kk
/-- C.best(I)I -/
theorem z_op_898 (hI : z_Is xs t ax am ao P c n) (hL : z_Lc l ax am ao j) (hj : j.toInt = ((6 * t : Nat) : Int)) (hl : 6 * t + 6 ≤ xs.length) (hx : xs.length ≤ 3072) (kk : ∀ P' c' n', z_Is xs (t + 1) ax am ao P' c' n' → z_Rh (z_G xs) 800 290 Ψ (1982, l, [], P', c', n')) : z_Rh (z_G xs) 800 290 Ψ (898, l, [], P, c, n) :=
  z_op2 (pc := 898) (ks := [1]) (iv1 := 109) (y1 := 113) (iv2 := 112) (y2 := 241) (by decide +kernel) (z_use_of (K := z_Kk17) z_Kn17 rfl rfl (by decide +kernel) rfl) (z_use_of (K := z_Kk265) z_Kn265 rfl rfl (by decide +kernel) rfl) hI hL hj hl hx kk
/-- C.aim(II)I -/
theorem z_op_923 (hI : z_Is xs t ax am ao P c n) (hL : z_Lc l ax am ao j) (hj : j.toInt = ((6 * t : Nat) : Int)) (hl : 6 * t + 6 ≤ xs.length) (hx : xs.length ≤ 3072) (kk : ∀ P' c' n', z_Is xs (t + 1) ax am ao P' c' n' → z_Rh (z_G xs) 800 290 Ψ (1982, l, [], P', c', n')) : z_Rh (z_G xs) 800 290 Ψ (923, l, [], P, c, n) :=
  z_op2 (pc := 923) (ks := [1, 2]) (iv1 := 113) (y1 := 118) (iv2 := 116) (y2 := 244) (by decide +kernel) (z_use_of (K := z_Kk21) z_Kn21 rfl rfl (by decide +kernel) rfl) (z_use_of (K := z_Kk266) z_Kn266 rfl rfl (by decide +kernel) rfl) hI hL hj hl hx kk
/-- C.fan(II)I -/
theorem z_op_960 (hI : z_Is xs t ax am ao P c n) (hL : z_Lc l ax am ao j) (hj : j.toInt = ((6 * t : Nat) : Int)) (hl : 6 * t + 6 ≤ xs.length) (hx : xs.length ≤ 3072) (kk : ∀ P' c' n', z_Is xs (t + 1) ax am ao P' c' n' → z_Rh (z_G xs) 800 290 Ψ (1982, l, [], P', c', n')) : z_Rh (z_G xs) 800 290 Ψ (960, l, [], P, c, n) :=
  z_op2 (pc := 960) (ks := [1, 2]) (iv1 := 117) (y1 := 121) (iv2 := 120) (y2 := 245) (by decide +kernel) (z_use_of (K := z_Kk24) z_Kn24 rfl rfl (by decide +kernel) rfl) (z_use_of (K := z_Kk267) z_Kn267 rfl rfl (by decide +kernel) rfl) hI hL hj hl hx kk
/-- C.serves(II)I -/
theorem z_op_997 (hI : z_Is xs t ax am ao P c n) (hL : z_Lc l ax am ao j) (hj : j.toInt = ((6 * t : Nat) : Int)) (hl : 6 * t + 6 ≤ xs.length) (hx : xs.length ≤ 3072) (kk : ∀ P' c' n', z_Is xs (t + 1) ax am ao P' c' n' → z_Rh (z_G xs) 800 290 Ψ (1982, l, [], P', c', n')) : z_Rh (z_G xs) 800 290 Ψ (997, l, [], P, c, n) :=
  z_op2 (pc := 997) (ks := [1, 2]) (iv1 := 121) (y1 := 124) (iv2 := 124) (y2 := 246) (by decide +kernel) (z_use_of (K := z_Kk25) z_Kn25 rfl rfl (by decide +kernel) rfl) (z_use_of (K := z_Kk268) z_Kn268 rfl rfl (by decide +kernel) rfl) hI hL hj hl hx kk
/-- C.odds(IIII)I -/
theorem z_op_1034 (hI : z_Is xs t ax am ao P c n) (hL : z_Lc l ax am ao j) (hj : j.toInt = ((6 * t : Nat) : Int)) (hl : 6 * t + 6 ≤ xs.length) (hx : xs.length ≤ 3072) (kk : ∀ P' c' n', z_Is xs (t + 1) ax am ao P' c' n' → z_Rh (z_G xs) 800 290 Ψ (1982, l, [], P', c', n')) : z_Rh (z_G xs) 800 290 Ψ (1034, l, [], P, c, n) :=
  z_op2 (pc := 1034) (ks := [1, 2, 3, 4]) (iv1 := 125) (y1 := 125) (iv2 := 129) (y2 := 247) (by decide +kernel) (z_use_of (K := z_Kk27) z_Kn27 rfl rfl (by decide +kernel) rfl) (z_use_of (K := z_Kk269) z_Kn269 rfl rfl (by decide +kernel) rfl) hI hL hj hl hx kk
/-- C.kin(I)I -/
theorem z_op_1095 (hI : z_Is xs t ax am ao P c n) (hL : z_Lc l ax am ao j) (hj : j.toInt = ((6 * t : Nat) : Int)) (hl : 6 * t + 6 ≤ xs.length) (hx : xs.length ≤ 3072) (kk : ∀ P' c' n', z_Is xs (t + 1) ax am ao P' c' n' → z_Rh (z_G xs) 800 290 Ψ (1982, l, [], P', c', n')) : z_Rh (z_G xs) 800 290 Ψ (1095, l, [], P, c, n) :=
  z_op2 (pc := 1095) (ks := [1]) (iv1 := 130) (y1 := 128) (iv2 := 133) (y2 := 250) (by decide +kernel) (z_use_of (K := z_Kk28) z_Kn28 rfl rfl (by decide +kernel) rfl) (z_use_of (K := z_Kk275) z_Kn275 rfl rfl (by decide +kernel) rfl) hI hL hj hl hx kk
/-- C.sends(II)I -/
theorem z_op_1120 (hI : z_Is xs t ax am ao P c n) (hL : z_Lc l ax am ao j) (hj : j.toInt = ((6 * t : Nat) : Int)) (hl : 6 * t + 6 ≤ xs.length) (hx : xs.length ≤ 3072) (kk : ∀ P' c' n', z_Is xs (t + 1) ax am ao P' c' n' → z_Rh (z_G xs) 800 290 Ψ (1982, l, [], P', c', n')) : z_Rh (z_G xs) 800 290 Ψ (1120, l, [], P, c, n) :=
  z_op2 (pc := 1120) (ks := [1, 2]) (iv1 := 134) (y1 := 129) (iv2 := 137) (y2 := 251) (by decide +kernel) (z_use_of (K := z_Kk29) z_Kn29 rfl rfl (by decide +kernel) rfl) (z_use_of (K := z_Kk276) z_Kn276 rfl rfl (by decide +kernel) rfl) hI hL hj hl hx kk
/-- C.worth(I)I -/
theorem z_op_1197 (hI : z_Is xs t ax am ao P c n) (hL : z_Lc l ax am ao j) (hj : j.toInt = ((6 * t : Nat) : Int)) (hl : 6 * t + 6 ≤ xs.length) (hx : xs.length ≤ 3072) (kk : ∀ P' c' n', z_Is xs (t + 1) ax am ao P' c' n' → z_Rh (z_G xs) 800 290 Ψ (1982, l, [], P', c', n')) : z_Rh (z_G xs) 800 290 Ψ (1197, l, [], P, c, n) :=
  z_op2 (pc := 1197) (ks := [1]) (iv1 := 141) (y1 := 130) (iv2 := 144) (y2 := 254) (by decide +kernel) (z_use_of (K := z_Kk48) z_Kn48 rfl rfl (by decide +kernel) rfl) (z_use_of (K := z_Kk279) z_Kn279 rfl rfl (by decide +kernel) rfl) hI hL hj hl hx kk
/-- C.marks(I)I -/
theorem z_op_1222 (hI : z_Is xs t ax am ao P c n) (hL : z_Lc l ax am ao j) (hj : j.toInt = ((6 * t : Nat) : Int)) (hl : 6 * t + 6 ≤ xs.length) (hx : xs.length ≤ 3072) (kk : ∀ P' c' n', z_Is xs (t + 1) ax am ao P' c' n' → z_Rh (z_G xs) 800 290 Ψ (1982, l, [], P', c', n')) : z_Rh (z_G xs) 800 290 Ψ (1222, l, [], P, c, n) :=
  z_op2 (pc := 1222) (ks := [1]) (iv1 := 145) (y1 := 134) (iv2 := 148) (y2 := 256) (by decide +kernel) (z_use_of (K := z_Kk59) z_Kn59 rfl rfl (by decide +kernel) rfl) (z_use_of (K := z_Kk281) z_Kn281 rfl rfl (by decide +kernel) rfl) hI hL hj hl hx kk
/-- C.may(III)I -/
theorem z_op_1247 (hI : z_Is xs t ax am ao P c n) (hL : z_Lc l ax am ao j) (hj : j.toInt = ((6 * t : Nat) : Int)) (hl : 6 * t + 6 ≤ xs.length) (hx : xs.length ≤ 3072) (kk : ∀ P' c' n', z_Is xs (t + 1) ax am ao P' c' n' → z_Rh (z_G xs) 800 290 Ψ (1982, l, [], P', c', n')) : z_Rh (z_G xs) 800 290 Ψ (1247, l, [], P, c, n) :=
  z_op2 (pc := 1247) (ks := [1, 2, 3]) (iv1 := 149) (y1 := 139) (iv2 := 152) (y2 := 257) (by decide +kernel) (z_use_of (K := z_Kk60) z_Kn60 rfl rfl (by decide +kernel) rfl) (z_use_of (K := z_Kk282) z_Kn282 rfl rfl (by decide +kernel) rfl) hI hL hj hl hx kk
/-- C.bushel(II)I -/
theorem z_op_1296 (hI : z_Is xs t ax am ao P c n) (hL : z_Lc l ax am ao j) (hj : j.toInt = ((6 * t : Nat) : Int)) (hl : 6 * t + 6 ≤ xs.length) (hx : xs.length ≤ 3072) (kk : ∀ P' c' n', z_Is xs (t + 1) ax am ao P' c' n' → z_Rh (z_G xs) 800 290 Ψ (1982, l, [], P', c', n')) : z_Rh (z_G xs) 800 290 Ψ (1296, l, [], P, c, n) :=
  z_op2 (pc := 1296) (ks := [1, 2]) (iv1 := 153) (y1 := 141) (iv2 := 156) (y2 := 258) (by decide +kernel) (z_use_of (K := z_Kk63) z_Kn63 rfl rfl (by decide +kernel) rfl) (z_use_of (K := z_Kk284) z_Kn284 rfl rfl (by decide +kernel) rfl) hI hL hj hl hx kk
/-- C.away(I)I -/
theorem z_op_1333 (hI : z_Is xs t ax am ao P c n) (hL : z_Lc l ax am ao j) (hj : j.toInt = ((6 * t : Nat) : Int)) (hl : 6 * t + 6 ≤ xs.length) (hx : xs.length ≤ 3072) (kk : ∀ P' c' n', z_Is xs (t + 1) ax am ao P' c' n' → z_Rh (z_G xs) 800 290 Ψ (1982, l, [], P', c', n')) : z_Rh (z_G xs) 800 290 Ψ (1333, l, [], P, c, n) :=
  z_op2 (pc := 1333) (ks := [1]) (iv1 := 157) (y1 := 145) (iv2 := 160) (y2 := 260) (by decide +kernel) (z_use_of (K := z_Kk64) z_Kn64 rfl rfl (by decide +kernel) rfl) (z_use_of (K := z_Kk285) z_Kn285 rfl rfl (by decide +kernel) rfl) hI hL hj hl hx kk
/-- C.shift(III)I -/
theorem z_op_1358 (hI : z_Is xs t ax am ao P c n) (hL : z_Lc l ax am ao j) (hj : j.toInt = ((6 * t : Nat) : Int)) (hl : 6 * t + 6 ≤ xs.length) (hx : xs.length ≤ 3072) (kk : ∀ P' c' n', z_Is xs (t + 1) ax am ao P' c' n' → z_Rh (z_G xs) 800 290 Ψ (1982, l, [], P', c', n')) : z_Rh (z_G xs) 800 290 Ψ (1358, l, [], P, c, n) :=
  z_op2 (pc := 1358) (ks := [1, 2, 3]) (iv1 := 161) (y1 := 147) (iv2 := 164) (y2 := 261) (by decide +kernel) (z_use_of (K := z_Kk65) z_Kn65 rfl rfl (by decide +kernel) rfl) (z_use_of (K := z_Kk286) z_Kn286 rfl rfl (by decide +kernel) rfl) hI hL hj hl hx kk
/-- C.blow(III)I -/
theorem z_op_1407 (hI : z_Is xs t ax am ao P c n) (hL : z_Lc l ax am ao j) (hj : j.toInt = ((6 * t : Nat) : Int)) (hl : 6 * t + 6 ≤ xs.length) (hx : xs.length ≤ 3072) (kk : ∀ P' c' n', z_Is xs (t + 1) ax am ao P' c' n' → z_Rh (z_G xs) 800 290 Ψ (1982, l, [], P', c', n')) : z_Rh (z_G xs) 800 290 Ψ (1407, l, [], P, c, n) :=
  z_op2 (pc := 1407) (ks := [1, 2, 3]) (iv1 := 165) (y1 := 148) (iv2 := 168) (y2 := 262) (by decide +kernel) (z_use_of (K := z_Kk66) z_Kn66 rfl rfl (by decide +kernel) rfl) (z_use_of (K := z_Kk287) z_Kn287 rfl rfl (by decide +kernel) rfl) hI hL hj hl hx kk
/-- C.stays(I)I -/
theorem z_op_1509 (hI : z_Is xs t ax am ao P c n) (hL : z_Lc l ax am ao j) (hj : j.toInt = ((6 * t : Nat) : Int)) (hl : 6 * t + 6 ≤ xs.length) (hx : xs.length ≤ 3072) (kk : ∀ P' c' n', z_Is xs (t + 1) ax am ao P' c' n' → z_Rh (z_G xs) 800 290 Ψ (1982, l, [], P', c', n')) : z_Rh (z_G xs) 800 290 Ψ (1509, l, [], P, c, n) :=
  z_op2 (pc := 1509) (ks := [1]) (iv1 := 174) (y1 := 152) (iv2 := 177) (y2 := 265) (by decide +kernel) (z_use_of (K := z_Kk69) z_Kn69 rfl rfl (by decide +kernel) rfl) (z_use_of (K := z_Kk290) z_Kn290 rfl rfl (by decide +kernel) rfl) hI hL hj hl hx kk
/-- C.order(III)I -/
theorem z_op_1534 (hI : z_Is xs t ax am ao P c n) (hL : z_Lc l ax am ao j) (hj : j.toInt = ((6 * t : Nat) : Int)) (hl : 6 * t + 6 ≤ xs.length) (hx : xs.length ≤ 3072) (kk : ∀ P' c' n', z_Is xs (t + 1) ax am ao P' c' n' → z_Rh (z_G xs) 800 290 Ψ (1982, l, [], P', c', n')) : z_Rh (z_G xs) 800 290 Ψ (1534, l, [], P, c, n) :=
  z_op2 (pc := 1534) (ks := [1, 2, 3]) (iv1 := 178) (y1 := 156) (iv2 := 181) (y2 := 267) (by decide +kernel) (z_use_of (K := z_Kk76) z_Kn76 rfl rfl (by decide +kernel) rfl) (z_use_of (K := z_Kk296) z_Kn296 rfl rfl (by decide +kernel) rfl) hI hL hj hl hx kk
/-- C.needed(III)I -/
theorem z_op_1583 (hI : z_Is xs t ax am ao P c n) (hL : z_Lc l ax am ao j) (hj : j.toInt = ((6 * t : Nat) : Int)) (hl : 6 * t + 6 ≤ xs.length) (hx : xs.length ≤ 3072) (kk : ∀ P' c' n', z_Is xs (t + 1) ax am ao P' c' n' → z_Rh (z_G xs) 800 290 Ψ (1982, l, [], P', c', n')) : z_Rh (z_G xs) 800 290 Ψ (1583, l, [], P, c, n) :=
  z_op2 (pc := 1583) (ks := [1, 2, 3]) (iv1 := 182) (y1 := 166) (iv2 := 185) (y2 := 276) (by decide +kernel) (z_use_of (K := z_Kk77) z_Kn77 rfl rfl (by decide +kernel) rfl) (z_use_of (K := z_Kk297) z_Kn297 rfl rfl (by decide +kernel) rfl) hI hL hj hl hx kk
/-- C.strokes(I)I -/
theorem z_op_1632 (hI : z_Is xs t ax am ao P c n) (hL : z_Lc l ax am ao j) (hj : j.toInt = ((6 * t : Nat) : Int)) (hl : 6 * t + 6 ≤ xs.length) (hx : xs.length ≤ 3072) (kk : ∀ P' c' n', z_Is xs (t + 1) ax am ao P' c' n' → z_Rh (z_G xs) 800 290 Ψ (1982, l, [], P', c', n')) : z_Rh (z_G xs) 800 290 Ψ (1632, l, [], P, c, n) :=
  z_op2 (pc := 1632) (ks := [1]) (iv1 := 186) (y1 := 167) (iv2 := 189) (y2 := 277) (by decide +kernel) (z_use_of (K := z_Kk79) z_Kn79 rfl rfl (by decide +kernel) rfl) (z_use_of (K := z_Kk298) z_Kn298 rfl rfl (by decide +kernel) rfl) hI hL hj hl hx kk
/-- C.find(I)I -/
theorem z_op_1657 (hI : z_Is xs t ax am ao P c n) (hL : z_Lc l ax am ao j) (hj : j.toInt = ((6 * t : Nat) : Int)) (hl : 6 * t + 6 ≤ xs.length) (hx : xs.length ≤ 3072) (kk : ∀ P' c' n', z_Is xs (t + 1) ax am ao P' c' n' → z_Rh (z_G xs) 800 290 Ψ (1982, l, [], P', c', n')) : z_Rh (z_G xs) 800 290 Ψ (1657, l, [], P, c, n) :=
  z_op2 (pc := 1657) (ks := [1]) (iv1 := 190) (y1 := 169) (iv2 := 193) (y2 := 278) (by decide +kernel) (z_use_of (K := z_Kk80) z_Kn80 rfl rfl (by decide +kernel) rfl) (z_use_of (K := z_Kk299) z_Kn299 rfl rfl (by decide +kernel) rfl) hI hL hj hl hx kk
/-- C.heavy(I)I -/
theorem z_op_1755 (hI : z_Is xs t ax am ao P c n) (hL : z_Lc l ax am ao j) (hj : j.toInt = ((6 * t : Nat) : Int)) (hl : 6 * t + 6 ≤ xs.length) (hx : xs.length ≤ 3072) (kk : ∀ P' c' n', z_Is xs (t + 1) ax am ao P' c' n' → z_Rh (z_G xs) 800 290 Ψ (1982, l, [], P', c', n')) : z_Rh (z_G xs) 800 290 Ψ (1755, l, [], P, c, n) :=
  z_op2 (pc := 1755) (ks := [1]) (iv1 := 198) (y1 := 172) (iv2 := 201) (y2 := 280) (by decide +kernel) (z_use_of (K := z_Kk82) z_Kn82 rfl rfl (by decide +kernel) rfl) (z_use_of (K := z_Kk301) z_Kn301 rfl rfl (by decide +kernel) rfl) hI hL hj hl hx kk
/-- C.sample(II)I -/
theorem z_op_1780 (hI : z_Is xs t ax am ao P c n) (hL : z_Lc l ax am ao j) (hj : j.toInt = ((6 * t : Nat) : Int)) (hl : 6 * t + 6 ≤ xs.length) (hx : xs.length ≤ 3072) (kk : ∀ P' c' n', z_Is xs (t + 1) ax am ao P' c' n' → z_Rh (z_G xs) 800 290 Ψ (1982, l, [], P', c', n')) : z_Rh (z_G xs) 800 290 Ψ (1780, l, [], P, c, n) :=
  z_op2 (pc := 1780) (ks := [1, 2]) (iv1 := 202) (y1 := 173) (iv2 := 205) (y2 := 281) (by decide +kernel) (z_use_of (K := z_Kk85) z_Kn85 rfl rfl (by decide +kernel) rfl) (z_use_of (K := z_Kk311) z_Kn311 rfl rfl (by decide +kernel) rfl) hI hL hj hl hx kk
/-- C.grains(II)I -/
theorem z_op_1817 (hI : z_Is xs t ax am ao P c n) (hL : z_Lc l ax am ao j) (hj : j.toInt = ((6 * t : Nat) : Int)) (hl : 6 * t + 6 ≤ xs.length) (hx : xs.length ≤ 3072) (kk : ∀ P' c' n', z_Is xs (t + 1) ax am ao P' c' n' → z_Rh (z_G xs) 800 290 Ψ (1982, l, [], P', c', n')) : z_Rh (z_G xs) 800 290 Ψ (1817, l, [], P, c, n) :=
  z_op2 (pc := 1817) (ks := [1, 2]) (iv1 := 206) (y1 := 176) (iv2 := 209) (y2 := 284) (by decide +kernel) (z_use_of (K := z_Kk86) z_Kn86 rfl rfl (by decide +kernel) rfl) (z_use_of (K := z_Kk313) z_Kn313 rfl rfl (by decide +kernel) rfl) hI hL hj hl hx kk
/-- C.seed(I)I -/
theorem z_op_1854 (hI : z_Is xs t ax am ao P c n) (hL : z_Lc l ax am ao j) (hj : j.toInt = ((6 * t : Nat) : Int)) (hl : 6 * t + 6 ≤ xs.length) (hx : xs.length ≤ 3072) (kk : ∀ P' c' n', z_Is xs (t + 1) ax am ao P' c' n' → z_Rh (z_G xs) 800 290 Ψ (1982, l, [], P', c', n')) : z_Rh (z_G xs) 800 290 Ψ (1854, l, [], P, c, n) :=
  z_op2 (pc := 1854) (ks := [1]) (iv1 := 210) (y1 := 177) (iv2 := 213) (y2 := 285) (by decide +kernel) (z_use_of (K := z_Kk87) z_Kn87 rfl rfl (by decide +kernel) rfl) (z_use_of (K := z_Kk314) z_Kn314 rfl rfl (by decide +kernel) rfl) hI hL hj hl hx kk
/-- C.keep(I)Z -/
theorem z_op_1879 (hI : z_Is xs t ax am ao P c n) (hL : z_Lc l ax am ao j) (hj : j.toInt = ((6 * t : Nat) : Int)) (hl : 6 * t + 6 ≤ xs.length) (hx : xs.length ≤ 3072) (kk : ∀ P' c' n', z_Is xs (t + 1) ax am ao P' c' n' → z_Rh (z_G xs) 800 290 Ψ (1982, l, [], P', c', n')) : z_Rh (z_G xs) 800 290 Ψ (1879, l, [], P, c, n) :=
  z_op2 (pc := 1879) (ks := [1]) (iv1 := 214) (y1 := 178) (iv2 := 217) (y2 := 286) (by decide +kernel) (z_use_kp (z_use_of (K := z_Kk88) z_Kn88 rfl rfl (by decide +kernel) rfl) (z_use_of (K := z_Kk90) z_Kn90 rfl rfl (by decide +kernel) rfl) (z_use_of (K := z_Kk91) z_Kn91 rfl rfl (by decide +kernel) rfl)) (z_use_kp (z_use_of (K := z_Kk315) z_Kn315 rfl rfl (by decide +kernel) rfl) (z_use_of (K := z_Kk316) z_Kn316 rfl rfl (by decide +kernel) rfl) (z_use_of (K := z_Kk317) z_Kn317 rfl rfl (by decide +kernel) rfl)) hI hL hj hl hx kk
/-- C.again(I)Z -/
theorem z_op_1904 (hI : z_Is xs t ax am ao P c n) (hL : z_Lc l ax am ao j) (hj : j.toInt = ((6 * t : Nat) : Int)) (hl : 6 * t + 6 ≤ xs.length) (hx : xs.length ≤ 3072) (kk : ∀ P' c' n', z_Is xs (t + 1) ax am ao P' c' n' → z_Rh (z_G xs) 800 290 Ψ (1982, l, [], P', c', n')) : z_Rh (z_G xs) 800 290 Ψ (1904, l, [], P, c, n) :=
  z_op2 (pc := 1904) (ks := [1]) (iv1 := 218) (y1 := 180) (iv2 := 221) (y2 := 287) (by decide +kernel) (z_use_of (K := z_Kk93) z_Kn93 rfl rfl (by decide +kernel) rfl) (z_use_of (K := z_Kk318) z_Kn318 rfl rfl (by decide +kernel) rfl) hI hL hj hl hx kk
/-- C.count(I)I -/
theorem z_op_1929 (hI : z_Is xs t ax am ao P c n) (hL : z_Lc l ax am ao j) (hj : j.toInt = ((6 * t : Nat) : Int)) (hl : 6 * t + 6 ≤ xs.length) (hx : xs.length ≤ 3072) (kk : ∀ P' c' n', z_Is xs (t + 1) ax am ao P' c' n' → z_Rh (z_G xs) 800 290 Ψ (1982, l, [], P', c', n')) : z_Rh (z_G xs) 800 290 Ψ (1929, l, [], P, c, n) :=
  z_op2 (pc := 1929) (ks := [1]) (iv1 := 222) (y1 := 181) (iv2 := 225) (y2 := 288) (by decide +kernel) (z_use_of (K := z_Kk99) z_Kn99 rfl rfl (by decide +kernel) rfl) (z_use_of (K := z_Kk319) z_Kn319 rfl rfl (by decide +kernel) rfl) hI hL hj hl hx kk
end ZOPS
