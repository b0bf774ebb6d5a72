/-! EXPRESSIONS: what a text of one is. -/
section YEXP
/-- which of some letters comes at r (-1: none) -/
def yl (T : Int → Int) (lim : Int) (LL : List Int) (r : Int) : Int := if r < lim then yi_fr LL (T r) 0 else -1
/-- what an EXPRESSION's text is, by fuel: m 0 with < > =, 1 a sum, 2 a product, 3 a thing; dp: how deep in ( ); whether, the place then -/
def yf (T : Int → Int) (lim : Int) (L : List Int) : Nat → Nat → Int → Int → Bool × Int
  | 0, _, _, p => (false, p)
  | k + 1, 0, dp, p => if (yf T lim L k 1 dp p).1 = true then (if yl T lim [60, 62, 61] (yf T lim L k 1 dp p).2 ≠ -1 then yf T lim L k 1 dp ((yf T lim L k 1 dp p).2 + 1) else (true, (yf T lim L k 1 dp p).2)) else (false, (yf T lim L k 1 dp p).2)
  | k + 1, 1, dp, p => if (yf T lim L k 2 dp p).1 = true then (if yl T lim [43, 45] (yf T lim L k 2 dp p).2 ≠ -1 then yf T lim L k 1 dp ((yf T lim L k 2 dp p).2 + 1) else (true, (yf T lim L k 2 dp p).2)) else (false, (yf T lim L k 2 dp p).2)
  | k + 1, 2, dp, p => if (yf T lim L k 3 dp p).1 = true then (if yl T lim [42, 47] (yf T lim L k 3 dp p).2 ≠ -1 then yf T lim L k 2 dp ((yf T lim L k 3 dp p).2 + 1) else (true, (yf T lim L k 3 dp p).2)) else (false, (yf T lim L k 3 dp p).2)
  | k + 1, _ + 3, dp, p => if p < lim ∧ T p = 45 then yf T lim L k 3 dp (p + 1) else if (p < lim ∧ T p = 40) ∧ dp < 4 then (if (yf T lim L k 0 (dp + 1) (p + 1)).1 = true then (if (yf T lim L k 0 (dp + 1) (p + 1)).2 < lim ∧ T (yf T lim L k 0 (dp + 1) (p + 1)).2 = 41 then (true, (yf T lim L k 0 (dp + 1) (p + 1)).2 + 1) else (false, (yf T lim L k 0 (dp + 1) (p + 1)).2)) else (false, (yf T lim L k 0 (dp + 1) (p + 1)).2)) else if yl T lim L p ≠ -1 then (true, p + 1) else ((yq_num T lim 3 0 999 p).1, (yq_num T lim 3 0 999 p).2.1)
/-- a thing without - -/
def yg_b (T : Int → Int) (lim : Int) (L : List Int) (k : Nat) (dp p : Int) : Bool × Int := if (p < lim ∧ T p = 40) ∧ dp < 4 then (if (yf T lim L k 0 (dp + 1) (p + 1)).1 = true then (if (yf T lim L k 0 (dp + 1) (p + 1)).2 < lim ∧ T (yf T lim L k 0 (dp + 1) (p + 1)).2 = 41 then (true, (yf T lim L k 0 (dp + 1) (p + 1)).2 + 1) else (false, (yf T lim L k 0 (dp + 1) (p + 1)).2)) else (false, (yf T lim L k 0 (dp + 1) (p + 1)).2)) else if yl T lim L p ≠ -1 then (true, p + 1) else ((yq_num T lim 3 0 999 p).1, (yq_num T lim 3 0 999 p).2.1)
/-- what stands behind an operand -/
def yg_r (T : Int → Int) (lim : Int) (L : List Int) (LL : List Int) (m k : Nat) (dp r : Int) : Bool × Int := if yl T lim LL r ≠ -1 then yf T lim L k m dp (r + 1) else (true, r)
section
variable {T : Int → Int} {lim dp p : Int} {L : List Int} {k : Nat}
theorem yf_0 : yf T lim L (k + 1) 0 dp p = if (yf T lim L k 1 dp p).1 = true then yg_r T lim L [60, 62, 61] 1 k dp (yf T lim L k 1 dp p).2 else (false, (yf T lim L k 1 dp p).2) := rfl
theorem yf_1 : yf T lim L (k + 1) 1 dp p = if (yf T lim L k 2 dp p).1 = true then yg_r T lim L [43, 45] 1 k dp (yf T lim L k 2 dp p).2 else (false, (yf T lim L k 2 dp p).2) := rfl
theorem yf_2 : yf T lim L (k + 1) 2 dp p = if (yf T lim L k 3 dp p).1 = true then yg_r T lim L [42, 47] 2 k dp (yf T lim L k 3 dp p).2 else (false, (yf T lim L k 3 dp p).2) := rfl
theorem yf_3 : yf T lim L (k + 1) 3 dp p = if p < lim ∧ T p = 45 then yf T lim L k 3 dp (p + 1) else yg_b T lim L k dp p := rfl
theorem yl_bd {LL : List Int} {r : Int} : yl T lim LL r = -1 ∨ (0 ≤ yl T lim LL r ∧ r < lim) := by
  unfold yl
  by_cases hr : r < lim
  · rw [if_pos hr]
    rcases yi_fr_bd (e := T r) (L := LL) (i := 0) (Int.le_refl _) with h | h
    · exact Or.inl h
    · exact Or.inr ⟨h.1, hr⟩
  · rw [if_neg hr]
    exact Or.inl rfl
theorem yf_bd : ∀ (k m : Nat) (dp p : Int), p ≤ lim → p ≤ (yf T lim L k m dp p).2 ∧ (yf T lim L k m dp p).2 ≤ lim ∧ ((yf T lim L k m dp p).1 = true → p + 1 ≤ (yf T lim L k m dp p).2) := by
  intro k
  induction k with
  | zero =>
    intro m dp p hp
    exact ⟨Int.le_refl _, hp, fun h => (by cases h)⟩
  | succ k ih =>
    intro m dp p hp
    have rest : ∀ (LL : List Int) (m1 m2 : Nat), p ≤ (if (yf T lim L k m2 dp p).1 = true then yg_r T lim L LL m1 k dp (yf T lim L k m2 dp p).2 else (false, (yf T lim L k m2 dp p).2)).2 ∧ (if (yf T lim L k m2 dp p).1 = true then yg_r T lim L LL m1 k dp (yf T lim L k m2 dp p).2 else (false, (yf T lim L k m2 dp p).2)).2 ≤ lim ∧ ((if (yf T lim L k m2 dp p).1 = true then yg_r T lim L LL m1 k dp (yf T lim L k m2 dp p).2 else (false, (yf T lim L k m2 dp p).2)).1 = true → p + 1 ≤ (if (yf T lim L k m2 dp p).1 = true then yg_r T lim L LL m1 k dp (yf T lim L k m2 dp p).2 else (false, (yf T lim L k m2 dp p).2)).2) := by
      intro LL m1 m2
      obtain ⟨a1, a2, a3⟩ := ih m2 dp p hp
      by_cases h1 : (yf T lim L k m2 dp p).1 = true
      · rw [if_pos h1]
        have a3 := a3 h1
        unfold yg_r
        by_cases h2 : yl T lim LL (yf T lim L k m2 dp p).2 ≠ -1
        · rw [if_pos h2]
          have h3 := yl_bd (T := T) (lim := lim) (LL := LL) (r := (yf T lim L k m2 dp p).2)
          obtain ⟨b1, b2, b3⟩ := ih m1 dp ((yf T lim L k m2 dp p).2 + 1) (by omega)
          exact ⟨by omega, b2, fun _ => by omega⟩
        · rw [if_neg h2]
          exact ⟨a1, a2, fun _ => a3⟩
      · rw [if_neg h1]
        exact ⟨a1, a2, fun h => (by cases h)⟩
    match m with
    | 0 =>
      rw [yf_0]
      exact rest [60, 62, 61] 1 1
    | 1 =>
      rw [yf_1]
      exact rest [43, 45] 1 2
    | 2 =>
      rw [yf_2]
      exact rest [42, 47] 2 3
    | m + 3 =>
      show p ≤ (if p < lim ∧ T p = 45 then yf T lim L k 3 dp (p + 1) else yg_b T lim L k dp p).2 ∧ (if p < lim ∧ T p = 45 then yf T lim L k 3 dp (p + 1) else yg_b T lim L k dp p).2 ≤ lim ∧ ((if p < lim ∧ T p = 45 then yf T lim L k 3 dp (p + 1) else yg_b T lim L k dp p).1 = true → p + 1 ≤ (if p < lim ∧ T p = 45 then yf T lim L k 3 dp (p + 1) else yg_b T lim L k dp p).2)
      by_cases h1 : p < lim ∧ T p = 45
      · rw [if_pos h1]
        obtain ⟨b1, b2, b3⟩ := ih 3 dp (p + 1) (by omega)
        exact ⟨by omega, b2, fun _ => by omega⟩
      · rw [if_neg h1]
        unfold yg_b
        by_cases h2 : (p < lim ∧ T p = 40) ∧ dp < 4
        · rw [if_pos h2]
          obtain ⟨b1, b2, b3⟩ := ih 0 (dp + 1) (p + 1) (by omega)
          split
          · split
            · exact ⟨by show p ≤ (yf T lim L k 0 (dp + 1) (p + 1)).2 + 1; omega, by show (yf T lim L k 0 (dp + 1) (p + 1)).2 + 1 ≤ lim; omega, fun _ => by show p + 1 ≤ (yf T lim L k 0 (dp + 1) (p + 1)).2 + 1; omega⟩
            · exact ⟨by show p ≤ (yf T lim L k 0 (dp + 1) (p + 1)).2; omega, b2, fun h => (by cases h)⟩
          · exact ⟨by show p ≤ (yf T lim L k 0 (dp + 1) (p + 1)).2; omega, b2, fun h => (by cases h)⟩
        · rw [if_neg h2]
          by_cases h3 : yl T lim L p ≠ -1
          · rw [if_pos h3]
            have h4 := yl_bd (T := T) (lim := lim) (LL := L) (r := p)
            exact ⟨by show p ≤ p + 1; omega, by show p + 1 ≤ lim; omega, fun _ => Int.le_refl _⟩
          · rw [if_neg h3]
            obtain ⟨b1, b2, b3, b4, -⟩ := yq_num_bd (T := T) (lim := lim) (p := p) (lo := 0) (hi := 999) (k := 3) (by decide) hp
            exact ⟨b1, b2, fun h => by have := b4 h; show p + 1 ≤ (yq_num T lim 3 0 999 p).2.1; omega⟩
theorem yq_num_nd {lo hi : Int} (h : ¬ (p < lim ∧ 48 ≤ T p ∧ T p ≤ 57)) : yq_num T lim 3 lo hi p = (false, p, 0) := by
  have e1 : yq_dg T lim 3 p 0 = (p, 0) := by
    show (if p < lim ∧ 48 ≤ T p ∧ T p ≤ 57 then yq_dg T lim 2 (p + 1) (10 * 0 + T p - 48) else (p, 0)) = _
    exact if_neg h
  unfold yq_num
  rw [e1]
  exact if_pos rfl
end
theorem yg_idiv {x y : Int32} {st : List Value} (h : y ≠ 0) : z_pure .idiv (.int y :: .int x :: st) = some (.int (x / y) :: st) := by
  show (if y = 0 then none else some (Value.int (x / y) :: st)) = _
  exact if_neg h
/-- far Strings -/
theorem yg_lk2 {xs : List Int32} {P : z_H} : z_lk (z_strs (z_G xs)) P (z_far + 2) = some (98, [.ref (z_far + 3), ye_v 0]) := by
  unfold z_lk
  rw [if_neg (Nat.not_lt.mpr (Nat.le_add_right _ _)), Nat.add_sub_cancel_left]
  rfl
theorem yg_lk3 {xs : List Int32} {P : z_H} : z_lk (z_strs (z_G xs)) P (z_far + 3) = some (101, ([119, 122, 100, 105, 107] : List Int).map ye_v) := by
  unfold z_lk
  rw [if_neg (Nat.not_lt.mpr (Nat.le_add_right _ _)), Nat.add_sub_cancel_left]
  rfl
theorem yg_lk4 {xs : List Int32} {P : z_H} : z_lk (z_strs (z_G xs)) P (z_far + 4) = some (98, [.ref (z_far + 5), ye_v 0]) := by
  unfold z_lk
  rw [if_neg (Nat.not_lt.mpr (Nat.le_add_right _ _)), Nat.add_sub_cancel_left]
  rfl
theorem yg_lk5 {xs : List Int32} {P : z_H} : z_lk (z_strs (z_G xs)) P (z_far + 5) = some (101, ([109, 99, 104, 119, 115, 110, 107, 112] : List Int).map ye_v) := by
  unfold z_lk
  rw [if_neg (Nat.not_lt.mpr (Nat.le_add_right _ _)), Nat.add_sub_cancel_left]
  rfl
theorem yg_lk6 {xs : List Int32} {P : z_H} : z_lk (z_strs (z_G xs)) P (z_far + 6) = some (98, [.ref (z_far + 7), ye_v 0]) := by
  unfold z_lk
  rw [if_neg (Nat.not_lt.mpr (Nat.le_add_right _ _)), Nat.add_sub_cancel_left]
  rfl
theorem yg_lk7 {xs : List Int32} {P : z_H} : z_lk (z_strs (z_G xs)) P (z_far + 7) = some (101, ([42, 47] : List Int).map ye_v) := by
  unfold z_lk
  rw [if_neg (Nat.not_lt.mpr (Nat.le_add_right _ _)), Nat.add_sub_cancel_left]
  rfl
theorem yg_lk8 {xs : List Int32} {P : z_H} : z_lk (z_strs (z_G xs)) P (z_far + 8) = some (98, [.ref (z_far + 9), ye_v 0]) := by
  unfold z_lk
  rw [if_neg (Nat.not_lt.mpr (Nat.le_add_right _ _)), Nat.add_sub_cancel_left]
  rfl
theorem yg_lk9 {xs : List Int32} {P : z_H} : z_lk (z_strs (z_G xs)) P (z_far + 9) = some (101, ([43, 45] : List Int).map ye_v) := by
  unfold z_lk
  rw [if_neg (Nat.not_lt.mpr (Nat.le_add_right _ _)), Nat.add_sub_cancel_left]
  rfl
theorem yg_lk10 {xs : List Int32} {P : z_H} : z_lk (z_strs (z_G xs)) P (z_far + 10) = some (98, [.ref (z_far + 11), ye_v 0]) := by
  unfold z_lk
  rw [if_neg (Nat.not_lt.mpr (Nat.le_add_right _ _)), Nat.add_sub_cancel_left]
  rfl
theorem yg_lk11 {xs : List Int32} {P : z_H} : z_lk (z_strs (z_G xs)) P (z_far + 11) = some (101, ([60, 62, 61] : List Int).map ye_v) := by
  unfold z_lk
  rw [if_neg (Nat.not_lt.mpr (Nat.le_add_right _ _)), Nat.add_sub_cancel_left]
  rfl
end YEXP
