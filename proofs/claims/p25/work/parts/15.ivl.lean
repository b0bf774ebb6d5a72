/-! Intervals of ints and longs, and what the operations do to them. -/
section ZIVL
abbrev z_I : Type := Int × Int
def z_top32 : z_I := (-2147483648, 2147483647)
def z_top64 : z_I := (-9223372036854775808, 9223372036854775807)
def z_in32 (t : z_I) (x : Int32) : Prop := t.1 ≤ x.toInt ∧ x.toInt ≤ t.2
def z_in64 (t : z_I) (x : Int64) : Prop := t.1 ≤ x.toInt ∧ x.toInt ≤ t.2
theorem z_t32 (x : Int32) : z_in32 z_top32 x := by
  have h1 := x.le_toInt
  have h2 := x.toInt_lt
  unfold z_in32 z_top32
  constructor <;> dsimp only <;> omega
theorem z_t64 (x : Int64) : z_in64 z_top64 x := by
  have h1 := x.le_toInt
  have h2 := x.toInt_lt
  unfold z_in64 z_top64
  constructor <;> dsimp only <;> omega
/-- an interval of whole numbers as one of ints: all of them where it leaves the range -/
def z_r32 (lo hi : Int) : z_I := if -2147483648 ≤ lo ∧ hi ≤ 2147483647 then (lo, hi) else z_top32
def z_r64 (lo hi : Int) : z_I := if -9223372036854775808 ≤ lo ∧ hi ≤ 9223372036854775807 then (lo, hi) else z_top64
theorem z_r32_in {lo hi n : Int} {x : Int32} (hx : x.toInt = n.bmod (2 ^ 32)) (h1 : lo ≤ n) (h2 : n ≤ hi) : z_in32 (z_r32 lo hi) x := by
  unfold z_r32
  split
  · rename_i h
    have : n.bmod (2 ^ 32) = n := by
      unfold Int.bmod
      simp only [Nat.reducePow]
      omega
    unfold z_in32
    rw [hx, this]
    exact ⟨h1, h2⟩
  · exact z_t32 x
theorem z_r64_in {lo hi n : Int} {x : Int64} (hx : x.toInt = n.bmod (2 ^ 64)) (h1 : lo ≤ n) (h2 : n ≤ hi) : z_in64 (z_r64 lo hi) x := by
  unfold z_r64
  split
  · rename_i h
    have : n.bmod (2 ^ 64) = n := by
      unfold Int.bmod
      simp only [Nat.reducePow]
      omega
    unfold z_in64
    rw [hx, this]
    exact ⟨h1, h2⟩
  · exact z_t64 x
def z_one (t : z_I) : Bool := t.1 == t.2
theorem z_one32 {t : z_I} {x : Int32} (h : z_one t = true) (hx : z_in32 t x) : x = Int32.ofInt t.1 := by
  have e : t.1 = t.2 := by simpa [z_one] using h
  have e2 : x.toInt = t.1 := by
    obtain ⟨h1, h2⟩ := hx
    omega
  rw [← e2]
  exact (Int32.ofInt_toInt x).symm
theorem z_one64 {t : z_I} {x : Int64} (h : z_one t = true) (hx : z_in64 t x) : x = Int64.ofInt t.1 := by
  have e : t.1 = t.2 := by simpa [z_one] using h
  have e2 : x.toInt = t.1 := by
    obtain ⟨h1, h2⟩ := hx
    omega
  rw [← e2]
  exact (Int64.ofInt_toInt x).symm
def z_mul (a b : z_I) : z_I := if 0 ≤ b.1 ∧ b.1 = b.2 then (a.1 * b.1, a.2 * b.1) else if 0 ≤ a.1 ∧ a.1 = a.2 then (b.1 * a.1, b.2 * a.1) else if 0 ≤ a.1 ∧ 0 ≤ b.1 then (a.1 * b.1, a.2 * b.2) else
  let m := max (max (-a.1) a.2) 0 * max (max (-b.1) b.2) 0
  (-m, m)
theorem z_mul_in {a b : z_I} {x y : Int} (h1 : a.1 ≤ x) (h2 : x ≤ a.2) (h3 : b.1 ≤ y) (h4 : y ≤ b.2) : (z_mul a b).1 ≤ x * y ∧ x * y ≤ (z_mul a b).2 := by
  unfold z_mul
  split
  · rename_i h
    have hy : y = b.1 := by omega
    subst hy
    exact ⟨Int.mul_le_mul_of_nonneg_right h1 h.1, Int.mul_le_mul_of_nonneg_right h2 h.1⟩
  split
  · rename_i h
    have hx : x = a.1 := by omega
    subst hx
    rw [Int.mul_comm a.1 y]
    exact ⟨Int.mul_le_mul_of_nonneg_right h3 h.1, Int.mul_le_mul_of_nonneg_right h4 h.1⟩
  split
  · rename_i h
    exact ⟨Int.mul_le_mul h1 h3 h.2 (by omega), Int.mul_le_mul h2 h4 (by omega) (by omega)⟩
  · dsimp only
    have hA : -(max (max (-a.1) a.2) 0) ≤ x ∧ x ≤ max (max (-a.1) a.2) 0 := by omega
    have hB : -(max (max (-b.1) b.2) 0) ≤ y ∧ y ≤ max (max (-b.1) b.2) 0 := by omega
    generalize max (max (-a.1) a.2) 0 = A at hA
    generalize max (max (-b.1) b.2) 0 = B at hB
    have hA0 : 0 ≤ A := by omega
    have hB0 : 0 ≤ B := by omega
    have k1 : 0 ≤ (A - x) * (B + y) + (A + x) * (B - y) := Int.add_nonneg (Int.mul_nonneg (by omega) (by omega)) (Int.mul_nonneg (by omega) (by omega))
    have k2 : 0 ≤ (A - x) * (B - y) + (A + x) * (B + y) := Int.add_nonneg (Int.mul_nonneg (by omega) (by omega)) (Int.mul_nonneg (by omega) (by omega))
    have e1 : (A - x) * (B + y) + (A + x) * (B - y) = 2 * (A * B) - 2 * (x * y) := by
      simp only [Int.sub_mul, Int.add_mul, Int.mul_add, Int.mul_sub]
      omega
    have e2 : (A - x) * (B - y) + (A + x) * (B + y) = 2 * (A * B) + 2 * (x * y) := by
      simp only [Int.sub_mul, Int.add_mul, Int.mul_add, Int.mul_sub]
      omega
    omega
def z_and (a b : z_I) : z_I := if 0 ≤ a.1 then (if 0 ≤ b.1 then (0, min a.2 b.2) else (0, a.2)) else if 0 ≤ b.1 then (0, b.2) else z_top32
/-- two ints: the second divides -/
def z_div (a b : z_I) : Option z_I := if 1 ≤ b.1 then (if b.1 = b.2 then some (a.1.tdiv b.1, a.2.tdiv b.1) else some (min a.1 0, max a.2 0)) else if b.2 ≤ -1 then some z_top32 else none
def z_rem (a b : z_I) : Option z_I := if (z_one a && z_one b && decide (1 ≤ b.1)) = true then some ((Int32.ofInt a.1 - Int32.ofInt a.1 / Int32.ofInt b.1 * Int32.ofInt b.1).toInt, (Int32.ofInt a.1 - Int32.ofInt a.1 / Int32.ofInt b.1 * Int32.ofInt b.1).toInt) else if 1 ≤ b.1 then (if 0 ≤ a.1 then some (0, min a.2 (b.2 - 1)) else some z_top32) else if b.2 ≤ -1 then some z_top32 else none
theorem z_and_in {a b : z_I} {x y : Int32} (hx : z_in32 a x) (hy : z_in32 b y) : z_in32 (z_and a b) (x &&& y) := by
  have key : ∀ u v : Int32, 0 ≤ u.toInt → 0 ≤ (u &&& v).toInt ∧ (u &&& v).toInt ≤ u.toInt := by
    intro u v hu
    have hu' : ¬ u < 0 := fun q => by
      rw [Int32.lt_iff_toInt_lt] at q
      have : (0 : Int32).toInt = 0 := by decide
      omega
    have e1 : (u &&& v).toBitVec.toNat ≤ u.toBitVec.toNat := by
      rw [Int32.toBitVec_and, BitVec.toNat_and]
      exact Nat.and_le_left
    have e2 : u.toBitVec.toNat < 2 ^ 31 := by
      have : u.toInt = u.toBitVec.toInt := rfl
      rw [this, BitVec.toInt_eq_toNat_cond] at hu
      split at hu <;> omega
    have e3 : (u &&& v).toInt = ((u &&& v).toBitVec.toNat : Int) := by
      have : (u &&& v).toInt = (u &&& v).toBitVec.toInt := rfl
      rw [this, BitVec.toInt_eq_toNat_cond]
      split <;> omega
    have e4 : u.toInt = (u.toBitVec.toNat : Int) := by
      have : u.toInt = u.toBitVec.toInt := rfl
      rw [this, BitVec.toInt_eq_toNat_cond]
      split <;> omega
    omega
  obtain ⟨h1, h2⟩ := hx
  obtain ⟨h3, h4⟩ := hy
  unfold z_and
  split
  · split
    · obtain ⟨k1, k2⟩ := key x y (by omega)
      have hc : x &&& y = y &&& x := Int32.and_comm x y
      obtain ⟨k3, k4⟩ := key y x (by omega)
      rw [← hc] at k4
      exact ⟨k1, by show _ ≤ min a.2 b.2; omega⟩
    · obtain ⟨k1, k2⟩ := key x y (by omega)
      exact ⟨k1, by show _ ≤ a.2; omega⟩
  · split
    · have hc : x &&& y = y &&& x := Int32.and_comm x y
      obtain ⟨k3, k4⟩ := key y x (by omega)
      rw [hc]
      exact ⟨k3, by show _ ≤ b.2; omega⟩
    · exact z_t32 _
theorem z_div_in {a b r : z_I} {x y : Int32} (hx : z_in32 a x) (hy : z_in32 b y) (h : z_div a b = some r) : ¬ y = 0 ∧ z_in32 r (x / y) := by
  obtain ⟨h1, h2⟩ := hx
  obtain ⟨h3, h4⟩ := hy
  have hne : 1 ≤ b.1 ∨ b.2 ≤ -1 → ¬ y = 0 := by
    intro h9 q
    subst q
    have : (0 : Int32).toInt = 0 := by decide
    omega
  unfold z_div at h
  split at h
  · rename_i hb
    refine ⟨hne (Or.inl hb), ?_⟩
    have hd : (x / y).toInt = (x.toInt.tdiv y.toInt).bmod (2 ^ 32) := Int32.toInt_div x y
    have hx1 := x.le_toInt
    have hx2 := x.toInt_lt
    have bnd : min x.toInt 0 ≤ x.toInt.tdiv y.toInt ∧ x.toInt.tdiv y.toInt ≤ max x.toInt 0 := by
      have hy1 : 1 ≤ y.toInt := by omega
      rcases Int.le_total 0 x.toInt with hp | hp
      · have g1 := Int.tdiv_nonneg hp (by omega : (0 : Int) ≤ y.toInt)
        have g2 := Int.tdiv_le_self y.toInt hp
        omega
      · have hp' : 0 ≤ -x.toInt := by omega
        have g1 := Int.tdiv_nonneg hp' (by omega : (0 : Int) ≤ y.toInt)
        have g2 := Int.tdiv_le_self y.toInt hp'
        rw [Int.neg_tdiv] at g1 g2
        omega
    have hbm : (x.toInt.tdiv y.toInt).bmod (2 ^ 32) = x.toInt.tdiv y.toInt := by
      unfold Int.bmod
      simp only [Nat.reducePow]
      omega
    split at h
    · rename_i hc
      cases h
      have hy2 : y.toInt = b.1 := by omega
      unfold z_in32
      rw [hd, hbm, hy2]
      exact ⟨Int.tdiv_le_tdiv (by omega) h1, Int.tdiv_le_tdiv (by omega) h2⟩
    · cases h
      unfold z_in32
      rw [hd, hbm]
      refine ⟨?_, ?_⟩
      · show min a.1 0 ≤ _
        omega
      · show _ ≤ max a.2 0
        omega
  · split at h
    · rename_i hb
      cases h
      exact ⟨hne (Or.inr hb), z_t32 _⟩
    · cases h
theorem z_rem_in {a b r : z_I} {x y : Int32} (hx : z_in32 a x) (hy : z_in32 b y) (h : z_rem a b = some r) : ¬ y = 0 ∧ z_in32 r (x - x / y * y) := by
  obtain ⟨h1, h2⟩ := hx
  obtain ⟨h3, h4⟩ := hy
  have hne : 1 ≤ b.1 ∨ b.2 ≤ -1 → ¬ y = 0 := by
    intro h9 q
    subst q
    have : (0 : Int32).toInt = 0 := by decide
    omega
  unfold z_rem at h
  split at h
  · rename_i hc
    simp only [Bool.and_eq_true, decide_eq_true_eq] at hc
    cases h
    have ex := z_one32 hc.1.1 (x := x) ⟨h1, h2⟩
    have ey := z_one32 hc.1.2 (x := y) ⟨h3, h4⟩
    rw [← ex, ← ey]
    exact ⟨hne (Or.inl hc.2), Int.le_refl _, Int.le_refl _⟩
  split at h
  · rename_i hb
    refine ⟨hne (Or.inl hb), ?_⟩
    split at h
    · rename_i ha
      cases h
      have nn : ∀ u : Int32, 0 ≤ u.toInt → ∃ n : Nat, n < 2 ^ 31 ∧ u = nI n := fun u hu => by
        have : ¬ u < 0 := fun q => by
          rw [Int32.lt_iff_toInt_lt] at q
          have : (0 : Int32).toInt = 0 := by decide
          omega
        exact nI_of this
      obtain ⟨n, hn, rfl⟩ := nn x (by omega)
      obtain ⟨k, hk, rfl⟩ := nn y (by omega)
      rw [nI_toInt hn] at h1 h2
      rw [nI_toInt hk] at h3 h4
      have hk0 : 0 < k := by omega
      rw [pk_rem hn hk0 hk]
      have hm := Nat.mod_lt n hk0
      have hm2 := Nat.mod_le n k
      unfold z_in32
      rw [nI_toInt (by omega)]
      refine ⟨by show (0 : Int) ≤ _; omega, ?_⟩
      show _ ≤ min a.2 (b.2 - 1)
      omega
    · cases h
      exact z_t32 _
  · split at h
    · rename_i hb
      cases h
      exact ⟨hne (Or.inr hb), z_t32 _⟩
    · cases h
end ZIVL
