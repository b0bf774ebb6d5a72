section ZAPU
theorem z_gi_iv32 {N : List Int} {t : z_tk} {x : Int32} (h : z_gi N t x.toInt) : z_in32 (z_iv t) x := ⟨h.1, h.2.1⟩
theorem z_gi_iv64 {N : List Int} {t : z_tk} {x : Int64} (h : z_gi N t x.toInt) : z_in64 (z_iv t) x := ⟨h.1, h.2.1⟩
theorem z_ti_gi {N : List Int} {i : z_I} {x : Int32} (h : z_in32 i x) : z_gi N (z_ti i) x.toInt := ⟨h.1, h.2, Or.inl rfl⟩
theorem z_ti_gi64 {N : List Int} {i : z_I} {x : Int64} (h : z_in64 i x) : z_gi N (z_ti i) x.toInt := ⟨h.1, h.2, Or.inl rfl⟩
theorem z_tc_gi {N : List Int} {c : Int} : z_gi N (z_tc c) c := ⟨Int.le_refl _, Int.le_refl _, Or.inl rfl⟩
/-- both told exactly: the operation itself -/
def z_ex2 (f : Int32 → Int32 → Int32) (g : z_tk → z_tk → z_tk) (x y : z_tk) : z_tk := if z_one (z_iv x) && z_one (z_iv y) then z_tc (f (Int32.ofInt (z_lo x)) (Int32.ofInt (z_lo y))).toInt else g x y
theorem z_ex2_gi {N : List Int} {f : Int32 → Int32 → Int32} {g : z_tk → z_tk → z_tk} {x y : z_tk} {a b : Int32} (hx : z_gi N x a.toInt) (hy : z_gi N y b.toInt) (hg : z_gi N (g x y) (f a b).toInt) : z_gi N (z_ex2 f g x y) (f a b).toInt := by
  unfold z_ex2
  split
  · rename_i h
    rw [Bool.and_eq_true] at h
    have ea := z_one32 h.1 (z_gi_iv32 hx)
    have eb := z_one32 h.2 (z_gi_iv32 hy)
    have ea : a = Int32.ofInt (z_lo x) := ea
    have eb : b = Int32.ofInt (z_lo y) := eb
    rw [← ea, ← eb]
    exact z_tc_gi
  · exact hg
def z_add32 (x y : z_tk) : z_tk := if -2147483648 ≤ z_lo x + z_lo y ∧ z_hi x + z_hi y ≤ 2147483647 then
    (if x.1 ≠ 0 then (x.1, x.2.1 + z_lo y, x.2.2.1 + z_hi y, z_lo x + z_lo y, z_hi x + z_hi y) else (y.1, y.2.1 + z_lo x, y.2.2.1 + z_hi x, z_lo x + z_lo y, z_hi x + z_hi y)) else z_ti z_top32
def z_sub32 (x y : z_tk) : z_tk := if -2147483648 ≤ z_lo x - z_hi y ∧ z_hi x - z_lo y ≤ 2147483647 then (x.1, x.2.1 - z_hi y, x.2.2.1 - z_lo y, z_lo x - z_hi y, z_hi x - z_lo y) else z_ti z_top32
theorem z_add32_gi {N : List Int} {x y : z_tk} {a b : Int32} (hx : z_gi N x a.toInt) (hy : z_gi N y b.toInt) : z_gi N (z_add32 x y) (a + b).toInt := by
  unfold z_add32
  split
  · rename_i h
    obtain ⟨x1, x2, x3⟩ := hx
    obtain ⟨y1, y2, y3⟩ := hy
    have e : (a + b).toInt = a.toInt + b.toInt := by
      rw [Int32.toInt_add]
      unfold Int.bmod
      simp only [Nat.reducePow]
      omega
    rw [e]
    split
    · rename_i hz
      refine ⟨by show z_lo x + z_lo y ≤ _; omega, by show _ ≤ z_hi x + z_hi y; omega, Or.inr ?_⟩
      rcases x3 with x3 | ⟨w, e1, e2, e3⟩
      · exact absurd x3 hz
      · exact ⟨w, e1, by show w + (x.2.1 + z_lo y) ≤ _; omega, by show _ ≤ w + (x.2.2.1 + z_hi y); omega⟩
    · refine ⟨by show z_lo x + z_lo y ≤ _; omega, by show _ ≤ z_hi x + z_hi y; omega, ?_⟩
      rcases y3 with y3 | ⟨w, e1, e2, e3⟩
      · exact Or.inl y3
      · exact Or.inr ⟨w, e1, by show w + (y.2.1 + z_lo x) ≤ _; omega, by show _ ≤ w + (y.2.2.1 + z_hi x); omega⟩
  · exact z_ti_gi (z_t32 _)
theorem z_sub32_gi {N : List Int} {x y : z_tk} {a b : Int32} (hx : z_gi N x a.toInt) (hy : z_gi N y b.toInt) : z_gi N (z_sub32 x y) (a - b).toInt := by
  unfold z_sub32
  split
  · rename_i h
    obtain ⟨x1, x2, x3⟩ := hx
    obtain ⟨y1, y2, y3⟩ := hy
    have e : (a - b).toInt = a.toInt - b.toInt := by
      rw [Int32.toInt_sub]
      unfold Int.bmod
      simp only [Nat.reducePow]
      omega
    rw [e]
    refine ⟨by show z_lo x - z_hi y ≤ _; omega, by show _ ≤ z_hi x - z_lo y; omega, ?_⟩
    rcases x3 with x3 | ⟨w, e1, e2, e3⟩
    · exact Or.inl x3
    · exact Or.inr ⟨w, e1, by show w + (x.2.1 - z_hi y) ≤ _; omega, by show _ ≤ w + (x.2.2.1 - z_lo y); omega⟩
  · exact z_ti_gi (z_t32 _)
def z_mul32 (x y : z_tk) : z_tk := z_ti (z_r32 (z_mul (z_iv x) (z_iv y)).1 (z_mul (z_iv x) (z_iv y)).2)
theorem z_mul32_gi {N : List Int} {x y : z_tk} {a b : Int32} (hx : z_gi N x a.toInt) (hy : z_gi N y b.toInt) : z_gi N (z_mul32 x y) (a * b).toInt := by
  obtain ⟨h1, h2⟩ := z_mul_in (a := z_iv x) (b := z_iv y) hx.1 hx.2.1 hy.1 hy.2.1
  exact z_ti_gi (z_r32_in (Int32.toInt_mul a b) h1 h2)
theorem z_sl : ∀ n, n < 32 → ((nI n &&& 31).toBitVec.smod 32).toNat = n := by decide
def z_shr32 (x y : z_tk) : z_tk := if z_one (z_iv y) ∧ 0 ≤ z_lo y ∧ z_lo y < 32 then z_ti (z_lo x >>> (z_lo y).toNat, z_hi x >>> (z_lo y).toNat) else z_ti z_top32
theorem z_shr_mono {a b : Int} (k : Nat) (h : a ≤ b) : a >>> k ≤ b >>> k := by
  rw [Int.shiftRight_eq_div_pow, Int.shiftRight_eq_div_pow]
  exact Int.ediv_le_ediv (by have : (0 : Int) < 2 ^ k := Int.pow_pos (by decide); exact_mod_cast this) h
theorem z_shr32_gi {N : List Int} {x y : z_tk} {a b : Int32} (hx : z_gi N x a.toInt) (hy : z_gi N y b.toInt) : z_gi N (z_shr32 x y) (a >>> (b &&& 31)).toInt := by
  unfold z_shr32
  split
  · rename_i h
    obtain ⟨h1, h2, h3⟩ := h
    have eb : b = Int32.ofInt (z_lo y) := z_one32 h1 (z_gi_iv32 hy)
    have ek : Int32.ofInt (z_lo y) = nI (z_lo y).toNat := by
      unfold nI
      have : z_lo y = ((z_lo y).toNat : Int) := by omega
      conv => lhs; rw [this]
      exact Int32.ofInt_eq_ofNat
    have hs : ((b &&& 31).toBitVec.smod 32).toNat = (z_lo y).toNat := by
      rw [eb, ek]
      exact z_sl _ (by omega)
    have e := pk_shr a (b &&& 31) (z_lo y).toNat hs
    rw [e]
    exact ⟨z_shr_mono _ hx.1, z_shr_mono _ hx.2.1, Or.inl rfl⟩
  · exact z_ti_gi (z_t32 _)
def z_top2 (_ _ : z_tk) : z_tk := z_ti z_top32
end ZAPU
