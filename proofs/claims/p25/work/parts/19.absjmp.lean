section ZAJ
/-- facts: does x + k ≤ y follow (exact numbers of two identities)? -/
def z_xt (t : z_tk) : Bool := decide (t.1 ≠ 0) && decide (t.2.1 = t.2.2.1)
def z_ge (F : List (Nat × Nat × Int)) (x y : z_tk) (k : Int) : Bool := z_xt x && z_xt y && ((decide (x.1 = y.1) && decide (x.2.1 + k ≤ y.2.1)) || F.any fun q => decide (q.1 = x.1) && decide (q.2.1 = y.1) && decide (x.2.1 + k ≤ q.2.2 + y.2.1))
theorem z_xt_eq {N : List Int} {t : z_tk} {v : Int} (h : z_xt t = true) (ht : z_gi N t v) : ∃ w, N[t.1]? = some w ∧ v = w + t.2.1 := by
  unfold z_xt at h
  simp only [Bool.and_eq_true, decide_eq_true_eq] at h
  obtain ⟨h1, h2⟩ := h
  obtain ⟨-, -, h3 | ⟨w, e, h4, h5⟩⟩ := ht
  · exact absurd h3 h1
  · exact ⟨w, e, by omega⟩
theorem z_ge_use {N : List Int} {F : List (Nat × Nat × Int)} {x y : z_tk} {a b k : Int} (hF : z_gx N F) (h : z_ge F x y k = true) (hx : z_gi N x a) (hy : z_gi N y b) : a + k ≤ b := by
  unfold z_ge at h
  simp only [Bool.and_eq_true, Bool.or_eq_true, decide_eq_true_eq] at h
  obtain ⟨⟨h1, h2⟩, h3⟩ := h
  obtain ⟨w, e1, rfl⟩ := z_xt_eq h1 hx
  obtain ⟨u, e2, rfl⟩ := z_xt_eq h2 hy
  rcases h3 with ⟨h3, h4⟩ | h3
  · rw [h3] at e1
    have : w = u := Option.some.inj (e1.symm.trans e2)
    omega
  · obtain ⟨q, hq, h4⟩ := List.any_eq_true.mp h3
    simp only [Bool.and_eq_true, decide_eq_true_eq] at h4
    obtain ⟨⟨h5, h6⟩, h7⟩ := h4
    obtain ⟨a', b', g1, g2, g3⟩ := hF q hq
    rw [h5] at g1
    rw [h6] at g2
    have : a' = w := Option.some.inj (g1.symm.trans e1)
    have : b' = u := Option.some.inj (g2.symm.trans e2)
    omega
/-- what is left of two intervals: x ≤ y + k -/
def z_cutle (F : List (Nat × Nat × Int)) (x y : z_tk) (k : Int) : Option (z_I × z_I) := if z_lo x ≤ z_hi y + k ∧ z_ge F y x (k + 1) = false then some ((z_lo x, min (z_hi x) (z_hi y + k)), (max (z_lo y) (z_lo x - k), z_hi y)) else none
def z_cuteq (F : List (Nat × Nat × Int)) (x y : z_tk) : Option (z_I × z_I) := if max (z_lo x) (z_lo y) ≤ min (z_hi x) (z_hi y) ∧ z_ge F y x 1 = false ∧ z_ge F x y 1 = false then some ((max (z_lo x) (z_lo y), min (z_hi x) (z_hi y)), (max (z_lo x) (z_lo y), min (z_hi x) (z_hi y))) else none
/-- an interval without an end -/
def z_cutoff (x y : z_tk) : z_I := if z_one (z_iv y) then (if z_lo x = z_lo y then z_lo x + 1 else z_lo x, if z_hi x = z_lo y then z_hi x - 1 else z_hi x) else z_iv x
def z_cutne (F : List (Nat × Nat × Int)) (x y : z_tk) : Option (z_I × z_I) := if (z_cutoff x y).1 ≤ (z_cutoff x y).2 ∧ (z_cutoff y x).1 ≤ (z_cutoff y x).2 ∧ (z_ge F x y 0 && z_ge F y x 0) = false then some (z_cutoff x y, z_cutoff y x) else none
def z_cut (F : List (Nat × Nat × Int)) (c : ClassFile.Cond) (b : Bool) (x y : z_tk) : Option (z_I × z_I) := match c, b with
  | .eq, true => z_cuteq F x y
  | .ne, false => z_cuteq F x y
  | .eq, false => z_cutne F x y
  | .ne, true => z_cutne F x y
  | .lt, true => z_cutle F x y (-1)
  | .ge, false => z_cutle F x y (-1)
  | .le, true => z_cutle F x y 0
  | .gt, false => z_cutle F x y 0
  | .gt, true => (z_cutle F y x (-1)).map fun q => (q.2, q.1)
  | .le, false => (z_cutle F y x (-1)).map fun q => (q.2, q.1)
  | .ge, true => (z_cutle F y x 0).map fun q => (q.2, q.1)
  | .lt, false => (z_cutle F y x 0).map fun q => (q.2, q.1)
variable {N : List Int} {F : List (Nat × Nat × Int)} {x y : z_tk} {a b : Int}
theorem z_cutle_ok (hF : z_gx N F) (hx : z_gi N x a) (hy : z_gi N y b) {k : Int} (h : a ≤ b + k) : ∃ r, z_cutle F x y k = some r ∧ r.1.1 ≤ a ∧ a ≤ r.1.2 ∧ r.2.1 ≤ b ∧ b ≤ r.2.2 := by
  unfold z_cutle
  obtain ⟨x1, x2, x3⟩ := id hx
  obtain ⟨y1, y2, y3⟩ := id hy
  rw [if_pos]
  · exact ⟨_, rfl, by show z_lo x ≤ a; omega, by show a ≤ min (z_hi x) (z_hi y + k); omega, by show max (z_lo y) (z_lo x - k) ≤ b; omega, by show b ≤ z_hi y; omega⟩
  · refine ⟨by omega, ?_⟩
    cases hg : z_ge F y x (k + 1) with
    | false => rfl
    | true =>
      have := z_ge_use hF hg hy hx
      omega
theorem z_cuteq_ok (hF : z_gx N F) (hx : z_gi N x a) (hy : z_gi N y b) (h : a = b) : ∃ r, z_cuteq F x y = some r ∧ r.1.1 ≤ a ∧ a ≤ r.1.2 ∧ r.2.1 ≤ b ∧ b ≤ r.2.2 := by
  unfold z_cuteq
  obtain ⟨x1, x2, x3⟩ := id hx
  obtain ⟨y1, y2, y3⟩ := id hy
  rw [if_pos]
  · exact ⟨_, rfl, by show max (z_lo x) (z_lo y) ≤ a; omega, by show a ≤ min (z_hi x) (z_hi y); omega, by show max (z_lo x) (z_lo y) ≤ b; omega, by show b ≤ min (z_hi x) (z_hi y); omega⟩
  · refine ⟨by omega, ?_, ?_⟩
    · cases hg : z_ge F y x 1 with
      | false => rfl
      | true =>
        have := z_ge_use hF hg hy hx
        omega
    · cases hg : z_ge F x y 1 with
      | false => rfl
      | true =>
        have := z_ge_use hF hg hx hy
        omega
theorem z_cutoff_ok {x y : z_tk} {a b : Int} (hx : z_gi N x a) (hy : z_gi N y b) (h : a ≠ b) : (z_cutoff x y).1 ≤ a ∧ a ≤ (z_cutoff x y).2 := by
  obtain ⟨x1, x2, -⟩ := hx
  obtain ⟨y1, y2, -⟩ := hy
  unfold z_cutoff
  split
  · rename_i h1
    have e : z_lo y = z_hi y := by simpa [z_one, z_iv, z_lo, z_hi] using h1
    refine ⟨?_, ?_⟩
    · show (if z_lo x = z_lo y then z_lo x + 1 else z_lo x) ≤ a
      split <;> omega
    · show a ≤ (if z_hi x = z_lo y then z_hi x - 1 else z_hi x)
      split <;> omega
  · exact ⟨x1, x2⟩
theorem z_cutne_ok (hF : z_gx N F) (hx : z_gi N x a) (hy : z_gi N y b) (h : a ≠ b) : ∃ r, z_cutne F x y = some r ∧ r.1.1 ≤ a ∧ a ≤ r.1.2 ∧ r.2.1 ≤ b ∧ b ≤ r.2.2 := by
  have g1 := z_cutoff_ok hx hy h
  have g2 := z_cutoff_ok hy hx (Ne.symm h)
  unfold z_cutne
  rw [if_pos]
  · exact ⟨_, rfl, g1.1, g1.2, g2.1, g2.2⟩
  · refine ⟨by omega, by omega, ?_⟩
    cases h1 : z_ge F x y 0 with
    | false => rfl
    | true =>
      cases h2 : z_ge F y x 0 with
      | false => rfl
      | true =>
        have := z_ge_use hF h1 hx hy
        have := z_ge_use hF h2 hy hx
        omega
theorem z_cut_ok (hF : z_gx N F) {c : ClassFile.Cond} {u v : Int32} (hx : z_gi N x u.toInt) (hy : z_gi N y v.toInt) : ∃ r, z_cut F c (z_cmp c u v) x y = some r ∧ r.1.1 ≤ u.toInt ∧ u.toInt ≤ r.1.2 ∧ r.2.1 ≤ v.toInt ∧ v.toInt ≤ r.2.2 := by
  have sw : ∀ {k : Int}, v.toInt ≤ u.toInt + k → ∃ r, (z_cutle F y x k).map (fun q => (q.2, q.1)) = some r ∧ r.1.1 ≤ u.toInt ∧ u.toInt ≤ r.1.2 ∧ r.2.1 ≤ v.toInt ∧ v.toInt ≤ r.2.2 := fun {k} h => by
    obtain ⟨r, h1, h2, h3, h4, h5⟩ := z_cutle_ok hF hy hx h
    exact ⟨(r.2, r.1), by rw [h1]; rfl, h4, h5, h2, h3⟩
  have eqi : u = v ↔ u.toInt = v.toInt := ⟨fun h => by rw [h], fun h => Int32.toInt_inj.mp h⟩
  have lti : u < v ↔ u.toInt < v.toInt := Int32.lt_iff_toInt_lt
  have gti : v < u ↔ v.toInt < u.toInt := Int32.lt_iff_toInt_lt
  have lei : u ≤ v ↔ u.toInt ≤ v.toInt := Int32.le_iff_toInt_le
  have gei : v ≤ u ↔ v.toInt ≤ u.toInt := Int32.le_iff_toInt_le
  cases c
  case eq =>
    by_cases h : u = v
    · rw [show z_cmp .eq u v = true by simp [z_cmp, h]]
      exact z_cuteq_ok hF hx hy (eqi.mp h)
    · rw [show z_cmp .eq u v = false by simp [z_cmp, h]]
      exact z_cutne_ok hF hx hy (fun q => h (eqi.mpr q))
  case ne =>
    by_cases h : u = v
    · rw [show z_cmp .ne u v = false by simp [z_cmp, h]]
      exact z_cuteq_ok hF hx hy (eqi.mp h)
    · rw [show z_cmp .ne u v = true by simp [z_cmp, h]]
      exact z_cutne_ok hF hx hy (fun q => h (eqi.mpr q))
  case lt =>
    by_cases h : u < v
    · rw [show z_cmp .lt u v = true by simp [z_cmp, h]]
      exact z_cutle_ok hF hx hy (by have := lti.mp h; omega)
    · rw [show z_cmp .lt u v = false by simp [z_cmp, h]]
      exact sw (by have : ¬ u.toInt < v.toInt := fun q => h (lti.mpr q); omega)
  case ge =>
    by_cases h : v ≤ u
    · rw [show z_cmp .ge u v = true by simp [z_cmp, h]]
      exact sw (by have := gei.mp h; omega)
    · rw [show z_cmp .ge u v = false by simp [z_cmp, h]]
      exact z_cutle_ok hF hx hy (by have : ¬ v.toInt ≤ u.toInt := fun q => h (gei.mpr q); omega)
  case gt =>
    by_cases h : v < u
    · rw [show z_cmp .gt u v = true by simp [z_cmp, h]]
      exact sw (by have := gti.mp h; omega)
    · rw [show z_cmp .gt u v = false by simp [z_cmp, h]]
      exact z_cutle_ok hF hx hy (by have : ¬ v.toInt < u.toInt := fun q => h (gti.mpr q); omega)
  case le =>
    by_cases h : u ≤ v
    · rw [show z_cmp .le u v = true by simp [z_cmp, h]]
      exact z_cutle_ok hF hx hy (by have := lei.mp h; omega)
    · rw [show z_cmp .le u v = false by simp [z_cmp, h]]
      exact sw (by have : ¬ u.toInt ≤ v.toInt := fun q => h (lei.mpr q); omega)
end ZAJ
