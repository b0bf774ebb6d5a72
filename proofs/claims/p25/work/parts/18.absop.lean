section ZAOP
def z_add64 (x y : z_tk) : z_tk := z_ti (z_r64 (z_lo x + z_lo y) (z_hi x + z_hi y))
def z_sub64 (x y : z_tk) : z_tk := z_ti (z_r64 (z_lo x - z_hi y) (z_hi x - z_lo y))
def z_mul64 (x y : z_tk) : z_tk := z_ti (z_r64 (z_mul (z_iv x) (z_iv y)).1 (z_mul (z_iv x) (z_iv y)).2)
/-- the divisor isn't 0 -/
def z_nz (y : z_tk) : Bool := decide (1 ≤ z_lo y) || decide (z_hi y ≤ -1)
theorem z_nz64 {N : List Int} {y : z_tk} {b : Int64} (h : z_nz y = true) (hy : z_gi N y b.toInt) : ¬ b = 0 := by
  intro q
  subst q
  have h0 : (0 : Int64).toInt = 0 := by decide
  obtain ⟨h1, h2, -⟩ := hy
  unfold z_nz at h
  simp only [Bool.or_eq_true, decide_eq_true_eq] at h
  omega
def z_cmp64 (x y : z_tk) : z_tk := if z_hi x < z_lo y then z_tc (-1) else if z_hi y < z_lo x then z_tc 1 else if z_one (z_iv x) && z_one (z_iv y) then z_tc 0 else z_ti (-1, 1)
theorem z_cmp64_gi {N : List Int} {x y : z_tk} {a b : Int64} (hx : z_gi N x a.toInt) (hy : z_gi N y b.toInt) : z_gi N (z_cmp64 x y) (lg_cmp a b).toInt := by
  obtain ⟨x1, x2, -⟩ := hx
  obtain ⟨y1, y2, -⟩ := hy
  have hlt : (a > b) ↔ b.toInt < a.toInt := Int64.lt_iff_toInt_lt
  have heq : (a = b) ↔ a.toInt = b.toInt := ⟨fun h => by rw [h], fun h => Int64.toInt_inj.mp h⟩
  have v1 : (1 : Int32).toInt = 1 := by decide
  have v0 : (0 : Int32).toInt = 0 := by decide
  have vm : (-1 : Int32).toInt = -1 := by decide
  unfold z_cmp64
  split
  · rename_i h
    have : lg_cmp a b = -1 := by
      unfold lg_cmp
      rw [if_neg (by rw [hlt]; omega), if_neg (by rw [heq]; omega)]
    rw [this, vm]
    exact z_tc_gi
  split
  · rename_i h
    have : lg_cmp a b = 1 := by
      unfold lg_cmp
      rw [if_pos (by rw [hlt]; omega)]
    rw [this, v1]
    exact z_tc_gi
  split
  · rename_i h1 h2 h
    rw [Bool.and_eq_true] at h
    have e1 : z_lo x = z_hi x := by simpa [z_one, z_iv, z_lo, z_hi] using h.1
    have e2 : z_lo y = z_hi y := by simpa [z_one, z_iv, z_lo, z_hi] using h.2
    have : lg_cmp a b = 0 := by
      unfold lg_cmp
      rw [if_neg (by rw [hlt]; omega), if_pos (by rw [heq]; omega)]
    rw [this, v0]
    exact z_tc_gi
  · unfold lg_cmp
    split
    · rw [v1]; exact ⟨by show (-1 : Int) ≤ 1; omega, by show (1 : Int) ≤ 1; omega, Or.inl rfl⟩
    split
    · rw [v0]; exact ⟨by show (-1 : Int) ≤ 0; omega, by show (0 : Int) ≤ 1; omega, Or.inl rfl⟩
    · rw [vm]; exact ⟨by show (-1 : Int) ≤ -1; omega, by show (-1 : Int) ≤ 1; omega, Or.inl rfl⟩
def z_neg32 (x : z_tk) : z_tk := z_ti (z_r32 (-z_hi x) (-z_lo x))
/-- a number cut to a range: itself where it lies within -/
def z_cutto (lo hi : Int) (x : z_tk) : z_tk := if lo ≤ z_lo x ∧ z_hi x ≤ hi then x else z_ti (lo, hi)
theorem z_cutto_gi {N : List Int} {lo hi : Int} {x : z_tk} {a b : Int} (hx : z_gi N x a) (h1 : lo ≤ b) (h2 : b ≤ hi) (he : lo ≤ a → a ≤ hi → b = a) : z_gi N (z_cutto lo hi x) b := by
  unfold z_cutto
  split
  · rename_i h
    obtain ⟨g1, g2, -⟩ := id hx
    rw [he (by omega) (by omega)]
    exact hx
  · exact ⟨h1, h2, Or.inl rfl⟩
def z_a1 (f : z_tk → z_tk) : List z_av → Option (List z_av)
  | .inl x :: st => some (.inl (f x) :: st)
  | _ => none
def z_a1l (f : z_tk → z_tk) : List z_av → Option (List z_av)
  | .inl x :: st => some (.inr (.inl (f x)) :: st)
  | _ => none
def z_b1 (f : z_tk → z_tk) : List z_av → Option (List z_av)
  | .inr (.inl x) :: st => some (.inl (f x) :: st)
  | _ => none
def z_a2 (f : z_tk → z_tk → z_tk) : List z_av → Option (List z_av)
  | .inl y :: .inl x :: st => some (.inl (f x y) :: st)
  | _ => none
def z_a2o (f : z_tk → z_tk → Option z_tk) : List z_av → Option (List z_av)
  | .inl y :: .inl x :: st => (f x y).map fun t => .inl t :: st
  | _ => none
def z_b2 (f : z_tk → z_tk → z_tk) : List z_av → Option (List z_av)
  | .inr (.inl y) :: .inr (.inl x) :: st => some (.inr (.inl (f x y)) :: st)
  | _ => none
def z_b2c (f : z_tk → z_tk → z_tk) : List z_av → Option (List z_av)
  | .inr (.inl y) :: .inr (.inl x) :: st => some (.inl (f x y) :: st)
  | _ => none
/-- both told exactly: the operation itself -/
def z_exl (g : Int64 → Int64 → Int64) (x y : z_tk) : z_tk := if z_one (z_iv x) && z_one (z_iv y) then z_tc (g (Int64.ofInt (z_lo x)) (Int64.ofInt (z_lo y))).toInt else z_ti z_top64
def z_b2o (f : z_tk → z_tk → z_tk) : List z_av → Option (List z_av)
  | .inr (.inl y) :: .inr (.inl x) :: st => if z_nz y then some (.inr (.inl (f x y)) :: st) else none
  | _ => none
/-- the category of an abstract value -/
def z_acat : z_av → Nat
  | .inr (.inl _) => 2
  | _ => 1
theorem z_acat_eq {N : List Int} {al : Nat → Option Nat} : ∀ {t : z_av} {v : Value}, z_gv N al t v → v.category = z_acat t
  | .inl _, _, ⟨_, e, _⟩ => by rw [e]; rfl
  | .inr (.inl _), _, ⟨_, e, _⟩ => by rw [e]; rfl
  | .inr (.inr _), _, Or.inl ⟨e, _⟩ => by rw [e]; rfl
  | .inr (.inr _), _, Or.inr ⟨_, _, e, _⟩ => by rw [e]; rfl
def z_adup : List z_av → Option (List z_av)
  | v :: st => if z_acat v = 1 then some (v :: v :: st) else none
  | _ => none
def z_apop : List z_av → Option (List z_av)
  | v :: st => if z_acat v = 1 then some st else none
  | _ => none
def z_adupx1 : List z_av → Option (List z_av)
  | v :: w :: st => if z_acat v = 1 ∧ z_acat w = 1 then some (v :: w :: v :: st) else none
  | _ => none
def z_adup2 : List z_av → Option (List z_av)
  | v :: w :: st => if z_acat v = 1 ∧ z_acat w = 1 then some (v :: w :: v :: w :: st) else none
  | _ => none
def z_apure : Instr → List z_av → Option (List z_av)
  | .iconst n => fun st => some (.inl (z_tc (Int32.ofInt n).toInt) :: st)
  | .bipush n => fun st => some (.inl (z_tc (Int8.ofInt n).toInt32.toInt) :: st)
  | .sipush n => fun st => some (.inl (z_tc (Int16.ofInt n).toInt32.toInt) :: st)
  | .lconst n => fun st => some (.inr (.inl (z_tc (Int64.ofNat n).toInt)) :: st)
  | .aconst_null => fun st => some (.inr (.inr (true, [])) :: st)
  | .iadd => z_a2 (z_ex2 (fun a b => a + b) z_add32)
  | .isub => z_a2 (z_ex2 (fun a b => a - b) z_sub32)
  | .imul => z_a2 (z_ex2 (fun a b => a * b) z_mul32)
  | .iand => z_a2 (z_ex2 (fun a b => a &&& b) (fun x y => z_ti (z_and (z_iv x) (z_iv y))))
  | .ior => z_a2 (z_ex2 (fun a b => a ||| b) z_top2)
  | .ixor => z_a2 (z_ex2 (fun a b => a ^^^ b) z_top2)
  | .ishl => z_a2 (z_ex2 (fun a b => a <<< (b &&& 31)) z_top2)
  | .ishr => z_a2 (z_ex2 (fun a b => a >>> (b &&& 31)) z_shr32)
  | .iushr => z_a2 (z_ex2 (fun a b => (a.toUInt32 >>> (b.toUInt32 &&& Int32.toUInt32 31)).toInt32) z_top2)
  | .idiv => z_a2o fun x y => (z_div (z_iv x) (z_iv y)).map z_ti
  | .irem => z_a2o fun x y => (z_rem (z_iv x) (z_iv y)).map z_ti
  | .ineg => z_a1 z_neg32
  | .i2l => z_a1l id
  | .i2b => z_a1 (z_cutto (-128) 127)
  | .i2s => z_a1 (z_cutto (-32768) 32767)
  | .i2c => z_a1 (z_cutto 0 65535)
  | .l2i => z_b1 (z_cutto (-2147483648) 2147483647)
  | .ladd => z_b2 z_add64
  | .lsub => z_b2 z_sub64
  | .lmul => z_b2 z_mul64
  | .ldiv => z_b2o (z_exl fun a b => a / b)
  | .lrem => z_b2o (z_exl fun a b => a - a / b * b)
  | .lcmp => z_b2c z_cmp64
  | .dup => z_adup
  | .pop => z_apop
  | .dup_x1 => z_adupx1
  | .dup2 => z_adup2
  | _ => fun _ => none
variable {N : List Int} {al : Nat → Option Nat}
theorem z_a1_ok {f : z_tk → z_tk} {g : Int32 → Int32} (hf : ∀ x a, z_gi N x (Int32.toInt a) → z_gi N (f x) (g a).toInt) {ast ast' : List z_av} {st : List Value} (h : z_a1 f ast = some ast') (hs : z_all2 (z_gv N al) ast st) : ∃ st', z_i1 (fun a => .int (g a)) st = some st' ∧ z_all2 (z_gv N al) ast' st' := by
  unfold z_a1 at h
  split at h
  · cases h
    match st, hs with
    | _ :: st, ⟨⟨a, e, ha⟩, h2⟩ =>
      subst e
      exact ⟨_, rfl, ⟨_, rfl, hf _ _ ha⟩, h2⟩
  · cases h
theorem z_a2_ok {f : z_tk → z_tk → z_tk} {g : Int32 → Int32 → Int32} (hf : ∀ x y a b, z_gi N x (Int32.toInt a) → z_gi N y (Int32.toInt b) → z_gi N (f x y) (g a b).toInt) {ast ast' : List z_av} {st : List Value} (h : z_a2 f ast = some ast') (hs : z_all2 (z_gv N al) ast st) : ∃ st', z_i2 (fun a b => .int (g a b)) st = some st' ∧ z_all2 (z_gv N al) ast' st' := by
  unfold z_a2 at h
  split at h
  · cases h
    match st, hs with
    | _ :: _ :: st, ⟨⟨b, e1, hb⟩, ⟨a, e2, ha⟩, h2⟩ =>
      subst e1; subst e2
      exact ⟨_, rfl, ⟨_, rfl, hf _ _ _ _ ha hb⟩, h2⟩
  · cases h
theorem z_a2o_ok {f : z_tk → z_tk → Option z_tk} {g : Int32 → Int32 → Int32} (hf : ∀ x y a b t, z_gi N x (Int32.toInt a) → z_gi N y (Int32.toInt b) → f x y = some t → ¬ b = 0 ∧ z_gi N t (g a b).toInt) {ast ast' : List z_av} {st : List Value} (h : z_a2o f ast = some ast') (hs : z_all2 (z_gv N al) ast st) : ∃ st', z_i2d (fun a b => .int (g a b)) st = some st' ∧ z_all2 (z_gv N al) ast' st' := by
  unfold z_a2o at h
  split at h
  · obtain ⟨t, ht, rfl⟩ := z_map_some h
    match st, hs with
    | _ :: _ :: st, ⟨⟨b, e1, hb⟩, ⟨a, e2, ha⟩, h2⟩ =>
      subst e1; subst e2
      obtain ⟨h0, h3⟩ := hf _ _ _ _ _ ha hb ht
      refine ⟨.int (g a b) :: st, ?_, ⟨_, rfl, h3⟩, h2⟩
      show (if b = 0 then none else _) = _
      rw [if_neg h0]
  · cases h
theorem z_b2_ok {f : z_tk → z_tk → z_tk} {g : Int64 → Int64 → Int64} (hf : ∀ x y a b, z_gi N x (Int64.toInt a) → z_gi N y (Int64.toInt b) → z_gi N (f x y) (g a b).toInt) {ast ast' : List z_av} {st : List Value} (h : z_b2 f ast = some ast') (hs : z_all2 (z_gv N al) ast st) : ∃ st', z_l2 (fun a b => .long (g a b)) st = some st' ∧ z_all2 (z_gv N al) ast' st' := by
  unfold z_b2 at h
  split at h
  · cases h
    match st, hs with
    | _ :: _ :: st, ⟨⟨b, e1, hb⟩, ⟨a, e2, ha⟩, h2⟩ =>
      subst e1; subst e2
      exact ⟨_, rfl, ⟨_, rfl, hf _ _ _ _ ha hb⟩, h2⟩
  · cases h
theorem z_exl_gi {g : Int64 → Int64 → Int64} {x y : z_tk} {a b : Int64} (hx : z_gi N x a.toInt) (hy : z_gi N y b.toInt) : z_gi N (z_exl g x y) (g a b).toInt := by
  unfold z_exl
  split
  · rename_i h
    rw [Bool.and_eq_true] at h
    have ea : a = Int64.ofInt (z_lo x) := z_one64 h.1 (z_gi_iv64 hx)
    have eb : b = Int64.ofInt (z_lo y) := z_one64 h.2 (z_gi_iv64 hy)
    rw [← ea, ← eb]
    exact z_tc_gi
  · exact z_ti_gi64 (z_t64 _)
theorem z_b2o_ok {g : Int64 → Int64 → Int64} {ast ast' : List z_av} {st : List Value} (h : z_b2o (z_exl g) ast = some ast') (hs : z_all2 (z_gv N al) ast st) : ∃ st', z_l2d (fun a b => .long (g a b)) st = some st' ∧ z_all2 (z_gv N al) ast' st' := by
  unfold z_b2o at h
  split at h
  · split at h
    · rename_i hz
      cases h
      match st, hs with
      | _ :: _ :: st, ⟨⟨b, e1, hb⟩, ⟨a, e2, ha⟩, h2⟩ =>
        subst e1; subst e2
        refine ⟨.long (g a b) :: st, ?_, ⟨_, rfl, z_exl_gi ha hb⟩, h2⟩
        show (if b = 0 then none else _) = _
        rw [if_neg (z_nz64 hz hb)]
    · cases h
  · cases h
set_option maxHeartbeats 4000000 in
/-- what changes the stack alone goes as the abstract stack says -/
theorem z_apure_ok {ins : Instr} {ast ast' : List z_av} {st : List Value} (h : z_apure ins ast = some ast') (hs : z_all2 (z_gv N al) ast st) : ∃ st', z_pure ins st = some st' ∧ z_all2 (z_gv N al) ast' st' := by
  cases ins
  case iconst n => cases h; exact ⟨_, rfl, ⟨_, rfl, z_tc_gi⟩, hs⟩
  case bipush n => cases h; exact ⟨_, rfl, ⟨_, rfl, z_tc_gi⟩, hs⟩
  case sipush n => cases h; exact ⟨_, rfl, ⟨_, rfl, z_tc_gi⟩, hs⟩
  case lconst n => cases h; exact ⟨_, rfl, ⟨_, rfl, z_tc_gi⟩, hs⟩
  case aconst_null => cases h; exact ⟨_, rfl, Or.inl ⟨rfl, rfl⟩, hs⟩
  case iadd => exact z_a2_ok (fun x y a b hx hy => z_ex2_gi hx hy (z_add32_gi hx hy)) h hs
  case isub => exact z_a2_ok (fun x y a b hx hy => z_ex2_gi hx hy (z_sub32_gi hx hy)) h hs
  case imul => exact z_a2_ok (fun x y a b hx hy => z_ex2_gi hx hy (z_mul32_gi hx hy)) h hs
  case iand => exact z_a2_ok (fun x y a b hx hy => z_ex2_gi hx hy (z_ti_gi (z_and_in (z_gi_iv32 hx) (z_gi_iv32 hy)))) h hs
  case ior => exact z_a2_ok (fun x y a b hx hy => z_ex2_gi hx hy (z_ti_gi (z_t32 _))) h hs
  case ixor => exact z_a2_ok (fun x y a b hx hy => z_ex2_gi hx hy (z_ti_gi (z_t32 _))) h hs
  case ishl => exact z_a2_ok (fun x y a b hx hy => z_ex2_gi hx hy (z_ti_gi (z_t32 _))) h hs
  case ishr => exact z_a2_ok (fun x y a b hx hy => z_ex2_gi hx hy (z_shr32_gi hx hy)) h hs
  case iushr => exact z_a2_ok (fun x y a b hx hy => z_ex2_gi hx hy (z_ti_gi (z_t32 _))) h hs
  case idiv => exact z_a2o_ok (fun x y a b t hx hy ht => by
    obtain ⟨r, hr, rfl⟩ := z_map_some ht
    obtain ⟨g1, g2⟩ := z_div_in (z_gi_iv32 hx) (z_gi_iv32 hy) hr
    exact ⟨g1, z_ti_gi g2⟩) h hs
  case irem => exact z_a2o_ok (fun x y a b t hx hy ht => by
    obtain ⟨r, hr, rfl⟩ := z_map_some ht
    obtain ⟨g1, g2⟩ := z_rem_in (z_gi_iv32 hx) (z_gi_iv32 hy) hr
    exact ⟨g1, z_ti_gi g2⟩) h hs
  case ineg => exact z_a1_ok (f := z_neg32) (g := fun a => -a) (fun x a hx => z_ti_gi (z_r32_in (Int32.toInt_neg a) (by have := hx.2.1; omega) (by have := hx.1; omega))) h hs
  case i2l =>
    have h : z_a1l id ast = some ast' := h
    unfold z_a1l at h
    split at h
    · cases h
      match st, hs with
      | _ :: st, ⟨⟨a, e, ha⟩, h2⟩ =>
        subst e
        exact ⟨_, rfl, ⟨_, rfl, by rw [Int32.toInt_toInt64]; exact ha⟩, h2⟩
    · cases h
  case i2b =>
    have hf : ∀ x a, z_gi N x (Int32.toInt a) → z_gi N (z_cutto (-128) 127 x) (a.toInt8.toInt32).toInt := by
      intro x a hx
      have g1 := a.toInt8.le_toInt
      have g2 := a.toInt8.toInt_lt
      refine z_cutto_gi hx (by rw [Int8.toInt_toInt32]; omega) (by rw [Int8.toInt_toInt32]; omega) (fun g3 g4 => ?_)
      rw [Int8.toInt_toInt32, Int32.toInt_toInt8]
      unfold Int.bmod
      simp only [Nat.reducePow]
      omega
    exact z_a1_ok (g := fun a => a.toInt8.toInt32) hf h hs
  case i2s =>
    have hf : ∀ x a, z_gi N x (Int32.toInt a) → z_gi N (z_cutto (-32768) 32767 x) (a.toInt16.toInt32).toInt := by
      intro x a hx
      have g1 := a.toInt16.le_toInt
      have g2 := a.toInt16.toInt_lt
      refine z_cutto_gi hx (by rw [Int16.toInt_toInt32]; omega) (by rw [Int16.toInt_toInt32]; omega) (fun g3 g4 => ?_)
      rw [Int16.toInt_toInt32, Int32.toInt_toInt16]
      unfold Int.bmod
      simp only [Nat.reducePow]
      omega
    exact z_a1_ok (g := fun a => a.toInt16.toInt32) hf h hs
  case i2c =>
    have hf : ∀ x a, z_gi N x (Int32.toInt a) → z_gi N (z_cutto 0 65535 x) ((a.toUInt32 % 65536).toInt32).toInt := by
      intro x a hx
      have e : ((a.toUInt32 % 65536).toInt32).toInt = ((a.toBitVec.toNat % 65536 : Nat) : Int) := by
        rw [pk_char, nI_toInt (by omega)]
      have e2 : a.toInt = a.toBitVec.toInt := rfl
      rw [BitVec.toInt_eq_toNat_cond] at e2
      refine z_cutto_gi hx (by rw [e]; omega) (by rw [e]; omega) (fun g1 g2 => ?_)
      rw [e]
      split at e2 <;> omega
    exact z_a1_ok (g := fun a => (a.toUInt32 % 65536).toInt32) hf h hs
  case l2i =>
    have h : z_b1 (z_cutto (-2147483648) 2147483647) ast = some ast' := h
    unfold z_b1 at h
    split at h
    · cases h
      match st, hs with
      | _ :: st, ⟨⟨a, e, ha⟩, h2⟩ =>
        subst e
        have g1 := a.toInt32.le_toInt
        have g2 := a.toInt32.toInt_lt
        refine ⟨.int a.toInt32 :: st, rfl, ⟨_, rfl, z_cutto_gi ha (by omega) (by omega) (fun g3 g4 => ?_)⟩, h2⟩
        rw [Int64.toInt_toInt32]
        unfold Int.bmod
        simp only [Nat.reducePow]
        omega
    · cases h
  case ladd => exact z_b2_ok (fun x y a b hx hy => z_ti_gi64 (z_r64_in (Int64.toInt_add a b) (by have := hx.1; have := hy.1; omega) (by have := hx.2.1; have := hy.2.1; omega))) h hs
  case lsub => exact z_b2_ok (fun x y a b hx hy => z_ti_gi64 (z_r64_in (Int64.toInt_sub a b) (by have := hx.1; have := hy.2.1; omega) (by have := hx.2.1; have := hy.1; omega))) h hs
  case lmul => exact z_b2_ok (fun x y a b hx hy => by
    obtain ⟨h1, h2⟩ := z_mul_in (a := z_iv x) (b := z_iv y) hx.1 hx.2.1 hy.1 hy.2.1
    exact z_ti_gi64 (z_r64_in (Int64.toInt_mul a b) h1 h2)) h hs
  case ldiv => exact z_b2o_ok h hs
  case lrem => exact z_b2o_ok h hs
  case lcmp =>
    have h : z_b2c z_cmp64 ast = some ast' := h
    unfold z_b2c at h
    split at h
    · cases h
      match st, hs with
      | _ :: _ :: st, ⟨⟨b, e1, hb⟩, ⟨a, e2, ha⟩, h2⟩ =>
        subst e1; subst e2
        exact ⟨_, rfl, ⟨_, rfl, z_cmp64_gi ha hb⟩, h2⟩
    · cases h
  case dup =>
    have h : z_adup ast = some ast' := h
    unfold z_adup at h
    split at h
    · split at h
      · rename_i hc
        cases h
        match st, hs with
        | v :: st, ⟨h1, h2⟩ => exact ⟨v :: v :: st, by show (if v.category = 1 then some (v :: v :: st) else none) = _; rw [if_pos (by rw [z_acat_eq h1]; exact hc)], h1, h1, h2⟩
      · cases h
    · cases h
  case pop =>
    have h : z_apop ast = some ast' := h
    unfold z_apop at h
    split at h
    · split at h
      · rename_i hc
        cases h
        match st, hs with
        | v :: st, ⟨h1, h2⟩ => exact ⟨st, by show (if v.category = 1 then some st else none) = _; rw [if_pos (by rw [z_acat_eq h1]; exact hc)], h2⟩
      · cases h
    · cases h
  case dup_x1 =>
    have h : z_adupx1 ast = some ast' := h
    unfold z_adupx1 at h
    split at h
    · split at h
      · rename_i hc
        cases h
        match st, hs with
        | v :: w :: st, ⟨h1, h2, h3⟩ => exact ⟨v :: w :: v :: st, by show (if v.category = 1 ∧ w.category = 1 then some (v :: w :: v :: st) else none) = _; rw [if_pos ⟨by rw [z_acat_eq h1]; exact hc.1, by rw [z_acat_eq h2]; exact hc.2⟩], h1, h2, h1, h3⟩
      · cases h
    · cases h
  case dup2 =>
    have h : z_adup2 ast = some ast' := h
    unfold z_adup2 at h
    split at h
    · split at h
      · rename_i hc
        cases h
        match st, hs with
        | v :: w :: st, ⟨h1, h2, h3⟩ => exact ⟨v :: w :: v :: w :: st, by show (if v.category = 1 ∧ w.category = 1 then some (v :: w :: v :: w :: st) else none) = _; rw [if_pos ⟨by rw [z_acat_eq h1]; exact hc.1, by rw [z_acat_eq h2]; exact hc.2⟩], h1, h2, h1, h2, h3⟩
      · cases h
    · cases h
  all_goals (cases h)
end ZAOP
