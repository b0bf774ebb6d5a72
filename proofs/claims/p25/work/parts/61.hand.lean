section ZHND
def z_Keh_lineNow : z_as_ := ((225, 0, [(0, .inr (.inr (false, [90])))], [], 0, 0), [], z_H0c, 1, [], 900000)
def z_Kkh_lineNow : z_Kc := (225, 2, z_Keh_lineNow, [], [(some (.inl (0, 0, 0, (-1), 11)), [(90, .inr [(26, .inl (0, 0, 0, (-2147483648), 2147483647))])], 0)], none)
def z_Keh_common : z_as_ := ((249, 0, [(0, .inr (.inl (0, 0, 0, (-9223372036854775808), 9223372036854775807))), (2, .inr (.inl (0, 0, 0, 1, 9223372036854775807)))], [], 0, 0), [], z_H0c, 1, [], 900000)
def z_Kkh_common : z_Kc := (249, 200, z_Keh_common, [], [(some (.inr (.inl (0, 0, 0, (-9223372036854775808), (-1)))), [], 0), (some (.inr (.inl (0, 0, 0, 1, 9223372036854775807))), [], 0)], none)
section ZCMN
variable {xs : List Int32}
theorem z_nst {G : z_Pg} {d x pc c n : Nat} {l : z_L} {st : List Value} {P : z_H} {i : Instr × Nat} {q : z_S} (hc : z_cod G x pc = some i) (h1 : z_call G x i.1 = none) (h2 : z_isr i.1 = false) (h3 : z_step G x i.1 i.2 pc l st P c n = some q) : z_next G d x (pc, l, st, P, c, n) = some (.inr (.inl q)) := by
  unfold z_next
  show (match z_cod G x pc with | none => none | some i => _) = _
  rw [hc]
  dsimp only
  rw [h1]
  show (match z_ret (z_rty G x) i.1 st with | some r => _ | none => _) = _
  rw [z_isr_no h2]
  show (match z_step G x i.1 i.2 pc l st P c n with | some q' => _ | none => none) = _
  rw [h3]
theorem z_cm0 : z_cod (z_G xs) 249 0 = some (.lload_n 2, 1) := rfl
theorem z_cm1 : z_cod (z_G xs) 249 1 = some (.lconst 0, 1) := rfl
theorem z_cm2 : z_cod (z_G xs) 249 2 = some (.lcmp, 1) := rfl
theorem z_cm3 : z_cod (z_G xs) 249 3 = some (.ifCond .ne 7, 3) := rfl
theorem z_cm6 : z_cod (z_G xs) 249 6 = some (.lload_n 0, 1) := rfl
theorem z_cm7 : z_cod (z_G xs) 249 7 = some (.goto 10, 3) := rfl
theorem z_cm10 : z_cod (z_G xs) 249 10 = some (.lload_n 2, 1) := rfl
theorem z_cm11 : z_cod (z_G xs) 249 11 = some (.lload_n 0, 1) := rfl
theorem z_cm12 : z_cod (z_G xs) 249 12 = some (.lload_n 2, 1) := rfl
theorem z_cm13 : z_cod (z_G xs) 249 13 = some (.lrem, 1) := rfl
theorem z_cm14 : z_cod (z_G xs) 249 14 = some (.invokestatic 390, 3) := rfl
theorem z_cm17 : z_cod (z_G xs) 249 17 = some (.lreturn, 1) := rfl
theorem z_cmc : z_call (z_G xs) 249 (.invokestatic 390) = some (249, 0) := rfl
theorem z_cmr : z_rty (z_G xs) 249 = some .long := rfl
theorem z_cmna : z_na (z_G xs) 249 = 2 := rfl
theorem z_cmnl : z_nL (z_G xs) 249 = 4 := rfl
theorem z_ldL {l : z_L} {i : Nat} {a : Int64} {st : List Value} (h : z_get l i = some (.long a)) : z_ld z_isL l i st = some (l, .long a :: st) := by
  unfold z_ld
  rw [h]
  rfl
theorem z_cm_ll {x pc len c n : Nat} {i : Fin 4} {l : z_L} {st : List Value} {P : z_H} {a : Int64} {G : z_Pg} (h : z_get l i = some (.long a)) : z_step G x (.lload_n i) len pc l st P c n = some (pc + len, l, .long a :: st, P, c, n) := by
  unfold z_step
  rw [show z_pure (Instr.lload_n i) st = none from rfl, show z_loc (z_nL G x) (Instr.lload_n i) l st = z_ld z_isL l i st from rfl, z_ldL h]
theorem z_cm_head {d : Nat} {a b : Int64} {l : z_L} {P : z_H} {r : Option Value} {P' : z_H} (h0 : z_get l 0 = some (.long a)) (h2 : z_get l 2 = some (.long b)) (k : z_Runs (z_G xs) d 249 (3, l, [.int (lg_cmp b 0)], P, 0, 0) r P') : z_Runs (z_G xs) d 249 (0, l, [], P, 0, 0) r P' := by
  have s0 : z_next (z_G xs) d 249 (0, l, [], P, 0, 0) = some (.inr (.inl (1, l, [.long b], P, 0, 0))) := z_nst z_cm0 rfl rfl (z_cm_ll h2)
  have s1 : z_next (z_G xs) d 249 (1, l, [.long b], P, 0, 0) = some (.inr (.inl (2, l, [.long 0, .long b], P, 0, 0))) := z_nst z_cm1 rfl rfl rfl
  have s2 : z_next (z_G xs) d 249 (2, l, [.long 0, .long b], P, 0, 0) = some (.inr (.inl (3, l, [.int (lg_cmp b 0)], P, 0, 0))) := z_nst z_cm2 rfl rfl rfl
  exact z_Runs_step s0 (z_Runs_step s1 (z_Runs_step s2 k))
theorem z_cm_zero {d : Nat} {a b : Int64} {l : z_L} {P : z_H} (h0 : z_get l 0 = some (.long a)) (h2 : z_get l 2 = some (.long b)) (hb : lg_cmp b 0 = 0) : z_Runs (z_G xs) d 249 (0, l, [], P, 0, 0) (some (.long a)) P := by
  refine z_cm_head h0 h2 ?_
  rw [hb]
  have s0 : z_next (z_G xs) d 249 (3, l, [.int 0], P, 0, 0) = some (.inr (.inl (6, l, [], P, 0, 0))) := z_nst z_cm3 rfl rfl rfl
  have s1 : z_next (z_G xs) d 249 (6, l, [], P, 0, 0) = some (.inr (.inl (7, l, [.long a], P, 0, 0))) := z_nst z_cm6 rfl rfl (z_cm_ll h0)
  have s2 : z_next (z_G xs) d 249 (7, l, [.long a], P, 0, 0) = some (.inr (.inl (17, l, [.long a], P, 0, 0))) := z_nst z_cm7 rfl rfl rfl
  have s3 : z_next (z_G xs) d 249 (17, l, [.long a], P, 0, 0) = some (.inl (some (.long a))) := by
    unfold z_next
    show (match z_cod (z_G xs) 249 17 with | none => none | some i => _) = _
    rw [z_cm17]
  exact z_Runs_step s0 (z_Runs_step s1 (z_Runs_step s2 (z_Runs_ret s3)))
theorem z_cm_rec {d : Nat} {a b g : Int64} {l : z_L} {P : z_H} (hd : 1 ≤ d) (h0 : z_get l 0 = some (.long a)) (h2 : z_get l 2 = some (.long b)) (hb : lg_cmp b 0 ≠ 0) (hb0 : b ≠ 0) (k : z_Runs (z_G xs) (d - 1) 249 (0, lv_args 0 [.long b, .long (a - a / b * b)], [], P, 0, 0) (some (.long g)) P) : z_Runs (z_G xs) d 249 (0, l, [], P, 0, 0) (some (.long g)) P := by
  refine z_cm_head h0 h2 ?_
  have s0 : z_next (z_G xs) d 249 (3, l, [.int (lg_cmp b 0)], P, 0, 0) = some (.inr (.inl (10, l, [], P, 0, 0))) := z_nst z_cm3 rfl rfl (by
    have this : z_cmp .ne (lg_cmp b 0) 0 = true := by
      unfold z_cmp
      simpa using hb
    unfold z_step
    rw [z_no0 (by decide), z_no1 (by decide)]
    rw [show z_jmp (.ifCond .ne 7) 3 [.int (lg_cmp b 0)] = some (if z_cmp .ne (lg_cmp b 0) 0 then 10 else 6, []) from rfl, this]
    rfl)
  have s1 : z_next (z_G xs) d 249 (10, l, [], P, 0, 0) = some (.inr (.inl (11, l, [.long b], P, 0, 0))) := z_nst z_cm10 rfl rfl (z_cm_ll h2)
  have s2 : z_next (z_G xs) d 249 (11, l, [.long b], P, 0, 0) = some (.inr (.inl (12, l, [.long a, .long b], P, 0, 0))) := z_nst z_cm11 rfl rfl (z_cm_ll h0)
  have s3 : z_next (z_G xs) d 249 (12, l, [.long a, .long b], P, 0, 0) = some (.inr (.inl (13, l, [.long b, .long a, .long b], P, 0, 0))) := z_nst z_cm12 rfl rfl (z_cm_ll h2)
  have s4 : z_next (z_G xs) d 249 (13, l, [.long b, .long a, .long b], P, 0, 0) = some (.inr (.inl (14, l, [.long (a - a / b * b), .long b], P, 0, 0))) := z_nst z_cm13 rfl rfl (by
    unfold z_step
    rw [show z_pure .lrem [.long b, .long a, .long b] = (if b = 0 then none else some [.long (a - a / b * b), .long b]) from rfl, if_neg hb0]
    rfl)
  have s5 : z_next (z_G xs) d 249 (14, l, [.long (a - a / b * b), .long b], P, 0, 0) = some (.inr (.inr (249, [.long b, .long (a - a / b * b)], []))) := by
    unfold z_next
    show (match z_cod (z_G xs) 249 14 with | none => none | some i => _) = _
    rw [z_cm14]
    dsimp only
    rw [if_pos (by decide)]
    show (match z_args (z_G xs) d 249 0 249 [.long (a - a / b * b), .long b] P 0 0 with | some ar => _ | none => _) = _
    have : z_args (z_G xs) d 249 0 249 [.long (a - a / b * b), .long b] P 0 0 = some ([.long b, .long (a - a / b * b)], []) := by
      unfold z_args
      dsimp only
      rw [z_cmna]
      rw [if_pos ⟨Nat.le_refl 2, hd, by show z_cat ([] : List Value) ≤ 8; decide, by rw [z_cmnl]; decide, by rw [z_cmnl]; show 4 ≤ 4; decide, by omega, by omega, Or.inl rfl, Or.inl rfl⟩]
      rfl
    rw [this]
  have s6 : z_next (z_G xs) d 249 (17, l, [.long g], P, 0 + z_mc (z_G xs) 249, 0 + z_ms (z_G xs) 249) = some (.inl (some (.long g))) := by
    unfold z_next
    show (match z_cod (z_G xs) 249 17 with | none => none | some i => _) = _
    rw [z_cm17]
  exact z_Runs_step s0 (z_Runs_step s1 (z_Runs_step s2 (z_Runs_step s3 (z_Runs_step s4 (z_Runs_call s5 k (z_Runs_ret s6))))))
end ZCMN
section ZAR
theorem z_lrem_t (a b : Int64) : (a - a / b * b).toInt = a.toInt.tmod b.toInt := by
  have h : a - a / b * b = a % b := by
    apply Int64.toInt_inj.mp
    rw [Int64.toInt_sub, Int64.toInt_mul, Int64.toInt_div, Int64.toInt_mod]
    have e : a.toInt.tmod b.toInt = a.toInt - a.toInt.tdiv b.toInt * b.toInt := by
      have := Int.tmod_add_mul_tdiv a.toInt b.toInt
      have := Int.mul_comm b.toInt (a.toInt.tdiv b.toInt)
      omega
    have h1 : (a.toInt.tmod b.toInt).bmod (2 ^ 64) = a.toInt.tmod b.toInt := by
      rw [← Int64.toInt_mod]
      first | exact Int64.toInt_bmod (a % b) | exact Int64.toInt_bmod_18446744073709551616 (a % b) | (have u1 := Int64.le_toInt (a % b); have u2 := Int64.toInt_lt (a % b); exact Int.bmod_eq_of_le (by omega) (by omega))
    rw [← h1, e]
    simp
  rw [h, Int64.toInt_mod]
theorem z_half {A B : Int} {k : Nat} (h1 : B.natAbs ≤ A.natAbs) (h2 : A.natAbs * B.natAbs < 2 ^ (k + 1)) (hB : B ≠ 0) : (A.tmod B).natAbs ≤ B.natAbs ∧ B.natAbs * (A.tmod B).natAbs < 2 ^ k := by
  have hb : 0 < B.natAbs := by omega
  have e : (A.tmod B).natAbs = A.natAbs % B.natAbs := Int.natAbs_tmod A B
  have hr : A.natAbs % B.natAbs < B.natAbs := Nat.mod_lt _ hb
  have h3 : A.natAbs % B.natAbs * 2 ≤ A.natAbs := by
    have h4 := Nat.div_add_mod A.natAbs B.natAbs
    have h5 : 1 ≤ A.natAbs / B.natAbs := (Nat.one_le_div_iff hb).mpr h1
    have h6 : B.natAbs * 1 ≤ B.natAbs * (A.natAbs / B.natAbs) := Nat.mul_le_mul_left _ h5
    omega
  rw [e]
  refine ⟨Nat.le_of_lt hr, ?_⟩
  have h7 : B.natAbs * (A.natAbs % B.natAbs * 2) ≤ B.natAbs * A.natAbs := Nat.mul_le_mul_left _ h3
  rw [Nat.mul_comm B.natAbs A.natAbs, ← Nat.mul_assoc] at h7
  rw [Nat.pow_succ] at h2
  omega
theorem z_cmp0 (b : Int64) : lg_cmp b 0 = 0 ↔ b = 0 := by
  constructor
  · intro h
    unfold lg_cmp at h
    split at h
    · cases h
    · split at h
      · assumption
      · cases h
  · intro h
    subst h
    rfl
theorem z_cmn {xs : List Int32} : ∀ (k : Nat) {d : Nat} {a b : Int64} {l : z_L} {P : z_H}, z_get l 0 = some (.long a) → z_get l 2 = some (.long b) → b.toInt.natAbs ≤ a.toInt.natAbs → a.toInt.natAbs * b.toInt.natAbs < 2 ^ k → k ≤ d → ∃ g : Int64, z_Runs (z_G xs) d 249 (0, l, [], P, 0, 0) (some (.long g)) P ∧ (a.toInt ≠ 0 → g.toInt ≠ 0) := by
  intro k
  induction k with
  | zero =>
    intro d a b l P h0 h2 hle hm hd
    have hb : b.toInt = 0 := by
      refine Decidable.byContradiction fun hb => ?_
      have h1 : 1 ≤ b.toInt.natAbs := by omega
      have h3 : 1 * 1 ≤ a.toInt.natAbs * b.toInt.natAbs := Nat.mul_le_mul (by omega) h1
      omega
    have hb : b = 0 := Int64.toInt_inj.mp (by rw [hb]; rfl)
    exact ⟨a, z_cm_zero h0 h2 ((z_cmp0 b).mpr hb), fun h => h⟩
  | succ k ih =>
    intro d a b l P h0 h2 hle hm hd
    by_cases hb : b = 0
    · exact ⟨a, z_cm_zero h0 h2 ((z_cmp0 b).mpr hb), fun h => h⟩
    · have hB : b.toInt ≠ 0 := fun h => hb (Int64.toInt_inj.mp (by rw [h]; rfl))
      obtain ⟨h3, h4⟩ := z_half hle hm hB
      rw [← z_lrem_t] at h3 h4
      obtain ⟨g, g1, g2⟩ := ih (d := d - 1) (a := b) (b := a - a / b * b) (l := lv_args 0 [.long b, .long (a - a / b * b)]) (P := P) rfl rfl h3 h4 (by omega)
      exact ⟨g, z_cm_rec (by omega) h0 h2 (fun h => hb ((z_cmp0 b).mp h)) hb g1, fun _ => g2 hB⟩
end ZAR
section ZCMF
theorem z_hcommon {xs : List Int32} : z_cn (z_G xs) 12 z_J z_Kkh_common := by
  intro N al l P d hd hS hf hj
  have hd : 200 ≤ d := hd
  obtain ⟨v0, e0, x0, r0, -⟩ := hS.1.2.2.1 0 (.inr (.inl (0, 0, 0, (-9223372036854775808), 9223372036854775807))) rfl
  obtain ⟨v2, e2, b, r2, hb1, hb2, -⟩ := hS.1.2.2.1 2 (.inr (.inl (0, 0, 0, 1, 9223372036854775807))) rfl
  subst r0
  subst r2
  have e0 : z_get l 0 = some (.long x0) := e0
  have e2 : z_get l 2 = some (.long b) := e2
  have hb1 : 1 ≤ b.toInt := hb1
  have hb2 : b.toInt ≤ 9223372036854775807 := hb2
  have hB : b.toInt ≠ 0 := by omega
  have hb : b ≠ 0 := fun h => hB (by rw [h]; rfl)
  have hr : (x0 - x0 / b * b).toInt.natAbs < b.toInt.natAbs := by
    rw [z_lrem_t, Int.natAbs_tmod]
    exact Nat.mod_lt _ (by omega)
  have hbn : b.toInt.natAbs ≤ 2 ^ 63 := by omega
  have hm : b.toInt.natAbs * (x0 - x0 / b * b).toInt.natAbs < 2 ^ 127 := by
    have h1 : b.toInt.natAbs * (x0 - x0 / b * b).toInt.natAbs ≤ 2 ^ 63 * 2 ^ 63 := Nat.mul_le_mul hbn (by omega)
    have h2 : 2 ^ 63 * 2 ^ 63 < 2 ^ 127 := by decide
    omega
  obtain ⟨g, g1, g2⟩ := z_cmn (xs := xs) 127 (d := d - 1) (a := b) (b := x0 - x0 / b * b) (l := lv_args 0 [.long b, .long (x0 - x0 / b * b)]) (P := P) rfl rfl (by omega) hm (by omega)
  have hrun := z_cm_rec (by omega) e0 e2 (fun h => hb ((z_cmp0 b).mp h)) hb g1
  have hg := g2 hB
  have q1 := Int64.le_toInt g
  have q2 := Int64.toInt_lt g
  have post : ∀ t : z_tk, z_gi N t g.toInt → z_post N al P (some (.inr (.inl t)), [], 0) (some (.long g)) P al := fun t ht =>
    ⟨fun _ _ k => k, fun _ _ k => Or.inl k, z_same_rf hS.2.2.1, ⟨_, rfl, ht⟩, fun c A' h => (by cases h), fun c ps h => (by cases h), Nat.le_refl _⟩
  rcases Int.lt_or_gt_of_ne hg with h | h
  · exact ⟨some (.long g), P, al, _, List.mem_cons_self, hrun, hj, post _ ⟨by show -9223372036854775808 ≤ g.toInt; omega, by show g.toInt ≤ -1; omega, Or.inl rfl⟩⟩
  · exact ⟨some (.long g), P, al, _, List.mem_cons_of_mem _ List.mem_cons_self, hrun, hj, post _ ⟨by show 1 ≤ g.toInt; omega, by show g.toInt ≤ 9223372036854775807; omega, Or.inl rfl⟩⟩
end ZCMF
theorem z_Knh_common {xs : List Int32} : z_cn (z_G xs) 12 z_J z_Kkh_common := z_hcommon
theorem z_Knh_lineNow {xs : List Int32} : z_cn (z_G xs) 12 z_J z_Kkh_lineNow := z_hlineNow (K := z_Kkh_lineNow) (H := z_H0c) (A := z_hg 90) (B := z_hg 101) rfl rfl rfl rfl rfl (by decide) (by decide) rfl rfl rfl rfl rfl rfl rfl rfl (by decide) (by decide) rfl
end ZHND
