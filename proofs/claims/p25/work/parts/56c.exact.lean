/-! Rows for exact runs: ints told by whole numbers, cells by lists, what isn't written stays. -/
section YROW
abbrev ye_v (a : Int) : Value := .int (Int32.ofInt a)
theorem ye_to {a : Int} (h1 : -2147483648 ≤ a) (h2 : a < 2147483648) : (Int32.ofInt a).toInt = a := Int32.toInt_ofInt_of_le h1 h2
theorem ye_of (x : Int32) : Value.int x = ye_v x.toInt := by
  show Value.int x = Value.int (Int32.ofInt x.toInt)
  rw [Int32.ofInt_toInt]
theorem ye_inj {a b : Int} (h1 : -2147483648 ≤ a) (h2 : a < 2147483648) (h3 : -2147483648 ≤ b) (h4 : b < 2147483648) (h : ye_v a = ye_v b) : a = b := by
  have h : Value.int (Int32.ofInt a) = Value.int (Int32.ofInt b) := h
  injection h with h
  have := congrArg Int32.toInt h
  rw [ye_to h1 h2, ye_to h3 h4] at this
  exact this
section
variable {st : List Value} {a b : Int} {pc : Nat}
theorem ye_add : z_pure .iadd (ye_v b :: ye_v a :: st) = some (ye_v (a + b) :: st) := by
  show some (Value.int (Int32.ofInt a + Int32.ofInt b) :: st) = some (Value.int (Int32.ofInt (a + b)) :: st)
  rw [Int32.ofInt_add]
theorem ye_sub : z_pure .isub (ye_v b :: ye_v a :: st) = some (ye_v (a - b) :: st) := by
  show some (Value.int (Int32.ofInt a - Int32.ofInt b) :: st) = some (Value.int (Int32.ofInt (a - b)) :: st)
  rw [Int32.ofInt_sub]
theorem ye_mul : z_pure .imul (ye_v b :: ye_v a :: st) = some (ye_v (a * b) :: st) := by
  show some (Value.int (Int32.ofInt a * Int32.ofInt b) :: st) = some (Value.int (Int32.ofInt (a * b)) :: st)
  rw [Int32.ofInt_mul]
theorem ye_neg : z_pure .ineg (ye_v a :: st) = some (ye_v (-a) :: st) := by
  show some (Value.int (-Int32.ofInt a) :: st) = some (Value.int (Int32.ofInt (-a)) :: st)
  rw [Int32.ofInt_neg]
theorem ye_bi {k : Int} (h1 : -128 ≤ k) (h2 : k < 128) : z_pure (.bipush k) st = some (ye_v k :: st) := by
  show some (Value.int (Int8.ofInt k).toInt32 :: st) = some (Value.int (Int32.ofInt k) :: st)
  have : (Int8.ofInt k).toInt32 = Int32.ofInt k := by
    apply Int32.toInt_inj.mp
    rw [Int8.toInt_toInt32, Int8.toInt_ofInt_of_le (by omega) (by omega), ye_to (by omega) (by omega)]
  rw [this]
theorem ye_si {k : Int} (h1 : -32768 ≤ k) (h2 : k < 32768) : z_pure (.sipush k) st = some (ye_v k :: st) := by
  show some (Value.int (Int16.ofInt k).toInt32 :: st) = some (Value.int (Int32.ofInt k) :: st)
  have : (Int16.ofInt k).toInt32 = Int32.ofInt k := by
    apply Int32.toInt_inj.mp
    rw [Int16.toInt_toInt32, Int16.toInt_ofInt_of_le (by omega) (by omega), ye_to (by omega) (by omega)]
  rw [this]
def ye_ci : ClassFile.Cond → Int → Int → Prop
  | .eq, a, b => a = b
  | .ne, a, b => a ≠ b
  | .lt, a, b => a < b
  | .ge, a, b => b ≤ a
  | .gt, a, b => b < a
  | .le, a, b => a ≤ b
theorem ye_cmp {cc : ClassFile.Cond} (a1 : -2147483648 ≤ a) (a2 : a < 2147483648) (b1 : -2147483648 ≤ b) (b2 : b < 2147483648) : z_cmp cc (Int32.ofInt a) (Int32.ofInt b) = true ↔ ye_ci cc a b := by
  have ea := ye_to a1 a2
  have eb := ye_to b1 b2
  cases cc
  · rw [z_c_eq, ea, eb]; exact decide_eq_true_iff
  · rw [z_c_ne, ea, eb]; exact decide_eq_true_iff
  · rw [z_c_lt, ea, eb]; exact decide_eq_true_iff
  · rw [z_c_ge, ea, eb]; exact decide_eq_true_iff
  · rw [z_c_gt, ea, eb]; exact decide_eq_true_iff
  · rw [z_c_le, ea, eb]; exact decide_eq_true_iff
theorem ye_jy {cc : ClassFile.Cond} {off : Int} {t : Nat} (ht : z_tg pc off = some t) (a1 : -2147483648 ≤ a) (a2 : a < 2147483648) (b1 : -2147483648 ≤ b) (b2 : b < 2147483648) (h : ye_ci cc a b) : z_jmp (.if_icmp cc off) pc (ye_v b :: ye_v a :: st) = some (t, st) := z_icy ht ((ye_cmp a1 a2 b1 b2).mpr h)
theorem ye_jn {cc : ClassFile.Cond} {off : Int} {t : Nat} (ht : z_tg pc off = some t) (a1 : -2147483648 ≤ a) (a2 : a < 2147483648) (b1 : -2147483648 ≤ b) (b2 : b < 2147483648) (h : ¬ ye_ci cc a b) : z_jmp (.if_icmp cc off) pc (ye_v b :: ye_v a :: st) = some (pc + 3, st) := z_icn ht (by
  cases hc : z_cmp cc (Int32.ofInt a) (Int32.ofInt b) with
  | true => exact absurd ((ye_cmp a1 a2 b1 b2).mp hc) h
  | false => rfl)
theorem ye_iy {cc : ClassFile.Cond} {off : Int} {t : Nat} (ht : z_tg pc off = some t) (a1 : -2147483648 ≤ a) (a2 : a < 2147483648) (h : ye_ci cc a 0) : z_jmp (.ifCond cc off) pc (ye_v a :: st) = some (t, st) := z_ify ht ((ye_cmp a1 a2 (by decide) (by decide)).mpr h)
theorem ye_in {cc : ClassFile.Cond} {off : Int} {t : Nat} (ht : z_tg pc off = some t) (a1 : -2147483648 ≤ a) (a2 : a < 2147483648) (h : ¬ ye_ci cc a 0) : z_jmp (.ifCond cc off) pc (ye_v a :: st) = some (pc + 3, st) := z_ifn ht (by
  cases hc : z_cmp cc (Int32.ofInt a) 0 with
  | true => exact absurd ((ye_cmp a1 a2 (by decide) (by decide)).mp hc) h
  | false => rfl)
end
/-- the model's fields as a function -/
def ye_fl (F : Nat → Value) : List Value := (List.range 56).map F
def ye_up (F : Nat → Value) (k : Nat) (v : Value) : Nat → Value := fun j => bif Nat.beq j k then v else F j
theorem ye_flg {F : Nat → Value} {k : Nat} {v : Value} (hk : Nat.ble (k + 1) 56 = true) (h : F k = v) : (ye_fl F)[k]? = some v := by
  have hk := Nat.le_of_ble_eq_true hk
  unfold ye_fl
  rw [List.getElem?_map, List.getElem?_range hk, ← h]
  rfl
theorem ye_fll {F : Nat → Value} : (ye_fl F).length = 56 := by
  unfold ye_fl
  rw [List.length_map, List.length_range]
theorem ye_fls {F : Nat → Value} {k : Nat} {v : Value} : (ye_fl F).set k v = ye_fl (ye_up F k v) := by
  apply List.ext_getElem?
  intro j
  unfold ye_fl
  rw [List.getElem?_map, List.getElem?_set, List.length_map, List.length_range, List.getElem?_map]
  by_cases hkj : k = j
  · subst hkj
    rw [if_pos rfl]
    by_cases hk : k < 56
    · rw [if_pos hk, List.getElem?_range hk]
      show some v = some (ye_up F k v k)
      unfold ye_up
      rw [Nat.beq_refl]
      rfl
    · rw [if_neg hk, List.getElem?_eq_none (by rw [List.length_range]; omega)]
      rfl
  · rw [if_neg hkj]
    by_cases hj : j < 56
    · rw [List.getElem?_range hj]
      show some (F j) = some (ye_up F k v j)
      unfold ye_up
      have : Nat.beq j k = false := by
        cases hb : Nat.beq j k with
        | true => exact absurd (Nat.eq_of_beq_eq_true hb).symm hkj
        | false => rfl
      rw [this]
      rfl
    · rw [List.getElem?_eq_none (by rw [List.length_range]; omega)]
      rfl
theorem ye_flo {vs : List Value} (h : vs.length = 56) : vs = ye_fl (fun k => vs.getD k .null) := by
  apply List.ext_getElem?
  intro j
  unfold ye_fl
  rw [List.getElem?_map]
  by_cases hj : j < 56
  · rw [List.getElem?_range hj, List.getElem?_eq_getElem (by omega)]
    show _ = some (vs.getD j .null)
    rw [List.getD_eq_getElem?_getD, List.getElem?_eq_getElem (by omega)]
    rfl
  · rw [List.getElem?_eq_none (by omega), List.getElem?_eq_none (by rw [List.length_range]; omega)]
    rfl
/-- what isn't in L stays -/
def ye_oth (L : List Nat) (P P' : z_H) : Prop := P'.length = P.length ∧ ∀ b, b ∉ L → P'[b]? = P[b]?
theorem ye_oth_rf {L : List Nat} {P : z_H} : ye_oth L P P := ⟨rfl, fun _ _ => rfl⟩
theorem ye_oth_tr {L L' : List Nat} {P P1 P2 : z_H} (h : ye_oth L P P1) (k : ye_oth L' P1 P2) (hs : ∀ b, b ∈ L' → b ∈ L) : ye_oth L P P2 := ⟨k.1.trans h.1, fun b hb => (k.2 b (fun q => hb (hs b q))).trans (h.2 b hb)⟩
theorem ye_s1 {a : Nat} {L : List Nat} (h : a ∈ L) : ∀ b, b ∈ [a] → b ∈ L := fun b hb => by
  rw [List.mem_singleton] at hb
  rw [hb]
  exact h
theorem ye_s2 {a c : Nat} {L : List Nat} (h : a ∈ L) (k : c ∈ L) : ∀ b, b ∈ [a, c] → b ∈ L := fun b hb => by
  rcases List.mem_cons.mp hb with h1 | h1
  · rw [h1]; exact h
  · exact ye_s1 k b h1
theorem ye_ne {P : z_H} {a b t u : Nat} {x y : List Value} (ha : P[a]? = some (t, x)) (hb : P[b]? = some (u, y)) (h : t ≠ u) : a ≠ b := fun q => by
  subst q
  cases ha.symm.trans hb
  exact h rfl
theorem ye_n1 {a b : Nat} (h : a ≠ b) : a ∉ [b] := fun q => h (List.mem_singleton.mp q)
theorem ye_nc {a b : Nat} {L : List Nat} (h : a ≠ b) (k : a ∉ L) : a ∉ b :: L := fun q => by
  rcases List.mem_cons.mp q with q | q
  · exact h q
  · exact k q
theorem ye_kp {L : List Nat} {P P' : z_H} {a : Nat} {q : z_C} (h : ye_oth L P P') (hn : a ∉ L) (k : P[a]? = some q) : P'[a]? = some q := (h.2 a hn).trans k
theorem ye_oth_set {P : z_H} {a : Nat} {q q0 : z_C} (h : P[a]? = some q0) : ye_oth [a] P (P.set a q) ∧ (P.set a q)[a]? = some q := ⟨⟨List.length_set .., fun b hb => List.getElem?_set_ne (fun e => hb (by rw [e]; exact List.mem_singleton_self _))⟩, List.getElem?_set_self (List.getElem?_eq_some_iff.mp h).1⟩
section
variable {G : z_Pg} {d x : Nat} {Ψ : z_S → Prop} {pc len c n : Nat} {l : z_L} {st st' : List Value} {P : z_H} {ins : Instr}
theorem ye_r_wr {t a : Nat} {q q0 : z_C} (hc : z_cod G x pc = some (ins, len)) (h1 : z_call G x ins = none) (h2 : z_isr ins = false) (ht : pc + len = t) (hg : z_grp ins = 4) (hP : P[a]? = some q0) (hp : z_wr (z_fld G x) (z_fty G) (z_fin G) (z_ini G x) (z_ac G) P ins st = some (st', P.set a q)) (k : ∀ P', P'[a]? = some q → ye_oth [a] P P' → z_Rh G d x Ψ (t, l, st', P', c, n)) : z_Rh G d x Ψ (pc, l, st, P, c, n) :=
  z_r_wr hc h1 h2 ht hg hp (k _ (ye_oth_set hP).2 (ye_oth_set hP).1)
theorem ye_ic {t i : Nat} {a kk : Int} (hc : z_cod G x pc = some (ins, len)) (h1 : z_call G x ins = none) (h2 : z_isr ins = false) (ht : pc + len = t) (hp : ins = .iinc i kk) (hi : Nat.ble (i + 1) (z_nL G x) = true) (h : z_get l i = some (ye_v a)) (k : ∀ l', z_get l' i = some (ye_v (a + kk)) → (∀ j w, z_get l j = some w → i ≠ j → (j + 1 ≠ i ∨ w.category ≠ 2) → z_get l' j = some w) → z_Rh G d x Ψ (t, l', st, P, c, n)) : z_Rh G d x Ψ (pc, l, st, P, c, n) :=
  z_r_ic hc h1 h2 ht hp hi h fun l' g1 g2 => k l' (by rw [g1]; show some (Value.int (Int32.ofInt a + Int32.ofInt kk)) = some (Value.int (Int32.ofInt (a + kk))); rw [Int32.ofInt_add]) g2
theorem ye_al {t a : Nat} {H : Nat → Option z_C} {p e : Int} {vs : List Value} (hP : H a = some (t, vs)) (h0 : 0 ≤ p) (h1 : p < 2147483648) (hv : vs[p.toNat]? = some (ye_v e)) : z_al t z_isI H (ye_v p :: .ref a :: st) = some (ye_v e :: st) := by
  have e1 : (Int32.ofInt p).toInt = p := ye_to (by omega) h1
  have e2 : (Int32.ofInt p).toNatClampNeg = p.toNat := by
    show (Int32.ofInt p).toInt.toNat = _
    rw [e1]
  unfold z_al
  dsimp only
  rw [hP]
  dsimp only
  rw [if_pos ⟨rfl, by rw [e1]; exact h0⟩, e2, hv]
  rfl
theorem ye_bal {fld : Nat → Option (Nat × Nat)} {nA a : Nat} {H : Nat → Option z_C} {p e : Int} {vs : List Value} (hP : H a = some (101, vs)) (h0 : 0 ≤ p) (h1 : p < 2147483648) (hv : vs[p.toNat]? = some (ye_v e)) : z_rd fld nA H .baload (ye_v p :: .ref a :: st) = some (ye_v e :: st) := by
  show (z_al 101 z_isI H (ye_v p :: .ref a :: st)).or (z_al 100 z_isI H (ye_v p :: .ref a :: st)) = _
  rw [ye_al hP h0 h1 hv]
  rfl
theorem ye_as {t a : Nat} {nf : Int32 → Int32} {p e e' : Int} {vs : List Value} (hP : P[a]? = some (t, vs)) (h0 : 0 ≤ p) (h1 : p < vs.length) (h2 : p < 2147483648) (hn : nf (Int32.ofInt e) = Int32.ofInt e') : z_as t nf P (ye_v e :: ye_v p :: .ref a :: st) = some (st, P.set a (t, vs.set p.toNat (ye_v e'))) := by
  have e1 : (Int32.ofInt p).toInt = p := ye_to (by omega) h2
  have e2 : (Int32.ofInt p).toNatClampNeg = p.toNat := by
    show (Int32.ofInt p).toInt.toNat = _
    rw [e1]
  unfold z_as
  dsimp only
  rw [hP]
  dsimp only
  rw [e2, if_pos ⟨rfl, by rw [e1]; exact h0, by omega⟩, hn]
end
/-- a method called with as returns as R says -/
def ye_E (xs : List Int32) (d y : Nat) (R : Option Value → z_H → Prop) (q : z_S) : Prop := ∃ r P', z_Runs (z_G xs) d y q r P' ∧ R r P'
def ye_X (xs : List Int32) (d y : Nat) (as : List Value) (P : z_H) (R : Option Value → z_H → Prop) : Prop := ye_E xs d y R (0, lv_args 0 as, [], P, 0, 0)
section
variable {xs : List Int32} {d y x : Nat} {R : Option Value → z_H → Prop} {Ψ : z_S → Prop} {pc c n : Nat} {l : z_L} {st : List Value} {P : z_H} {ins : Instr}
theorem ye_go {as : List Value} (h : z_Rh (z_G xs) d y (ye_E xs d y R) (0, lv_args 0 as, [], P, 0, 0)) : ye_X xs d y as P R := z_rh_runs h fun _ k => k
theorem ye_ret {r : Option Value} {len : Nat} (hc : z_cod (z_G xs) x pc = some (ins, len)) (hl : len = 1) (h1 : z_call (z_G xs) x ins = none) (h2 : z_ret (z_rty (z_G xs) x) ins st = some r) (h : R r P) : z_Rh (z_G xs) d x (ye_E xs d x R) (pc, l, st, P, c, n) := by
  subst hl
  exact z_rh_end ⟨r, P, z_r_ret hc h1 h2, h⟩
theorem ye_mono {as : List Value} {R' : Option Value → z_H → Prop} (h : ye_X xs d y as P R) (k : ∀ r P', R r P' → R' r P') : ye_X xs d y as P R' := by
  obtain ⟨r, P', h1, h2⟩ := h
  exact ⟨r, P', h1, k r P' h2⟩
/-- a call -/
theorem ye_ca {kd t : Nat} {as r : List Value} (hc : z_cod (z_G xs) x pc = some (ins, 3)) (hy : z_call (z_G xs) x ins = some (y, kd)) (hk : kd < 3) (ha : z_args (z_G xs) d y kd x st P c n = some (as, r)) (ht : pc + 3 = t) (hmc : z_mc (z_G xs) y = 0) (hms : z_ms (z_G xs) y = 0) (hr : ye_X xs (d - 1) y as P R) (k : ∀ rv P1, R rv P1 → z_Rh (z_G xs) d x Ψ (t, l, rv.toList ++ r, P1, c, n)) : z_Rh (z_G xs) d x Ψ (pc, l, st, P, c, n) := by
  obtain ⟨rv, P1, h1, h2⟩ := hr
  exact z_r_ca hc hy hk ha ht hmc hms h1 (k rv P1 h2)
theorem z_ret_void {i : Instr} {st : List Value} {r : Option Value} (h : z_ret none i st = some r) : r = none := by
  unfold z_ret at h
  split at h
  · rw [if_pos rfl] at h
    cases h
    rfl
  · cases h
  · rw [if_neg (fun q => by cases q)] at h
    cases h
  · cases h
  · cases h
theorem z_run_void {G : z_Pg} {x : Nat} (hx : z_rty G x = none) : ∀ {f d : Nat} {q : z_S} {r : Option Value} {P : z_H}, z_run G f d x q = some (r, P) → r = none := by
  intro f
  induction f with
  | zero => intro d q r P h; cases h
  | succ f ih =>
    intro d q r P h
    unfold z_run at h
    split at h
    · cases h
    · rename_i r0 hn
      cases h
      unfold z_next at hn
      split at hn
      · cases hn
      · split at hn
        · split at hn
          · split at hn
            · cases hn
            · cases hn
          · split at hn
            · cases hn
            · cases hn
        · split at hn
          · rename_i r1 h1
            cases hn
            rw [hx] at h1
            exact z_ret_void h1
          · split at hn
            · cases hn
            · cases hn
    · exact ih h
    · split at h
      · exact ih h
      · cases h
/-- a call of a method without an answer -/
theorem ye_cav {kd t : Nat} {as r : List Value} (hc : z_cod (z_G xs) x pc = some (ins, 3)) (hy : z_call (z_G xs) x ins = some (y, kd)) (hk : kd < 3) (ha : z_args (z_G xs) d y kd x st P c n = some (as, r)) (ht : pc + 3 = t) (hmc : z_mc (z_G xs) y = 0) (hms : z_ms (z_G xs) y = 0) (hv : z_rty (z_G xs) y = none) (hr : ye_X xs (d - 1) y as P R) (k : ∀ (_ : Unit) P1, R none P1 → z_Rh (z_G xs) d x Ψ (t, l, r, P1, c, n)) : z_Rh (z_G xs) d x Ψ (pc, l, st, P, c, n) := by
  obtain ⟨rv, P1, ⟨f, h1⟩, h2⟩ := hr
  have e := z_run_void hv h1
  subst e
  exact z_r_ca hc hy hk ha ht hmc hms ⟨f, h1⟩ (k () P1 h2)
end
end YROW
section YRET
variable {G : z_Pg} {x : Nat}
theorem ye_b01 {v : Int} (hv : v = 0 ∨ v = 1) : narrow .boolean (ye_v v) = ye_v v := by
  rcases hv with rfl | rfl
  · show Value.int (Int32.ofInt 0 &&& 1) = Value.int (Int32.ofInt 0)
    congr 1
  · show Value.int (Int32.ofInt 1 &&& 1) = Value.int (Int32.ofInt 1)
    congr 1
theorem ye_reti0 {v : Int32} (h : z_rty G x = some .int) : z_ret (z_rty G x) .ireturn [.int v] = some (some (.int v)) := by
  rw [h]
  show (if narrow .int (.int v) = .int v then some (some (Value.int v)) else none) = _
  exact if_pos rfl
theorem ye_reti {v : Int} (h : z_rty G x = some .int) : z_ret (z_rty G x) .ireturn [ye_v v] = some (some (ye_v v)) := ye_reti0 h
theorem ye_retz {v : Int} (h : z_rty G x = some .boolean) (hv : v = 0 ∨ v = 1) : z_ret (z_rty G x) .ireturn [ye_v v] = some (some (ye_v v)) := by
  rw [h]
  show (if narrow .boolean (ye_v v) = ye_v v then some (some (ye_v v)) else none) = _
  exact if_pos (ye_b01 hv)
theorem ye_retv (h : z_rty G x = none) : z_ret (z_rty G x) .return_ [] = some none := by
  rw [h]
  rfl
/-- a field of the model -/
theorem ye_pfm {fk : Option (Nat × Nat)} {fty : Nat → Nat → FieldType} {fin : Nat → Nat → Bool} {ini : Option Nat} {P : z_H} {a k : Nat} {F : Nat → Value} {v : Value} {st : List Value} (hf : fk = some (10, k)) (hP : P[a]? = some (10, ye_fl F)) (hk : Nat.ble (k + 1) 56 = true) (h1 : fits (fty 10 k) v = true) (h2 : narrow (fty 10 k) v = v) (h3 : fin 10 k = false) : z_pf fk fty fin ini P (v :: .ref a :: st) = some (st, P.set a (10, ye_fl (ye_up F k v))) := by
  rw [z_pfv (ci := 10) (k := k) hf hP (by decide) (by rw [ye_fll]; exact Nat.le_of_ble_eq_true hk) h1 h2 h3, ye_fls]
end YRET
section YFK
/-- fields outside L stay -/
def ye_fk (L : List Nat) (F F' : Nat → Value) : Prop := ∀ k, k ∉ L → F' k = F k
theorem ye_fk_rf {L : List Nat} {F : Nat → Value} : ye_fk L F F := fun _ _ => rfl
theorem ye_fk_tr {L L' : List Nat} {F F1 F2 : Nat → Value} (h : ye_fk L F F1) (k : ye_fk L' F1 F2) (hs : ∀ b ∈ L', b ∈ L) : ye_fk L F F2 := fun b hb => (k b (fun q => hb (hs b q))).trans (h b hb)
theorem ye_upn {F : Nat → Value} {j k : Nat} {v : Value} (h : k ≠ j) : ye_up F j v k = F k := by
  unfold ye_up
  have : Nat.beq k j = false := by
    cases hb : Nat.beq k j with
    | true => exact absurd (Nat.eq_of_beq_eq_true hb) h
    | false => rfl
  rw [this]
  rfl
theorem ye_fk_up {L : List Nat} {F F' : Nat → Value} {j : Nat} {v : Value} (h : ye_fk L F F') (hm : j ∈ L) : ye_fk L F (ye_up F' j v) := fun k hk => (ye_upn (fun q => hk (by rw [q]; exact hm))).trans (h k hk)
end YFK
