/-! sheet, the class, exactly. -/
section YCSH
/-- an entry of a sheet: what stands there as a byte, a short, an int, brought to 0 .. 999 -/
def yh_cl (e : Int) : Int := if e < 0 then 0 else if 999 < e then 999 else e
def yh_cv (k : Int) (x : Int32) : Int32 := if k = 0 then x.toInt8.toInt32 else if k = 1 then x.toInt16.toInt32 else x
def yh_en (k : Int) (x : Int32) : Int := yh_cl (yh_cv k x).toInt
theorem yh_cl_bd {e : Int} : 0 ≤ yh_cl e ∧ yh_cl e ≤ 999 := by
  unfold yh_cl
  split
  · omega
  · split <;> omega
theorem yh_en_bd {k : Int} {x : Int32} : 0 ≤ yh_en k x ∧ yh_en k x ≤ 999 := yh_cl_bd
def yh_sum (f : Int → Int) : Nat → Int
  | 0 => 0
  | k + 1 => yh_sum f k + f k
theorem yh_sum_bd {f : Int → Int} (h : ∀ i, 0 ≤ f i ∧ f i ≤ 999) : ∀ k : Nat, 0 ≤ yh_sum f k ∧ yh_sum f k ≤ 999 * k
  | 0 => by show (0 : Int) ≤ 0 ∧ (0 : Int) ≤ 999 * ((0 : Nat) : Int); omega
  | k + 1 => by
    have h1 := yh_sum_bd h k
    have h2 := h (k : Int)
    show 0 ≤ yh_sum f k + f k ∧ yh_sum f k + f k ≤ 999 * ((k + 1 : Nat) : Int)
    omega
theorem yh_sum_eq {f g : Int → Int} : ∀ {k : Nat}, (∀ i : Int, 0 ≤ i → i < k → f i = g i) → yh_sum f k = yh_sum g k
  | 0, _ => rfl
  | k + 1, h => by
    show yh_sum f k + f k = yh_sum g k + g k
    rw [yh_sum_eq (k := k) fun i i0 i1 => h i i0 (by omega), h k (by omega) (by omega)]
theorem yh_sum_z {f : Int → Int} {m : Nat} (h : ∀ i : Int, (m : Int) ≤ i → f i = 0) : ∀ k : Nat, yh_sum f (m + k) = yh_sum f m
  | 0 => rfl
  | k + 1 => by
    show yh_sum f (m + k) + f ((m + k : Nat) : Int) = _
    rw [yh_sum_z h k, h _ (by omega), Int.add_zero]
/-- the entries that are put down: n told, so SORTS -/
def yh_g (k f : Int) (x st : Int32) (i : Int) : Int → Int := fun j => if j < i ∧ j < f then yh_en k (x + Int32.ofInt j * st) else 0
theorem yh_g_bd {k f i j : Int} {x st : Int32} : 0 ≤ yh_g k f x st i j ∧ yh_g k f x st i j ≤ 999 := by
  unfold yh_g
  split
  · exact yh_en_bd
  · omega
/-- what sheet answers: SORTS so, heap h, kind k, n, the first f, the step st -/
def yh_sh (so h k n : Int) (f st : Int32) : Int := if h < 0 ∨ 6 ≤ h ∨ k < 0 ∨ 3 < k ∨ 10 < n then -1 else if k < 3 ∧ n < 0 then -2 else if k = 3 then -3 else yh_sum (yh_g k n f st so) 10
theorem ye_arr_set {f : Int → Int} {i v : Int} {vs : List Value} (h : ye_arr f 10 vs) (h0 : 0 ≤ i) (h1 : i < 10) : ye_arr (ye_put f i v) 10 (vs.set i.toNat (ye_v v)) := by
  refine ⟨by rw [List.length_set]; exact h.1, fun j i0 i1 => ?_⟩
  unfold ye_put
  by_cases hi : j = i
  · subst hi
    rw [if_pos rfl]
    exact List.getElem?_set_self (by rw [h.1]; omega)
  · rw [if_neg hi]
    exact (List.getElem?_set_ne (by omega)).trans (h.2 j i0 i1)
theorem ye_i2bx {x : Int32} {st : List Value} : z_pure .i2b (.int x :: st) = some (.int x.toInt8.toInt32 :: st) := rfl
theorem ye_i2sx {x : Int32} {st : List Value} : z_pure .i2s (.int x :: st) = some (.int x.toInt16.toInt32 :: st) := rfl
variable {xs : List Int32} {d aX aN aSt aH r0 b : Nat} {P : z_H} {vs xv nv st hv rv : List Value} {h k n so i e v a acc : Int} {f sp x w : Int32} {g G0 : Int → Int} {l : z_L} {Ψ : z_S → Prop}
theorem ye_max {a e : Int} (ha : -2147483648 ≤ a ∧ a < 2147483648) (hb : -2147483648 ≤ e ∧ e < 2147483648) : ye_X xs d 33 [ye_v a, ye_v e] P (fun r P' => P' = P ∧ ∃ m, r = some (ye_v m) ∧ ((m = a ∧ e ≤ a) ∨ (m = e ∧ a < e))) := by
  refine ye_go ?_
  have a0 : z_get (lv_args 0 [ye_v a, ye_v e]) 0 = some (ye_v a) := rfl
  have a1 : z_get (lv_args 0 [ye_v a, ye_v e]) 1 = some (ye_v e) := rfl
  refine z_r_ld (kk := z_isI) (ins := (.iload_n 0)) (len := 1) (t := 1) (i := 0) rfl rfl rfl rfl rfl (fun _ => rfl) a0 rfl ?_
  refine z_r_ld (kk := z_isI) (ins := (.iload_n 1)) (len := 1) (t := 2) (i := 1) rfl rfl rfl rfl rfl (fun _ => rfl) a1 rfl ?_
  by_cases b_1 : a < e
  · skip
    refine z_r_jm (ins := (.if_icmp .lt 7)) (len := 3) (t := 9) rfl rfl rfl rfl (ye_jy (t := 9) rfl (by omega) (by omega) (by omega) (by omega) b_1) ?_
    refine z_r_ld (kk := z_isI) (ins := (.iload_n 1)) (len := 1) (t := 10) (i := 1) rfl rfl rfl rfl rfl (fun _ => rfl) a1 rfl ?_
    refine ye_ret (ins := .ireturn) rfl rfl rfl (ye_reti rfl) ?_
    exact ⟨rfl, e, rfl, Or.inr ⟨rfl, by omega⟩⟩
  · skip
    refine z_r_jm (ins := (.if_icmp .lt 7)) (len := 3) (t := 5) rfl rfl rfl rfl (ye_jn (t := 9) rfl (by omega) (by omega) (by omega) (by omega) b_1) ?_
    refine z_r_ld (kk := z_isI) (ins := (.iload_n 0)) (len := 1) (t := 6) (i := 0) rfl rfl rfl rfl rfl (fun _ => rfl) a0 rfl ?_
    refine z_r_jm (ins := (.goto 4)) (len := 3) (t := 10) rfl rfl rfl rfl (z_gty rfl) ?_
    refine ye_ret (ins := .ireturn) rfl rfl rfl (ye_reti rfl) ?_
    exact ⟨rfl, a, rfl, Or.inl ⟨rfl, by omega⟩⟩
theorem ye_putE (he : -2147483648 ≤ e ∧ e < 2147483648) (hd : 1 ≤ d) : ye_X xs d 69 [ye_v e, ye_v 0, ye_v 999] P (fun r P' => P' = P ∧ r = some (ye_v (yh_cl e))) := by
  refine ye_go ?_
  have a0 : z_get (lv_args 0 [ye_v e, ye_v 0, ye_v 999]) 0 = some (ye_v e) := rfl
  have a1 : z_get (lv_args 0 [ye_v e, ye_v 0, ye_v 999]) 1 = some (ye_v 0) := rfl
  have a2 : z_get (lv_args 0 [ye_v e, ye_v 0, ye_v 999]) 2 = some (ye_v 999) := rfl
  refine z_r_ld (kk := z_isI) (ins := (.iload_n 1)) (len := 1) (t := 1) (i := 1) rfl rfl rfl rfl rfl (fun _ => rfl) a1 rfl ?_
  refine z_r_ld (kk := z_isI) (ins := (.iload_n 2)) (len := 1) (t := 2) (i := 2) rfl rfl rfl rfl rfl (fun _ => rfl) a2 rfl ?_
  refine z_r_ld (kk := z_isI) (ins := (.iload_n 0)) (len := 1) (t := 3) (i := 0) rfl rfl rfl rfl rfl (fun _ => rfl) a0 rfl ?_
  refine ye_ca (ins := (.invokestatic 370)) (kd := 0) (t := 6) rfl rfl (by decide) (z_argsv rfl rfl rfl (by omega) (Nat.le_of_ble_eq_true rfl) rfl (Nat.le_of_ble_eq_true rfl) (Nat.le_refl _) (Nat.le_refl _) (Or.inl rfl) (Or.inl rfl)) rfl rfl rfl (ye_min (by omega) (by omega)) ?_
  rintro _ _ ⟨rfl, m_1, rfl, h_2⟩
  refine ye_ca (ins := (.invokestatic 479)) (kd := 0) (t := 9) rfl rfl (by decide) (z_argsv rfl rfl rfl (by omega) (Nat.le_of_ble_eq_true rfl) rfl (Nat.le_of_ble_eq_true rfl) (Nat.le_refl _) (Nat.le_refl _) (Or.inl rfl) (Or.inl rfl)) rfl rfl rfl (ye_max (by omega) (by omega)) ?_
  rintro _ _ ⟨rfl, m_3, rfl, h_4⟩
  refine ye_ret (ins := .ireturn) rfl rfl rfl (ye_reti rfl) ?_
  have ec : m_3 = yh_cl e := by
    unfold yh_cl
    split
    · omega
    · split <;> omega
  rw [ec]
  exact ⟨rfl, rfl⟩
theorem ye_putX (hd : 1 ≤ d) : ye_X xs d 69 [.int x, ye_v 0, ye_v 999] P (fun r P' => P' = P ∧ r = some (ye_v (yh_cl x.toInt))) := by
  have h1 := x.le_toInt
  have h2 := x.toInt_lt
  have h := ye_putE (xs := xs) (d := d) (P := P) (e := x.toInt) ⟨by omega, by omega⟩ hd
  rw [← ye_of] at h
  exact h
theorem ye_entry (hk : 0 ≤ k ∧ k ≤ 3) (hd : 2 ≤ d) : ye_X xs d 68 [.ref aX, ye_v k, .int w] P (fun r P' => P' = P ∧ r = some (ye_v (yh_en k w))) := by
  refine ye_go ?_
  have a0 : z_get (lv_args 0 [.ref aX, ye_v k, .int w]) 0 = some (.ref aX) := rfl
  have a1 : z_get (lv_args 0 [.ref aX, ye_v k, .int w]) 1 = some (ye_v k) := rfl
  have a2 : z_get (lv_args 0 [.ref aX, ye_v k, .int w]) 2 = some (.int w) := rfl
  refine z_r_ld (kk := z_isI) (ins := (.iload_n 1)) (len := 1) (t := 1) (i := 1) rfl rfl rfl rfl rfl (fun _ => rfl) a1 rfl ?_
  by_cases b_1 : k ≠ 0
  · skip
    refine z_r_jm (ins := (.ifCond .ne 8)) (len := 3) (t := 9) rfl rfl rfl rfl (ye_iy (t := 9) rfl (by omega) (by omega) b_1) ?_
    refine z_r_ld (kk := z_isI) (ins := (.iload_n 1)) (len := 1) (t := 10) (i := 1) rfl rfl rfl rfl rfl (fun _ => rfl) a1 rfl ?_
    refine z_r_pu (ins := (.iconst 1)) (len := 1) (t := 11) (st' := [ye_v 1, ye_v k]) rfl rfl rfl rfl rfl ?_
    by_cases b_2 : k ≠ 1
    · skip
      refine z_r_jm (ins := (.if_icmp .ne 8)) (len := 3) (t := 19) rfl rfl rfl rfl (ye_jy (t := 19) rfl (by omega) (by omega) (by omega) (by omega) b_2) ?_
      refine z_r_ld (kk := z_isI) (ins := (.iload_n 2)) (len := 1) (t := 20) (i := 2) rfl rfl rfl rfl rfl (fun _ => rfl) a2 rfl ?_
      refine z_r_is (kk := z_isI) (ins := (.istore_n 3)) (len := 1) (t := 21) (i := 3) rfl rfl rfl rfl rfl rfl rfl rfl (fun l l_3 k_4 => ?_)
      have l_5 := k_4 _ _ a0 (by decide) (Or.inl (by decide))
      have l_6 := k_4 _ _ a1 (by decide) (Or.inl (by decide))
      have l_7 := k_4 _ _ a2 (by decide) (Or.inr (by show (1 : Nat) ≠ 2; decide))
      refine z_r_ld (kk := z_isI) (ins := (.iload_n 3)) (len := 1) (t := 22) (i := 3) rfl rfl rfl rfl rfl (fun _ => rfl) l_3 rfl ?_
      refine z_r_pu (ins := (.iconst 0)) (len := 1) (t := 23) (st' := [ye_v 0, .int w]) rfl rfl rfl rfl rfl ?_
      refine z_r_pu (ins := (.sipush 999)) (len := 3) (t := 26) rfl rfl rfl rfl (ye_si (by decide) (by decide)) ?_
      refine ye_ca (ins := (.invokestatic 203)) (kd := 0) (t := 29) rfl rfl (by decide) (z_argsv rfl rfl rfl (by omega) (Nat.le_of_ble_eq_true rfl) rfl (Nat.le_of_ble_eq_true rfl) (Nat.le_refl _) (Nat.le_refl _) (Or.inl rfl) (Or.inl rfl)) rfl rfl rfl (ye_putX (x := w) (by omega)) ?_
      rintro _ _ ⟨rfl, rfl⟩
      refine ye_ret (ins := .ireturn) rfl rfl rfl (ye_reti rfl) ?_
      have ee : yh_en k w = yh_cl (w).toInt := by
        unfold yh_en yh_cv
        rw [if_neg (by omega), if_neg (by omega)]
      rw [ee]
      exact ⟨rfl, rfl⟩
    · skip
      refine z_r_jm (ins := (.if_icmp .ne 8)) (len := 3) (t := 14) rfl rfl rfl rfl (ye_jn (t := 19) rfl (by omega) (by omega) (by omega) (by omega) b_2) ?_
      refine z_r_ld (kk := z_isI) (ins := (.iload_n 2)) (len := 1) (t := 15) (i := 2) rfl rfl rfl rfl rfl (fun _ => rfl) a2 rfl ?_
      refine z_r_pu (ins := .i2s) (len := 1) (t := 16) rfl rfl rfl rfl ye_i2sx ?_
      refine z_r_jm (ins := (.goto 4)) (len := 3) (t := 20) rfl rfl rfl rfl (z_gty rfl) ?_
      refine z_r_is (kk := z_isI) (ins := (.istore_n 3)) (len := 1) (t := 21) (i := 3) rfl rfl rfl rfl rfl rfl rfl rfl (fun l l_8 k_9 => ?_)
      have l_10 := k_9 _ _ a0 (by decide) (Or.inl (by decide))
      have l_11 := k_9 _ _ a1 (by decide) (Or.inl (by decide))
      have l_12 := k_9 _ _ a2 (by decide) (Or.inr (by show (1 : Nat) ≠ 2; decide))
      refine z_r_ld (kk := z_isI) (ins := (.iload_n 3)) (len := 1) (t := 22) (i := 3) rfl rfl rfl rfl rfl (fun _ => rfl) l_8 rfl ?_
      refine z_r_pu (ins := (.iconst 0)) (len := 1) (t := 23) (st' := [ye_v 0, .int (w.toInt16.toInt32)]) rfl rfl rfl rfl rfl ?_
      refine z_r_pu (ins := (.sipush 999)) (len := 3) (t := 26) rfl rfl rfl rfl (ye_si (by decide) (by decide)) ?_
      refine ye_ca (ins := (.invokestatic 203)) (kd := 0) (t := 29) rfl rfl (by decide) (z_argsv rfl rfl rfl (by omega) (Nat.le_of_ble_eq_true rfl) rfl (Nat.le_of_ble_eq_true rfl) (Nat.le_refl _) (Nat.le_refl _) (Or.inl rfl) (Or.inl rfl)) rfl rfl rfl (ye_putX (x := (w.toInt16.toInt32)) (by omega)) ?_
      rintro _ _ ⟨rfl, rfl⟩
      refine ye_ret (ins := .ireturn) rfl rfl rfl (ye_reti rfl) ?_
      have ee : yh_en k w = yh_cl ((w.toInt16.toInt32)).toInt := by
        unfold yh_en yh_cv
        rw [if_neg (by omega), if_pos (by omega)]
      rw [ee]
      exact ⟨rfl, rfl⟩
  · skip
    refine z_r_jm (ins := (.ifCond .ne 8)) (len := 3) (t := 4) rfl rfl rfl rfl (ye_in (t := 9) rfl (by omega) (by omega) b_1) ?_
    refine z_r_ld (kk := z_isI) (ins := (.iload_n 2)) (len := 1) (t := 5) (i := 2) rfl rfl rfl rfl rfl (fun _ => rfl) a2 rfl ?_
    refine z_r_pu (ins := .i2b) (len := 1) (t := 6) rfl rfl rfl rfl ye_i2bx ?_
    refine z_r_jm (ins := (.goto 14)) (len := 3) (t := 20) rfl rfl rfl rfl (z_gty rfl) ?_
    refine z_r_is (kk := z_isI) (ins := (.istore_n 3)) (len := 1) (t := 21) (i := 3) rfl rfl rfl rfl rfl rfl rfl rfl (fun l l_13 k_14 => ?_)
    have l_15 := k_14 _ _ a0 (by decide) (Or.inl (by decide))
    have l_16 := k_14 _ _ a1 (by decide) (Or.inl (by decide))
    have l_17 := k_14 _ _ a2 (by decide) (Or.inr (by show (1 : Nat) ≠ 2; decide))
    refine z_r_ld (kk := z_isI) (ins := (.iload_n 3)) (len := 1) (t := 22) (i := 3) rfl rfl rfl rfl rfl (fun _ => rfl) l_13 rfl ?_
    refine z_r_pu (ins := (.iconst 0)) (len := 1) (t := 23) (st' := [ye_v 0, .int (w.toInt8.toInt32)]) rfl rfl rfl rfl rfl ?_
    refine z_r_pu (ins := (.sipush 999)) (len := 3) (t := 26) rfl rfl rfl rfl (ye_si (by decide) (by decide)) ?_
    refine ye_ca (ins := (.invokestatic 203)) (kd := 0) (t := 29) rfl rfl (by decide) (z_argsv rfl rfl rfl (by omega) (Nat.le_of_ble_eq_true rfl) rfl (Nat.le_of_ble_eq_true rfl) (Nat.le_refl _) (Nat.le_refl _) (Or.inl rfl) (Or.inl rfl)) rfl rfl rfl (ye_putX (x := (w.toInt8.toInt32)) (by omega)) ?_
    rintro _ _ ⟨rfl, rfl⟩
    refine ye_ret (ins := .ireturn) rfl rfl rfl (ye_reti rfl) ?_
    have ee : yh_en k w = yh_cl ((w.toInt8.toInt32)).toInt := by
      unfold yh_en yh_cv
      rw [if_pos (by omega)]
    rw [ee]
    exact ⟨rfl, rfl⟩
theorem ye_isHeapC (hh : -2147483648 ≤ h ∧ h < 2147483648) : ye_X xs d 61 [ye_v h] P (fun r P' => P' = P ∧ ∃ b, r = some (ye_v b) ∧ ((b = 1 ∧ 0 ≤ h ∧ h < 6) ∨ (b = 0 ∧ (h < 0 ∨ 6 ≤ h)))) := by
  refine ye_go ?_
  have a0 : z_get (lv_args 0 [ye_v h]) 0 = some (ye_v h) := rfl
  refine z_r_ld (kk := z_isI) (ins := (.iload_n 0)) (len := 1) (t := 1) (i := 0) rfl rfl rfl rfl rfl (fun _ => rfl) a0 rfl ?_
  by_cases b_1 : h < 0
  · skip
    refine z_r_jm (ins := (.ifCond .lt 13)) (len := 3) (t := 14) rfl rfl rfl rfl (ye_iy (t := 14) rfl (by omega) (by omega) b_1) ?_
    refine z_r_pu (ins := (.iconst 0)) (len := 1) (t := 15) (st' := [ye_v 0]) rfl rfl rfl rfl rfl ?_
    refine ye_ret (ins := .ireturn) rfl rfl rfl (ye_retz rfl (by omega)) ?_
    exact ⟨rfl, 0, rfl, Or.inr ⟨rfl, by omega⟩⟩
  · skip
    refine z_r_jm (ins := (.ifCond .lt 13)) (len := 3) (t := 4) rfl rfl rfl rfl (ye_in (t := 14) rfl (by omega) (by omega) b_1) ?_
    refine z_r_ld (kk := z_isI) (ins := (.iload_n 0)) (len := 1) (t := 5) (i := 0) rfl rfl rfl rfl rfl (fun _ => rfl) a0 rfl ?_
    refine z_r_pu (ins := (.bipush 6)) (len := 2) (t := 7) rfl rfl rfl rfl (ye_bi (by decide) (by decide)) ?_
    by_cases b_2 : 6 ≤ h
    · skip
      refine z_r_jm (ins := (.if_icmp .ge 7)) (len := 3) (t := 14) rfl rfl rfl rfl (ye_jy (t := 14) rfl (by omega) (by omega) (by omega) (by omega) b_2) ?_
      refine z_r_pu (ins := (.iconst 0)) (len := 1) (t := 15) (st' := [ye_v 0]) rfl rfl rfl rfl rfl ?_
      refine ye_ret (ins := .ireturn) rfl rfl rfl (ye_retz rfl (by omega)) ?_
      exact ⟨rfl, 0, rfl, Or.inr ⟨rfl, by omega⟩⟩
    · skip
      refine z_r_jm (ins := (.if_icmp .ge 7)) (len := 3) (t := 10) rfl rfl rfl rfl (ye_jn (t := 14) rfl (by omega) (by omega) (by omega) (by omega) b_2) ?_
      refine z_r_pu (ins := (.iconst 1)) (len := 1) (t := 11) (st' := [ye_v 1]) rfl rfl rfl rfl rfl ?_
      refine z_r_jm (ins := (.goto 4)) (len := 3) (t := 15) rfl rfl rfl rfl (z_gty rfl) ?_
      refine ye_ret (ins := .ireturn) rfl rfl rfl (ye_retz rfl (by omega)) ?_
      exact ⟨rfl, 1, rfl, Or.inl ⟨rfl, by omega, by omega⟩⟩
theorem ye_fl0L {R : Option Value → z_H → Prop} {P0 : z_H} (fB : b < z_far) : ∀ (k : Nat) {i : Int} {l : z_L} {P : z_H} {vs : List Value}, i + k = 10 → 0 ≤ i → P[b]? = some (103, vs) → ye_arr (fun _ => v) i vs → z_get l 0 = some (.ref b) → z_get l 1 = some (ye_v v) → z_get l 2 = some (ye_v i) → z_get l 3 = some (ye_v 10) → ye_oth [b] P0 P → (∀ P' vs', P'[b]? = some (103, vs') → ye_arr (fun _ => v) 10 vs' → ye_oth [b] P0 P' → R none P') → z_Rh (z_G xs) d 40 (ye_E xs d 40 R) (5, l, [], P, 0, 0) := by
  intro k
  induction k with
  | zero =>
    intro i l P vs hi i0 hB hl h0 h1 h2 h3 ho kk
    have e : i = 10 := by omega
    subst e
    exact ye_flE h2 h3 (by omega) (kk P vs hB hl ho)
  | succ k ih =>
    intro i l P vs hi i0 hB hl h0 h1 h2 h3 ho kk
    refine ye_flI hB fB h0 h1 h2 h3 (by rw [hl.1]; rfl) (by omega) fun l P' g0 g1 g2 g3 hB' ho' => ih (by omega) (by omega) hB' (ye_arr_eq (ye_arr_put hl i0 (by omega)) fun j j0 j1 => ?_) g0 g1 g2 g3 (ye_oth_tr ho ho' (fun _ q => q)) kk
    unfold ye_put
    split <;> rfl
theorem ye_fill0 (hB : P[b]? = some (103, vs)) (fB : b < z_far) (hl : vs.length = 10) : ye_X xs d 40 [.ref b, ye_v v] P (fun _ P' => ∃ vs', P'[b]? = some (103, vs') ∧ ye_arr (fun _ => v) 10 vs' ∧ ye_oth [b] P P') := by
  refine ye_go ?_
  have a0 : z_get (lv_args 0 [.ref b, ye_v v]) 0 = some (.ref b) := rfl
  have a1 : z_get (lv_args 0 [.ref b, ye_v v]) 1 = some (ye_v v) := rfl
  refine z_r_pu (ins := (.iconst 0)) (len := 1) (t := 1) (st' := [ye_v 0]) rfl rfl rfl rfl rfl ?_
  refine z_r_is (kk := z_isI) (ins := (.istore_n 2)) (len := 1) (t := 2) (i := 2) rfl rfl rfl rfl rfl rfl rfl rfl (fun l l_1 k_2 => ?_)
  have l_3 := k_2 _ _ a0 (by decide) (Or.inl (by decide))
  have l_4 := k_2 _ _ a1 (by decide) (Or.inr (by show (1 : Nat) ≠ 2; decide))
  refine z_r_ld (kk := z_isA) (ins := (.aload_n 0)) (len := 1) (t := 3) (i := 0) rfl rfl rfl rfl rfl (fun _ => rfl) l_3 rfl ?_
  refine z_r_rd (ins := .arraylength) (len := 1) (t := 4) rfl rfl rfl rfl rfl (ye_len (n := 10) (z_lkn fB hB) (Nat.le_of_ble_eq_true rfl) (Nat.le_of_ble_eq_true rfl) (by omega)) ?_
  refine z_r_is (kk := z_isI) (ins := (.istore_n 3)) (len := 1) (t := 5) (i := 3) rfl rfl rfl rfl rfl rfl rfl rfl (fun l l_5 k_6 => ?_)
  have l_7 := k_6 _ _ l_3 (by decide) (Or.inl (by decide))
  have l_8 := k_6 _ _ l_4 (by decide) (Or.inl (by decide))
  have l_9 := k_6 _ _ l_1 (by decide) (Or.inr (by show (1 : Nat) ≠ 2; decide))
  exact ye_fl0L fB 10 (by omega) (Int.le_refl _) hB ⟨hl, fun i i0 i1 => absurd i1 (by omega)⟩ l_7 l_8 l_9 l_5 ye_oth_rf (fun P' vs' q1 q2 q3 => ⟨vs', q1, q2, q3⟩)
theorem ye_smI (hB : P[b]? = some (103, vs)) (fB : b < z_far) (hv : vs[i.toNat]? = some (ye_v e)) (h1 : z_get l 1 = some (ye_v acc)) (h2 : z_get l 2 = some (.ref b)) (h3 : z_get l 3 = some (ye_v 10)) (h4 : z_get l 4 = some (ye_v i)) (hi : 0 ≤ i ∧ i < 10) (hc : 0 ≤ acc ∧ acc ≤ 20000 ∧ 0 ≤ e ∧ e ≤ 999)
    (kk : ∀ l, z_get l 1 = some (ye_v (acc + e)) → z_get l 2 = some (.ref b) → z_get l 3 = some (ye_v 10) → z_get l 4 = some (ye_v (i + 1)) → z_Rh (z_G xs) d 70 Ψ (10, l, [], P, 0, 0)) : z_Rh (z_G xs) d 70 Ψ (10, l, [], P, 0, 0) := by
  refine z_r_ld (kk := z_isI) (ins := (.iload 4)) (len := 2) (t := 12) (i := 4) rfl rfl rfl rfl rfl (fun _ => rfl) h4 rfl ?_
  refine z_r_ld (kk := z_isI) (ins := (.iload_n 3)) (len := 1) (t := 13) (i := 3) rfl rfl rfl rfl rfl (fun _ => rfl) h3 rfl ?_
  refine z_r_jm (ins := (.if_icmp .ge 20)) (len := 3) (t := 16) rfl rfl rfl rfl (ye_jn (t := 33) rfl (by omega) (by omega) (by omega) (by omega) (by show ¬ (10 ≤ i); omega)) ?_
  refine z_r_ld (kk := z_isA) (ins := (.aload_n 2)) (len := 1) (t := 17) (i := 2) rfl rfl rfl rfl rfl (fun _ => rfl) h2 rfl ?_
  refine z_r_ld (kk := z_isI) (ins := (.iload 4)) (len := 2) (t := 19) (i := 4) rfl rfl rfl rfl rfl (fun _ => rfl) h4 rfl ?_
  refine z_r_rd (ins := .iaload) (len := 1) (t := 20) rfl rfl rfl rfl rfl (ye_al (t := 103) (p := i) (e := e) (z_lkn fB hB) (by omega) (by omega) hv) ?_
  refine z_r_is (kk := z_isI) (ins := (.istore 5)) (len := 2) (t := 22) (i := 5) rfl rfl rfl rfl rfl rfl rfl rfl (fun l l_1 k_2 => ?_)
  have l_3 := k_2 _ _ h1 (by decide) (Or.inl (by decide))
  have l_4 := k_2 _ _ h2 (by decide) (Or.inl (by decide))
  have l_5 := k_2 _ _ h3 (by decide) (Or.inl (by decide))
  have l_6 := k_2 _ _ h4 (by decide) (Or.inr (by show (1 : Nat) ≠ 2; decide))
  refine z_r_ld (kk := z_isI) (ins := (.iload_n 1)) (len := 1) (t := 23) (i := 1) rfl rfl rfl rfl rfl (fun _ => rfl) l_3 rfl ?_
  refine z_r_ld (kk := z_isI) (ins := (.iload 5)) (len := 2) (t := 25) (i := 5) rfl rfl rfl rfl rfl (fun _ => rfl) l_1 rfl ?_
  refine z_r_pu (ins := .iadd) (len := 1) (t := 26) rfl rfl rfl rfl ye_add ?_
  refine z_r_is (kk := z_isI) (ins := (.istore_n 1)) (len := 1) (t := 27) (i := 1) rfl rfl rfl rfl rfl rfl rfl rfl (fun l l_7 k_8 => ?_)
  have l_9 := k_8 _ _ l_4 (by decide) (Or.inl (by decide))
  have l_10 := k_8 _ _ l_5 (by decide) (Or.inl (by decide))
  have l_11 := k_8 _ _ l_6 (by decide) (Or.inl (by decide))
  have l_12 := k_8 _ _ l_1 (by decide) (Or.inl (by decide))
  refine ye_ic (ins := (.iinc 4 1)) (len := 3) (t := 30) (i := 4) (a := i) (kk := 1) rfl rfl rfl rfl rfl rfl l_11 (fun l l_13 k_14 => ?_)
  have l_15 := k_14 _ _ l_7 (by decide) (Or.inl (by decide))
  have l_16 := k_14 _ _ l_9 (by decide) (Or.inl (by decide))
  have l_17 := k_14 _ _ l_10 (by decide) (Or.inr (by show (1 : Nat) ≠ 2; decide))
  have l_18 := k_14 _ _ l_12 (by decide) (Or.inl (by decide))
  refine z_r_jm (ins := (.goto (-20))) (len := 3) (t := 10) rfl rfl rfl rfl (z_gty rfl) ?_
  exact kk _ l_15 l_16 l_17 l_13
theorem ye_smE {R : Option Value → z_H → Prop} (h1 : z_get l 1 = some (ye_v acc)) (h3 : z_get l 3 = some (ye_v 10)) (h4 : z_get l 4 = some (ye_v i)) (hi : i = 10) (k : R (some (ye_v acc)) P) : z_Rh (z_G xs) d 70 (ye_E xs d 70 R) (10, l, [], P, 0, 0) := by
  refine z_r_ld (kk := z_isI) (ins := (.iload 4)) (len := 2) (t := 12) (i := 4) rfl rfl rfl rfl rfl (fun _ => rfl) h4 rfl ?_
  refine z_r_ld (kk := z_isI) (ins := (.iload_n 3)) (len := 1) (t := 13) (i := 3) rfl rfl rfl rfl rfl (fun _ => rfl) h3 rfl ?_
  refine z_r_jm (ins := (.if_icmp .ge 20)) (len := 3) (t := 33) rfl rfl rfl rfl (ye_jy (t := 33) rfl (by omega) (by omega) (by omega) (by omega) (by show 10 ≤ i; omega)) ?_
  refine z_r_ld (kk := z_isI) (ins := (.iload_n 1)) (len := 1) (t := 34) (i := 1) rfl rfl rfl rfl rfl (fun _ => rfl) h1 rfl ?_
  refine ye_ret (ins := .ireturn) rfl rfl rfl (ye_reti rfl) ?_
  exact k
theorem ye_smL {R : Option Value → z_H → Prop} (hB : P[b]? = some (103, vs)) (fB : b < z_far) (hg : ye_arr g 10 vs) (hb : ∀ i, 0 ≤ g i ∧ g i ≤ 999) (kk : R (some (ye_v (yh_sum g 10))) P) : ∀ (j k : Nat) {l : z_L}, k + j = 10 → z_get l 1 = some (ye_v (yh_sum g k)) → z_get l 2 = some (.ref b) → z_get l 3 = some (ye_v 10) → z_get l 4 = some (ye_v (k : Int)) → z_Rh (z_G xs) d 70 (ye_E xs d 70 R) (10, l, [], P, 0, 0) := by
  intro j
  induction j with
  | zero =>
    intro k l hk h1 h2 h3 h4
    have e : k = 10 := by omega
    subst e
    exact ye_smE h1 h3 h4 rfl kk
  | succ j ih =>
    intro k l hk h1 h2 h3 h4
    have s1 := yh_sum_bd hb k
    have s2 := hb (k : Int)
    exact ye_smI hB fB (hg.2 (k : Int) (by omega) (by omega)) h1 h2 h3 h4 (by omega) (by omega) fun l g1 g2 g3 g4 => ih (k + 1) (by omega) g1 g2 g3 g4
theorem ye_sumOf (hB : P[b]? = some (103, vs)) (fB : b < z_far) (hg : ye_arr g 10 vs) (hb : ∀ i, 0 ≤ g i ∧ g i ≤ 999) : ye_X xs d 70 [.ref b] P (fun r P' => P' = P ∧ r = some (ye_v (yh_sum g 10))) := by
  refine ye_go ?_
  have a0 : z_get (lv_args 0 [.ref b]) 0 = some (.ref b) := rfl
  refine z_r_pu (ins := (.iconst 0)) (len := 1) (t := 1) (st' := [ye_v 0]) rfl rfl rfl rfl rfl ?_
  refine z_r_is (kk := z_isI) (ins := (.istore_n 1)) (len := 1) (t := 2) (i := 1) rfl rfl rfl rfl rfl rfl rfl rfl (fun l l_1 k_2 => ?_)
  have l_3 := k_2 _ _ a0 (by decide) (Or.inr (by show (1 : Nat) ≠ 2; decide))
  refine z_r_ld (kk := z_isA) (ins := (.aload_n 0)) (len := 1) (t := 3) (i := 0) rfl rfl rfl rfl rfl (fun _ => rfl) l_3 rfl ?_
  refine z_r_is (kk := z_isA) (ins := (.astore_n 2)) (len := 1) (t := 4) (i := 2) rfl rfl rfl rfl rfl rfl rfl rfl (fun l l_4 k_5 => ?_)
  have l_6 := k_5 _ _ l_3 (by decide) (Or.inl (by decide))
  have l_7 := k_5 _ _ l_1 (by decide) (Or.inr (by show (1 : Nat) ≠ 2; decide))
  refine z_r_ld (kk := z_isA) (ins := (.aload_n 2)) (len := 1) (t := 5) (i := 2) rfl rfl rfl rfl rfl (fun _ => rfl) l_4 rfl ?_
  refine z_r_rd (ins := .arraylength) (len := 1) (t := 6) rfl rfl rfl rfl rfl (ye_len (n := 10) (z_lkn fB hB) (Nat.le_of_ble_eq_true rfl) (Nat.le_of_ble_eq_true rfl) (by rw [hg.1]; rfl)) ?_
  refine z_r_is (kk := z_isI) (ins := (.istore_n 3)) (len := 1) (t := 7) (i := 3) rfl rfl rfl rfl rfl rfl rfl rfl (fun l l_8 k_9 => ?_)
  have l_10 := k_9 _ _ l_6 (by decide) (Or.inl (by decide))
  have l_11 := k_9 _ _ l_7 (by decide) (Or.inl (by decide))
  have l_12 := k_9 _ _ l_4 (by decide) (Or.inr (by show (1 : Nat) ≠ 2; decide))
  refine z_r_pu (ins := (.iconst 0)) (len := 1) (t := 8) (st' := [ye_v 0]) rfl rfl rfl rfl rfl ?_
  refine z_r_is (kk := z_isI) (ins := (.istore 4)) (len := 2) (t := 10) (i := 4) rfl rfl rfl rfl rfl rfl rfl rfl (fun l l_13 k_14 => ?_)
  have l_15 := k_14 _ _ l_10 (by decide) (Or.inl (by decide))
  have l_16 := k_14 _ _ l_11 (by decide) (Or.inl (by decide))
  have l_17 := k_14 _ _ l_12 (by decide) (Or.inl (by decide))
  have l_18 := k_14 _ _ l_8 (by decide) (Or.inr (by show (1 : Nat) ≠ 2; decide))
  exact ye_smL hB fB hg hb ⟨rfl, rfl⟩ 10 0 (by omega) l_16 l_17 l_18 l_13
theorem ye_shI (hX : P[aX]? = some (0, xv)) (fX : aX < z_far) (x2 : xv[2]? = some (.ref aN)) (hN : P[aN]? = some (3, nv)) (fN : aN < z_far) (n5 : nv[5]? = some (ye_v so)) (hr : P[r0]? = some (103, rv)) (fr : r0 < z_far) (hl : rv.length = 10)
    (h0 : z_get l 0 = some (.ref aX)) (h2 : z_get l 2 = some (ye_v k)) (h3 : z_get l 3 = some (ye_v n)) (h4 : z_get l 4 = some (.int f)) (h5 : z_get l 5 = some (.int sp)) (h6 : z_get l 6 = some (.ref r0)) (h7 : z_get l 7 = some (ye_v i)) (hk : 0 ≤ k ∧ k < 3) (hi : 0 ≤ i ∧ i < n ∧ i < so ∧ n ≤ 10 ∧ so ≤ 10) (hd : 3 ≤ d)
    (kk : ∀ l P' rv', z_get l 0 = some (.ref aX) → z_get l 2 = some (ye_v k) → z_get l 3 = some (ye_v n) → z_get l 4 = some (.int f) → z_get l 5 = some (.int sp) → z_get l 6 = some (.ref r0) → z_get l 7 = some (ye_v (i + 1)) → P'[r0]? = some (103, rv') → rv' = rv.set i.toNat (ye_v (yh_en k (f + Int32.ofInt i * sp))) → ye_oth [r0] P P' → z_Rh (z_G xs) d 67 Ψ (64, l, [], P', 0, 0)) : z_Rh (z_G xs) d 67 Ψ (64, l, [], P, 0, 0) := by
  have ho0 : ye_oth [r0] P P := ye_oth_rf
  refine z_r_ld (kk := z_isI) (ins := (.iload 7)) (len := 2) (t := 66) (i := 7) rfl rfl rfl rfl rfl (fun _ => rfl) h7 rfl ?_
  refine z_r_ld (kk := z_isI) (ins := (.iload_n 3)) (len := 1) (t := 67) (i := 3) rfl rfl rfl rfl rfl (fun _ => rfl) h3 rfl ?_
  refine z_r_jm (ins := (.if_icmp .ge 39)) (len := 3) (t := 70) rfl rfl rfl rfl (ye_jn (t := 106) rfl (by omega) (by omega) (by omega) (by omega) (by show ¬ (n ≤ i); omega)) ?_
  refine z_r_ld (kk := z_isI) (ins := (.iload 7)) (len := 2) (t := 72) (i := 7) rfl rfl rfl rfl rfl (fun _ => rfl) h7 rfl ?_
  refine z_r_ld (kk := z_isA) (ins := (.aload_n 0)) (len := 1) (t := 73) (i := 0) rfl rfl rfl rfl rfl (fun _ => rfl) h0 rfl ?_
  refine z_r_rd (ins := (.getfield 26)) (len := 3) (t := 76) rfl rfl rfl rfl rfl (z_gfv (ci := 0) (k := 2) (v := .ref aN) rfl (z_lkn fX hX) (by decide) x2) ?_
  refine z_r_rd (ins := (.getfield 128)) (len := 3) (t := 79) rfl rfl rfl rfl rfl (z_gfv (ci := 3) (k := 5) (v := ye_v so) rfl (z_lkn fN hN) (by decide) n5) ?_
  refine z_r_jm (ins := (.if_icmp .ge 27)) (len := 3) (t := 82) rfl rfl rfl rfl (ye_jn (t := 106) rfl (by omega) (by omega) (by omega) (by omega) (by show ¬ (so ≤ i); omega)) ?_
  refine z_r_ld (kk := z_isA) (ins := (.aload 6)) (len := 2) (t := 84) (i := 6) rfl rfl rfl rfl rfl (fun _ => rfl) h6 rfl ?_
  refine z_r_ld (kk := z_isI) (ins := (.iload 7)) (len := 2) (t := 86) (i := 7) rfl rfl rfl rfl rfl (fun _ => rfl) h7 rfl ?_
  refine z_r_ld (kk := z_isA) (ins := (.aload_n 0)) (len := 1) (t := 87) (i := 0) rfl rfl rfl rfl rfl (fun _ => rfl) h0 rfl ?_
  refine z_r_ld (kk := z_isI) (ins := (.iload_n 2)) (len := 1) (t := 88) (i := 2) rfl rfl rfl rfl rfl (fun _ => rfl) h2 rfl ?_
  refine z_r_ld (kk := z_isI) (ins := (.iload 4)) (len := 2) (t := 90) (i := 4) rfl rfl rfl rfl rfl (fun _ => rfl) h4 rfl ?_
  refine z_r_ld (kk := z_isI) (ins := (.iload 7)) (len := 2) (t := 92) (i := 7) rfl rfl rfl rfl rfl (fun _ => rfl) h7 rfl ?_
  refine z_r_ld (kk := z_isI) (ins := (.iload 5)) (len := 2) (t := 94) (i := 5) rfl rfl rfl rfl rfl (fun _ => rfl) h5 rfl ?_
  refine z_r_pu (ins := .imul) (len := 1) (t := 95) (st' := [.int ((Int32.ofInt i) * sp), .int f, ye_v k, .ref aX, ye_v i, .ref r0]) rfl rfl rfl rfl rfl ?_
  refine z_r_pu (ins := .iadd) (len := 1) (t := 96) (st' := [.int (f + ((Int32.ofInt i) * sp)), ye_v k, .ref aX, ye_v i, .ref r0]) rfl rfl rfl rfl rfl ?_
  refine ye_ca (ins := (.invokevirtual 196)) (kd := 1) (t := 99) rfl rfl (by decide) (z_argsv rfl rfl rfl (by omega) (Nat.le_of_ble_eq_true rfl) rfl (Nat.le_of_ble_eq_true rfl) (Nat.le_refl _) (Nat.le_refl _) (Or.inr (Nat.le_of_ble_eq_true rfl)) (Or.inr (z_atv (z_lkn fX hX) rfl))) rfl rfl rfl (ye_entry (aX := aX) (k := k) (w := (f + ((Int32.ofInt i) * sp))) (by omega) (by omega)) ?_
  rintro _ _ ⟨rfl, rfl⟩
  have be := yh_en_bd (k := k) (x := (f + ((Int32.ofInt i) * sp)))
  refine ye_r_wr (ins := .iastore) (len := 1) (t := 100) (a := r0) (q := (103, rv.set (i).toNat (ye_v (yh_en k ((f + ((Int32.ofInt i) * sp))))))) rfl rfl rfl rfl rfl hr (ye_as (t := 103) (nf := fun x => x) (p := i) (e := yh_en k ((f + ((Int32.ofInt i) * sp)))) (e' := yh_en k ((f + ((Int32.ofInt i) * sp)))) hr (by omega) (by omega) (by omega) rfl) (fun P_1 c_2 o_3 => ?_)
  have c_4 := ye_kp o_3 (ye_n1 (ye_ne hN hr (by decide))) hN
  have c_5 := ye_kp o_3 (ye_n1 (ye_ne hX hr (by decide))) hX
  have o_6 := ye_oth_tr ho0 o_3 (ye_s1 (List.mem_cons_self))
  refine ye_ic (ins := (.iinc 7 1)) (len := 3) (t := 103) (i := 7) (a := i) (kk := 1) rfl rfl rfl rfl rfl rfl h7 (fun l l_7 k_8 => ?_)
  have l_9 := k_8 _ _ h0 (by decide) (Or.inl (by decide))
  have l_10 := k_8 _ _ h2 (by decide) (Or.inl (by decide))
  have l_11 := k_8 _ _ h3 (by decide) (Or.inl (by decide))
  have l_12 := k_8 _ _ h4 (by decide) (Or.inl (by decide))
  have l_13 := k_8 _ _ h5 (by decide) (Or.inl (by decide))
  have l_14 := k_8 _ _ h6 (by decide) (Or.inr (by show (1 : Nat) ≠ 2; decide))
  refine z_r_jm (ins := (.goto (-39))) (len := 3) (t := 64) rfl rfl rfl rfl (z_gty rfl) ?_
  exact kk _ _ _ l_9 l_10 l_11 l_12 l_13 l_14 l_7 c_2 rfl o_6
theorem ye_shE {R : Option Value → z_H → Prop} (hX : P[aX]? = some (0, xv)) (fX : aX < z_far) (x2 : xv[2]? = some (.ref aN)) (hN : P[aN]? = some (3, nv)) (fN : aN < z_far) (n5 : nv[5]? = some (ye_v so)) (hr : P[r0]? = some (103, rv)) (fr : r0 < z_far) (hg : ye_arr g 10 rv) (hgb : ∀ i, 0 ≤ g i ∧ g i ≤ 999) (h0 : z_get l 0 = some (.ref aX)) (h3 : z_get l 3 = some (ye_v n)) (h6 : z_get l 6 = some (.ref r0)) (h7 : z_get l 7 = some (ye_v i)) (hi : 0 ≤ i ∧ i ≤ 10 ∧ (n ≤ i ∨ so ≤ i) ∧ 0 ≤ n ∧ n ≤ 10 ∧ 0 ≤ so ∧ so ≤ 10) (hd : 1 ≤ d) (k : ∀ P', R (some (ye_v (yh_sum g 10))) P') : z_Rh (z_G xs) d 67 (ye_E xs d 67 R) (64, l, [], P, 0, 0) := by
  have ho0 : ye_oth [r0] P P := ye_oth_rf
  refine z_r_ld (kk := z_isI) (ins := (.iload 7)) (len := 2) (t := 66) (i := 7) rfl rfl rfl rfl rfl (fun _ => rfl) h7 rfl ?_
  refine z_r_ld (kk := z_isI) (ins := (.iload_n 3)) (len := 1) (t := 67) (i := 3) rfl rfl rfl rfl rfl (fun _ => rfl) h3 rfl ?_
  by_cases b_1 : n ≤ i
  · skip
    refine z_r_jm (ins := (.if_icmp .ge 39)) (len := 3) (t := 106) rfl rfl rfl rfl (ye_jy (t := 106) rfl (by omega) (by omega) (by omega) (by omega) b_1) ?_
    refine z_r_ld (kk := z_isA) (ins := (.aload 6)) (len := 2) (t := 108) (i := 6) rfl rfl rfl rfl rfl (fun _ => rfl) h6 rfl ?_
    refine ye_ca (ins := (.invokestatic 199)) (kd := 0) (t := 111) rfl rfl (by decide) (z_argsv rfl rfl rfl (by omega) (Nat.le_of_ble_eq_true rfl) rfl (Nat.le_of_ble_eq_true rfl) (Nat.le_refl _) (Nat.le_refl _) (Or.inl rfl) (Or.inl rfl)) rfl rfl rfl (ye_sumOf hr fr hg hgb) ?_
    rintro _ _ ⟨rfl, rfl⟩
    refine ye_ret (ins := .ireturn) rfl rfl rfl (ye_reti rfl) ?_
    exact k _
  · skip
    refine z_r_jm (ins := (.if_icmp .ge 39)) (len := 3) (t := 70) rfl rfl rfl rfl (ye_jn (t := 106) rfl (by omega) (by omega) (by omega) (by omega) b_1) ?_
    refine z_r_ld (kk := z_isI) (ins := (.iload 7)) (len := 2) (t := 72) (i := 7) rfl rfl rfl rfl rfl (fun _ => rfl) h7 rfl ?_
    refine z_r_ld (kk := z_isA) (ins := (.aload_n 0)) (len := 1) (t := 73) (i := 0) rfl rfl rfl rfl rfl (fun _ => rfl) h0 rfl ?_
    refine z_r_rd (ins := (.getfield 26)) (len := 3) (t := 76) rfl rfl rfl rfl rfl (z_gfv (ci := 0) (k := 2) (v := .ref aN) rfl (z_lkn fX hX) (by decide) x2) ?_
    refine z_r_rd (ins := (.getfield 128)) (len := 3) (t := 79) rfl rfl rfl rfl rfl (z_gfv (ci := 3) (k := 5) (v := ye_v so) rfl (z_lkn fN hN) (by decide) n5) ?_
    by_cases b_2 : so ≤ i
    · skip
      refine z_r_jm (ins := (.if_icmp .ge 27)) (len := 3) (t := 106) rfl rfl rfl rfl (ye_jy (t := 106) rfl (by omega) (by omega) (by omega) (by omega) b_2) ?_
      refine z_r_ld (kk := z_isA) (ins := (.aload 6)) (len := 2) (t := 108) (i := 6) rfl rfl rfl rfl rfl (fun _ => rfl) h6 rfl ?_
      refine ye_ca (ins := (.invokestatic 199)) (kd := 0) (t := 111) rfl rfl (by decide) (z_argsv rfl rfl rfl (by omega) (Nat.le_of_ble_eq_true rfl) rfl (Nat.le_of_ble_eq_true rfl) (Nat.le_refl _) (Nat.le_refl _) (Or.inl rfl) (Or.inl rfl)) rfl rfl rfl (ye_sumOf hr fr hg hgb) ?_
      rintro _ _ ⟨rfl, rfl⟩
      refine ye_ret (ins := .ireturn) rfl rfl rfl (ye_reti rfl) ?_
      exact k _
    · skip
      refine z_r_jm (ins := (.if_icmp .ge 27)) (len := 3) (t := 82) rfl rfl rfl rfl (ye_jn (t := 106) rfl (by omega) (by omega) (by omega) (by omega) b_2) ?_
      omega
theorem yh_g_step {k n : Int} {f sp : Int32} {i j : Int} (hi : i < n) : ye_put (yh_g k n f sp i) i (yh_en k (f + Int32.ofInt i * sp)) j = yh_g k n f sp (i + 1) j := by
  unfold ye_put yh_g
  by_cases h : j = i
  · subst h
    rw [if_pos rfl, if_pos ⟨by omega, hi⟩]
  · rw [if_neg h]
    by_cases h2 : j < i ∧ j < n
    · rw [if_pos h2, if_pos ⟨by omega, h2.2⟩]
    · rw [if_neg h2, if_neg (by omega)]
theorem ye_shL {R : Option Value → z_H → Prop} (fX : aX < z_far) (x2 : xv[2]? = some (.ref aN)) (fN : aN < z_far) (n5 : nv[5]? = some (ye_v so)) (fr : r0 < z_far) (hk : 0 ≤ k ∧ k < 3) (hn : 0 ≤ n ∧ n ≤ 10) (hso : 0 ≤ so ∧ so ≤ 10) (hd : 3 ≤ d) (kk : ∀ P', R (some (ye_v (yh_sum (yh_g k n f sp so) 10))) P') : ∀ (q : Nat) {i : Int} {l : z_L} {P : z_H} {rv : List Value}, i + q = so → 0 ≤ i → P[aX]? = some (0, xv) → P[aN]? = some (3, nv) → P[r0]? = some (103, rv) → ye_arr (yh_g k n f sp i) 10 rv → z_get l 0 = some (.ref aX) → z_get l 2 = some (ye_v k) → z_get l 3 = some (ye_v n) → z_get l 4 = some (.int f) → z_get l 5 = some (.int sp) → z_get l 6 = some (.ref r0) → z_get l 7 = some (ye_v i) → z_Rh (z_G xs) d 67 (ye_E xs d 67 R) (64, l, [], P, 0, 0) := by
  intro q
  induction q with
  | zero =>
    intro i l P rv hi i0 hX hN hr hg h0 h2 h3 h4 h5 h6 h7
    have e : i = so := by omega
    subst e
    exact ye_shE hX fX x2 hN fN n5 hr fr hg (fun _ => yh_g_bd) h0 h3 h6 h7 (by omega) (by omega) kk
  | succ q ih =>
    intro i l P rv hi i0 hX hN hr hg h0 h2 h3 h4 h5 h6 h7
    by_cases hc : n ≤ i
    · have e : ∀ j, yh_g k n f sp i j = yh_g k n f sp so j := fun j => by
        unfold yh_g
        by_cases h : j < n
        · rw [if_pos ⟨by omega, h⟩, if_pos ⟨by omega, h⟩]
        · rw [if_neg (by omega), if_neg (by omega)]
      exact ye_shE hX fX x2 hN fN n5 hr fr (ye_arr_eq hg fun j _ _ => e j) (fun _ => yh_g_bd) h0 h3 h6 h7 (by omega) (by omega) kk
    · refine ye_shI hX fX x2 hN fN n5 hr fr hg.1 h0 h2 h3 h4 h5 h6 h7 hk (by omega) hd fun l P' rv' g0 g2 g3 g4 g5 g6 g7 hr' er ho' => ?_
      subst er
      exact ih (by omega) (by omega) (ye_kp ho' (ye_n1 (ye_ne hX hr (by decide))) hX) (ye_kp ho' (ye_n1 (ye_ne hN hr (by decide))) hN) hr' (ye_arr_eq (ye_arr_set hg i0 (by omega)) fun j _ _ => yh_g_step (by omega)) g0 g2 g3 g4 g5 g6 g7
theorem ye_Csheet (hX : P[aX]? = some (0, xv)) (fX : aX < z_far) (x2 : xv[2]? = some (.ref aN)) (x3 : xv[3]? = some (.ref aSt)) (hN : P[aN]? = some (3, nv)) (fN : aN < z_far) (n5 : nv[5]? = some (ye_v so)) (hSt : P[aSt]? = some (5, st)) (fSt : aSt < z_far) (t0 : st[0]? = some (.ref aH)) (hH : P[aH]? = some (105, hv)) (fH : aH < z_far) (hh : ∀ j, j < 6 → ∃ r0 rv, hv[j]? = some (.ref r0) ∧ r0 < z_far ∧ P[r0]? = some (103, rv) ∧ rv.length = 10)
    (hso : 0 ≤ so ∧ so ≤ 10) (bh : -2147483648 ≤ h ∧ h < 2147483648) (bk : -2147483648 ≤ k ∧ k < 2147483648) (bn : -2147483648 ≤ n ∧ n < 2147483648) (hd : 4 ≤ d) : ye_X xs d 67 [.ref aX, ye_v h, ye_v k, ye_v n, .int f, .int sp] P (fun r _ => r = some (ye_v (yh_sh so h k n f sp))) := by
  refine ye_go ?_
  have a0 : z_get (lv_args 0 [.ref aX, ye_v h, ye_v k, ye_v n, .int f, .int sp]) 0 = some (.ref aX) := rfl
  have a1 : z_get (lv_args 0 [.ref aX, ye_v h, ye_v k, ye_v n, .int f, .int sp]) 1 = some (ye_v h) := rfl
  have a2 : z_get (lv_args 0 [.ref aX, ye_v h, ye_v k, ye_v n, .int f, .int sp]) 2 = some (ye_v k) := rfl
  have a3 : z_get (lv_args 0 [.ref aX, ye_v h, ye_v k, ye_v n, .int f, .int sp]) 3 = some (ye_v n) := rfl
  have a4 : z_get (lv_args 0 [.ref aX, ye_v h, ye_v k, ye_v n, .int f, .int sp]) 4 = some (.int f) := rfl
  have a5 : z_get (lv_args 0 [.ref aX, ye_v h, ye_v k, ye_v n, .int f, .int sp]) 5 = some (.int sp) := rfl
  refine z_r_ld (kk := z_isI) (ins := (.iload_n 1)) (len := 1) (t := 1) (i := 1) rfl rfl rfl rfl rfl (fun _ => rfl) a1 rfl ?_
  refine ye_ca (ins := (.invokestatic 180)) (kd := 0) (t := 4) rfl rfl (by decide) (z_argsv rfl rfl rfl (by omega) (Nat.le_of_ble_eq_true rfl) rfl (Nat.le_of_ble_eq_true rfl) (Nat.le_refl _) (Nat.le_refl _) (Or.inl rfl) (Or.inl rfl)) rfl rfl rfl (ye_isHeapC (by omega)) ?_
  rintro _ _ ⟨rfl, b_1, rfl, h_2⟩
  by_cases b_3 : b_1 = 0
  · skip
    refine z_r_jm (ins := (.ifCond .eq 18)) (len := 3) (t := 22) rfl rfl rfl rfl (ye_iy (t := 22) rfl (by omega) (by omega) b_3) ?_
    refine z_r_pu (ins := (.iconst (-1))) (len := 1) (t := 23) (st' := [ye_v ((-1))]) rfl rfl rfl rfl rfl ?_
    refine ye_ret (ins := .ireturn) rfl rfl rfl (ye_reti rfl) ?_
    have ea : yh_sh so h k n f sp = (-1) := by
      unfold yh_sh
      exact if_pos (by omega)
    rw [ea]
  · skip
    refine z_r_jm (ins := (.ifCond .eq 18)) (len := 3) (t := 7) rfl rfl rfl rfl (ye_in (t := 22) rfl (by omega) (by omega) b_3) ?_
    refine z_r_ld (kk := z_isI) (ins := (.iload_n 2)) (len := 1) (t := 8) (i := 2) rfl rfl rfl rfl rfl (fun _ => rfl) a2 rfl ?_
    by_cases b_4 : k < 0
    · skip
      refine z_r_jm (ins := (.ifCond .lt 14)) (len := 3) (t := 22) rfl rfl rfl rfl (ye_iy (t := 22) rfl (by omega) (by omega) b_4) ?_
      refine z_r_pu (ins := (.iconst (-1))) (len := 1) (t := 23) (st' := [ye_v ((-1))]) rfl rfl rfl rfl rfl ?_
      refine ye_ret (ins := .ireturn) rfl rfl rfl (ye_reti rfl) ?_
      have ea : yh_sh so h k n f sp = (-1) := by
        unfold yh_sh
        exact if_pos (by omega)
      rw [ea]
    · skip
      refine z_r_jm (ins := (.ifCond .lt 14)) (len := 3) (t := 11) rfl rfl rfl rfl (ye_in (t := 22) rfl (by omega) (by omega) b_4) ?_
      refine z_r_ld (kk := z_isI) (ins := (.iload_n 2)) (len := 1) (t := 12) (i := 2) rfl rfl rfl rfl rfl (fun _ => rfl) a2 rfl ?_
      refine z_r_pu (ins := (.iconst 3)) (len := 1) (t := 13) (st' := [ye_v 3, ye_v k]) rfl rfl rfl rfl rfl ?_
      by_cases b_5 : 3 < k
      · skip
        refine z_r_jm (ins := (.if_icmp .gt 9)) (len := 3) (t := 22) rfl rfl rfl rfl (ye_jy (t := 22) rfl (by omega) (by omega) (by omega) (by omega) b_5) ?_
        refine z_r_pu (ins := (.iconst (-1))) (len := 1) (t := 23) (st' := [ye_v ((-1))]) rfl rfl rfl rfl rfl ?_
        refine ye_ret (ins := .ireturn) rfl rfl rfl (ye_reti rfl) ?_
        have ea : yh_sh so h k n f sp = (-1) := by
          unfold yh_sh
          exact if_pos (by omega)
        rw [ea]
      · skip
        refine z_r_jm (ins := (.if_icmp .gt 9)) (len := 3) (t := 16) rfl rfl rfl rfl (ye_jn (t := 22) rfl (by omega) (by omega) (by omega) (by omega) b_5) ?_
        refine z_r_ld (kk := z_isI) (ins := (.iload_n 3)) (len := 1) (t := 17) (i := 3) rfl rfl rfl rfl rfl (fun _ => rfl) a3 rfl ?_
        refine z_r_pu (ins := (.bipush 10)) (len := 2) (t := 19) rfl rfl rfl rfl (ye_bi (by decide) (by decide)) ?_
        by_cases b_6 : n ≤ 10
        · skip
          refine z_r_jm (ins := (.if_icmp .le 5)) (len := 3) (t := 24) rfl rfl rfl rfl (ye_jy (t := 24) rfl (by omega) (by omega) (by omega) (by omega) b_6) ?_
          refine z_r_ld (kk := z_isI) (ins := (.iload_n 2)) (len := 1) (t := 25) (i := 2) rfl rfl rfl rfl rfl (fun _ => rfl) a2 rfl ?_
          refine z_r_pu (ins := (.iconst 3)) (len := 1) (t := 26) (st' := [ye_v 3, ye_v k]) rfl rfl rfl rfl rfl ?_
          by_cases b_7 : 3 ≤ k
          · skip
            refine z_r_jm (ins := (.if_icmp .ge 10)) (len := 3) (t := 36) rfl rfl rfl rfl (ye_jy (t := 36) rfl (by omega) (by omega) (by omega) (by omega) b_7) ?_
            refine z_r_ld (kk := z_isA) (ins := (.aload_n 0)) (len := 1) (t := 37) (i := 0) rfl rfl rfl rfl rfl (fun _ => rfl) a0 rfl ?_
            refine z_r_rd (ins := (.getfield 33)) (len := 3) (t := 40) rfl rfl rfl rfl rfl (z_gfv (ci := 0) (k := 3) (v := .ref aSt) rfl (z_lkn fX hX) (by decide) x3) ?_
            refine z_r_rd (ins := (.getfield 134)) (len := 3) (t := 43) rfl rfl rfl rfl rfl (z_gfv (ci := 5) (k := 0) (v := .ref aH) rfl (z_lkn fSt hSt) (by decide) t0) ?_
            refine z_r_ld (kk := z_isI) (ins := (.iload_n 1)) (len := 1) (t := 44) (i := 1) rfl rfl rfl rfl rfl (fun _ => rfl) a1 rfl ?_
            obtain ⟨r0, rv, hj, fr, hr, hrl⟩ := hh h.toNat (by omega)
            refine z_r_rd (ins := .aaload) (len := 1) (t := 45) rfl rfl rfl rfl rfl (ye_aal (p := h) (z_lkn fH hH) (Nat.le_of_ble_eq_true rfl) (Nat.le_of_ble_eq_true rfl) (by omega) (by omega) hj) ?_
            refine z_r_is (kk := z_isA) (ins := (.astore 6)) (len := 2) (t := 47) (i := 6) rfl rfl rfl rfl rfl rfl rfl rfl (fun l l_8 k_9 => ?_)
            have l_10 := k_9 _ _ a0 (by decide) (Or.inl (by decide))
            have l_11 := k_9 _ _ a1 (by decide) (Or.inl (by decide))
            have l_12 := k_9 _ _ a2 (by decide) (Or.inl (by decide))
            have l_13 := k_9 _ _ a3 (by decide) (Or.inl (by decide))
            have l_14 := k_9 _ _ a4 (by decide) (Or.inl (by decide))
            have l_15 := k_9 _ _ a5 (by decide) (Or.inr (by show (1 : Nat) ≠ 2; decide))
            refine z_r_ld (kk := z_isA) (ins := (.aload 6)) (len := 2) (t := 49) (i := 6) rfl rfl rfl rfl rfl (fun _ => rfl) l_8 rfl ?_
            refine z_r_pu (ins := (.iconst 0)) (len := 1) (t := 50) (st' := [ye_v 0, .ref r0]) rfl rfl rfl rfl rfl ?_
            refine ye_cav (ins := (.invokestatic 190)) (kd := 0) (t := 53) rfl rfl (by decide) (z_argsv rfl rfl rfl (by omega) (Nat.le_of_ble_eq_true rfl) rfl (Nat.le_of_ble_eq_true rfl) (Nat.le_refl _) (Nat.le_refl _) (Or.inl rfl) (Or.inl rfl)) rfl rfl rfl rfl (ye_fill0 hr fr hrl) ?_
            rintro _ P_16 ⟨v_17, c_18, y_19, o_20⟩
            have c_21 := ye_kp o_20 (ye_n1 (ye_ne hX hr (by decide))) hX
            have c_22 := ye_kp o_20 (ye_n1 (ye_ne hN hr (by decide))) hN
            have c_23 := ye_kp o_20 (ye_n1 (ye_ne hSt hr (by decide))) hSt
            have c_24 := ye_kp o_20 (ye_n1 (ye_ne hH hr (by decide))) hH
            refine z_r_ld (kk := z_isI) (ins := (.iload_n 2)) (len := 1) (t := 54) (i := 2) rfl rfl rfl rfl rfl (fun _ => rfl) l_12 rfl ?_
            refine z_r_pu (ins := (.iconst 3)) (len := 1) (t := 55) (st' := [ye_v 3, ye_v k]) rfl rfl rfl rfl rfl ?_
            by_cases b_25 : k ≠ 3
            · skip
              refine z_r_jm (ins := (.if_icmp .ne 6)) (len := 3) (t := 61) rfl rfl rfl rfl (ye_jy (t := 61) rfl (by omega) (by omega) (by omega) (by omega) b_25) ?_
              refine z_r_pu (ins := (.iconst 0)) (len := 1) (t := 62) (st' := [ye_v 0]) rfl rfl rfl rfl rfl ?_
              refine z_r_is (kk := z_isI) (ins := (.istore 7)) (len := 2) (t := 64) (i := 7) rfl rfl rfl rfl rfl rfl rfl rfl (fun l l_26 k_27 => ?_)
              have l_28 := k_27 _ _ l_10 (by decide) (Or.inl (by decide))
              have l_29 := k_27 _ _ l_11 (by decide) (Or.inl (by decide))
              have l_30 := k_27 _ _ l_12 (by decide) (Or.inl (by decide))
              have l_31 := k_27 _ _ l_13 (by decide) (Or.inl (by decide))
              have l_32 := k_27 _ _ l_14 (by decide) (Or.inl (by decide))
              have l_33 := k_27 _ _ l_15 (by decide) (Or.inl (by decide))
              have l_34 := k_27 _ _ l_8 (by decide) (Or.inr (by show (1 : Nat) ≠ 2; decide))
              have ea : yh_sh so h k n f sp = yh_sum (yh_g k n f sp so) 10 := by
                unfold yh_sh
                rw [if_neg (by omega), if_neg (by omega), if_neg (by omega)]
              rw [ea]
              have hg0 : ye_arr (yh_g k n f sp 0) 10 v_17 := ye_arr_eq y_19 fun j j0 _ => (if_neg (by omega)).symm
              exact ye_shL fX x2 fN n5 fr (by omega) (by omega) hso (by omega) (fun _ => rfl) so.toNat (by omega) (Int.le_refl _) c_21 c_22 c_18 hg0 l_28 l_30 l_31 l_32 l_33 l_34 l_26
            · skip
              refine z_r_jm (ins := (.if_icmp .ne 6)) (len := 3) (t := 58) rfl rfl rfl rfl (ye_jn (t := 61) rfl (by omega) (by omega) (by omega) (by omega) b_25) ?_
              refine z_r_pu (ins := (.bipush (-3))) (len := 2) (t := 60) rfl rfl rfl rfl (ye_bi (by decide) (by decide)) ?_
              refine ye_ret (ins := .ireturn) rfl rfl rfl (ye_reti rfl) ?_
              have ea : yh_sh so h k n f sp = (-3) := by
                unfold yh_sh
                rw [if_neg (by omega), if_neg (by omega), if_pos (by omega)]
              rw [ea]
          · skip
            refine z_r_jm (ins := (.if_icmp .ge 10)) (len := 3) (t := 29) rfl rfl rfl rfl (ye_jn (t := 36) rfl (by omega) (by omega) (by omega) (by omega) b_7) ?_
            refine z_r_ld (kk := z_isI) (ins := (.iload_n 3)) (len := 1) (t := 30) (i := 3) rfl rfl rfl rfl rfl (fun _ => rfl) a3 rfl ?_
            by_cases b_35 : 0 ≤ n
            · skip
              refine z_r_jm (ins := (.ifCond .ge 6)) (len := 3) (t := 36) rfl rfl rfl rfl (ye_iy (t := 36) rfl (by omega) (by omega) b_35) ?_
              refine z_r_ld (kk := z_isA) (ins := (.aload_n 0)) (len := 1) (t := 37) (i := 0) rfl rfl rfl rfl rfl (fun _ => rfl) a0 rfl ?_
              refine z_r_rd (ins := (.getfield 33)) (len := 3) (t := 40) rfl rfl rfl rfl rfl (z_gfv (ci := 0) (k := 3) (v := .ref aSt) rfl (z_lkn fX hX) (by decide) x3) ?_
              refine z_r_rd (ins := (.getfield 134)) (len := 3) (t := 43) rfl rfl rfl rfl rfl (z_gfv (ci := 5) (k := 0) (v := .ref aH) rfl (z_lkn fSt hSt) (by decide) t0) ?_
              refine z_r_ld (kk := z_isI) (ins := (.iload_n 1)) (len := 1) (t := 44) (i := 1) rfl rfl rfl rfl rfl (fun _ => rfl) a1 rfl ?_
              obtain ⟨r0, rv, hj, fr, hr, hrl⟩ := hh h.toNat (by omega)
              refine z_r_rd (ins := .aaload) (len := 1) (t := 45) rfl rfl rfl rfl rfl (ye_aal (p := h) (z_lkn fH hH) (Nat.le_of_ble_eq_true rfl) (Nat.le_of_ble_eq_true rfl) (by omega) (by omega) hj) ?_
              refine z_r_is (kk := z_isA) (ins := (.astore 6)) (len := 2) (t := 47) (i := 6) rfl rfl rfl rfl rfl rfl rfl rfl (fun l l_36 k_37 => ?_)
              have l_38 := k_37 _ _ a0 (by decide) (Or.inl (by decide))
              have l_39 := k_37 _ _ a1 (by decide) (Or.inl (by decide))
              have l_40 := k_37 _ _ a2 (by decide) (Or.inl (by decide))
              have l_41 := k_37 _ _ a3 (by decide) (Or.inl (by decide))
              have l_42 := k_37 _ _ a4 (by decide) (Or.inl (by decide))
              have l_43 := k_37 _ _ a5 (by decide) (Or.inr (by show (1 : Nat) ≠ 2; decide))
              refine z_r_ld (kk := z_isA) (ins := (.aload 6)) (len := 2) (t := 49) (i := 6) rfl rfl rfl rfl rfl (fun _ => rfl) l_36 rfl ?_
              refine z_r_pu (ins := (.iconst 0)) (len := 1) (t := 50) (st' := [ye_v 0, .ref r0]) rfl rfl rfl rfl rfl ?_
              refine ye_cav (ins := (.invokestatic 190)) (kd := 0) (t := 53) rfl rfl (by decide) (z_argsv rfl rfl rfl (by omega) (Nat.le_of_ble_eq_true rfl) rfl (Nat.le_of_ble_eq_true rfl) (Nat.le_refl _) (Nat.le_refl _) (Or.inl rfl) (Or.inl rfl)) rfl rfl rfl rfl (ye_fill0 hr fr hrl) ?_
              rintro _ P_44 ⟨v_45, c_46, y_47, o_48⟩
              have c_49 := ye_kp o_48 (ye_n1 (ye_ne hX hr (by decide))) hX
              have c_50 := ye_kp o_48 (ye_n1 (ye_ne hN hr (by decide))) hN
              have c_51 := ye_kp o_48 (ye_n1 (ye_ne hSt hr (by decide))) hSt
              have c_52 := ye_kp o_48 (ye_n1 (ye_ne hH hr (by decide))) hH
              refine z_r_ld (kk := z_isI) (ins := (.iload_n 2)) (len := 1) (t := 54) (i := 2) rfl rfl rfl rfl rfl (fun _ => rfl) l_40 rfl ?_
              refine z_r_pu (ins := (.iconst 3)) (len := 1) (t := 55) (st' := [ye_v 3, ye_v k]) rfl rfl rfl rfl rfl ?_
              by_cases b_53 : k ≠ 3
              · skip
                refine z_r_jm (ins := (.if_icmp .ne 6)) (len := 3) (t := 61) rfl rfl rfl rfl (ye_jy (t := 61) rfl (by omega) (by omega) (by omega) (by omega) b_53) ?_
                refine z_r_pu (ins := (.iconst 0)) (len := 1) (t := 62) (st' := [ye_v 0]) rfl rfl rfl rfl rfl ?_
                refine z_r_is (kk := z_isI) (ins := (.istore 7)) (len := 2) (t := 64) (i := 7) rfl rfl rfl rfl rfl rfl rfl rfl (fun l l_54 k_55 => ?_)
                have l_56 := k_55 _ _ l_38 (by decide) (Or.inl (by decide))
                have l_57 := k_55 _ _ l_39 (by decide) (Or.inl (by decide))
                have l_58 := k_55 _ _ l_40 (by decide) (Or.inl (by decide))
                have l_59 := k_55 _ _ l_41 (by decide) (Or.inl (by decide))
                have l_60 := k_55 _ _ l_42 (by decide) (Or.inl (by decide))
                have l_61 := k_55 _ _ l_43 (by decide) (Or.inl (by decide))
                have l_62 := k_55 _ _ l_36 (by decide) (Or.inr (by show (1 : Nat) ≠ 2; decide))
                have ea : yh_sh so h k n f sp = yh_sum (yh_g k n f sp so) 10 := by
                  unfold yh_sh
                  rw [if_neg (by omega), if_neg (by omega), if_neg (by omega)]
                rw [ea]
                have hg0 : ye_arr (yh_g k n f sp 0) 10 v_45 := ye_arr_eq y_47 fun j j0 _ => (if_neg (by omega)).symm
                exact ye_shL fX x2 fN n5 fr (by omega) (by omega) hso (by omega) (fun _ => rfl) so.toNat (by omega) (Int.le_refl _) c_49 c_50 c_46 hg0 l_56 l_58 l_59 l_60 l_61 l_62 l_54
              · skip
                refine z_r_jm (ins := (.if_icmp .ne 6)) (len := 3) (t := 58) rfl rfl rfl rfl (ye_jn (t := 61) rfl (by omega) (by omega) (by omega) (by omega) b_53) ?_
                refine z_r_pu (ins := (.bipush (-3))) (len := 2) (t := 60) rfl rfl rfl rfl (ye_bi (by decide) (by decide)) ?_
                refine ye_ret (ins := .ireturn) rfl rfl rfl (ye_reti rfl) ?_
                have ea : yh_sh so h k n f sp = (-3) := by
                  unfold yh_sh
                  rw [if_neg (by omega), if_neg (by omega), if_pos (by omega)]
                rw [ea]
            · skip
              refine z_r_jm (ins := (.ifCond .ge 6)) (len := 3) (t := 33) rfl rfl rfl rfl (ye_in (t := 36) rfl (by omega) (by omega) b_35) ?_
              refine z_r_pu (ins := (.bipush (-2))) (len := 2) (t := 35) rfl rfl rfl rfl (ye_bi (by decide) (by decide)) ?_
              refine ye_ret (ins := .ireturn) rfl rfl rfl (ye_reti rfl) ?_
              have ea : yh_sh so h k n f sp = (-2) := by
                unfold yh_sh
                rw [if_neg (by omega), if_pos (by omega)]
              rw [ea]
        · skip
          refine z_r_jm (ins := (.if_icmp .le 5)) (len := 3) (t := 22) rfl rfl rfl rfl (ye_jn (t := 24) rfl (by omega) (by omega) (by omega) (by omega) b_6) ?_
          refine z_r_pu (ins := (.iconst (-1))) (len := 1) (t := 23) (st' := [ye_v ((-1))]) rfl rfl rfl rfl rfl ?_
          refine ye_ret (ins := .ireturn) rfl rfl rfl (ye_reti rfl) ?_
          have ea : yh_sh so h k n f sp = (-1) := by
            unfold yh_sh
            exact if_pos (by omega)
          rw [ea]
end YCSH
