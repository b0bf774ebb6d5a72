/-! Four signs more, exactly. -/
section YSIG
section
variable {st : List Value}
theorem ye_iushr {x : Int32} {s : Nat} (hs : s = 0 ∨ s = 8 ∨ s = 16 ∨ s = 24) : z_pure .iushr (ye_v (s : Int) :: .int x :: st) = some (.int (Int32.ofBitVec (x.toBitVec >>> s)) :: st) := by
  rcases hs with rfl | rfl | rfl | rfl <;> rfl
theorem ye_ishr {x : Int32} {s : Nat} (hs : s = 0 ∨ s = 8 ∨ s = 16 ∨ s = 24) : z_pure .ishr (ye_v (s : Int) :: .int x :: st) = some (.int (Int32.ofBitVec (x.toBitVec.sshiftRight s)) :: st) := by
  rcases hs with rfl | rfl | rfl | rfl <;> rfl
theorem ye_and255 {y : BitVec 32} : z_pure .iand (ye_v 255 :: .int (Int32.ofBitVec y) :: st) = some (ye_v ((y.toNat % 256 : Nat) : Int) :: st) := by
  have e : Int32.ofBitVec y &&& Int32.ofInt 255 = Int32.ofInt ((y.toNat % 256 : Nat) : Int) := by
    apply Int32.toBitVec_inj.mp
    show y &&& BitVec.ofInt 32 255 = BitVec.ofInt 32 ((y.toNat % 256 : Nat) : Int)
    apply BitVec.eq_of_toNat_eq
    rw [BitVec.toNat_and, BitVec.ofInt_natCast, BitVec.toNat_ofNat]
    show y.toNat &&& (2 ^ 8 - 1) = _
    rw [Nat.and_two_pow_sub_one_eq_mod]
    have : y.toNat % 256 < 256 := Nat.mod_lt _ (by decide)
    rw [Nat.mod_eq_of_lt (a := y.toNat % 256) (by omega)]
  show some (Value.int (Int32.ofBitVec y &&& Int32.ofInt 255) :: st) = _
  rw [e]
theorem ye_nn {e : Int} (h0 : 0 ≤ e) (h1 : e < 65536) : ∃ n : Nat, e = (n : Int) ∧ n < 65536 ∧ (Int32.ofInt e).toBitVec = BitVec.ofNat 32 n := by
  refine ⟨e.toNat, by omega, by omega, ?_⟩
  rw [Int32.toBitVec_ofInt]
  have : e = (e.toNat : Int) := by omega
  rw [this, BitVec.ofInt_natCast, ← this]
theorem ye_i2c {e : Int} (h0 : 0 ≤ e) (h1 : e < 65536) : z_pure .i2c (ye_v e :: st) = some (ye_v e :: st) := by
  obtain ⟨n, e1, e2, e3⟩ := ye_nn h0 h1
  have : ((Int32.ofInt e).toUInt32 % 65536).toInt32 = Int32.ofInt e := by
    apply Int32.toBitVec_inj.mp
    show (Int32.ofInt e).toBitVec % 65536#32 = (Int32.ofInt e).toBitVec
    rw [e3]
    apply BitVec.eq_of_toNat_eq
    rw [BitVec.toNat_umod, BitVec.toNat_ofNat]
    show n % 2 ^ 32 % 65536 = n % 2 ^ 32
    omega
  show some (Value.int ((Int32.ofInt e).toUInt32 % 65536).toInt32 :: st) = _
  rw [this]
theorem ye_i2b {y : BitVec 32} : z_pure .i2b (.int (Int32.ofBitVec y) :: st) = some (ye_v (y.signExtend 8).toInt :: st) := by
  have : (Int32.ofBitVec y).toInt8.toInt32 = Int32.ofInt (y.signExtend 8).toInt := by
    apply Int32.toInt_inj.mp
    rw [Int8.toInt_toInt32]
    have b1 : -128 ≤ (y.signExtend 8).toInt := BitVec.le_toInt _
    have b2 : (y.signExtend 8).toInt < 128 := BitVec.toInt_lt
    rw [ye_to (by omega) (by omega)]
    rfl
  show some (Value.int (Int32.ofBitVec y).toInt8.toInt32 :: st) = _
  rw [this]
theorem ye_c16 {e : Int} (h0 : 0 ≤ e) (h1 : e < 65536) : (Int32.ofInt e).toUInt32.toUInt16.toUInt32.toInt32 = Int32.ofInt e := by
  obtain ⟨n, e1, e2, e3⟩ := ye_nn h0 h1
  apply Int32.toBitVec_inj.mp
  show ((Int32.ofInt e).toBitVec.setWidth 16).setWidth 32 = (Int32.ofInt e).toBitVec
  rw [e3]
  apply BitVec.eq_of_toNat_eq
  rw [BitVec.toNat_setWidth, BitVec.toNat_setWidth, BitVec.toNat_ofNat]
  show n % 2 ^ 32 % 2 ^ 16 % 2 ^ 32 = n % 2 ^ 32
  omega
theorem ye_b8 {e : Int} (h0 : -128 ≤ e) (h1 : e < 128) : (Int32.ofInt e).toInt8.toInt32 = Int32.ofInt e := by
  apply Int32.toInt_inj.mp
  rw [Int8.toInt_toInt32, Int32.toInt_toInt8, ye_to (by omega) (by omega)]
  unfold Int.bmod
  simp only [Nat.reducePow]
  omega
theorem ye_8b {y : BitVec 8} : (Int32.ofInt y.toInt).toInt8.toInt32 = Int32.ofInt y.toInt := ye_b8 (BitVec.le_toInt y) (BitVec.toInt_lt (x := y))
variable {P : z_H}
theorem ye_cas {fld : Nat → Option (Nat × Nat)} {fty : Nat → Nat → FieldType} {fin : Nat → Nat → Bool} {ini : Option Nat} {ac : Nat → Option Nat} {a : Nat} {p e : Int} {vs : List Value} (hP : P[a]? = some (102, vs)) (h0 : 0 ≤ p) (h1 : p < vs.length) (h2 : p < 2147483648) (he : 0 ≤ e ∧ e < 65536) : z_wr fld fty fin ini ac P .castore (ye_v e :: ye_v p :: .ref a :: st) = some (st, P.set a (102, vs.set p.toNat (ye_v e))) := ye_as (t := 102) (nf := fun x => x.toUInt32.toUInt16.toUInt32.toInt32) hP h0 h1 h2 (ye_c16 he.1 he.2)
theorem ye_bas {fld : Nat → Option (Nat × Nat)} {fty : Nat → Nat → FieldType} {fin : Nat → Nat → Bool} {ini : Option Nat} {ac : Nat → Option Nat} {a : Nat} {p e : Int} {vs : List Value} (hP : P[a]? = some (101, vs)) (h0 : 0 ≤ p) (h1 : p < vs.length) (h2 : p < 2147483648) (he : (Int32.ofInt e).toInt8.toInt32 = Int32.ofInt e) : z_wr fld fty fin ini ac P .bastore (ye_v e :: ye_v p :: .ref a :: st) = some (st, P.set a (101, vs.set p.toNat (ye_v e))) := by
  show (z_as 101 (fun x => x.toInt8.toInt32) P (ye_v e :: ye_v p :: .ref a :: st)).or _ = _
  rw [ye_as (t := 101) hP h0 h1 h2 he]
  rfl
end
/-- what eight bits mean as a sign -/
def ye_sg (x : Int32) (s : Nat) : Int := if (x.toBitVec >>> s).toNat % 256 < 128 then (((x.toBitVec >>> s).toNat % 256 : Nat) : Int) else -1
theorem ye_sgC (x : Int32) (s : Nat) : ye_sig (((x.toBitVec >>> s).toNat % 256 : Nat) : Int) (ye_sg x s) := by
  unfold ye_sig ye_sg
  split <;> omega
theorem ye_sgM (x : Int32) {s : Nat} (hs : s ≤ 24) : ye_sig ((x.toBitVec.sshiftRight s).signExtend 8).toInt (ye_sg x s) := by
  have e : ((x.toBitVec.sshiftRight s).signExtend 8).toNat = (x.toBitVec >>> s).toNat % 256 := by
    have h : (x.toBitVec.sshiftRight s).signExtend 8 = (x.toBitVec >>> s).setWidth 8 := by
      apply BitVec.eq_of_getLsbD_eq
      intro i hi
      rw [BitVec.signExtend_eq_setWidth_of_le _ (by decide), BitVec.getLsbD_setWidth, BitVec.getLsbD_setWidth, BitVec.getLsbD_sshiftRight, BitVec.getLsbD_ushiftRight]
      have h1 : s + i < 32 := by omega
      have h2 : ¬ (32 ≤ i) := by omega
      simp [h1, h2]
    rw [h, BitVec.toNat_setWidth]
  have k := BitVec.toInt_eq_toNat_cond ((x.toBitVec.sshiftRight s).signExtend 8)
  rw [e] at k
  rw [k]
  unfold ye_sig ye_sg
  have hb : (x.toBitVec >>> s).toNat % 256 < 256 := Nat.mod_lt _ (by decide)
  generalize (x.toBitVec >>> s).toNat % 256 = n at hb ⊢
  show (0 ≤ (if 2 * n < 2 ^ 8 then (n : Int) else (n : Int) - (2 ^ 8 : Nat)) ∧ _ ∧ _) ∨ _
  by_cases hc : n < 128
  · rw [if_pos (by omega), if_pos hc]
    omega
  · rw [if_neg (by omega), if_neg hc]
    omega
def ye_put (T : Int → Int) (n t : Int) : Int → Int := fun i => if i = n then t else T i
theorem ye_tx_put {T : Int → Int} {n lo hi e t : Int} {vs : List Value} (h : ye_tx T n lo hi vs) (h0 : 0 ≤ n) (h1 : n < 80) (e1 : lo ≤ e) (e2 : e ≤ hi) (hs : ye_sig e t) : ye_tx (ye_put T n t) (n + 1) lo hi (vs.set n.toNat (ye_v e)) := by
  refine ⟨by rw [List.length_set]; exact h.1, fun i i0 i1 => ?_⟩
  by_cases hi : i = n
  · subst hi
    refine ⟨e, List.getElem?_set_self (by rw [h.1]; omega), e1, e2, ?_⟩
    unfold ye_put
    rw [if_pos rfl]
    exact hs
  · obtain ⟨e', g1, g2, g3, g4⟩ := h.2 i i0 (by omega)
    refine ⟨e', (List.getElem?_set_ne (by omega)).trans g1, g2, g3, ?_⟩
    unfold ye_put
    rw [if_neg hi]
    exact g4
/-- four signs more -/
def ye_T4 (T : Int → Int) (n : Int) (x : Int32) : Int → Int := ye_put (ye_put (ye_put (ye_put T n (ye_sg x 24)) (n + 1) (ye_sg x 16)) (n + 1 + 1) (ye_sg x 8)) (n + 1 + 1 + 1) (ye_sg x 0)
variable {xs : List Int32} {d aS aT aX aM aB : Nat} {P : z_H} {vs bs xv : List Value} {T : Int → Int} {len p lim mo typed : Int} {x : Int32} {F : Nat → Value}
set_option maxHeartbeats 8000000 in
theorem ye_append (hS : P[aS]? = some (1, [.ref aT, ye_v len, ye_v p, ye_v lim, ye_v mo])) (fS : aS < z_far) (hT : P[aT]? = some (102, vs)) (fT : aT < z_far) (hx : ye_tx T len 0 255 vs) (hb : 0 ≤ len ∧ len ≤ 80) : ye_X xs d 10 [.ref aS, .int x] P (fun r P' => (len + 4 ≤ 80 ∧ r = some (ye_v (len + 4)) ∧ ∃ vs', P'[aS]? = some (1, [.ref aT, ye_v (len + 4), ye_v p, ye_v lim, ye_v mo]) ∧ P'[aT]? = some (102, vs') ∧ ye_tx (ye_T4 T len x) (len + 4) 0 255 vs' ∧ ye_oth [aS, aT] P P') ∨ (80 < len + 4 ∧ r = some (ye_v (-1)) ∧ P' = P)) := by
  refine ye_go ?_
  have a0 : z_get (lv_args 0 [.ref aS, .int x]) 0 = some (.ref aS) := rfl
  have a1 : z_get (lv_args 0 [.ref aS, .int x]) 1 = some (.int x) := rfl
  have ho0 : ye_oth [aS, aT] P P := ye_oth_rf
  refine z_r_ld (kk := z_isA) (ins := (.aload_n 0)) (len := 1) (t := 1) (i := 0) rfl rfl rfl rfl rfl (fun _ => rfl) a0 rfl ?_
  refine z_r_rd (ins := (.getfield 15)) (len := 3) (t := 4) rfl rfl rfl rfl rfl (z_gfv (ci := 1) (k := 1) (v := ye_v len) rfl (z_lkn fS hS) (by decide) rfl) ?_
  refine z_r_pu (ins := (.iconst 4)) (len := 1) (t := 5) (st' := [ye_v 4, ye_v len]) rfl rfl rfl rfl rfl ?_
  refine z_r_pu (ins := .iadd) (len := 1) (t := 6) rfl rfl rfl rfl ye_add ?_
  refine z_r_pu (ins := (.bipush 80)) (len := 2) (t := 8) rfl rfl rfl rfl (ye_bi (by decide) (by decide)) ?_
  by_cases b_1 : len + 4 ≤ 80
  · skip
    refine z_r_jm (ins := (.if_icmp .le 5)) (len := 3) (t := 13) rfl rfl rfl rfl (ye_jy (t := 13) rfl (by omega) (by omega) (by omega) (by omega) b_1) ?_
    refine z_r_pu (ins := (.bipush 24)) (len := 2) (t := 15) rfl rfl rfl rfl (ye_bi (by decide) (by decide)) ?_
    refine z_r_is (kk := z_isI) (ins := (.istore_n 2)) (len := 1) (t := 16) (i := 2) rfl rfl rfl rfl rfl rfl rfl rfl (fun l l_2 k_3 => ?_)
    have l_4 := k_3 _ _ a0 (by decide) (Or.inl (by decide))
    have l_5 := k_3 _ _ a1 (by decide) (Or.inr (by show (1 : Nat) ≠ 2; decide))
    refine z_r_ld (kk := z_isI) (ins := (.iload_n 2)) (len := 1) (t := 17) (i := 2) rfl rfl rfl rfl rfl (fun _ => rfl) l_2 rfl ?_
    refine z_r_jm (ins := (.ifCond .lt 36)) (len := 3) (t := 20) rfl rfl rfl rfl (ye_in (t := 53) rfl (by omega) (by omega) (by show ¬ ((24 : Int) < 0); decide)) ?_
    refine z_r_ld (kk := z_isA) (ins := (.aload_n 0)) (len := 1) (t := 21) (i := 0) rfl rfl rfl rfl rfl (fun _ => rfl) l_4 rfl ?_
    refine z_r_rd (ins := (.getfield 11)) (len := 3) (t := 24) rfl rfl rfl rfl rfl (z_gfv (ci := 1) (k := 0) (v := .ref aT) rfl (z_lkn fS hS) (by decide) rfl) ?_
    refine z_r_ld (kk := z_isA) (ins := (.aload_n 0)) (len := 1) (t := 25) (i := 0) rfl rfl rfl rfl rfl (fun _ => rfl) l_4 rfl ?_
    refine z_r_rd (ins := (.getfield 15)) (len := 3) (t := 28) rfl rfl rfl rfl rfl (z_gfv (ci := 1) (k := 1) (v := ye_v len) rfl (z_lkn fS hS) (by decide) rfl) ?_
    refine z_r_ld (kk := z_isI) (ins := (.iload_n 1)) (len := 1) (t := 29) (i := 1) rfl rfl rfl rfl rfl (fun _ => rfl) l_5 rfl ?_
    refine z_r_ld (kk := z_isI) (ins := (.iload_n 2)) (len := 1) (t := 30) (i := 2) rfl rfl rfl rfl rfl (fun _ => rfl) l_2 rfl ?_
    refine z_r_pu (ins := .iushr) (len := 1) (t := 31) rfl rfl rfl rfl (ye_iushr (s := 24) (by decide)) ?_
    refine z_r_pu (ins := (.sipush 255)) (len := 3) (t := 34) rfl rfl rfl rfl (ye_si (by decide) (by decide)) ?_
    refine z_r_pu (ins := .iand) (len := 1) (t := 35) rfl rfl rfl rfl ye_and255 ?_
    refine z_r_pu (ins := .i2c) (len := 1) (t := 36) rfl rfl rfl rfl (ye_i2c (by omega) (by omega)) ?_
    refine ye_r_wr (ins := .castore) (len := 1) (t := 37) (a := aT) (q := (102, vs.set (len).toNat (ye_v ((((x.toBitVec >>> 24).toNat % 256 : Nat) : Int))))) rfl rfl rfl rfl rfl hT (ye_cas hT (by omega) (by rw [hx.1]; omega) (by omega) (by omega)) (fun P_6 c_7 o_8 => ?_)
    have c_9 := ye_kp o_8 (ye_n1 (ye_ne hS hT (by decide))) hS
    have o_10 := ye_oth_tr ho0 o_8 (ye_s1 (List.mem_cons_of_mem _ (List.mem_cons_self)))
    refine z_r_ld (kk := z_isA) (ins := (.aload_n 0)) (len := 1) (t := 38) (i := 0) rfl rfl rfl rfl rfl (fun _ => rfl) l_4 rfl ?_
    refine z_r_pu (ins := .dup) (len := 1) (t := 39) rfl rfl rfl rfl rfl ?_
    refine z_r_rd (ins := (.getfield 15)) (len := 3) (t := 42) rfl rfl rfl rfl rfl (z_gfv (ci := 1) (k := 1) (v := ye_v len) rfl (z_lkn fS c_9) (by decide) rfl) ?_
    refine z_r_pu (ins := (.iconst 1)) (len := 1) (t := 43) (st' := [ye_v 1, ye_v len, .ref aS]) rfl rfl rfl rfl rfl ?_
    refine z_r_pu (ins := .iadd) (len := 1) (t := 44) rfl rfl rfl rfl ye_add ?_
    refine ye_r_wr (ins := (.putfield 15)) (len := 3) (t := 47) (a := aS) (q := (1, [.ref aT, ye_v (len + 1), ye_v p, ye_v lim, ye_v mo])) rfl rfl rfl rfl rfl c_9 (z_pfv (ci := 1) (k := 1) rfl c_9 (by decide) (Nat.le_of_ble_eq_true rfl) rfl rfl rfl) (fun P_11 c_12 o_13 => ?_)
    have c_14 := ye_kp o_13 (ye_n1 (ye_ne c_7 c_9 (by decide))) c_7
    have o_15 := ye_oth_tr o_10 o_13 (ye_s1 (List.mem_cons_self))
    refine ye_ic (ins := (.iinc 2 (-8))) (len := 3) (t := 50) (i := 2) (a := 24) (kk := -8) rfl rfl rfl rfl rfl rfl l_2 (fun l l_16 k_17 => ?_)
    have l_18 := k_17 _ _ l_4 (by decide) (Or.inl (by decide))
    have l_19 := k_17 _ _ l_5 (by decide) (Or.inr (by show (1 : Nat) ≠ 2; decide))
    have l_20 : z_get l 2 = some (ye_v 16) := l_16
    refine z_r_jm (ins := (.goto (-34))) (len := 3) (t := 16) rfl rfl rfl rfl (z_gty rfl) ?_
    refine z_r_ld (kk := z_isI) (ins := (.iload_n 2)) (len := 1) (t := 17) (i := 2) rfl rfl rfl rfl rfl (fun _ => rfl) l_20 rfl ?_
    refine z_r_jm (ins := (.ifCond .lt 36)) (len := 3) (t := 20) rfl rfl rfl rfl (ye_in (t := 53) rfl (by omega) (by omega) (by show ¬ ((16 : Int) < 0); decide)) ?_
    refine z_r_ld (kk := z_isA) (ins := (.aload_n 0)) (len := 1) (t := 21) (i := 0) rfl rfl rfl rfl rfl (fun _ => rfl) l_18 rfl ?_
    refine z_r_rd (ins := (.getfield 11)) (len := 3) (t := 24) rfl rfl rfl rfl rfl (z_gfv (ci := 1) (k := 0) (v := .ref aT) rfl (z_lkn fS c_12) (by decide) rfl) ?_
    refine z_r_ld (kk := z_isA) (ins := (.aload_n 0)) (len := 1) (t := 25) (i := 0) rfl rfl rfl rfl rfl (fun _ => rfl) l_18 rfl ?_
    refine z_r_rd (ins := (.getfield 15)) (len := 3) (t := 28) rfl rfl rfl rfl rfl (z_gfv (ci := 1) (k := 1) (v := ye_v (len + 1)) rfl (z_lkn fS c_12) (by decide) rfl) ?_
    refine z_r_ld (kk := z_isI) (ins := (.iload_n 1)) (len := 1) (t := 29) (i := 1) rfl rfl rfl rfl rfl (fun _ => rfl) l_19 rfl ?_
    refine z_r_ld (kk := z_isI) (ins := (.iload_n 2)) (len := 1) (t := 30) (i := 2) rfl rfl rfl rfl rfl (fun _ => rfl) l_20 rfl ?_
    refine z_r_pu (ins := .iushr) (len := 1) (t := 31) rfl rfl rfl rfl (ye_iushr (s := 16) (by decide)) ?_
    refine z_r_pu (ins := (.sipush 255)) (len := 3) (t := 34) rfl rfl rfl rfl (ye_si (by decide) (by decide)) ?_
    refine z_r_pu (ins := .iand) (len := 1) (t := 35) rfl rfl rfl rfl ye_and255 ?_
    refine z_r_pu (ins := .i2c) (len := 1) (t := 36) rfl rfl rfl rfl (ye_i2c (by omega) (by omega)) ?_
    refine ye_r_wr (ins := .castore) (len := 1) (t := 37) (a := aT) (q := (102, (vs.set (len).toNat (ye_v ((((x.toBitVec >>> 24).toNat % 256 : Nat) : Int)))).set (len + 1).toNat (ye_v ((((x.toBitVec >>> 16).toNat % 256 : Nat) : Int))))) rfl rfl rfl rfl rfl c_14 (ye_cas c_14 (by omega) (by simp only [List.length_set]; rw [hx.1]; omega) (by omega) (by omega)) (fun P_21 c_22 o_23 => ?_)
    have c_24 := ye_kp o_23 (ye_n1 (ye_ne c_12 c_14 (by decide))) c_12
    have o_25 := ye_oth_tr o_15 o_23 (ye_s1 (List.mem_cons_of_mem _ (List.mem_cons_self)))
    refine z_r_ld (kk := z_isA) (ins := (.aload_n 0)) (len := 1) (t := 38) (i := 0) rfl rfl rfl rfl rfl (fun _ => rfl) l_18 rfl ?_
    refine z_r_pu (ins := .dup) (len := 1) (t := 39) rfl rfl rfl rfl rfl ?_
    refine z_r_rd (ins := (.getfield 15)) (len := 3) (t := 42) rfl rfl rfl rfl rfl (z_gfv (ci := 1) (k := 1) (v := ye_v (len + 1)) rfl (z_lkn fS c_24) (by decide) rfl) ?_
    refine z_r_pu (ins := (.iconst 1)) (len := 1) (t := 43) (st' := [ye_v 1, ye_v (len + 1), .ref aS]) rfl rfl rfl rfl rfl ?_
    refine z_r_pu (ins := .iadd) (len := 1) (t := 44) rfl rfl rfl rfl ye_add ?_
    refine ye_r_wr (ins := (.putfield 15)) (len := 3) (t := 47) (a := aS) (q := (1, [.ref aT, ye_v (len + 1 + 1), ye_v p, ye_v lim, ye_v mo])) rfl rfl rfl rfl rfl c_24 (z_pfv (ci := 1) (k := 1) rfl c_24 (by decide) (Nat.le_of_ble_eq_true rfl) rfl rfl rfl) (fun P_26 c_27 o_28 => ?_)
    have c_29 := ye_kp o_28 (ye_n1 (ye_ne c_22 c_24 (by decide))) c_22
    have o_30 := ye_oth_tr o_25 o_28 (ye_s1 (List.mem_cons_self))
    refine ye_ic (ins := (.iinc 2 (-8))) (len := 3) (t := 50) (i := 2) (a := 16) (kk := -8) rfl rfl rfl rfl rfl rfl l_20 (fun l l_31 k_32 => ?_)
    have l_33 := k_32 _ _ l_18 (by decide) (Or.inl (by decide))
    have l_34 := k_32 _ _ l_19 (by decide) (Or.inr (by show (1 : Nat) ≠ 2; decide))
    have l_35 : z_get l 2 = some (ye_v 8) := l_31
    refine z_r_jm (ins := (.goto (-34))) (len := 3) (t := 16) rfl rfl rfl rfl (z_gty rfl) ?_
    refine z_r_ld (kk := z_isI) (ins := (.iload_n 2)) (len := 1) (t := 17) (i := 2) rfl rfl rfl rfl rfl (fun _ => rfl) l_35 rfl ?_
    refine z_r_jm (ins := (.ifCond .lt 36)) (len := 3) (t := 20) rfl rfl rfl rfl (ye_in (t := 53) rfl (by omega) (by omega) (by show ¬ ((8 : Int) < 0); decide)) ?_
    refine z_r_ld (kk := z_isA) (ins := (.aload_n 0)) (len := 1) (t := 21) (i := 0) rfl rfl rfl rfl rfl (fun _ => rfl) l_33 rfl ?_
    refine z_r_rd (ins := (.getfield 11)) (len := 3) (t := 24) rfl rfl rfl rfl rfl (z_gfv (ci := 1) (k := 0) (v := .ref aT) rfl (z_lkn fS c_27) (by decide) rfl) ?_
    refine z_r_ld (kk := z_isA) (ins := (.aload_n 0)) (len := 1) (t := 25) (i := 0) rfl rfl rfl rfl rfl (fun _ => rfl) l_33 rfl ?_
    refine z_r_rd (ins := (.getfield 15)) (len := 3) (t := 28) rfl rfl rfl rfl rfl (z_gfv (ci := 1) (k := 1) (v := ye_v (len + 1 + 1)) rfl (z_lkn fS c_27) (by decide) rfl) ?_
    refine z_r_ld (kk := z_isI) (ins := (.iload_n 1)) (len := 1) (t := 29) (i := 1) rfl rfl rfl rfl rfl (fun _ => rfl) l_34 rfl ?_
    refine z_r_ld (kk := z_isI) (ins := (.iload_n 2)) (len := 1) (t := 30) (i := 2) rfl rfl rfl rfl rfl (fun _ => rfl) l_35 rfl ?_
    refine z_r_pu (ins := .iushr) (len := 1) (t := 31) rfl rfl rfl rfl (ye_iushr (s := 8) (by decide)) ?_
    refine z_r_pu (ins := (.sipush 255)) (len := 3) (t := 34) rfl rfl rfl rfl (ye_si (by decide) (by decide)) ?_
    refine z_r_pu (ins := .iand) (len := 1) (t := 35) rfl rfl rfl rfl ye_and255 ?_
    refine z_r_pu (ins := .i2c) (len := 1) (t := 36) rfl rfl rfl rfl (ye_i2c (by omega) (by omega)) ?_
    refine ye_r_wr (ins := .castore) (len := 1) (t := 37) (a := aT) (q := (102, ((vs.set (len).toNat (ye_v ((((x.toBitVec >>> 24).toNat % 256 : Nat) : Int)))).set (len + 1).toNat (ye_v ((((x.toBitVec >>> 16).toNat % 256 : Nat) : Int)))).set (len + 1 + 1).toNat (ye_v ((((x.toBitVec >>> 8).toNat % 256 : Nat) : Int))))) rfl rfl rfl rfl rfl c_29 (ye_cas c_29 (by omega) (by simp only [List.length_set]; rw [hx.1]; omega) (by omega) (by omega)) (fun P_36 c_37 o_38 => ?_)
    have c_39 := ye_kp o_38 (ye_n1 (ye_ne c_27 c_29 (by decide))) c_27
    have o_40 := ye_oth_tr o_30 o_38 (ye_s1 (List.mem_cons_of_mem _ (List.mem_cons_self)))
    refine z_r_ld (kk := z_isA) (ins := (.aload_n 0)) (len := 1) (t := 38) (i := 0) rfl rfl rfl rfl rfl (fun _ => rfl) l_33 rfl ?_
    refine z_r_pu (ins := .dup) (len := 1) (t := 39) rfl rfl rfl rfl rfl ?_
    refine z_r_rd (ins := (.getfield 15)) (len := 3) (t := 42) rfl rfl rfl rfl rfl (z_gfv (ci := 1) (k := 1) (v := ye_v (len + 1 + 1)) rfl (z_lkn fS c_39) (by decide) rfl) ?_
    refine z_r_pu (ins := (.iconst 1)) (len := 1) (t := 43) (st' := [ye_v 1, ye_v (len + 1 + 1), .ref aS]) rfl rfl rfl rfl rfl ?_
    refine z_r_pu (ins := .iadd) (len := 1) (t := 44) rfl rfl rfl rfl ye_add ?_
    refine ye_r_wr (ins := (.putfield 15)) (len := 3) (t := 47) (a := aS) (q := (1, [.ref aT, ye_v (len + 1 + 1 + 1), ye_v p, ye_v lim, ye_v mo])) rfl rfl rfl rfl rfl c_39 (z_pfv (ci := 1) (k := 1) rfl c_39 (by decide) (Nat.le_of_ble_eq_true rfl) rfl rfl rfl) (fun P_41 c_42 o_43 => ?_)
    have c_44 := ye_kp o_43 (ye_n1 (ye_ne c_37 c_39 (by decide))) c_37
    have o_45 := ye_oth_tr o_40 o_43 (ye_s1 (List.mem_cons_self))
    refine ye_ic (ins := (.iinc 2 (-8))) (len := 3) (t := 50) (i := 2) (a := 8) (kk := -8) rfl rfl rfl rfl rfl rfl l_35 (fun l l_46 k_47 => ?_)
    have l_48 := k_47 _ _ l_33 (by decide) (Or.inl (by decide))
    have l_49 := k_47 _ _ l_34 (by decide) (Or.inr (by show (1 : Nat) ≠ 2; decide))
    have l_50 : z_get l 2 = some (ye_v 0) := l_46
    refine z_r_jm (ins := (.goto (-34))) (len := 3) (t := 16) rfl rfl rfl rfl (z_gty rfl) ?_
    refine z_r_ld (kk := z_isI) (ins := (.iload_n 2)) (len := 1) (t := 17) (i := 2) rfl rfl rfl rfl rfl (fun _ => rfl) l_50 rfl ?_
    refine z_r_jm (ins := (.ifCond .lt 36)) (len := 3) (t := 20) rfl rfl rfl rfl (ye_in (t := 53) rfl (by omega) (by omega) (by show ¬ ((0 : Int) < 0); decide)) ?_
    refine z_r_ld (kk := z_isA) (ins := (.aload_n 0)) (len := 1) (t := 21) (i := 0) rfl rfl rfl rfl rfl (fun _ => rfl) l_48 rfl ?_
    refine z_r_rd (ins := (.getfield 11)) (len := 3) (t := 24) rfl rfl rfl rfl rfl (z_gfv (ci := 1) (k := 0) (v := .ref aT) rfl (z_lkn fS c_42) (by decide) rfl) ?_
    refine z_r_ld (kk := z_isA) (ins := (.aload_n 0)) (len := 1) (t := 25) (i := 0) rfl rfl rfl rfl rfl (fun _ => rfl) l_48 rfl ?_
    refine z_r_rd (ins := (.getfield 15)) (len := 3) (t := 28) rfl rfl rfl rfl rfl (z_gfv (ci := 1) (k := 1) (v := ye_v (len + 1 + 1 + 1)) rfl (z_lkn fS c_42) (by decide) rfl) ?_
    refine z_r_ld (kk := z_isI) (ins := (.iload_n 1)) (len := 1) (t := 29) (i := 1) rfl rfl rfl rfl rfl (fun _ => rfl) l_49 rfl ?_
    refine z_r_ld (kk := z_isI) (ins := (.iload_n 2)) (len := 1) (t := 30) (i := 2) rfl rfl rfl rfl rfl (fun _ => rfl) l_50 rfl ?_
    refine z_r_pu (ins := .iushr) (len := 1) (t := 31) rfl rfl rfl rfl (ye_iushr (s := 0) (by decide)) ?_
    refine z_r_pu (ins := (.sipush 255)) (len := 3) (t := 34) rfl rfl rfl rfl (ye_si (by decide) (by decide)) ?_
    refine z_r_pu (ins := .iand) (len := 1) (t := 35) rfl rfl rfl rfl ye_and255 ?_
    refine z_r_pu (ins := .i2c) (len := 1) (t := 36) rfl rfl rfl rfl (ye_i2c (by omega) (by omega)) ?_
    refine ye_r_wr (ins := .castore) (len := 1) (t := 37) (a := aT) (q := (102, (((vs.set (len).toNat (ye_v ((((x.toBitVec >>> 24).toNat % 256 : Nat) : Int)))).set (len + 1).toNat (ye_v ((((x.toBitVec >>> 16).toNat % 256 : Nat) : Int)))).set (len + 1 + 1).toNat (ye_v ((((x.toBitVec >>> 8).toNat % 256 : Nat) : Int)))).set (len + 1 + 1 + 1).toNat (ye_v ((((x.toBitVec >>> 0).toNat % 256 : Nat) : Int))))) rfl rfl rfl rfl rfl c_44 (ye_cas c_44 (by omega) (by simp only [List.length_set]; rw [hx.1]; omega) (by omega) (by omega)) (fun P_51 c_52 o_53 => ?_)
    have c_54 := ye_kp o_53 (ye_n1 (ye_ne c_42 c_44 (by decide))) c_42
    have o_55 := ye_oth_tr o_45 o_53 (ye_s1 (List.mem_cons_of_mem _ (List.mem_cons_self)))
    refine z_r_ld (kk := z_isA) (ins := (.aload_n 0)) (len := 1) (t := 38) (i := 0) rfl rfl rfl rfl rfl (fun _ => rfl) l_48 rfl ?_
    refine z_r_pu (ins := .dup) (len := 1) (t := 39) rfl rfl rfl rfl rfl ?_
    refine z_r_rd (ins := (.getfield 15)) (len := 3) (t := 42) rfl rfl rfl rfl rfl (z_gfv (ci := 1) (k := 1) (v := ye_v (len + 1 + 1 + 1)) rfl (z_lkn fS c_54) (by decide) rfl) ?_
    refine z_r_pu (ins := (.iconst 1)) (len := 1) (t := 43) (st' := [ye_v 1, ye_v (len + 1 + 1 + 1), .ref aS]) rfl rfl rfl rfl rfl ?_
    refine z_r_pu (ins := .iadd) (len := 1) (t := 44) rfl rfl rfl rfl ye_add ?_
    refine ye_r_wr (ins := (.putfield 15)) (len := 3) (t := 47) (a := aS) (q := (1, [.ref aT, ye_v (len + 1 + 1 + 1 + 1), ye_v p, ye_v lim, ye_v mo])) rfl rfl rfl rfl rfl c_54 (z_pfv (ci := 1) (k := 1) rfl c_54 (by decide) (Nat.le_of_ble_eq_true rfl) rfl rfl rfl) (fun P_56 c_57 o_58 => ?_)
    have c_59 := ye_kp o_58 (ye_n1 (ye_ne c_52 c_54 (by decide))) c_52
    have o_60 := ye_oth_tr o_55 o_58 (ye_s1 (List.mem_cons_self))
    refine ye_ic (ins := (.iinc 2 (-8))) (len := 3) (t := 50) (i := 2) (a := 0) (kk := -8) rfl rfl rfl rfl rfl rfl l_50 (fun l l_61 k_62 => ?_)
    have l_63 := k_62 _ _ l_48 (by decide) (Or.inl (by decide))
    have l_64 := k_62 _ _ l_49 (by decide) (Or.inr (by show (1 : Nat) ≠ 2; decide))
    have l_65 : z_get l 2 = some (ye_v (-8)) := l_61
    refine z_r_jm (ins := (.goto (-34))) (len := 3) (t := 16) rfl rfl rfl rfl (z_gty rfl) ?_
    refine z_r_ld (kk := z_isI) (ins := (.iload_n 2)) (len := 1) (t := 17) (i := 2) rfl rfl rfl rfl rfl (fun _ => rfl) l_65 rfl ?_
    refine z_r_jm (ins := (.ifCond .lt 36)) (len := 3) (t := 53) rfl rfl rfl rfl (ye_iy (t := 53) rfl (by omega) (by omega) (by show ((-8) : Int) < 0; decide)) ?_
    refine z_r_ld (kk := z_isA) (ins := (.aload_n 0)) (len := 1) (t := 54) (i := 0) rfl rfl rfl rfl rfl (fun _ => rfl) l_63 rfl ?_
    refine z_r_rd (ins := (.getfield 15)) (len := 3) (t := 57) rfl rfl rfl rfl rfl (z_gfv (ci := 1) (k := 1) (v := ye_v (len + 1 + 1 + 1 + 1)) rfl (z_lkn fS c_57) (by decide) rfl) ?_
    refine ye_ret (ins := .ireturn) rfl rfl rfl (ye_reti rfl) ?_
    have t1 := ye_tx_put hx (by omega) (by omega) (by omega) (by omega) (ye_sgC x 24)
    have t2 := ye_tx_put t1 (by omega) (by omega) (by omega) (by omega) (ye_sgC x 16)
    have t3 := ye_tx_put t2 (by omega) (by omega) (by omega) (by omega) (ye_sgC x 8)
    have t4 := ye_tx_put t3 (by omega) (by omega) (by omega) (by omega) (ye_sgC x 0)
    exact Or.inl ⟨by omega, by show some (ye_v (len + 1 + 1 + 1 + 1)) = some (ye_v (len + 4)); rw [show len + 1 + 1 + 1 + 1 = len + 4 by omega], _, by rw [show len + 4 = len + 1 + 1 + 1 + 1 by omega]; exact c_57, c_59, by rw [show len + 4 = len + 1 + 1 + 1 + 1 by omega]; exact t4, o_60⟩
  · skip
    refine z_r_jm (ins := (.if_icmp .le 5)) (len := 3) (t := 11) rfl rfl rfl rfl (ye_jn (t := 13) rfl (by omega) (by omega) (by omega) (by omega) b_1) ?_
    refine z_r_pu (ins := (.iconst (-1))) (len := 1) (t := 12) (st' := [ye_v ((-1))]) rfl rfl rfl rfl rfl ?_
    refine ye_ret (ins := .ireturn) rfl rfl rfl (ye_reti rfl) ?_
    exact Or.inr ⟨by omega, rfl, rfl⟩
theorem ye_Csign (hS : P[aS]? = some (1, [.ref aT, ye_v len, ye_v p, ye_v lim, ye_v mo])) (fS : aS < z_far) (hT : P[aT]? = some (102, vs)) (fT : aT < z_far) (hx : ye_tx T len 0 255 vs) (hb : 0 ≤ len ∧ len ≤ 80) (hX : P[aX]? = some (0, xv)) (fX : aX < z_far) (x0 : xv[0]? = some (.ref aS)) (hd : 1 ≤ d) : ye_X xs d 9 [.ref aX, .int x] P (fun r P' => (len + 4 ≤ 80 ∧ r = some (ye_v (len + 4)) ∧ ∃ vs', P'[aS]? = some (1, [.ref aT, ye_v (len + 4), ye_v p, ye_v lim, ye_v mo]) ∧ P'[aT]? = some (102, vs') ∧ ye_tx (ye_T4 T len x) (len + 4) 0 255 vs' ∧ ye_oth [aS, aT] P P') ∨ (80 < len + 4 ∧ r = some (ye_v (-1)) ∧ P' = P)) := by
  refine ye_go ?_
  have a0 : z_get (lv_args 0 [.ref aX, .int x]) 0 = some (.ref aX) := rfl
  have a1 : z_get (lv_args 0 [.ref aX, .int x]) 1 = some (.int x) := rfl
  refine z_r_ld (kk := z_isA) (ins := (.aload_n 0)) (len := 1) (t := 1) (i := 0) rfl rfl rfl rfl rfl (fun _ => rfl) a0 rfl ?_
  refine z_r_rd (ins := (.getfield 12)) (len := 3) (t := 4) rfl rfl rfl rfl rfl (z_gfv (ci := 0) (k := 0) (v := .ref aS) rfl (z_lkn fX hX) (by decide) x0) ?_
  refine z_r_ld (kk := z_isI) (ins := (.iload_n 1)) (len := 1) (t := 5) (i := 1) rfl rfl rfl rfl rfl (fun _ => rfl) a1 rfl ?_
  refine ye_ca (ins := (.invokevirtual 95)) (kd := 1) (t := 8) rfl rfl (by decide) (z_argsv rfl rfl rfl (by omega) (Nat.le_of_ble_eq_true rfl) rfl (Nat.le_of_ble_eq_true rfl) (Nat.le_refl _) (Nat.le_refl _) (Or.inr (Nat.le_of_ble_eq_true rfl)) (Or.inr (z_atv (z_lkn fS hS) rfl))) rfl rfl rfl (ye_append (x := x) hS fS hT fT hx hb) ?_
  rintro rv P1 hR
  have hrv : ∃ v, rv = some (ye_v v) := by
    rcases hR with ⟨-, h, -⟩ | ⟨-, h, -⟩ <;> exact ⟨_, h⟩
  obtain ⟨v, rfl⟩ := hrv
  refine ye_ret (ins := .ireturn) rfl rfl rfl (ye_reti rfl) ?_
  exact hR
set_option maxHeartbeats 8000000 in
theorem ye_Msign (hM : P[aM]? = some (10, ye_fl F)) (fM : aM < z_far) (k10 : F 10 = .ref aB) (k11 : F 11 = ye_v typed) (hB : P[aB]? = some (101, bs)) (fB : aB < z_far) (hx : ye_tx T typed (-128) 127 bs) (hb : 0 ≤ typed ∧ typed ≤ 80) : ye_X xs d 188 [.ref aM, .int x] P (fun r P' => ∃ F', P'[aM]? = some (10, ye_fl F') ∧ ye_fk [11, 14] F F' ∧ ye_oth [aM, aB] P P' ∧ ((typed + 4 ≤ 80 ∧ r = some (ye_v (typed + 4)) ∧ F' 11 = ye_v (typed + 4) ∧ ∃ bs', P'[aB]? = some (101, bs') ∧ ye_tx (ye_T4 T typed x) (typed + 4) (-128) 127 bs') ∨ (80 < typed + 4 ∧ r = some (ye_v (-1)) ∧ F' 11 = ye_v typed ∧ P'[aB]? = some (101, bs)))) := by
  refine ye_go ?_
  have a0 : z_get (lv_args 0 [.ref aM, .int x]) 0 = some (.ref aM) := rfl
  have a1 : z_get (lv_args 0 [.ref aM, .int x]) 1 = some (.int x) := rfl
  have ho0 : ye_oth [aM, aB] P P := ye_oth_rf
  have hf0 : ye_fk [11, 14] F F := ye_fk_rf
  refine z_r_ld (kk := z_isA) (ins := (.aload_n 0)) (len := 1) (t := 1) (i := 0) rfl rfl rfl rfl rfl (fun _ => rfl) a0 rfl ?_
  refine z_r_pu (ins := (.iconst 0)) (len := 1) (t := 2) (st' := [ye_v 0, .ref aM]) rfl rfl rfl rfl rfl ?_
  refine ye_r_wr (ins := (.putfield 124)) (len := 3) (t := 5) (a := aM) (q := (10, ye_fl (ye_up F 14 (ye_v 0)))) rfl rfl rfl rfl rfl hM (ye_pfm (k := 14) rfl hM rfl rfl rfl rfl) (fun P_1 c_2 o_3 => ?_)
  have c_4 := ye_kp o_3 (ye_n1 (ye_ne hB hM (by decide))) hB
  have o_5 := ye_oth_tr ho0 o_3 (ye_s1 (List.mem_cons_self))
  have f_6 := ye_fk_up (j := 14) (v := ye_v 0) hf0 (List.mem_cons_of_mem _ (List.mem_cons_self))
  refine z_r_ld (kk := z_isA) (ins := (.aload_n 0)) (len := 1) (t := 6) (i := 0) rfl rfl rfl rfl rfl (fun _ => rfl) a0 rfl ?_
  refine z_r_rd (ins := (.getfield 141)) (len := 3) (t := 9) rfl rfl rfl rfl rfl (z_gfv (ci := 10) (k := 11) (v := ye_v typed) rfl (z_lkn fM c_2) (by decide) (ye_flg rfl k11)) ?_
  refine z_r_pu (ins := (.iconst 4)) (len := 1) (t := 10) (st' := [ye_v 4, ye_v typed]) rfl rfl rfl rfl rfl ?_
  refine z_r_pu (ins := .iadd) (len := 1) (t := 11) rfl rfl rfl rfl ye_add ?_
  refine z_r_pu (ins := (.bipush 80)) (len := 2) (t := 13) rfl rfl rfl rfl (ye_bi (by decide) (by decide)) ?_
  by_cases b_7 : typed + 4 ≤ 80
  · skip
    refine z_r_jm (ins := (.if_icmp .le 5)) (len := 3) (t := 18) rfl rfl rfl rfl (ye_jy (t := 18) rfl (by omega) (by omega) (by omega) (by omega) b_7) ?_
    refine z_r_pu (ins := (.iconst 3)) (len := 1) (t := 19) (st' := [ye_v 3]) rfl rfl rfl rfl rfl ?_
    refine z_r_is (kk := z_isI) (ins := (.istore_n 2)) (len := 1) (t := 20) (i := 2) rfl rfl rfl rfl rfl rfl rfl rfl (fun l l_8 k_9 => ?_)
    have l_10 := k_9 _ _ a0 (by decide) (Or.inl (by decide))
    have l_11 := k_9 _ _ a1 (by decide) (Or.inr (by show (1 : Nat) ≠ 2; decide))
    refine z_r_ld (kk := z_isI) (ins := (.iload_n 2)) (len := 1) (t := 21) (i := 2) rfl rfl rfl rfl rfl (fun _ => rfl) l_8 rfl ?_
    refine z_r_jm (ins := (.ifCond .lt 32)) (len := 3) (t := 24) rfl rfl rfl rfl (ye_in (t := 53) rfl (by omega) (by omega) (by show ¬ ((3 : Int) < 0); decide)) ?_
    refine z_r_ld (kk := z_isA) (ins := (.aload_n 0)) (len := 1) (t := 25) (i := 0) rfl rfl rfl rfl rfl (fun _ => rfl) l_10 rfl ?_
    refine z_r_rd (ins := (.getfield 35)) (len := 3) (t := 28) rfl rfl rfl rfl rfl (z_gfv (ci := 10) (k := 10) (v := .ref aB) rfl (z_lkn fM c_2) (by decide) (ye_flg rfl k10)) ?_
    refine z_r_ld (kk := z_isA) (ins := (.aload_n 0)) (len := 1) (t := 29) (i := 0) rfl rfl rfl rfl rfl (fun _ => rfl) l_10 rfl ?_
    refine z_r_pu (ins := .dup) (len := 1) (t := 30) rfl rfl rfl rfl rfl ?_
    refine z_r_rd (ins := (.getfield 141)) (len := 3) (t := 33) rfl rfl rfl rfl rfl (z_gfv (ci := 10) (k := 11) (v := ye_v typed) rfl (z_lkn fM c_2) (by decide) (ye_flg rfl k11)) ?_
    refine z_r_pu (ins := .dup_x1) (len := 1) (t := 34) rfl rfl rfl rfl rfl ?_
    refine z_r_pu (ins := (.iconst 1)) (len := 1) (t := 35) (st' := [ye_v 1, ye_v typed, .ref aM, ye_v typed, .ref aB]) rfl rfl rfl rfl rfl ?_
    refine z_r_pu (ins := .iadd) (len := 1) (t := 36) rfl rfl rfl rfl ye_add ?_
    refine ye_r_wr (ins := (.putfield 141)) (len := 3) (t := 39) (a := aM) (q := (10, ye_fl (ye_up (ye_up F 14 (ye_v 0)) 11 (ye_v (typed + 1))))) rfl rfl rfl rfl rfl c_2 (ye_pfm (k := 11) rfl c_2 rfl rfl rfl rfl) (fun P_12 c_13 o_14 => ?_)
    have c_15 := ye_kp o_14 (ye_n1 (ye_ne c_4 c_2 (by decide))) c_4
    have o_16 := ye_oth_tr o_5 o_14 (ye_s1 (List.mem_cons_self))
    have f_17 := ye_fk_up (j := 11) (v := ye_v (typed + 1)) f_6 (List.mem_cons_self)
    refine z_r_ld (kk := z_isI) (ins := (.iload_n 1)) (len := 1) (t := 40) (i := 1) rfl rfl rfl rfl rfl (fun _ => rfl) l_11 rfl ?_
    refine z_r_pu (ins := (.bipush 8)) (len := 2) (t := 42) rfl rfl rfl rfl (ye_bi (by decide) (by decide)) ?_
    refine z_r_ld (kk := z_isI) (ins := (.iload_n 2)) (len := 1) (t := 43) (i := 2) rfl rfl rfl rfl rfl (fun _ => rfl) l_8 rfl ?_
    refine z_r_pu (ins := .imul) (len := 1) (t := 44) (st' := [ye_v 24, .int x, ye_v typed, .ref aB]) rfl rfl rfl rfl ye_mul ?_
    refine z_r_pu (ins := .ishr) (len := 1) (t := 45) rfl rfl rfl rfl (ye_ishr (s := 24) (by decide)) ?_
    refine z_r_pu (ins := .i2b) (len := 1) (t := 46) rfl rfl rfl rfl ye_i2b ?_
    refine ye_r_wr (ins := .bastore) (len := 1) (t := 47) (a := aB) (q := (101, bs.set (typed).toNat (ye_v ((((x.toBitVec).sshiftRight 24).signExtend 8).toInt)))) rfl rfl rfl rfl rfl c_15 (ye_bas c_15 (by omega) (by rw [hx.1]; omega) (by omega) ye_8b) (fun P_18 c_19 o_20 => ?_)
    have c_21 := ye_kp o_20 (ye_n1 (ye_ne c_13 c_15 (by decide))) c_13
    have o_22 := ye_oth_tr o_16 o_20 (ye_s1 (List.mem_cons_of_mem _ (List.mem_cons_self)))
    refine ye_ic (ins := (.iinc 2 (-1))) (len := 3) (t := 50) (i := 2) (a := 3) (kk := -1) rfl rfl rfl rfl rfl rfl l_8 (fun l l_23 k_24 => ?_)
    have l_25 := k_24 _ _ l_10 (by decide) (Or.inl (by decide))
    have l_26 := k_24 _ _ l_11 (by decide) (Or.inr (by show (1 : Nat) ≠ 2; decide))
    have l_27 : z_get l 2 = some (ye_v 2) := l_23
    refine z_r_jm (ins := (.goto (-30))) (len := 3) (t := 20) rfl rfl rfl rfl (z_gty rfl) ?_
    refine z_r_ld (kk := z_isI) (ins := (.iload_n 2)) (len := 1) (t := 21) (i := 2) rfl rfl rfl rfl rfl (fun _ => rfl) l_27 rfl ?_
    refine z_r_jm (ins := (.ifCond .lt 32)) (len := 3) (t := 24) rfl rfl rfl rfl (ye_in (t := 53) rfl (by omega) (by omega) (by show ¬ ((2 : Int) < 0); decide)) ?_
    refine z_r_ld (kk := z_isA) (ins := (.aload_n 0)) (len := 1) (t := 25) (i := 0) rfl rfl rfl rfl rfl (fun _ => rfl) l_25 rfl ?_
    refine z_r_rd (ins := (.getfield 35)) (len := 3) (t := 28) rfl rfl rfl rfl rfl (z_gfv (ci := 10) (k := 10) (v := .ref aB) rfl (z_lkn fM c_21) (by decide) (ye_flg rfl k10)) ?_
    refine z_r_ld (kk := z_isA) (ins := (.aload_n 0)) (len := 1) (t := 29) (i := 0) rfl rfl rfl rfl rfl (fun _ => rfl) l_25 rfl ?_
    refine z_r_pu (ins := .dup) (len := 1) (t := 30) rfl rfl rfl rfl rfl ?_
    refine z_r_rd (ins := (.getfield 141)) (len := 3) (t := 33) rfl rfl rfl rfl rfl (z_gfv (ci := 10) (k := 11) (v := ye_v (typed + 1)) rfl (z_lkn fM c_21) (by decide) (ye_flg rfl rfl)) ?_
    refine z_r_pu (ins := .dup_x1) (len := 1) (t := 34) rfl rfl rfl rfl rfl ?_
    refine z_r_pu (ins := (.iconst 1)) (len := 1) (t := 35) (st' := [ye_v 1, ye_v (typed + 1), .ref aM, ye_v (typed + 1), .ref aB]) rfl rfl rfl rfl rfl ?_
    refine z_r_pu (ins := .iadd) (len := 1) (t := 36) rfl rfl rfl rfl ye_add ?_
    refine ye_r_wr (ins := (.putfield 141)) (len := 3) (t := 39) (a := aM) (q := (10, ye_fl (ye_up (ye_up (ye_up F 14 (ye_v 0)) 11 (ye_v (typed + 1))) 11 (ye_v (typed + 1 + 1))))) rfl rfl rfl rfl rfl c_21 (ye_pfm (k := 11) rfl c_21 rfl rfl rfl rfl) (fun P_28 c_29 o_30 => ?_)
    have c_31 := ye_kp o_30 (ye_n1 (ye_ne c_19 c_21 (by decide))) c_19
    have o_32 := ye_oth_tr o_22 o_30 (ye_s1 (List.mem_cons_self))
    have f_33 := ye_fk_up (j := 11) (v := ye_v (typed + 1 + 1)) f_17 (List.mem_cons_self)
    refine z_r_ld (kk := z_isI) (ins := (.iload_n 1)) (len := 1) (t := 40) (i := 1) rfl rfl rfl rfl rfl (fun _ => rfl) l_26 rfl ?_
    refine z_r_pu (ins := (.bipush 8)) (len := 2) (t := 42) rfl rfl rfl rfl (ye_bi (by decide) (by decide)) ?_
    refine z_r_ld (kk := z_isI) (ins := (.iload_n 2)) (len := 1) (t := 43) (i := 2) rfl rfl rfl rfl rfl (fun _ => rfl) l_27 rfl ?_
    refine z_r_pu (ins := .imul) (len := 1) (t := 44) (st' := [ye_v 16, .int x, ye_v (typed + 1), .ref aB]) rfl rfl rfl rfl ye_mul ?_
    refine z_r_pu (ins := .ishr) (len := 1) (t := 45) rfl rfl rfl rfl (ye_ishr (s := 16) (by decide)) ?_
    refine z_r_pu (ins := .i2b) (len := 1) (t := 46) rfl rfl rfl rfl ye_i2b ?_
    refine ye_r_wr (ins := .bastore) (len := 1) (t := 47) (a := aB) (q := (101, (bs.set (typed).toNat (ye_v ((((x.toBitVec).sshiftRight 24).signExtend 8).toInt))).set (typed + 1).toNat (ye_v ((((x.toBitVec).sshiftRight 16).signExtend 8).toInt)))) rfl rfl rfl rfl rfl c_31 (ye_bas c_31 (by omega) (by simp only [List.length_set]; rw [hx.1]; omega) (by omega) ye_8b) (fun P_34 c_35 o_36 => ?_)
    have c_37 := ye_kp o_36 (ye_n1 (ye_ne c_29 c_31 (by decide))) c_29
    have o_38 := ye_oth_tr o_32 o_36 (ye_s1 (List.mem_cons_of_mem _ (List.mem_cons_self)))
    refine ye_ic (ins := (.iinc 2 (-1))) (len := 3) (t := 50) (i := 2) (a := 2) (kk := -1) rfl rfl rfl rfl rfl rfl l_27 (fun l l_39 k_40 => ?_)
    have l_41 := k_40 _ _ l_25 (by decide) (Or.inl (by decide))
    have l_42 := k_40 _ _ l_26 (by decide) (Or.inr (by show (1 : Nat) ≠ 2; decide))
    have l_43 : z_get l 2 = some (ye_v 1) := l_39
    refine z_r_jm (ins := (.goto (-30))) (len := 3) (t := 20) rfl rfl rfl rfl (z_gty rfl) ?_
    refine z_r_ld (kk := z_isI) (ins := (.iload_n 2)) (len := 1) (t := 21) (i := 2) rfl rfl rfl rfl rfl (fun _ => rfl) l_43 rfl ?_
    refine z_r_jm (ins := (.ifCond .lt 32)) (len := 3) (t := 24) rfl rfl rfl rfl (ye_in (t := 53) rfl (by omega) (by omega) (by show ¬ ((1 : Int) < 0); decide)) ?_
    refine z_r_ld (kk := z_isA) (ins := (.aload_n 0)) (len := 1) (t := 25) (i := 0) rfl rfl rfl rfl rfl (fun _ => rfl) l_41 rfl ?_
    refine z_r_rd (ins := (.getfield 35)) (len := 3) (t := 28) rfl rfl rfl rfl rfl (z_gfv (ci := 10) (k := 10) (v := .ref aB) rfl (z_lkn fM c_37) (by decide) (ye_flg rfl k10)) ?_
    refine z_r_ld (kk := z_isA) (ins := (.aload_n 0)) (len := 1) (t := 29) (i := 0) rfl rfl rfl rfl rfl (fun _ => rfl) l_41 rfl ?_
    refine z_r_pu (ins := .dup) (len := 1) (t := 30) rfl rfl rfl rfl rfl ?_
    refine z_r_rd (ins := (.getfield 141)) (len := 3) (t := 33) rfl rfl rfl rfl rfl (z_gfv (ci := 10) (k := 11) (v := ye_v (typed + 1 + 1)) rfl (z_lkn fM c_37) (by decide) (ye_flg rfl rfl)) ?_
    refine z_r_pu (ins := .dup_x1) (len := 1) (t := 34) rfl rfl rfl rfl rfl ?_
    refine z_r_pu (ins := (.iconst 1)) (len := 1) (t := 35) (st' := [ye_v 1, ye_v (typed + 1 + 1), .ref aM, ye_v (typed + 1 + 1), .ref aB]) rfl rfl rfl rfl rfl ?_
    refine z_r_pu (ins := .iadd) (len := 1) (t := 36) rfl rfl rfl rfl ye_add ?_
    refine ye_r_wr (ins := (.putfield 141)) (len := 3) (t := 39) (a := aM) (q := (10, ye_fl (ye_up (ye_up (ye_up (ye_up F 14 (ye_v 0)) 11 (ye_v (typed + 1))) 11 (ye_v (typed + 1 + 1))) 11 (ye_v (typed + 1 + 1 + 1))))) rfl rfl rfl rfl rfl c_37 (ye_pfm (k := 11) rfl c_37 rfl rfl rfl rfl) (fun P_44 c_45 o_46 => ?_)
    have c_47 := ye_kp o_46 (ye_n1 (ye_ne c_35 c_37 (by decide))) c_35
    have o_48 := ye_oth_tr o_38 o_46 (ye_s1 (List.mem_cons_self))
    have f_49 := ye_fk_up (j := 11) (v := ye_v (typed + 1 + 1 + 1)) f_33 (List.mem_cons_self)
    refine z_r_ld (kk := z_isI) (ins := (.iload_n 1)) (len := 1) (t := 40) (i := 1) rfl rfl rfl rfl rfl (fun _ => rfl) l_42 rfl ?_
    refine z_r_pu (ins := (.bipush 8)) (len := 2) (t := 42) rfl rfl rfl rfl (ye_bi (by decide) (by decide)) ?_
    refine z_r_ld (kk := z_isI) (ins := (.iload_n 2)) (len := 1) (t := 43) (i := 2) rfl rfl rfl rfl rfl (fun _ => rfl) l_43 rfl ?_
    refine z_r_pu (ins := .imul) (len := 1) (t := 44) (st' := [ye_v 8, .int x, ye_v (typed + 1 + 1), .ref aB]) rfl rfl rfl rfl ye_mul ?_
    refine z_r_pu (ins := .ishr) (len := 1) (t := 45) rfl rfl rfl rfl (ye_ishr (s := 8) (by decide)) ?_
    refine z_r_pu (ins := .i2b) (len := 1) (t := 46) rfl rfl rfl rfl ye_i2b ?_
    refine ye_r_wr (ins := .bastore) (len := 1) (t := 47) (a := aB) (q := (101, ((bs.set (typed).toNat (ye_v ((((x.toBitVec).sshiftRight 24).signExtend 8).toInt))).set (typed + 1).toNat (ye_v ((((x.toBitVec).sshiftRight 16).signExtend 8).toInt))).set (typed + 1 + 1).toNat (ye_v ((((x.toBitVec).sshiftRight 8).signExtend 8).toInt)))) rfl rfl rfl rfl rfl c_47 (ye_bas c_47 (by omega) (by simp only [List.length_set]; rw [hx.1]; omega) (by omega) ye_8b) (fun P_50 c_51 o_52 => ?_)
    have c_53 := ye_kp o_52 (ye_n1 (ye_ne c_45 c_47 (by decide))) c_45
    have o_54 := ye_oth_tr o_48 o_52 (ye_s1 (List.mem_cons_of_mem _ (List.mem_cons_self)))
    refine ye_ic (ins := (.iinc 2 (-1))) (len := 3) (t := 50) (i := 2) (a := 1) (kk := -1) rfl rfl rfl rfl rfl rfl l_43 (fun l l_55 k_56 => ?_)
    have l_57 := k_56 _ _ l_41 (by decide) (Or.inl (by decide))
    have l_58 := k_56 _ _ l_42 (by decide) (Or.inr (by show (1 : Nat) ≠ 2; decide))
    have l_59 : z_get l 2 = some (ye_v 0) := l_55
    refine z_r_jm (ins := (.goto (-30))) (len := 3) (t := 20) rfl rfl rfl rfl (z_gty rfl) ?_
    refine z_r_ld (kk := z_isI) (ins := (.iload_n 2)) (len := 1) (t := 21) (i := 2) rfl rfl rfl rfl rfl (fun _ => rfl) l_59 rfl ?_
    refine z_r_jm (ins := (.ifCond .lt 32)) (len := 3) (t := 24) rfl rfl rfl rfl (ye_in (t := 53) rfl (by omega) (by omega) (by show ¬ ((0 : Int) < 0); decide)) ?_
    refine z_r_ld (kk := z_isA) (ins := (.aload_n 0)) (len := 1) (t := 25) (i := 0) rfl rfl rfl rfl rfl (fun _ => rfl) l_57 rfl ?_
    refine z_r_rd (ins := (.getfield 35)) (len := 3) (t := 28) rfl rfl rfl rfl rfl (z_gfv (ci := 10) (k := 10) (v := .ref aB) rfl (z_lkn fM c_53) (by decide) (ye_flg rfl k10)) ?_
    refine z_r_ld (kk := z_isA) (ins := (.aload_n 0)) (len := 1) (t := 29) (i := 0) rfl rfl rfl rfl rfl (fun _ => rfl) l_57 rfl ?_
    refine z_r_pu (ins := .dup) (len := 1) (t := 30) rfl rfl rfl rfl rfl ?_
    refine z_r_rd (ins := (.getfield 141)) (len := 3) (t := 33) rfl rfl rfl rfl rfl (z_gfv (ci := 10) (k := 11) (v := ye_v (typed + 1 + 1 + 1)) rfl (z_lkn fM c_53) (by decide) (ye_flg rfl rfl)) ?_
    refine z_r_pu (ins := .dup_x1) (len := 1) (t := 34) rfl rfl rfl rfl rfl ?_
    refine z_r_pu (ins := (.iconst 1)) (len := 1) (t := 35) (st' := [ye_v 1, ye_v (typed + 1 + 1 + 1), .ref aM, ye_v (typed + 1 + 1 + 1), .ref aB]) rfl rfl rfl rfl rfl ?_
    refine z_r_pu (ins := .iadd) (len := 1) (t := 36) rfl rfl rfl rfl ye_add ?_
    refine ye_r_wr (ins := (.putfield 141)) (len := 3) (t := 39) (a := aM) (q := (10, ye_fl (ye_up (ye_up (ye_up (ye_up (ye_up F 14 (ye_v 0)) 11 (ye_v (typed + 1))) 11 (ye_v (typed + 1 + 1))) 11 (ye_v (typed + 1 + 1 + 1))) 11 (ye_v (typed + 1 + 1 + 1 + 1))))) rfl rfl rfl rfl rfl c_53 (ye_pfm (k := 11) rfl c_53 rfl rfl rfl rfl) (fun P_60 c_61 o_62 => ?_)
    have c_63 := ye_kp o_62 (ye_n1 (ye_ne c_51 c_53 (by decide))) c_51
    have o_64 := ye_oth_tr o_54 o_62 (ye_s1 (List.mem_cons_self))
    have f_65 := ye_fk_up (j := 11) (v := ye_v (typed + 1 + 1 + 1 + 1)) f_49 (List.mem_cons_self)
    refine z_r_ld (kk := z_isI) (ins := (.iload_n 1)) (len := 1) (t := 40) (i := 1) rfl rfl rfl rfl rfl (fun _ => rfl) l_58 rfl ?_
    refine z_r_pu (ins := (.bipush 8)) (len := 2) (t := 42) rfl rfl rfl rfl (ye_bi (by decide) (by decide)) ?_
    refine z_r_ld (kk := z_isI) (ins := (.iload_n 2)) (len := 1) (t := 43) (i := 2) rfl rfl rfl rfl rfl (fun _ => rfl) l_59 rfl ?_
    refine z_r_pu (ins := .imul) (len := 1) (t := 44) (st' := [ye_v 0, .int x, ye_v (typed + 1 + 1 + 1), .ref aB]) rfl rfl rfl rfl ye_mul ?_
    refine z_r_pu (ins := .ishr) (len := 1) (t := 45) rfl rfl rfl rfl (ye_ishr (s := 0) (by decide)) ?_
    refine z_r_pu (ins := .i2b) (len := 1) (t := 46) rfl rfl rfl rfl ye_i2b ?_
    refine ye_r_wr (ins := .bastore) (len := 1) (t := 47) (a := aB) (q := (101, (((bs.set (typed).toNat (ye_v ((((x.toBitVec).sshiftRight 24).signExtend 8).toInt))).set (typed + 1).toNat (ye_v ((((x.toBitVec).sshiftRight 16).signExtend 8).toInt))).set (typed + 1 + 1).toNat (ye_v ((((x.toBitVec).sshiftRight 8).signExtend 8).toInt))).set (typed + 1 + 1 + 1).toNat (ye_v ((((x.toBitVec).sshiftRight 0).signExtend 8).toInt)))) rfl rfl rfl rfl rfl c_63 (ye_bas c_63 (by omega) (by simp only [List.length_set]; rw [hx.1]; omega) (by omega) ye_8b) (fun P_66 c_67 o_68 => ?_)
    have c_69 := ye_kp o_68 (ye_n1 (ye_ne c_61 c_63 (by decide))) c_61
    have o_70 := ye_oth_tr o_64 o_68 (ye_s1 (List.mem_cons_of_mem _ (List.mem_cons_self)))
    refine ye_ic (ins := (.iinc 2 (-1))) (len := 3) (t := 50) (i := 2) (a := 0) (kk := -1) rfl rfl rfl rfl rfl rfl l_59 (fun l l_71 k_72 => ?_)
    have l_73 := k_72 _ _ l_57 (by decide) (Or.inl (by decide))
    have l_74 := k_72 _ _ l_58 (by decide) (Or.inr (by show (1 : Nat) ≠ 2; decide))
    have l_75 : z_get l 2 = some (ye_v (-1)) := l_71
    refine z_r_jm (ins := (.goto (-30))) (len := 3) (t := 20) rfl rfl rfl rfl (z_gty rfl) ?_
    refine z_r_ld (kk := z_isI) (ins := (.iload_n 2)) (len := 1) (t := 21) (i := 2) rfl rfl rfl rfl rfl (fun _ => rfl) l_75 rfl ?_
    refine z_r_jm (ins := (.ifCond .lt 32)) (len := 3) (t := 53) rfl rfl rfl rfl (ye_iy (t := 53) rfl (by omega) (by omega) (by show ((-1) : Int) < 0; decide)) ?_
    refine z_r_ld (kk := z_isA) (ins := (.aload_n 0)) (len := 1) (t := 54) (i := 0) rfl rfl rfl rfl rfl (fun _ => rfl) l_73 rfl ?_
    refine z_r_rd (ins := (.getfield 141)) (len := 3) (t := 57) rfl rfl rfl rfl rfl (z_gfv (ci := 10) (k := 11) (v := ye_v (typed + 1 + 1 + 1 + 1)) rfl (z_lkn fM c_69) (by decide) (ye_flg rfl rfl)) ?_
    refine ye_ret (ins := .ireturn) rfl rfl rfl (ye_reti rfl) ?_
    have b0 : -128 ≤ ((x.toBitVec.sshiftRight 24).signExtend 8).toInt ∧ ((x.toBitVec.sshiftRight 24).signExtend 8).toInt ≤ 127 := ⟨BitVec.le_toInt _, by have := BitVec.toInt_lt (x := (x.toBitVec.sshiftRight 24).signExtend 8); omega⟩
    have t0 := ye_tx_put hx (by omega) (by omega) b0.1 b0.2 (ye_sgM x (s := 24) (by decide))
    have b1 : -128 ≤ ((x.toBitVec.sshiftRight 16).signExtend 8).toInt ∧ ((x.toBitVec.sshiftRight 16).signExtend 8).toInt ≤ 127 := ⟨BitVec.le_toInt _, by have := BitVec.toInt_lt (x := (x.toBitVec.sshiftRight 16).signExtend 8); omega⟩
    have t1 := ye_tx_put t0 (by omega) (by omega) b1.1 b1.2 (ye_sgM x (s := 16) (by decide))
    have b2 : -128 ≤ ((x.toBitVec.sshiftRight 8).signExtend 8).toInt ∧ ((x.toBitVec.sshiftRight 8).signExtend 8).toInt ≤ 127 := ⟨BitVec.le_toInt _, by have := BitVec.toInt_lt (x := (x.toBitVec.sshiftRight 8).signExtend 8); omega⟩
    have t2 := ye_tx_put t1 (by omega) (by omega) b2.1 b2.2 (ye_sgM x (s := 8) (by decide))
    have b3 : -128 ≤ ((x.toBitVec.sshiftRight 0).signExtend 8).toInt ∧ ((x.toBitVec.sshiftRight 0).signExtend 8).toInt ≤ 127 := ⟨BitVec.le_toInt _, by have := BitVec.toInt_lt (x := (x.toBitVec.sshiftRight 0).signExtend 8); omega⟩
    have t3 := ye_tx_put t2 (by omega) (by omega) b3.1 b3.2 (ye_sgM x (s := 0) (by decide))
    exact ⟨_, c_69, f_65, o_70, Or.inl ⟨by omega, by show some (ye_v (typed + 1 + 1 + 1 + 1)) = some (ye_v (typed + 4)); rw [show typed + 1 + 1 + 1 + 1 = typed + 4 by omega], by show ye_v (typed + 1 + 1 + 1 + 1) = ye_v (typed + 4); rw [show typed + 1 + 1 + 1 + 1 = typed + 4 by omega], _, c_67, by rw [show typed + 4 = typed + 1 + 1 + 1 + 1 by omega]; exact t3⟩⟩
  · skip
    refine z_r_jm (ins := (.if_icmp .le 5)) (len := 3) (t := 16) rfl rfl rfl rfl (ye_jn (t := 18) rfl (by omega) (by omega) (by omega) (by omega) b_7) ?_
    refine z_r_pu (ins := (.iconst (-1))) (len := 1) (t := 17) (st' := [ye_v ((-1))]) rfl rfl rfl rfl rfl ?_
    refine ye_ret (ins := .ireturn) rfl rfl rfl (ye_reti rfl) ?_
    exact ⟨_, c_2, f_6, o_5, Or.inr ⟨by omega, rfl, k11, c_4⟩⟩
theorem ye_shorten {n : Int} (hS : P[aS]? = some (1, [.ref aT, ye_v len, ye_v p, ye_v lim, ye_v mo])) (fS : aS < z_far) (hb : 0 ≤ len ∧ len ≤ 80) (hn : -2147483648 ≤ n ∧ n < 2147483648) : ye_X xs d 12 [.ref aS, ye_v n] P (fun r P' => (0 ≤ n ∧ n ≤ len ∧ r = some (ye_v 1) ∧ P'[aS]? = some (1, [.ref aT, ye_v n, ye_v p, ye_v lim, ye_v mo]) ∧ ye_oth [aS] P P') ∨ (¬ (0 ≤ n ∧ n ≤ len) ∧ r = some (ye_v 0) ∧ P' = P)) := by
  refine ye_go ?_
  have a0 : z_get (lv_args 0 [.ref aS, ye_v n]) 0 = some (.ref aS) := rfl
  have a1 : z_get (lv_args 0 [.ref aS, ye_v n]) 1 = some (ye_v n) := rfl
  have ho0 : ye_oth [aS] P P := ye_oth_rf
  refine z_r_ld (kk := z_isI) (ins := (.iload_n 1)) (len := 1) (t := 1) (i := 1) rfl rfl rfl rfl rfl (fun _ => rfl) a1 rfl ?_
  by_cases b_1 : n < 0
  · skip
    refine z_r_jm (ins := (.ifCond .lt 11)) (len := 3) (t := 12) rfl rfl rfl rfl (ye_iy (t := 12) rfl (by omega) (by omega) b_1) ?_
    refine z_r_pu (ins := (.iconst 0)) (len := 1) (t := 13) (st' := [ye_v 0]) rfl rfl rfl rfl rfl ?_
    refine ye_ret (ins := .ireturn) rfl rfl rfl (ye_retz rfl (by omega)) ?_
    exact Or.inr ⟨by omega, rfl, rfl⟩
  · skip
    refine z_r_jm (ins := (.ifCond .lt 11)) (len := 3) (t := 4) rfl rfl rfl rfl (ye_in (t := 12) rfl (by omega) (by omega) b_1) ?_
    refine z_r_ld (kk := z_isI) (ins := (.iload_n 1)) (len := 1) (t := 5) (i := 1) rfl rfl rfl rfl rfl (fun _ => rfl) a1 rfl ?_
    refine z_r_ld (kk := z_isA) (ins := (.aload_n 0)) (len := 1) (t := 6) (i := 0) rfl rfl rfl rfl rfl (fun _ => rfl) a0 rfl ?_
    refine z_r_rd (ins := (.getfield 15)) (len := 3) (t := 9) rfl rfl rfl rfl rfl (z_gfv (ci := 1) (k := 1) (v := ye_v len) rfl (z_lkn fS hS) (by decide) rfl) ?_
    by_cases b_2 : n ≤ len
    · skip
      refine z_r_jm (ins := (.if_icmp .le 5)) (len := 3) (t := 14) rfl rfl rfl rfl (ye_jy (t := 14) rfl (by omega) (by omega) (by omega) (by omega) b_2) ?_
      refine z_r_ld (kk := z_isA) (ins := (.aload_n 0)) (len := 1) (t := 15) (i := 0) rfl rfl rfl rfl rfl (fun _ => rfl) a0 rfl ?_
      refine z_r_ld (kk := z_isI) (ins := (.iload_n 1)) (len := 1) (t := 16) (i := 1) rfl rfl rfl rfl rfl (fun _ => rfl) a1 rfl ?_
      refine ye_r_wr (ins := (.putfield 15)) (len := 3) (t := 19) (a := aS) (q := (1, [.ref aT, ye_v n, ye_v p, ye_v lim, ye_v mo])) rfl rfl rfl rfl rfl hS (z_pfv (ci := 1) (k := 1) rfl hS (by decide) (Nat.le_of_ble_eq_true rfl) rfl rfl rfl) (fun P_3 c_4 o_5 => ?_)
      have o_6 := ye_oth_tr ho0 o_5 (ye_s1 (List.mem_cons_self))
      refine z_r_pu (ins := (.iconst 1)) (len := 1) (t := 20) (st' := [ye_v 1]) rfl rfl rfl rfl rfl ?_
      refine ye_ret (ins := .ireturn) rfl rfl rfl (ye_retz rfl (by omega)) ?_
      exact Or.inl ⟨by omega, by omega, rfl, c_4, o_6⟩
    · skip
      refine z_r_jm (ins := (.if_icmp .le 5)) (len := 3) (t := 12) rfl rfl rfl rfl (ye_jn (t := 14) rfl (by omega) (by omega) (by omega) (by omega) b_2) ?_
      refine z_r_pu (ins := (.iconst 0)) (len := 1) (t := 13) (st' := [ye_v 0]) rfl rfl rfl rfl rfl ?_
      refine ye_ret (ins := .ireturn) rfl rfl rfl (ye_retz rfl (by omega)) ?_
      exact Or.inr ⟨by omega, rfl, rfl⟩
theorem ye_Cend {n : Int} (hS : P[aS]? = some (1, [.ref aT, ye_v len, ye_v p, ye_v lim, ye_v mo])) (fS : aS < z_far) (hb : 0 ≤ len ∧ len ≤ 80) (hn : -2147483648 ≤ n ∧ n < 2147483648) (hX : P[aX]? = some (0, xv)) (fX : aX < z_far) (x0 : xv[0]? = some (.ref aS)) (hd : 1 ≤ d) : ye_X xs d 11 [.ref aX, ye_v n] P (fun r P' => (0 ≤ n ∧ n ≤ len ∧ r = some (ye_v 1) ∧ P'[aS]? = some (1, [.ref aT, ye_v n, ye_v p, ye_v lim, ye_v mo]) ∧ ye_oth [aS] P P') ∨ (¬ (0 ≤ n ∧ n ≤ len) ∧ r = some (ye_v 0) ∧ P' = P)) := by
  refine ye_go ?_
  have a0 : z_get (lv_args 0 [.ref aX, ye_v n]) 0 = some (.ref aX) := rfl
  have a1 : z_get (lv_args 0 [.ref aX, ye_v n]) 1 = some (ye_v n) := rfl
  refine z_r_ld (kk := z_isA) (ins := (.aload_n 0)) (len := 1) (t := 1) (i := 0) rfl rfl rfl rfl rfl (fun _ => rfl) a0 rfl ?_
  refine z_r_rd (ins := (.getfield 12)) (len := 3) (t := 4) rfl rfl rfl rfl rfl (z_gfv (ci := 0) (k := 0) (v := .ref aS) rfl (z_lkn fX hX) (by decide) x0) ?_
  refine z_r_ld (kk := z_isI) (ins := (.iload_n 1)) (len := 1) (t := 5) (i := 1) rfl rfl rfl rfl rfl (fun _ => rfl) a1 rfl ?_
  refine ye_ca (ins := (.invokevirtual 99)) (kd := 1) (t := 8) rfl rfl (by decide) (z_argsv rfl rfl rfl (by omega) (Nat.le_of_ble_eq_true rfl) rfl (Nat.le_of_ble_eq_true rfl) (Nat.le_refl _) (Nat.le_refl _) (Or.inr (Nat.le_of_ble_eq_true rfl)) (Or.inr (z_atv (z_lkn fS hS) rfl))) rfl rfl rfl (ye_shorten hS fS hb hn) ?_
  rintro rv P1 hR
  have hrv : ∃ v, rv = some (ye_v v) ∧ (v = 0 ∨ v = 1) := by
    rcases hR with ⟨-, -, h, -⟩ | ⟨-, h, -⟩
    · exact ⟨1, h, Or.inr rfl⟩
    · exact ⟨0, h, Or.inl rfl⟩
  obtain ⟨v, rfl, hv01⟩ := hrv
  refine ye_ret (ins := .ireturn) rfl rfl rfl (ye_retz rfl (by omega)) ?_
  exact hR
theorem ye_Mend {n : Int} (hM : P[aM]? = some (10, ye_fl F)) (fM : aM < z_far) (k11 : F 11 = ye_v typed) (hb : 0 ≤ typed ∧ typed ≤ 80) (hn : -2147483648 ≤ n ∧ n < 2147483648) (hd : 1 ≤ d) : ye_X xs d 189 [.ref aM, ye_v n] P (fun r P' => ∃ F', P'[aM]? = some (10, ye_fl F') ∧ ye_fk [11, 14] F F' ∧ ye_oth [aM] P P' ∧ ((0 ≤ n ∧ n ≤ typed ∧ r = some (ye_v 1) ∧ F' 11 = ye_v n) ∨ (¬ (0 ≤ n ∧ n ≤ typed) ∧ r = some (ye_v 0) ∧ F' 11 = ye_v typed))) := by
  refine ye_go ?_
  have a0 : z_get (lv_args 0 [.ref aM, ye_v n]) 0 = some (.ref aM) := rfl
  have a1 : z_get (lv_args 0 [.ref aM, ye_v n]) 1 = some (ye_v n) := rfl
  have ho0 : ye_oth [aM] P P := ye_oth_rf
  have hf0 : ye_fk [11, 14] F F := ye_fk_rf
  refine z_r_ld (kk := z_isA) (ins := (.aload_n 0)) (len := 1) (t := 1) (i := 0) rfl rfl rfl rfl rfl (fun _ => rfl) a0 rfl ?_
  refine z_r_pu (ins := (.iconst 0)) (len := 1) (t := 2) (st' := [ye_v 0, .ref aM]) rfl rfl rfl rfl rfl ?_
  refine ye_r_wr (ins := (.putfield 124)) (len := 3) (t := 5) (a := aM) (q := (10, ye_fl (ye_up F 14 (ye_v 0)))) rfl rfl rfl rfl rfl hM (ye_pfm (k := 14) rfl hM rfl rfl rfl rfl) (fun P_1 c_2 o_3 => ?_)
  have o_4 := ye_oth_tr ho0 o_3 (ye_s1 (List.mem_cons_self))
  have f_5 := ye_fk_up (j := 14) (v := ye_v 0) hf0 (List.mem_cons_of_mem _ (List.mem_cons_self))
  refine z_r_ld (kk := z_isI) (ins := (.iload_n 1)) (len := 1) (t := 6) (i := 1) rfl rfl rfl rfl rfl (fun _ => rfl) a1 rfl ?_
  refine z_r_pu (ins := (.iconst 0)) (len := 1) (t := 7) (st' := [ye_v 0, ye_v n]) rfl rfl rfl rfl rfl ?_
  refine z_r_ld (kk := z_isA) (ins := (.aload_n 0)) (len := 1) (t := 8) (i := 0) rfl rfl rfl rfl rfl (fun _ => rfl) a0 rfl ?_
  refine z_r_rd (ins := (.getfield 141)) (len := 3) (t := 11) rfl rfl rfl rfl rfl (z_gfv (ci := 10) (k := 11) (v := ye_v typed) rfl (z_lkn fM c_2) (by decide) (ye_flg rfl k11)) ?_
  refine ye_ca (ins := (.invokestatic 133)) (kd := 0) (t := 14) rfl rfl (by decide) (z_argsv rfl rfl rfl (by omega) (Nat.le_of_ble_eq_true rfl) rfl (Nat.le_of_ble_eq_true rfl) (Nat.le_refl _) (Nat.le_refl _) (Or.inl rfl) (Or.inl rfl)) rfl rfl rfl (ye_inr (by omega) (by omega) (by omega)) ?_
  rintro _ _ ⟨rfl, b_6, rfl, h_7⟩
  by_cases b_8 : b_6 ≠ 0
  · skip
    refine z_r_jm (ins := (.ifCond .ne 5)) (len := 3) (t := 19) rfl rfl rfl rfl (ye_iy (t := 19) rfl (by omega) (by omega) b_8) ?_
    refine z_r_ld (kk := z_isA) (ins := (.aload_n 0)) (len := 1) (t := 20) (i := 0) rfl rfl rfl rfl rfl (fun _ => rfl) a0 rfl ?_
    refine z_r_ld (kk := z_isI) (ins := (.iload_n 1)) (len := 1) (t := 21) (i := 1) rfl rfl rfl rfl rfl (fun _ => rfl) a1 rfl ?_
    refine ye_r_wr (ins := (.putfield 141)) (len := 3) (t := 24) (a := aM) (q := (10, ye_fl (ye_up (ye_up F 14 (ye_v 0)) 11 (ye_v n)))) rfl rfl rfl rfl rfl c_2 (ye_pfm (k := 11) rfl c_2 rfl rfl rfl rfl) (fun P_9 c_10 o_11 => ?_)
    have o_12 := ye_oth_tr o_4 o_11 (ye_s1 (List.mem_cons_self))
    have f_13 := ye_fk_up (j := 11) (v := ye_v n) f_5 (List.mem_cons_self)
    refine z_r_pu (ins := (.iconst 1)) (len := 1) (t := 25) (st' := [ye_v 1]) rfl rfl rfl rfl rfl ?_
    refine ye_ret (ins := .ireturn) rfl rfl rfl (ye_retz rfl (by omega)) ?_
    exact ⟨_, c_10, f_13, o_12, Or.inl ⟨by omega, by omega, rfl, rfl⟩⟩
  · skip
    refine z_r_jm (ins := (.ifCond .ne 5)) (len := 3) (t := 17) rfl rfl rfl rfl (ye_in (t := 19) rfl (by omega) (by omega) b_8) ?_
    refine z_r_pu (ins := (.iconst 0)) (len := 1) (t := 18) (st' := [ye_v 0]) rfl rfl rfl rfl rfl ?_
    refine ye_ret (ins := .ireturn) rfl rfl rfl (ye_retz rfl (by omega)) ?_
    exact ⟨_, c_2, f_5, o_4, Or.inr ⟨by omega, rfl, k11⟩⟩
end YSIG
