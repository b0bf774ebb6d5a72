/-! Letters, exactly. -/
section YLET
section
variable {st : List Value} {H : Nat → Option z_C}
theorem ye_len {nA t a : Nat} {n : Int} {vs : List Value} (hP : H a = some (t, vs)) (h1 : 100 ≤ t) (h2 : t < 100 + nA) (hn : (vs.length : Int) = n) : z_alen nA H (.ref a :: st) = some (ye_v n :: st) := by
  unfold z_alen
  dsimp only
  rw [hP]
  dsimp only
  rw [if_pos ⟨h1, h2⟩, ← hn, ye_v, Int32.ofInt_eq_ofNat]
theorem ye_aal {nA t a : Nat} {p : Int} {r : Nat} {vs : List Value} (hP : H a = some (t, vs)) (h1 : 105 ≤ t) (h2 : t < 100 + nA) (h0 : 0 ≤ p) (h3 : p < 2147483648) (hv : vs[p.toNat]? = some (.ref r)) : z_alq nA H (ye_v p :: .ref a :: st) = some (.ref r :: st) := by
  have e1 : (Int32.ofInt p).toInt = p := ye_to (by omega) h3
  have e2 : (Int32.ofInt p).toNatClampNeg = p.toNat := by
    show (Int32.ofInt p).toInt.toNat = _
    rw [e1]
  unfold z_alq
  dsimp only
  rw [hP]
  dsimp only
  rw [if_pos ⟨h1, h2, by rw [e1]; exact h0⟩, e2, hv]
  rfl
theorem ye_shr0 {a : Int} : z_pure .ishr (ye_v 0 :: ye_v a :: st) = some (ye_v a :: st) := by
  have : Int32.ofInt a >>> (Int32.ofInt 0 &&& 31) = Int32.ofInt a := by
    apply Int32.toBitVec_inj.mp
    show (Int32.ofInt a).toBitVec.sshiftRight 0 = _
    exact BitVec.sshiftRight_zero
  show some (Value.int (Int32.ofInt a >>> (Int32.ofInt 0 &&& 31)) :: st) = _
  rw [this]
theorem ye_i2bv {a b : Int} (h : (0 ≤ a ∧ a < 128 ∧ b = a) ∨ (128 ≤ a ∧ a < 256 ∧ b = a - 256)) : z_pure .i2b (ye_v a :: st) = some (ye_v b :: st) := by
  have : (Int32.ofInt a).toInt8.toInt32 = Int32.ofInt b := by
    apply Int32.toInt_inj.mp
    rw [Int8.toInt_toInt32, Int32.toInt_toInt8, ye_to (by omega) (by omega), ye_to (by omega) (by omega)]
    unfold Int.bmod
    simp only [Nat.reducePow]
    omega
  show some (Value.int (Int32.ofInt a).toInt8.toInt32 :: st) = _
  rw [this]
end
/-- the place of a sign among letters -/
theorem ye_retb {G : z_Pg} {x : Nat} {v : Int} (h : z_rty G x = some .byte) (hv : v = 0 ∨ v = 1) : z_ret (z_rty G x) .ireturn [ye_v v] = some (some (ye_v v)) := by
  have e : narrow .byte (ye_v v) = ye_v v := by
    rcases hv with rfl | rfl
    · rfl
    · rfl
  rw [h]
  show (if narrow .byte (ye_v v) = ye_v v then some (some (ye_v v)) else none) = _
  exact if_pos e
def yi_fr : List Int → Int → Int → Int
  | [], _, _ => -1
  | a :: r, e, i => if a = e then i else yi_fr r e (i + 1)
theorem yi_fr_sig {e t : Int} (hs : ye_sig e t) : ∀ {L : List Int} {i : Int}, (∀ a ∈ L, 0 ≤ a ∧ a < 128) → yi_fr L e i = yi_fr L t i
  | [], _, _ => rfl
  | a :: r, i, h => by
    have ha := h a List.mem_cons_self
    unfold ye_sig at hs
    show (if a = e then i else yi_fr r e (i + 1)) = (if a = t then i else yi_fr r t (i + 1))
    rw [yi_fr_sig (L := r) hs (fun b hb => h b (List.mem_cons_of_mem _ hb))]
    by_cases hc : a = e
    · rw [if_pos hc, if_pos (by omega)]
    · rw [if_neg hc, if_neg (by omega)]
theorem yi_fr_bd {e : Int} : ∀ {L : List Int} {i : Int}, 0 ≤ i → (yi_fr L e i = -1 ∨ (i ≤ yi_fr L e i ∧ yi_fr L e i < i + L.length))
  | [], _, _ => Or.inl rfl
  | a :: r, i, hi => by
    have e1 : yi_fr (a :: r) e i = (if a = e then i else yi_fr r e (i + 1)) := rfl
    rw [e1]
    by_cases hc : a = e
    · rw [if_pos hc]
      refine Or.inr ⟨Int.le_refl _, ?_⟩
      rw [List.length_cons]
      omega
    · rw [if_neg hc]
      rcases yi_fr_bd (e := e) (L := r) (i := i + 1) (by omega) with h | ⟨h1, h2⟩
      · exact Or.inl h
      · rw [List.length_cons]
        exact Or.inr ⟨by omega, by omega⟩
variable {xs : List Int32} {d sA sB aS aT : Nat} {P : z_H} {L vs0 : List Int} {vs bs : List Value} {T : Int → Int} {e b n i c p len lim mo : Int} {l : z_L} {Ψ : z_S → Prop}
theorem ye_ixI {R : Option Value → z_H → Prop} (hB : z_lk (z_strs (z_G xs)) P sB = some (101, bs)) (h0 : z_get l 0 = some (.ref sB)) (h3 : z_get l 3 = some (ye_v n)) (h4 : z_get l 4 = some (ye_v b)) (h5 : z_get l 5 = some (ye_v i)) (hv : bs[i.toNat]? = some (ye_v c)) (hi : 0 ≤ i ∧ i < n ∧ n ≤ 100) (hc : 0 ≤ c ∧ c < 128 ∧ -128 ≤ b ∧ b < 128)
    (ky : b = c → R (some (ye_v i)) P) (kn : b ≠ c → ∀ l, z_get l 0 = some (.ref sB) → z_get l 3 = some (ye_v n) → z_get l 4 = some (ye_v b) → z_get l 5 = some (ye_v (i + 1)) → z_Rh (z_G xs) d 34 (ye_E xs d 34 R) (7, l, [], P, 0, 0)) : z_Rh (z_G xs) d 34 (ye_E xs d 34 R) (7, l, [], P, 0, 0) := by
  refine z_r_ld (kk := z_isI) (ins := (.iload 5)) (len := 2) (t := 9) (i := 5) rfl rfl rfl rfl rfl (fun _ => rfl) h5 rfl ?_
  refine z_r_ld (kk := z_isI) (ins := (.iload_n 3)) (len := 1) (t := 10) (i := 3) rfl rfl rfl rfl rfl (fun _ => rfl) h3 rfl ?_
  refine z_r_jm (ins := (.if_icmp .ge 21)) (len := 3) (t := 13) rfl rfl rfl rfl (ye_jn (t := 31) rfl (by omega) (by omega) (by omega) (by omega) (by show ¬ (n ≤ i); omega)) ?_
  refine z_r_ld (kk := z_isA) (ins := (.aload_n 0)) (len := 1) (t := 14) (i := 0) rfl rfl rfl rfl rfl (fun _ => rfl) h0 rfl ?_
  refine z_r_ld (kk := z_isI) (ins := (.iload 5)) (len := 2) (t := 16) (i := 5) rfl rfl rfl rfl rfl (fun _ => rfl) h5 rfl ?_
  refine z_r_rd (ins := .baload) (len := 1) (t := 17) rfl rfl rfl rfl rfl (ye_bal (p := i) (e := c) (hB) (by omega) (by omega) hv) ?_
  refine z_r_ld (kk := z_isI) (ins := (.iload 4)) (len := 2) (t := 19) (i := 4) rfl rfl rfl rfl rfl (fun _ => rfl) h4 rfl ?_
  by_cases b_1 : c ≠ b
  · skip
    refine z_r_jm (ins := (.if_icmp .ne 6)) (len := 3) (t := 25) rfl rfl rfl rfl (ye_jy (t := 25) rfl (by omega) (by omega) (by omega) (by omega) b_1) ?_
    refine ye_ic (ins := (.iinc 5 1)) (len := 3) (t := 28) (i := 5) (a := i) (kk := 1) rfl rfl rfl rfl rfl rfl h5 (fun l l_2 k_3 => ?_)
    have l_4 := k_3 _ _ h0 (by decide) (Or.inl (by decide))
    have l_5 := k_3 _ _ h3 (by decide) (Or.inl (by decide))
    have l_6 := k_3 _ _ h4 (by decide) (Or.inr (by show (1 : Nat) ≠ 2; decide))
    refine z_r_jm (ins := (.goto (-21))) (len := 3) (t := 7) rfl rfl rfl rfl (z_gty rfl) ?_
    exact kn (by omega) _ l_4 l_5 l_6 l_2
  · skip
    refine z_r_jm (ins := (.if_icmp .ne 6)) (len := 3) (t := 22) rfl rfl rfl rfl (ye_jn (t := 25) rfl (by omega) (by omega) (by omega) (by omega) b_1) ?_
    refine z_r_ld (kk := z_isI) (ins := (.iload 5)) (len := 2) (t := 24) (i := 5) rfl rfl rfl rfl rfl (fun _ => rfl) h5 rfl ?_
    refine ye_ret (ins := .ireturn) rfl rfl rfl (ye_reti rfl) ?_
    exact ky (by omega)
theorem ye_ixE {R : Option Value → z_H → Prop} (h0 : z_get l 0 = some (.ref sB)) (h3 : z_get l 3 = some (ye_v n)) (h4 : z_get l 4 = some (ye_v b)) (h5 : z_get l 5 = some (ye_v i)) (hi : 0 ≤ i ∧ n ≤ i ∧ i ≤ 100 ∧ 0 ≤ n) (k : R (some (ye_v (-1))) P) : z_Rh (z_G xs) d 34 (ye_E xs d 34 R) (7, l, [], P, 0, 0) := by
  refine z_r_ld (kk := z_isI) (ins := (.iload 5)) (len := 2) (t := 9) (i := 5) rfl rfl rfl rfl rfl (fun _ => rfl) h5 rfl ?_
  refine z_r_ld (kk := z_isI) (ins := (.iload_n 3)) (len := 1) (t := 10) (i := 3) rfl rfl rfl rfl rfl (fun _ => rfl) h3 rfl ?_
  refine z_r_jm (ins := (.if_icmp .ge 21)) (len := 3) (t := 31) rfl rfl rfl rfl (ye_jy (t := 31) rfl (by omega) (by omega) (by omega) (by omega) (by show n ≤ i; omega)) ?_
  refine z_r_pu (ins := (.iconst (-1))) (len := 1) (t := 32) (st' := [ye_v ((-1))]) rfl rfl rfl rfl rfl ?_
  refine ye_ret (ins := .ireturn) rfl rfl rfl (ye_reti rfl) ?_
  exact k
theorem ye_ixL {R : Option Value → z_H → Prop} (hB : z_lk (z_strs (z_G xs)) P sB = some (101, L.map ye_v)) (hL : ∀ a ∈ L, 0 ≤ a ∧ a < 128) (hl : L.length ≤ 100) (hn : n = (L.length : Int)) (hb : (0 ≤ e ∧ e < 128 ∧ b = e) ∨ (128 ≤ e ∧ e < 256 ∧ b = e - 256)) : ∀ (r q : List Int) {i : Int} {l : z_L}, L = q ++ r → i = (q.length : Int) → z_get l 0 = some (.ref sB) → z_get l 3 = some (ye_v n) → z_get l 4 = some (ye_v b) → z_get l 5 = some (ye_v i) → R (some (ye_v (yi_fr r e i))) P → z_Rh (z_G xs) d 34 (ye_E xs d 34 R) (7, l, [], P, 0, 0) := by
  intro r
  induction r with
  | nil =>
    intro q i l hq hi h0 h3 h4 h5 k
    have : L.length = q.length := by rw [hq, List.append_nil]
    exact ye_ixE h0 h3 h4 h5 (by omega) k
  | cons a r ih =>
    intro q i l hq hi h0 h3 h4 h5 k
    have hlen : L.length = q.length + (r.length + 1) := by rw [hq, List.length_append, List.length_cons]
    have ha := hL a (by rw [hq]; exact List.mem_append_right _ List.mem_cons_self)
    have hv : (L.map ye_v)[i.toNat]? = some (ye_v a) := by
      rw [hi, Int.toNat_natCast, List.getElem?_map, hq, List.getElem?_append_right (Nat.le_refl _), Nat.sub_self]
      rfl
    refine ye_ixI hB h0 h3 h4 h5 hv (by omega) (by omega) (fun hc => ?_) (fun hc l g0 g3 g4 g5 => ?_)
    · have : yi_fr (a :: r) e i = i := if_pos (by omega)
      rw [this] at k
      exact k
    · have : yi_fr (a :: r) e i = yi_fr r e (i + 1) := if_neg (by omega)
      rw [this] at k
      exact ih (q ++ [a]) (by rw [hq, List.append_assoc]; rfl) (by rw [List.length_append]; show i + 1 = ((q.length + 1 : Nat) : Int); omega) g0 g3 g4 g5 k
theorem ye_ixc (hB : z_lk (z_strs (z_G xs)) P sB = some (101, L.map ye_v)) (hL : ∀ a ∈ L, 0 ≤ a ∧ a < 128) (hl : L.length ≤ 100) (hn : n = (L.length : Int)) (he : 0 ≤ e ∧ e < 256) : ye_X xs d 34 [.ref sB, ye_v e, ye_v 0, ye_v n] P (fun r P' => P' = P ∧ r = some (ye_v (yi_fr L e 0))) := by
  refine ye_go ?_
  have a0 : z_get (lv_args 0 [.ref sB, ye_v e, ye_v 0, ye_v n]) 0 = some (.ref sB) := rfl
  have a1 : z_get (lv_args 0 [.ref sB, ye_v e, ye_v 0, ye_v n]) 1 = some (ye_v e) := rfl
  have a2 : z_get (lv_args 0 [.ref sB, ye_v e, ye_v 0, ye_v n]) 2 = some (ye_v 0) := rfl
  have a3 : z_get (lv_args 0 [.ref sB, ye_v e, ye_v 0, ye_v n]) 3 = some (ye_v n) := rfl
  obtain ⟨b, hb⟩ : ∃ b, (0 ≤ e ∧ e < 128 ∧ b = e) ∨ (128 ≤ e ∧ e < 256 ∧ b = e - 256) := by
    by_cases h : e < 128
    · exact ⟨e, Or.inl ⟨he.1, h, rfl⟩⟩
    · exact ⟨e - 256, Or.inr ⟨by omega, he.2, rfl⟩⟩
  refine z_r_ld (kk := z_isI) (ins := (.iload_n 1)) (len := 1) (t := 1) (i := 1) rfl rfl rfl rfl rfl (fun _ => rfl) a1 rfl ?_
  refine z_r_pu (ins := .i2b) (len := 1) (t := 2) rfl rfl rfl rfl (ye_i2bv (b := b) (by omega)) ?_
  refine z_r_is (kk := z_isI) (ins := (.istore 4)) (len := 2) (t := 4) (i := 4) rfl rfl rfl rfl rfl rfl rfl rfl (fun l l_1 k_2 => ?_)
  have l_3 := k_2 _ _ a0 (by decide) (Or.inl (by decide))
  have l_4 := k_2 _ _ a1 (by decide) (Or.inl (by decide))
  have l_5 := k_2 _ _ a2 (by decide) (Or.inl (by decide))
  have l_6 := k_2 _ _ a3 (by decide) (Or.inr (by show (1 : Nat) ≠ 2; decide))
  refine z_r_ld (kk := z_isI) (ins := (.iload_n 2)) (len := 1) (t := 5) (i := 2) rfl rfl rfl rfl rfl (fun _ => rfl) l_5 rfl ?_
  refine z_r_is (kk := z_isI) (ins := (.istore 5)) (len := 2) (t := 7) (i := 5) rfl rfl rfl rfl rfl rfl rfl rfl (fun l l_7 k_8 => ?_)
  have l_9 := k_8 _ _ l_3 (by decide) (Or.inl (by decide))
  have l_10 := k_8 _ _ l_4 (by decide) (Or.inl (by decide))
  have l_11 := k_8 _ _ l_5 (by decide) (Or.inl (by decide))
  have l_12 := k_8 _ _ l_6 (by decide) (Or.inl (by decide))
  have l_13 := k_8 _ _ l_1 (by decide) (Or.inr (by show (1 : Nat) ≠ 2; decide))
  exact ye_ixL hB hL hl hn hb L [] rfl rfl l_9 l_12 l_13 l_7 ⟨rfl, rfl⟩
theorem ye_canE (he : 0 ≤ e ∧ e < 256) : ye_X xs d 32 [ye_v e] P (fun r P' => P' = P ∧ r = some (ye_v 1)) := by
  refine ye_go ?_
  have a0 : z_get (lv_args 0 [ye_v e]) 0 = some (ye_v e) := rfl
  refine z_r_ld (kk := z_isI) (ins := (.iload_n 0)) (len := 1) (t := 1) (i := 0) rfl rfl rfl rfl rfl (fun _ => rfl) a0 rfl ?_
  refine z_r_jm (ins := (.ifCond .lt 14)) (len := 3) (t := 4) rfl rfl rfl rfl (ye_in (t := 15) rfl (by omega) (by omega) (by show ¬ (e < 0); omega)) ?_
  refine z_r_ld (kk := z_isI) (ins := (.iload_n 0)) (len := 1) (t := 5) (i := 0) rfl rfl rfl rfl rfl (fun _ => rfl) a0 rfl ?_
  refine z_r_pu (ins := (.sipush 255)) (len := 3) (t := 8) rfl rfl rfl rfl (ye_si (by decide) (by decide)) ?_
  refine z_r_jm (ins := (.if_icmp .gt 7)) (len := 3) (t := 11) rfl rfl rfl rfl (ye_jn (t := 15) rfl (by omega) (by omega) (by omega) (by omega) (by show ¬ (255 < e); omega)) ?_
  refine z_r_pu (ins := (.iconst 1)) (len := 1) (t := 12) (st' := [ye_v 1]) rfl rfl rfl rfl rfl ?_
  refine z_r_jm (ins := (.goto 4)) (len := 3) (t := 16) rfl rfl rfl rfl (z_gty rfl) ?_
  refine ye_ret (ins := .ireturn) rfl rfl rfl (ye_retz rfl (by omega)) ?_
  exact ⟨rfl, rfl⟩
theorem ye_max0  : ye_X xs d 33 [ye_v 0, ye_v 0] P (fun r P' => P' = P ∧ r = some (ye_v 0)) := by
  refine ye_go ?_
  have a0 : z_get (lv_args 0 [ye_v 0, ye_v 0]) 0 = some (ye_v 0) := rfl
  have a1 : z_get (lv_args 0 [ye_v 0, ye_v 0]) 1 = some (ye_v 0) := rfl
  refine z_r_ld (kk := z_isI) (ins := (.iload_n 0)) (len := 1) (t := 1) (i := 0) rfl rfl rfl rfl rfl (fun _ => rfl) a0 rfl ?_
  refine z_r_ld (kk := z_isI) (ins := (.iload_n 1)) (len := 1) (t := 2) (i := 1) rfl rfl rfl rfl rfl (fun _ => rfl) a1 rfl ?_
  refine z_r_jm (ins := (.if_icmp .lt 7)) (len := 3) (t := 5) rfl rfl rfl rfl (ye_jn (t := 9) rfl (by omega) (by omega) (by omega) (by omega) (by show ¬ ((0 : Int) < 0); decide)) ?_
  refine z_r_ld (kk := z_isI) (ins := (.iload_n 0)) (len := 1) (t := 6) (i := 0) rfl rfl rfl rfl rfl (fun _ => rfl) a0 rfl ?_
  refine z_r_jm (ins := (.goto 4)) (len := 3) (t := 10) rfl rfl rfl rfl (z_gty rfl) ?_
  refine ye_ret (ins := .ireturn) rfl rfl rfl (ye_reti rfl) ?_
  exact ⟨rfl, rfl⟩
theorem ye_coder (hA : z_lk (z_strs (z_G xs)) P sA = some (98, [.ref sB, ye_v 0])) : ye_X xs d 30 [.ref sA] P (fun r P' => P' = P ∧ r = some (ye_v 0)) := by
  refine ye_go ?_
  have a0 : z_get (lv_args 0 [.ref sA]) 0 = some (.ref sA) := rfl
  refine z_r_cs (ins := (.getstatic 38)) (len := 3) (t := 3) (v := ye_v 1) rfl rfl rfl rfl rfl rfl ?_
  refine z_r_jm (ins := (.ifCond .eq 10)) (len := 3) (t := 6) rfl rfl rfl rfl (ye_in (t := 13) rfl (by omega) (by omega) (by show ¬ ((1 : Int) = 0); decide)) ?_
  refine z_r_ld (kk := z_isA) (ins := (.aload_n 0)) (len := 1) (t := 7) (i := 0) rfl rfl rfl rfl rfl (fun _ => rfl) a0 rfl ?_
  refine z_r_rd (ins := (.getfield 15)) (len := 3) (t := 10) rfl rfl rfl rfl rfl (z_gfv (ci := 98) (k := 1) (v := ye_v 0) rfl (hA) (by decide) rfl) ?_
  refine z_r_jm (ins := (.goto 4)) (len := 3) (t := 14) rfl rfl rfl rfl (z_gty rfl) ?_
  refine ye_ret (ins := .ireturn) rfl rfl rfl (ye_retb rfl (by omega)) ?_
  exact ⟨rfl, rfl⟩
theorem ye_isL1 (hA : z_lk (z_strs (z_G xs)) P sA = some (98, [.ref sB, ye_v 0])) : ye_X xs d 28 [.ref sA] P (fun r P' => P' = P ∧ r = some (ye_v 1)) := by
  refine ye_go ?_
  have a0 : z_get (lv_args 0 [.ref sA]) 0 = some (.ref sA) := rfl
  refine z_r_cs (ins := (.getstatic 38)) (len := 3) (t := 3) (v := ye_v 1) rfl rfl rfl rfl rfl rfl ?_
  refine z_r_jm (ins := (.ifCond .eq 14)) (len := 3) (t := 6) rfl rfl rfl rfl (ye_in (t := 17) rfl (by omega) (by omega) (by show ¬ ((1 : Int) = 0); decide)) ?_
  refine z_r_ld (kk := z_isA) (ins := (.aload_n 0)) (len := 1) (t := 7) (i := 0) rfl rfl rfl rfl rfl (fun _ => rfl) a0 rfl ?_
  refine z_r_rd (ins := (.getfield 15)) (len := 3) (t := 10) rfl rfl rfl rfl rfl (z_gfv (ci := 98) (k := 1) (v := ye_v 0) rfl (hA) (by decide) rfl) ?_
  refine z_r_jm (ins := (.ifCond .ne 7)) (len := 3) (t := 13) rfl rfl rfl rfl (ye_in (t := 17) rfl (by omega) (by omega) (by show ¬ ((0 : Int) ≠ 0); decide)) ?_
  refine z_r_pu (ins := (.iconst 1)) (len := 1) (t := 14) (st' := [ye_v 1]) rfl rfl rfl rfl rfl ?_
  refine z_r_jm (ins := (.goto 4)) (len := 3) (t := 18) rfl rfl rfl rfl (z_gty rfl) ?_
  refine ye_ret (ins := .ireturn) rfl rfl rfl (ye_retz rfl (by omega)) ?_
  exact ⟨rfl, rfl⟩
theorem ye_slen (hA : z_lk (z_strs (z_G xs)) P sA = some (98, [.ref sB, ye_v 0])) (hB : z_lk (z_strs (z_G xs)) P sB = some (101, L.map ye_v)) (hd : 1 ≤ d) : ye_X xs d 29 [.ref sA] P (fun r P' => P' = P ∧ r = some (ye_v (L.length : Int))) := by
  refine ye_go ?_
  have a0 : z_get (lv_args 0 [.ref sA]) 0 = some (.ref sA) := rfl
  refine z_r_ld (kk := z_isA) (ins := (.aload_n 0)) (len := 1) (t := 1) (i := 0) rfl rfl rfl rfl rfl (fun _ => rfl) a0 rfl ?_
  refine z_r_rd (ins := (.getfield 9)) (len := 3) (t := 4) rfl rfl rfl rfl rfl (z_gfv (ci := 98) (k := 0) (v := .ref sB) rfl (hA) (by decide) rfl) ?_
  refine z_r_rd (ins := .arraylength) (len := 1) (t := 5) rfl rfl rfl rfl rfl (ye_len (n := (L.length : Int)) (hB) (Nat.le_of_ble_eq_true rfl) (Nat.le_of_ble_eq_true rfl) (by rw [List.length_map])) ?_
  refine z_r_ld (kk := z_isA) (ins := (.aload_n 0)) (len := 1) (t := 6) (i := 0) rfl rfl rfl rfl rfl (fun _ => rfl) a0 rfl ?_
  refine ye_ca (ins := (.invokevirtual 335)) (kd := 1) (t := 9) rfl rfl (by decide) (z_argsv rfl rfl rfl (by omega) (Nat.le_of_ble_eq_true rfl) rfl (Nat.le_of_ble_eq_true rfl) (Nat.le_refl _) (Nat.le_refl _) (Or.inr (Nat.le_of_ble_eq_true rfl)) (Or.inr (z_atv (hA) rfl))) rfl rfl rfl (ye_coder hA) ?_
  rintro _ _ ⟨rfl, rfl⟩
  refine z_r_pu (ins := .ishr) (len := 1) (t := 10) rfl rfl rfl rfl ye_shr0 ?_
  refine ye_ret (ins := .ireturn) rfl rfl rfl (ye_reti rfl) ?_
  exact ⟨rfl, rfl⟩
theorem ye_ix31 (hB : z_lk (z_strs (z_G xs)) P sB = some (101, L.map ye_v)) (hL : ∀ a ∈ L, 0 ≤ a ∧ a < 128) (hl : L.length ≤ 100) (hp : 1 ≤ L.length) (he : 0 ≤ e ∧ e < 256) (hd : 1 ≤ d) : ye_X xs d 31 [.ref sB, ye_v e, ye_v 0, ye_v ((L.length : Int))] P (fun r P' => P' = P ∧ r = some (ye_v (yi_fr L e 0))) := by
  refine ye_go ?_
  have a0 : z_get (lv_args 0 [.ref sB, ye_v e, ye_v 0, ye_v ((L.length : Int))]) 0 = some (.ref sB) := rfl
  have a1 : z_get (lv_args 0 [.ref sB, ye_v e, ye_v 0, ye_v ((L.length : Int))]) 1 = some (ye_v e) := rfl
  have a2 : z_get (lv_args 0 [.ref sB, ye_v e, ye_v 0, ye_v ((L.length : Int))]) 2 = some (ye_v 0) := rfl
  have a3 : z_get (lv_args 0 [.ref sB, ye_v e, ye_v 0, ye_v ((L.length : Int))]) 3 = some (ye_v ((L.length : Int))) := rfl
  refine z_r_ld (kk := z_isI) (ins := (.iload_n 1)) (len := 1) (t := 1) (i := 1) rfl rfl rfl rfl rfl (fun _ => rfl) a1 rfl ?_
  refine ye_ca (ins := (.invokestatic 88)) (kd := 0) (t := 4) rfl rfl (by decide) (z_argsv rfl rfl rfl (by omega) (Nat.le_of_ble_eq_true rfl) rfl (Nat.le_of_ble_eq_true rfl) (Nat.le_refl _) (Nat.le_refl _) (Or.inl rfl) (Or.inl rfl)) rfl rfl rfl (ye_canE he) ?_
  rintro _ _ ⟨rfl, rfl⟩
  refine z_r_jm (ins := (.ifCond .ne 5)) (len := 3) (t := 9) rfl rfl rfl rfl (ye_iy (t := 9) rfl (by omega) (by omega) (by show (1 : Int) ≠ 0; decide)) ?_
  refine z_r_ld (kk := z_isI) (ins := (.iload_n 2)) (len := 1) (t := 10) (i := 2) rfl rfl rfl rfl rfl (fun _ => rfl) a2 rfl ?_
  refine z_r_pu (ins := (.iconst 0)) (len := 1) (t := 11) (st' := [ye_v 0, ye_v 0]) rfl rfl rfl rfl rfl ?_
  refine ye_ca (ins := (.invokestatic 92)) (kd := 0) (t := 14) rfl rfl (by decide) (z_argsv rfl rfl rfl (by omega) (Nat.le_of_ble_eq_true rfl) rfl (Nat.le_of_ble_eq_true rfl) (Nat.le_refl _) (Nat.le_refl _) (Or.inl rfl) (Or.inl rfl)) rfl rfl rfl (ye_max0) ?_
  rintro _ _ ⟨rfl, rfl⟩
  refine z_r_is (kk := z_isI) (ins := (.istore_n 2)) (len := 1) (t := 15) (i := 2) rfl rfl rfl rfl rfl rfl rfl rfl (fun l l_1 k_2 => ?_)
  have l_3 := k_2 _ _ a0 (by decide) (Or.inl (by decide))
  have l_4 := k_2 _ _ a1 (by decide) (Or.inr (by show (1 : Nat) ≠ 2; decide))
  have l_5 := k_2 _ _ a3 (by decide) (Or.inl (by decide))
  refine z_r_ld (kk := z_isI) (ins := (.iload_n 3)) (len := 1) (t := 16) (i := 3) rfl rfl rfl rfl rfl (fun _ => rfl) l_5 rfl ?_
  refine z_r_ld (kk := z_isA) (ins := (.aload_n 0)) (len := 1) (t := 17) (i := 0) rfl rfl rfl rfl rfl (fun _ => rfl) l_3 rfl ?_
  refine z_r_rd (ins := .arraylength) (len := 1) (t := 18) rfl rfl rfl rfl rfl (ye_len (n := (L.length : Int)) (hB) (Nat.le_of_ble_eq_true rfl) (Nat.le_of_ble_eq_true rfl) (by rw [List.length_map])) ?_
  refine ye_ca (ins := (.invokestatic 38)) (kd := 0) (t := 21) rfl rfl (by decide) (z_argsv rfl rfl rfl (by omega) (Nat.le_of_ble_eq_true rfl) rfl (Nat.le_of_ble_eq_true rfl) (Nat.le_refl _) (Nat.le_refl _) (Or.inl rfl) (Or.inl rfl)) rfl rfl rfl (ye_min (by omega) (by omega)) ?_
  rintro _ _ ⟨rfl, m, rfl, hm⟩
  have hm : m = (L.length : Int) := by omega
  subst hm
  refine z_r_is (kk := z_isI) (ins := (.istore_n 3)) (len := 1) (t := 22) (i := 3) rfl rfl rfl rfl rfl rfl rfl rfl (fun l l_6 k_7 => ?_)
  have l_8 := k_7 _ _ l_3 (by decide) (Or.inl (by decide))
  have l_9 := k_7 _ _ l_4 (by decide) (Or.inl (by decide))
  have l_10 := k_7 _ _ l_1 (by decide) (Or.inr (by show (1 : Nat) ≠ 2; decide))
  refine z_r_ld (kk := z_isI) (ins := (.iload_n 2)) (len := 1) (t := 23) (i := 2) rfl rfl rfl rfl rfl (fun _ => rfl) l_10 rfl ?_
  refine z_r_ld (kk := z_isI) (ins := (.iload_n 3)) (len := 1) (t := 24) (i := 3) rfl rfl rfl rfl rfl (fun _ => rfl) l_6 rfl ?_
  refine z_r_jm (ins := (.if_icmp .lt 5)) (len := 3) (t := 29) rfl rfl rfl rfl (ye_jy (t := 29) rfl (by omega) (by omega) (by omega) (by omega) (by show 0 < (L.length : Int); omega)) ?_
  refine z_r_ld (kk := z_isA) (ins := (.aload_n 0)) (len := 1) (t := 30) (i := 0) rfl rfl rfl rfl rfl (fun _ => rfl) l_8 rfl ?_
  refine z_r_ld (kk := z_isI) (ins := (.iload_n 1)) (len := 1) (t := 31) (i := 1) rfl rfl rfl rfl rfl (fun _ => rfl) l_9 rfl ?_
  refine z_r_ld (kk := z_isI) (ins := (.iload_n 2)) (len := 1) (t := 32) (i := 2) rfl rfl rfl rfl rfl (fun _ => rfl) l_10 rfl ?_
  refine z_r_ld (kk := z_isI) (ins := (.iload_n 3)) (len := 1) (t := 33) (i := 3) rfl rfl rfl rfl rfl (fun _ => rfl) l_6 rfl ?_
  refine ye_ca (ins := (.invokestatic 95)) (kd := 0) (t := 36) rfl rfl (by decide) (z_argsv rfl rfl rfl (by omega) (Nat.le_of_ble_eq_true rfl) rfl (Nat.le_of_ble_eq_true rfl) (Nat.le_refl _) (Nat.le_refl _) (Or.inl rfl) (Or.inl rfl)) rfl rfl rfl (ye_ixc hB hL hl rfl he) ?_
  rintro _ _ ⟨rfl, rfl⟩
  refine ye_ret (ins := .ireturn) rfl rfl rfl (ye_reti rfl) ?_
  exact ⟨rfl, rfl⟩
theorem ye_ix27 (hA : z_lk (z_strs (z_G xs)) P sA = some (98, [.ref sB, ye_v 0])) (hB : z_lk (z_strs (z_G xs)) P sB = some (101, L.map ye_v)) (hL : ∀ a ∈ L, 0 ≤ a ∧ a < 128) (hl : L.length ≤ 100) (hp : 1 ≤ L.length) (he : 0 ≤ e ∧ e < 256) (hd : 2 ≤ d) : ye_X xs d 27 [.ref sA, ye_v e, ye_v 0] P (fun r P' => P' = P ∧ r = some (ye_v (yi_fr L e 0))) := by
  refine ye_go ?_
  have a0 : z_get (lv_args 0 [.ref sA, ye_v e, ye_v 0]) 0 = some (.ref sA) := rfl
  have a1 : z_get (lv_args 0 [.ref sA, ye_v e, ye_v 0]) 1 = some (ye_v e) := rfl
  have a2 : z_get (lv_args 0 [.ref sA, ye_v e, ye_v 0]) 2 = some (ye_v 0) := rfl
  refine z_r_ld (kk := z_isA) (ins := (.aload_n 0)) (len := 1) (t := 1) (i := 0) rfl rfl rfl rfl rfl (fun _ => rfl) a0 rfl ?_
  refine ye_ca (ins := (.invokevirtual 492)) (kd := 1) (t := 4) rfl rfl (by decide) (z_argsv rfl rfl rfl (by omega) (Nat.le_of_ble_eq_true rfl) rfl (Nat.le_of_ble_eq_true rfl) (Nat.le_refl _) (Nat.le_refl _) (Or.inr (Nat.le_of_ble_eq_true rfl)) (Or.inr (z_atv (hA) rfl))) rfl rfl rfl (ye_isL1 hA) ?_
  rintro _ _ ⟨rfl, rfl⟩
  refine z_r_jm (ins := (.ifCond .eq 19)) (len := 3) (t := 7) rfl rfl rfl rfl (ye_in (t := 23) rfl (by omega) (by omega) (by show ¬ ((1 : Int) = 0); decide)) ?_
  refine z_r_ld (kk := z_isA) (ins := (.aload_n 0)) (len := 1) (t := 8) (i := 0) rfl rfl rfl rfl rfl (fun _ => rfl) a0 rfl ?_
  refine z_r_rd (ins := (.getfield 9)) (len := 3) (t := 11) rfl rfl rfl rfl rfl (z_gfv (ci := 98) (k := 0) (v := .ref sB) rfl (hA) (by decide) rfl) ?_
  refine z_r_ld (kk := z_isI) (ins := (.iload_n 1)) (len := 1) (t := 12) (i := 1) rfl rfl rfl rfl rfl (fun _ => rfl) a1 rfl ?_
  refine z_r_ld (kk := z_isI) (ins := (.iload_n 2)) (len := 1) (t := 13) (i := 2) rfl rfl rfl rfl rfl (fun _ => rfl) a2 rfl ?_
  refine z_r_ld (kk := z_isA) (ins := (.aload_n 0)) (len := 1) (t := 14) (i := 0) rfl rfl rfl rfl rfl (fun _ => rfl) a0 rfl ?_
  refine ye_ca (ins := (.invokevirtual 505)) (kd := 1) (t := 17) rfl rfl (by decide) (z_argsv rfl rfl rfl (by omega) (Nat.le_of_ble_eq_true rfl) rfl (Nat.le_of_ble_eq_true rfl) (Nat.le_refl _) (Nat.le_refl _) (Or.inr (Nat.le_of_ble_eq_true rfl)) (Or.inr (z_atv (hA) rfl))) rfl rfl rfl (ye_slen hA hB (by omega)) ?_
  rintro _ _ ⟨rfl, rfl⟩
  refine ye_ca (ins := (.invokestatic 637)) (kd := 0) (t := 20) rfl rfl (by decide) (z_argsv rfl rfl rfl (by omega) (Nat.le_of_ble_eq_true rfl) rfl (Nat.le_of_ble_eq_true rfl) (Nat.le_refl _) (Nat.le_refl _) (Or.inl rfl) (Or.inl rfl)) rfl rfl rfl (ye_ix31 hB hL hl hp he (by omega)) ?_
  rintro _ _ ⟨rfl, rfl⟩
  refine z_r_jm (ins := (.goto 16)) (len := 3) (t := 36) rfl rfl rfl rfl (z_gty rfl) ?_
  refine ye_ret (ins := .ireturn) rfl rfl rfl (ye_reti rfl) ?_
  exact ⟨rfl, rfl⟩
theorem ye_ix26 (hA : z_lk (z_strs (z_G xs)) P sA = some (98, [.ref sB, ye_v 0])) (hB : z_lk (z_strs (z_G xs)) P sB = some (101, L.map ye_v)) (hL : ∀ a ∈ L, 0 ≤ a ∧ a < 128) (hl : L.length ≤ 100) (hp : 1 ≤ L.length) (he : 0 ≤ e ∧ e < 256) (hd : 3 ≤ d) : ye_X xs d 26 [.ref sA, ye_v e] P (fun r P' => P' = P ∧ r = some (ye_v (yi_fr L e 0))) := by
  refine ye_go ?_
  have a0 : z_get (lv_args 0 [.ref sA, ye_v e]) 0 = some (.ref sA) := rfl
  have a1 : z_get (lv_args 0 [.ref sA, ye_v e]) 1 = some (ye_v e) := rfl
  refine z_r_ld (kk := z_isA) (ins := (.aload_n 0)) (len := 1) (t := 1) (i := 0) rfl rfl rfl rfl rfl (fun _ => rfl) a0 rfl ?_
  refine z_r_ld (kk := z_isI) (ins := (.iload_n 1)) (len := 1) (t := 2) (i := 1) rfl rfl rfl rfl rfl (fun _ => rfl) a1 rfl ?_
  refine z_r_pu (ins := (.iconst 0)) (len := 1) (t := 3) (st' := [ye_v 0, ye_v e, .ref sA]) rfl rfl rfl rfl rfl ?_
  refine ye_ca (ins := (.invokevirtual 633)) (kd := 1) (t := 6) rfl rfl (by decide) (z_argsv rfl rfl rfl (by omega) (Nat.le_of_ble_eq_true rfl) rfl (Nat.le_of_ble_eq_true rfl) (Nat.le_refl _) (Nat.le_refl _) (Or.inr (Nat.le_of_ble_eq_true rfl)) (Or.inr (z_atv (hA) rfl))) rfl rfl rfl (ye_ix27 hA hB hL hl hp he (by omega)) ?_
  rintro _ _ ⟨rfl, rfl⟩
  refine ye_ret (ins := .ireturn) rfl rfl rfl (ye_reti rfl) ?_
  exact ⟨rfl, rfl⟩
theorem ye_take1 (hS : P[aS]? = some (1, [.ref aT, ye_v len, ye_v p, ye_v lim, ye_v mo])) (fS : aS < z_far) (hT : P[aT]? = some (102, vs)) (fT : aT < z_far) (hx : ye_tx T len 0 255 vs) (hb : 0 ≤ p ∧ p ≤ lim ∧ lim ≤ len ∧ len ≤ 80) (hA : z_lk (z_strs (z_G xs)) P sA = some (98, [.ref sB, ye_v 0])) (hB : z_lk (z_strs (z_G xs)) P sB = some (101, L.map ye_v)) (hL : ∀ a ∈ L, 0 ≤ a ∧ a < 128) (hl : L.length ≤ 100) (hp : 1 ≤ L.length) (hd : 4 ≤ d) : ye_X xs d 25 [.ref aS, .ref sA] P (fun r P' => ∃ k p', r = some (ye_v k) ∧ P'[aS]? = some (1, [.ref aT, ye_v len, ye_v p', ye_v lim, ye_v mo]) ∧ ye_oth [aS] P P' ∧ k = (if p < lim then yi_fr L (T p) 0 else -1) ∧ ((k = -1 ∧ p' = p) ∨ (0 ≤ k ∧ k < L.length ∧ p' = p + 1))) := by
  refine ye_go ?_
  have a0 : z_get (lv_args 0 [.ref aS, .ref sA]) 0 = some (.ref aS) := rfl
  have a1 : z_get (lv_args 0 [.ref aS, .ref sA]) 1 = some (.ref sA) := rfl
  have ho0 : ye_oth [aS] P P := ye_oth_rf
  refine z_r_ld (kk := z_isA) (ins := (.aload_n 0)) (len := 1) (t := 1) (i := 0) rfl rfl rfl rfl rfl (fun _ => rfl) a0 rfl ?_
  refine z_r_rd (ins := (.getfield 19)) (len := 3) (t := 4) rfl rfl rfl rfl rfl (z_gfv (ci := 1) (k := 2) (v := ye_v p) rfl (z_lkn fS hS) (by decide) rfl) ?_
  refine z_r_ld (kk := z_isA) (ins := (.aload_n 0)) (len := 1) (t := 5) (i := 0) rfl rfl rfl rfl rfl (fun _ => rfl) a0 rfl ?_
  refine z_r_rd (ins := (.getfield 22)) (len := 3) (t := 8) rfl rfl rfl rfl rfl (z_gfv (ci := 1) (k := 3) (v := ye_v lim) rfl (z_lkn fS hS) (by decide) rfl) ?_
  by_cases b_1 : lim ≤ p
  · skip
    refine z_r_jm (ins := (.if_icmp .ge 19)) (len := 3) (t := 27) rfl rfl rfl rfl (ye_jy (t := 27) rfl (by omega) (by omega) (by omega) (by omega) b_1) ?_
    refine z_r_pu (ins := (.iconst (-1))) (len := 1) (t := 28) (st' := [ye_v ((-1))]) rfl rfl rfl rfl rfl ?_
    refine z_r_is (kk := z_isI) (ins := (.istore_n 2)) (len := 1) (t := 29) (i := 2) rfl rfl rfl rfl rfl rfl rfl rfl (fun l l_2 k_3 => ?_)
    have l_4 := k_3 _ _ a0 (by decide) (Or.inl (by decide))
    have l_5 := k_3 _ _ a1 (by decide) (Or.inr (by show (1 : Nat) ≠ 2; decide))
    refine z_r_ld (kk := z_isI) (ins := (.iload_n 2)) (len := 1) (t := 30) (i := 2) rfl rfl rfl rfl rfl (fun _ => rfl) l_2 rfl ?_
    refine z_r_jm (ins := (.ifCond .lt 15)) (len := 3) (t := 45) rfl rfl rfl rfl (ye_iy (t := 45) rfl (by omega) (by omega) (by show ((-1) : Int) < 0; decide)) ?_
    refine z_r_pu (ins := (.iconst (-1))) (len := 1) (t := 46) (st' := [ye_v ((-1))]) rfl rfl rfl rfl rfl ?_
    refine ye_ret (ins := .ireturn) rfl rfl rfl (ye_reti rfl) ?_
    exact ⟨-1, p, rfl, hS, ho0, by rw [if_neg (by omega)], by omega⟩
  · skip
    refine z_r_jm (ins := (.if_icmp .ge 19)) (len := 3) (t := 11) rfl rfl rfl rfl (ye_jn (t := 27) rfl (by omega) (by omega) (by omega) (by omega) b_1) ?_
    refine z_r_ld (kk := z_isA) (ins := (.aload_n 1)) (len := 1) (t := 12) (i := 1) rfl rfl rfl rfl rfl (fun _ => rfl) a1 rfl ?_
    refine z_r_ld (kk := z_isA) (ins := (.aload_n 0)) (len := 1) (t := 13) (i := 0) rfl rfl rfl rfl rfl (fun _ => rfl) a0 rfl ?_
    refine z_r_rd (ins := (.getfield 11)) (len := 3) (t := 16) rfl rfl rfl rfl rfl (z_gfv (ci := 1) (k := 0) (v := .ref aT) rfl (z_lkn fS hS) (by decide) rfl) ?_
    refine z_r_ld (kk := z_isA) (ins := (.aload_n 0)) (len := 1) (t := 17) (i := 0) rfl rfl rfl rfl rfl (fun _ => rfl) a0 rfl ?_
    refine z_r_rd (ins := (.getfield 19)) (len := 3) (t := 20) rfl rfl rfl rfl rfl (z_gfv (ci := 1) (k := 2) (v := ye_v p) rfl (z_lkn fS hS) (by decide) rfl) ?_
    obtain ⟨e_6, v_7, v_71, v_72, s_8⟩ := hx.2 (p) (by omega) (by omega)
    refine z_r_rd (ins := .caload) (len := 1) (t := 21) rfl rfl rfl rfl rfl (ye_al (t := 102) (p := p) (e := e_6) (z_lkn fT hT) (by omega) (by omega) v_7) ?_
    refine ye_ca (ins := (.invokevirtual 39)) (kd := 1) (t := 24) rfl rfl (by decide) (z_argsv rfl rfl rfl (by omega) (Nat.le_of_ble_eq_true rfl) rfl (Nat.le_of_ble_eq_true rfl) (Nat.le_refl _) (Nat.le_refl _) (Or.inr (Nat.le_of_ble_eq_true rfl)) (Or.inr (z_atv (hA) rfl))) rfl rfl rfl (ye_ix26 hA hB hL hl hp (by omega) (by omega)) ?_
    rintro _ _ ⟨rfl, rfl⟩
    have hse_6 := yi_fr_sig (i := 0) s_8 hL
    unfold ye_sig at s_8
    have hbd := yi_fr_bd (e := e_6) (L := L) (i := 0) (by decide)
    refine z_r_jm (ins := (.goto 4)) (len := 3) (t := 28) rfl rfl rfl rfl (z_gty rfl) ?_
    refine z_r_is (kk := z_isI) (ins := (.istore_n 2)) (len := 1) (t := 29) (i := 2) rfl rfl rfl rfl rfl rfl rfl rfl (fun l l_9 k_10 => ?_)
    have l_11 := k_10 _ _ a0 (by decide) (Or.inl (by decide))
    have l_12 := k_10 _ _ a1 (by decide) (Or.inr (by show (1 : Nat) ≠ 2; decide))
    refine z_r_ld (kk := z_isI) (ins := (.iload_n 2)) (len := 1) (t := 30) (i := 2) rfl rfl rfl rfl rfl (fun _ => rfl) l_9 rfl ?_
    by_cases b_13 : yi_fr L e_6 0 < 0
    · skip
      refine z_r_jm (ins := (.ifCond .lt 15)) (len := 3) (t := 45) rfl rfl rfl rfl (ye_iy (t := 45) rfl (by omega) (by omega) b_13) ?_
      refine z_r_pu (ins := (.iconst (-1))) (len := 1) (t := 46) (st' := [ye_v ((-1))]) rfl rfl rfl rfl rfl ?_
      refine ye_ret (ins := .ireturn) rfl rfl rfl (ye_reti rfl) ?_
      exact ⟨-1, p, rfl, hS, ho0, by rw [if_pos (by omega), ← hse_6]; omega, by omega⟩
    · skip
      refine z_r_jm (ins := (.ifCond .lt 15)) (len := 3) (t := 33) rfl rfl rfl rfl (ye_in (t := 45) rfl (by omega) (by omega) b_13) ?_
      refine z_r_ld (kk := z_isA) (ins := (.aload_n 0)) (len := 1) (t := 34) (i := 0) rfl rfl rfl rfl rfl (fun _ => rfl) l_11 rfl ?_
      refine z_r_pu (ins := .dup) (len := 1) (t := 35) rfl rfl rfl rfl rfl ?_
      refine z_r_rd (ins := (.getfield 19)) (len := 3) (t := 38) rfl rfl rfl rfl rfl (z_gfv (ci := 1) (k := 2) (v := ye_v p) rfl (z_lkn fS hS) (by decide) rfl) ?_
      refine z_r_pu (ins := (.iconst 1)) (len := 1) (t := 39) (st' := [ye_v 1, ye_v p, .ref aS]) rfl rfl rfl rfl rfl ?_
      refine z_r_pu (ins := .iadd) (len := 1) (t := 40) rfl rfl rfl rfl ye_add ?_
      refine ye_r_wr (ins := (.putfield 19)) (len := 3) (t := 43) (a := aS) (q := (1, [.ref aT, ye_v len, ye_v (p + 1), ye_v lim, ye_v mo])) rfl rfl rfl rfl rfl hS (z_pfv (ci := 1) (k := 2) rfl hS (by decide) (Nat.le_of_ble_eq_true rfl) rfl rfl rfl) (fun P_14 c_15 o_16 => ?_)
      have c_17 := ye_kp o_16 (ye_n1 (ye_ne hT hS (by decide))) hT
      have o_18 := ye_oth_tr ho0 o_16 (ye_s1 (List.mem_cons_self))
      refine z_r_ld (kk := z_isI) (ins := (.iload_n 2)) (len := 1) (t := 44) (i := 2) rfl rfl rfl rfl rfl (fun _ => rfl) l_9 rfl ?_
      refine ye_ret (ins := .ireturn) rfl rfl rfl (ye_reti rfl) ?_
      exact ⟨yi_fr L e_6 0, p + 1, rfl, c_15, o_18, by rw [if_pos (by omega), ← hse_6], by omega⟩
end YLET
