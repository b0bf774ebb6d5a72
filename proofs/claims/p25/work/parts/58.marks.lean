/-! marks from 142 on, by hand: what its table of the most holds, why its search ends. -/
section ZMRK
variable {xs : List Int32} {d aM aF aW aR : Nat} {P : z_H} {fl L W R : List Value} {n k w m a b r : Int32} {s v : Int64} {y : Int32} {j j2 j3 : Nat} {Ψ : z_S → Prop}
theorem z_lgc (a b : Int64) : (lg_cmp a b).toInt = if a.toInt < b.toInt then -1 else if a.toInt = b.toInt then 0 else 1 := by
  unfold lg_cmp
  by_cases h1 : b < a
  · have h2 := Int64.lt_iff_toInt_lt.mp h1
    rw [if_pos h1, if_neg (by omega), if_neg (by omega)]
    rfl
  · have h2 : ¬ b.toInt < a.toInt := fun h => h1 (Int64.lt_iff_toInt_lt.mpr h)
    rw [if_neg h1]
    by_cases h3 : a = b
    · rw [if_pos h3, if_neg (by rw [h3]; omega), if_pos (by rw [h3])]
      rfl
    · have h4 : a.toInt ≠ b.toInt := fun h => h3 (Int64.toInt_inj.mp h)
      rw [if_neg h3, if_pos (by omega)]
      rfl
theorem z_lgt {a b : Int64} {cc : ClassFile.Cond} {t : Bool} (h : z_cmp cc (lg_cmp a b) 0 = t) : z_cmp cc (lg_cmp a b) 0 = t := h
theorem z_lge_t {a b : Int64} (h : a.toInt = b.toInt) : z_cmp .eq (lg_cmp a b) 0 = true := by
  rw [z_c_eq, z_lgc, if_neg (by omega), if_pos h]
  rfl
theorem z_lge_f {a b : Int64} (h : a.toInt ≠ b.toInt) : z_cmp .eq (lg_cmp a b) 0 = false := by
  rw [z_c_eq, z_lgc]
  by_cases h1 : a.toInt < b.toInt
  · rw [if_pos h1]
    rfl
  · rw [if_neg h1, if_neg h]
    rfl
theorem z_lgle_t {a b : Int64} (h : a.toInt ≤ b.toInt) : z_cmp .le (lg_cmp a b) 0 = true := by
  rw [z_c_le, z_lgc]
  by_cases h1 : a.toInt < b.toInt
  · rw [if_pos h1]
    rfl
  · rw [if_neg h1, if_pos (by omega)]
    rfl
theorem z_lgle_f {a b : Int64} (h : b.toInt < a.toInt) : z_cmp .le (lg_cmp a b) 0 = false := by
  rw [z_c_le, z_lgc, if_neg (by omega), if_neg (by omega)]
  rfl
theorem z_lglt_t {a b : Int64} (h : a.toInt < b.toInt) : z_cmp .lt (lg_cmp a b) 0 = true := by
  rw [z_c_lt, z_lgc, if_pos h]
  rfl
theorem z_lglt_f {a b : Int64} (h : b.toInt ≤ a.toInt) : z_cmp .lt (lg_cmp a b) 0 = false := by
  rw [z_c_lt, z_lgc, if_neg (by omega)]
  by_cases h1 : a.toInt = b.toInt
  · rw [if_pos h1]
    rfl
  · rw [if_neg h1]
    rfl
theorem z_i64 (y : Int32) : y.toInt64.toInt = y.toInt := Int32.toInt_toInt64 y
theorem z_1t : (Int32.ofInt 1).toInt = 1 := rfl
theorem z_0t : (0 : Int32).toInt = 0 := rfl
theorem z_n1t : (-1 : Int64).toInt = -1 := rfl
theorem z_mx1 {l : z_L} {Ψ : z_S → Prop} (h0 : z_get l 0 = some (.long s)) (h2 : z_get l 2 = some (.long v)) (hc : s.toInt < v.toInt) (kk : z_Rh (z_G xs) d 171 Ψ (11, l, [.long v], P, 0, 0)) : z_Rh (z_G xs) d 171 Ψ (0, l, [], P, 0, 0) := by
  refine z_r_ld (ins := (.lload_n 0)) (len := 1) (t := 1) (i := 0) rfl rfl rfl rfl rfl (fun _ => rfl) h0 rfl ?_
  refine z_r_ld (ins := (.lload_n 2)) (len := 1) (t := 2) (i := 2) rfl rfl rfl rfl rfl (fun _ => rfl) h2 rfl ?_
  refine z_r_pu (ins := .lcmp) (len := 1) (t := 3) rfl rfl rfl rfl rfl ?_
  refine z_r_jm (ins := (.ifCond .lt 7)) (len := 3) (t := 10) rfl rfl rfl rfl (z_ify (t := 10) rfl (z_lglt_t hc)) ?_
  refine z_r_ld (ins := (.lload_n 2)) (len := 1) (t := 11) (i := 2) rfl rfl rfl rfl rfl (fun _ => rfl) h2 rfl ?_
  exact kk
theorem z_mx2 {l : z_L} {Ψ : z_S → Prop} (h0 : z_get l 0 = some (.long s)) (h2 : z_get l 2 = some (.long v)) (hc : v.toInt ≤ s.toInt) (kk : z_Rh (z_G xs) d 171 Ψ (11, l, [.long s], P, 0, 0)) : z_Rh (z_G xs) d 171 Ψ (0, l, [], P, 0, 0) := by
  refine z_r_ld (ins := (.lload_n 0)) (len := 1) (t := 1) (i := 0) rfl rfl rfl rfl rfl (fun _ => rfl) h0 rfl ?_
  refine z_r_ld (ins := (.lload_n 2)) (len := 1) (t := 2) (i := 2) rfl rfl rfl rfl rfl (fun _ => rfl) h2 rfl ?_
  refine z_r_pu (ins := .lcmp) (len := 1) (t := 3) rfl rfl rfl rfl rfl ?_
  refine z_r_jm (ins := (.ifCond .lt 7)) (len := 3) (t := 6) rfl rfl rfl rfl (z_ifn (t := 10) rfl (z_lglt_f hc)) ?_
  refine z_r_ld (ins := (.lload_n 0)) (len := 1) (t := 7) (i := 0) rfl rfl rfl rfl rfl (fun _ => rfl) h0 rfl ?_
  refine z_r_jm (ins := (.goto 4)) (len := 3) (t := 11) rfl rfl rfl rfl (z_gty rfl) ?_
  exact kk
theorem z_maxr (s v : Int64) : ∃ u : Int64, u.toInt = max s.toInt v.toInt ∧ z_Runs (z_G xs) d 171 (0, lv_args 0 [.long s, .long v], [], P, 0, 0) (some (.long u)) P := by
  have key : ∃ r P', z_Runs (z_G xs) d 171 (0, lv_args 0 [.long s, .long v], [], P, 0, 0) r P' ∧ ∃ u : Int64, r = some (.long u) ∧ P' = P ∧ u.toInt = max s.toInt v.toInt := by
    refine z_rh_runs (Ψ := fun q => ∃ (l : z_L) (u : Int64), q = (11, l, [.long u], P, 0, 0) ∧ u.toInt = max s.toInt v.toInt) ?_ ?_
    · by_cases hc : s.toInt < v.toInt
      · exact z_mx1 rfl rfl hc (z_rh_end ⟨_, v, rfl, by omega⟩)
      · exact z_mx2 rfl rfl (by omega) (z_rh_end ⟨_, s, rfl, by omega⟩)
    · rintro q1 ⟨l, u, rfl, hu⟩
      refine ⟨some (.long u), P, z_r_ret (ins := .lreturn) rfl rfl ?_, u, rfl, rfl, hu⟩
      show (if z_rty (z_G xs) 171 = some .long then some (some (Value.long u)) else none) = _
      exact if_pos rfl
  obtain ⟨r, P', h1, u, rfl, rfl, hu⟩ := key
  exact ⟨u, hu, h1⟩
theorem z_te1 {l : z_L} {Ψ : z_S → Prop} (h0 : z_get l 0 = some (.ref aM)) (h1 : z_get l 1 = some (.long v)) (hM : P[aM]? = some (10, fl)) (fM : aM < z_far) (hR : P[aR]? = some (104, R)) (q12 : fl[12]? = some (.ref aR)) (q13 : fl[13]? = some (.int r)) (hne : aR ≠ aM) (hr : r.toInt = (j : Int)) (hj : j < R.length)
    (kk : z_Rh (z_G xs) d 222 Ψ (20, l, [], (P.set aR (104, R.set j (.long v))).set aM (10, fl.set 13 (.int (r + Int32.ofInt 1))), 0, 0)) : z_Rh (z_G xs) d 222 Ψ (0, l, [], P, 0, 0) := by
  refine z_r_ld (ins := (.aload_n 0)) (len := 1) (t := 1) (i := 0) rfl rfl rfl rfl rfl (fun _ => rfl) h0 rfl ?_
  refine z_r_rd (ins := (.getfield 39)) (len := 3) (t := 4) rfl rfl rfl rfl rfl (z_gfv (ci := 10) (k := 12) rfl (z_lkn fM hM) (by decide) q12) ?_
  refine z_r_ld (ins := (.aload_n 0)) (len := 1) (t := 5) (i := 0) rfl rfl rfl rfl rfl (fun _ => rfl) h0 rfl ?_
  refine z_r_rd (ins := (.getfield 127)) (len := 3) (t := 8) rfl rfl rfl rfl rfl (z_gfv (ci := 10) (k := 13) rfl (z_lkn fM hM) (by decide) q13) ?_
  refine z_r_ld (ins := (.lload_n 1)) (len := 1) (t := 9) (i := 1) rfl rfl rfl rfl rfl (fun _ => rfl) h1 rfl ?_
  refine z_r_wr (ins := .lastore) (len := 1) (t := 10) rfl rfl rfl rfl rfl (z_lsv hR hr hj) ?_
  have hM : (P.set aR (104, R.set j (.long v)))[aM]? = some (10, fl) := by rw [List.getElem?_set_ne hne]; exact hM
  refine z_r_ld (ins := (.aload_n 0)) (len := 1) (t := 11) (i := 0) rfl rfl rfl rfl rfl (fun _ => rfl) h0 rfl ?_
  refine z_r_pu (ins := .dup) (len := 1) (t := 12) rfl rfl rfl rfl rfl ?_
  refine z_r_rd (ins := (.getfield 127)) (len := 3) (t := 15) rfl rfl rfl rfl rfl (z_gfv (ci := 10) (k := 13) rfl (z_lkn fM hM) (by decide) q13) ?_
  refine z_r_pu (ins := (.iconst 1)) (len := 1) (t := 16) rfl rfl rfl rfl rfl ?_
  refine z_r_pu (ins := .iadd) (len := 1) (t := 17) rfl rfl rfl rfl rfl ?_
  refine z_r_wr (ins := (.putfield 127)) (len := 3) (t := 20) rfl rfl rfl rfl rfl (z_pfv (ci := 10) (k := 13) rfl hM (by decide) (List.getElem?_eq_some_iff.mp q13).1 rfl rfl rfl) ?_
  exact kk
theorem z_tellr (hM : P[aM]? = some (10, fl)) (fM : aM < z_far) (hR : P[aR]? = some (104, R)) (q12 : fl[12]? = some (.ref aR)) (q13 : fl[13]? = some (.int r)) (hne : aR ≠ aM) (hr : r.toInt = (j : Int)) (hj : j < R.length) : z_Runs (z_G xs) d 222 (0, lv_args 0 [.ref aM, .long v], [], P, 0, 0) none ((P.set aR (104, R.set j (.long v))).set aM (10, fl.set 13 (.int (r + Int32.ofInt 1)))) := by
  have key : ∃ r0 P', z_Runs (z_G xs) d 222 (0, lv_args 0 [.ref aM, .long v], [], P, 0, 0) r0 P' ∧ r0 = none ∧ P' = (P.set aR (104, R.set j (.long v))).set aM (10, fl.set 13 (.int (r + Int32.ofInt 1))) := by
    refine z_rh_runs (Ψ := fun q => ∃ l, q = (20, l, [], (P.set aR (104, R.set j (.long v))).set aM (10, fl.set 13 (.int (r + Int32.ofInt 1))), 0, 0)) (z_te1 rfl rfl hM fM hR q12 q13 hne hr hj (z_rh_end ⟨_, rfl⟩)) ?_
    rintro q1 ⟨l, rfl⟩
    exact ⟨none, _, z_r_ret (ins := .return_) rfl rfl rfl, rfl, rfl⟩
  obtain ⟨r0, P', h1, rfl, rfl⟩ := key
  exact h1
theorem z_mk142  {l : z_L} (h0 : z_get l 0 = some (.ref aM)) (h1 : z_get l 1 = some (.int k)) (h2 : z_get l 2 = some (.int w))  
    (kk : ∀ l, z_get l 0 = some (.ref aM) → z_get l 1 = some (.int k) → z_get l 2 = some (.int w) → z_get l 3 = some (.int (Int32.ofInt 0)) → z_Rh (z_G xs) d 256 Ψ (144, l, [], P, 0, 0)) : z_Rh (z_G xs) d 256 Ψ (142, l, [], P, 0, 0) := by
  refine z_r_pu (ins := (.iconst 0)) (len := 1) (t := 143) rfl rfl rfl rfl rfl ?_
  refine z_r_is (kk := z_isI) (ins := (.istore_n 3)) (len := 1) (t := 144) (i := 3) rfl rfl rfl rfl rfl rfl rfl rfl (fun l h3 hk => ?_)
  have h0 := hk _ _ h0 (by decide) (Or.inl (by decide))
  have h1 := hk _ _ h1 (by decide) (Or.inl (by decide))
  have h2 := hk _ _ h2 (by decide) (Or.inr (by show (1 : Nat) ≠ 2; decide))
  exact kk l h0 h1 h2 h3
theorem z_mk1  {l : z_L} (h0 : z_get l 0 = some (.ref aM)) (h1 : z_get l 1 = some (.int k)) (h2 : z_get l 2 = some (.int w)) (h3 : z_get l 3 = some (.int m)) (hM : P[aM]? = some (10, fl)) (fM : aM < z_far) (q5 : fl[5]? = some (.int n)) (hc : m.toInt ≤ k.toInt)
    (kk : ∀ l, z_get l 0 = some (.ref aM) → z_get l 1 = some (.int k) → z_get l 2 = some (.int w) → z_get l 3 = some (.int m) → z_get l 4 = some (.int n) → z_Rh (z_G xs) d 256 Ψ (155, l, [], P, 0, 0)) : z_Rh (z_G xs) d 256 Ψ (144, l, [], P, 0, 0) := by
  refine z_r_ld (ins := (.iload_n 3)) (len := 1) (t := 145) (i := 3) rfl rfl rfl rfl rfl (fun _ => rfl) h3 rfl ?_
  refine z_r_ld (ins := (.iload_n 1)) (len := 1) (t := 146) (i := 1) rfl rfl rfl rfl rfl (fun _ => rfl) h1 rfl ?_
  refine z_r_jm (ins := (.if_icmp .gt 133)) (len := 3) (t := 149) rfl rfl rfl rfl (z_icn (t := 279) rfl (by rw [z_c_gt]; exact decide_eq_false (by omega))) ?_
  refine z_r_ld (ins := (.aload_n 0)) (len := 1) (t := 150) (i := 0) rfl rfl rfl rfl rfl (fun _ => rfl) h0 rfl ?_
  refine z_r_rd (ins := (.getfield 22)) (len := 3) (t := 153) rfl rfl rfl rfl rfl (z_gfv (ci := 10) (k := 5) rfl (z_lkn fM hM) (by decide) q5) ?_
  refine z_r_is (kk := z_isI) (ins := (.istore 4)) (len := 2) (t := 155) (i := 4) rfl rfl rfl rfl rfl rfl rfl rfl (fun l h4 hk => ?_)
  have h0 := hk _ _ h0 (by decide) (Or.inl (by decide))
  have h1 := hk _ _ h1 (by decide) (Or.inl (by decide))
  have h2 := hk _ _ h2 (by decide) (Or.inl (by decide))
  have h3 := hk _ _ h3 (by decide) (Or.inr (by show (1 : Nat) ≠ 2; decide))
  exact kk l h0 h1 h2 h3 h4
theorem z_mk1e  {l : z_L} (h0 : z_get l 0 = some (.ref aM)) (h1 : z_get l 1 = some (.int k)) (h2 : z_get l 2 = some (.int w)) (h3 : z_get l 3 = some (.int m))  (hc : k.toInt < m.toInt)
    (kk : ∀ l, z_get l 0 = some (.ref aM) → z_get l 1 = some (.int k) → z_get l 2 = some (.int w) → z_get l 3 = some (.int m) → z_Rh (z_G xs) d 256 Ψ (279, l, [], P, 0, 0)) : z_Rh (z_G xs) d 256 Ψ (144, l, [], P, 0, 0) := by
  refine z_r_ld (ins := (.iload_n 3)) (len := 1) (t := 145) (i := 3) rfl rfl rfl rfl rfl (fun _ => rfl) h3 rfl ?_
  refine z_r_ld (ins := (.iload_n 1)) (len := 1) (t := 146) (i := 1) rfl rfl rfl rfl rfl (fun _ => rfl) h1 rfl ?_
  refine z_r_jm (ins := (.if_icmp .gt 133)) (len := 3) (t := 279) rfl rfl rfl rfl (z_icy (t := 279) rfl (by rw [z_c_gt]; exact decide_eq_true hc)) ?_
  exact kk l h0 h1 h2 h3
theorem z_mk2e  {l : z_L} (h0 : z_get l 0 = some (.ref aM)) (h1 : z_get l 1 = some (.int k)) (h2 : z_get l 2 = some (.int w)) (h3 : z_get l 3 = some (.int m)) (h4 : z_get l 4 = some (.int a))  (hc : a.toInt < 0)
    (kk : ∀ l, z_get l 0 = some (.ref aM) → z_get l 1 = some (.int k) → z_get l 2 = some (.int w) → z_get l 3 = some (.int (m + Int32.ofInt 1)) → z_Rh (z_G xs) d 256 Ψ (144, l, [], P, 0, 0)) : z_Rh (z_G xs) d 256 Ψ (155, l, [], P, 0, 0) := by
  refine z_r_ld (ins := (.iload 4)) (len := 2) (t := 157) (i := 4) rfl rfl rfl rfl rfl (fun _ => rfl) h4 rfl ?_
  refine z_r_jm (ins := (.ifCond .lt 116)) (len := 3) (t := 273) rfl rfl rfl rfl (z_ify (t := 273) rfl (by rw [z_c_lt, z_0t]; exact decide_eq_true hc)) ?_
  refine z_r_ic (ins := (.iinc 3 1)) (len := 3) (t := 276) (i := 3) rfl rfl rfl rfl rfl rfl h3 (fun l h3 hk => ?_)
  have h0 := hk _ _ h0 (by decide) (Or.inl (by decide))
  have h1 := hk _ _ h1 (by decide) (Or.inl (by decide))
  have h2 := hk _ _ h2 (by decide) (Or.inr (by show (1 : Nat) ≠ 2; decide))
  have h4 := hk _ _ h4 (by decide) (Or.inl (by decide))
  refine z_r_jm (ins := (.goto (-132))) (len := 3) (t := 144) rfl rfl rfl rfl (z_gty rfl) ?_
  exact kk l h0 h1 h2 h3
theorem z_mk2a  {l : z_L} (h0 : z_get l 0 = some (.ref aM)) (h1 : z_get l 1 = some (.int k)) (h2 : z_get l 2 = some (.int w)) (h3 : z_get l 3 = some (.int m)) (h4 : z_get l 4 = some (.int a)) (hM : P[aM]? = some (10, fl)) (fM : aM < z_far) (q5 : fl[5]? = some (.int n)) (ha : 0 ≤ a.toInt) (he : a.toInt = n.toInt) (hm : m.toInt = 0)
    (kk : ∀ l, z_get l 0 = some (.ref aM) → z_get l 1 = some (.int k) → z_get l 2 = some (.int w) → z_get l 3 = some (.int m) → z_get l 4 = some (.int a) → z_get l 5 = some (.long (Int64.ofNat 0)) → z_get l 7 = some (.int (a + (Int32.ofInt 1))) → z_Rh (z_G xs) d 256 Ψ (188, l, [], P, 0, 0)) : z_Rh (z_G xs) d 256 Ψ (155, l, [], P, 0, 0) := by
  refine z_r_ld (ins := (.iload 4)) (len := 2) (t := 157) (i := 4) rfl rfl rfl rfl rfl (fun _ => rfl) h4 rfl ?_
  refine z_r_jm (ins := (.ifCond .lt 116)) (len := 3) (t := 160) rfl rfl rfl rfl (z_ifn (t := 273) rfl (by rw [z_c_lt, z_0t]; exact decide_eq_false (by omega))) ?_
  refine z_r_ld (ins := (.iload 4)) (len := 2) (t := 162) (i := 4) rfl rfl rfl rfl rfl (fun _ => rfl) h4 rfl ?_
  refine z_r_ld (ins := (.aload_n 0)) (len := 1) (t := 163) (i := 0) rfl rfl rfl rfl rfl (fun _ => rfl) h0 rfl ?_
  refine z_r_rd (ins := (.getfield 22)) (len := 3) (t := 166) rfl rfl rfl rfl rfl (z_gfv (ci := 10) (k := 5) rfl (z_lkn fM hM) (by decide) q5) ?_
  refine z_r_jm (ins := (.if_icmp .ne 11)) (len := 3) (t := 169) rfl rfl rfl rfl (z_icn (t := 177) rfl (by rw [z_c_ne]; exact decide_eq_false (by rw [he]; exact fun h => h rfl))) ?_
  refine z_r_ld (ins := (.iload_n 3)) (len := 1) (t := 170) (i := 3) rfl rfl rfl rfl rfl (fun _ => rfl) h3 rfl ?_
  refine z_r_jm (ins := (.ifCond .ne 7)) (len := 3) (t := 173) rfl rfl rfl rfl (z_ifn (t := 177) rfl (by rw [z_c_ne, hm]; decide)) ?_
  refine z_r_pu (ins := (.lconst 0)) (len := 1) (t := 174) rfl rfl rfl rfl rfl ?_
  refine z_r_jm (ins := (.goto 6)) (len := 3) (t := 180) rfl rfl rfl rfl (z_gty rfl) ?_
  refine z_r_ls (ins := (.lstore 5)) (len := 2) (t := 182) (i := 5) rfl rfl rfl rfl rfl rfl rfl (fun l h5 hk => ?_)
  have h0 := hk _ _ h0 (by decide) (by decide) (Or.inl (by decide))
  have h1 := hk _ _ h1 (by decide) (by decide) (Or.inl (by decide))
  have h2 := hk _ _ h2 (by decide) (by decide) (Or.inl (by decide))
  have h3 := hk _ _ h3 (by decide) (by decide) (Or.inl (by decide))
  have h4 := hk _ _ h4 (by decide) (by decide) (Or.inr (by show (1 : Nat) ≠ 2; decide))
  refine z_r_ld (ins := (.iload 4)) (len := 2) (t := 184) (i := 4) rfl rfl rfl rfl rfl (fun _ => rfl) h4 rfl ?_
  refine z_r_pu (ins := (.iconst 1)) (len := 1) (t := 185) rfl rfl rfl rfl rfl ?_
  refine z_r_pu (ins := .iadd) (len := 1) (t := 186) rfl rfl rfl rfl rfl ?_
  refine z_r_is (kk := z_isI) (ins := (.istore 7)) (len := 2) (t := 188) (i := 7) rfl rfl rfl rfl rfl rfl rfl rfl (fun l h7 hk => ?_)
  have h0 := hk _ _ h0 (by decide) (Or.inl (by decide))
  have h1 := hk _ _ h1 (by decide) (Or.inl (by decide))
  have h2 := hk _ _ h2 (by decide) (Or.inl (by decide))
  have h3 := hk _ _ h3 (by decide) (Or.inl (by decide))
  have h4 := hk _ _ h4 (by decide) (Or.inl (by decide))
  have h5 := hk _ _ h5 (by decide) (Or.inl (by decide))
  exact kk l h0 h1 h2 h3 h4 h5 h7
theorem z_mk2b  {l : z_L} (h0 : z_get l 0 = some (.ref aM)) (h1 : z_get l 1 = some (.int k)) (h2 : z_get l 2 = some (.int w)) (h3 : z_get l 3 = some (.int m)) (h4 : z_get l 4 = some (.int a)) (hM : P[aM]? = some (10, fl)) (fM : aM < z_far) (q5 : fl[5]? = some (.int n)) (ha : 0 ≤ a.toInt) (he : a.toInt = n.toInt) (hm : m.toInt ≠ 0)
    (kk : ∀ l, z_get l 0 = some (.ref aM) → z_get l 1 = some (.int k) → z_get l 2 = some (.int w) → z_get l 3 = some (.int m) → z_get l 4 = some (.int a) → z_get l 5 = some (.long (-1)) → z_get l 7 = some (.int (a + (Int32.ofInt 1))) → z_Rh (z_G xs) d 256 Ψ (188, l, [], P, 0, 0)) : z_Rh (z_G xs) d 256 Ψ (155, l, [], P, 0, 0) := by
  refine z_r_ld (ins := (.iload 4)) (len := 2) (t := 157) (i := 4) rfl rfl rfl rfl rfl (fun _ => rfl) h4 rfl ?_
  refine z_r_jm (ins := (.ifCond .lt 116)) (len := 3) (t := 160) rfl rfl rfl rfl (z_ifn (t := 273) rfl (by rw [z_c_lt, z_0t]; exact decide_eq_false (by omega))) ?_
  refine z_r_ld (ins := (.iload 4)) (len := 2) (t := 162) (i := 4) rfl rfl rfl rfl rfl (fun _ => rfl) h4 rfl ?_
  refine z_r_ld (ins := (.aload_n 0)) (len := 1) (t := 163) (i := 0) rfl rfl rfl rfl rfl (fun _ => rfl) h0 rfl ?_
  refine z_r_rd (ins := (.getfield 22)) (len := 3) (t := 166) rfl rfl rfl rfl rfl (z_gfv (ci := 10) (k := 5) rfl (z_lkn fM hM) (by decide) q5) ?_
  refine z_r_jm (ins := (.if_icmp .ne 11)) (len := 3) (t := 169) rfl rfl rfl rfl (z_icn (t := 177) rfl (by rw [z_c_ne]; exact decide_eq_false (by rw [he]; exact fun h => h rfl))) ?_
  refine z_r_ld (ins := (.iload_n 3)) (len := 1) (t := 170) (i := 3) rfl rfl rfl rfl rfl (fun _ => rfl) h3 rfl ?_
  refine z_r_jm (ins := (.ifCond .ne 7)) (len := 3) (t := 177) rfl rfl rfl rfl (z_ify (t := 177) rfl (by rw [z_c_ne]; exact decide_eq_true hm)) ?_
  refine z_r_cs (ins := (.ldc2_w 337)) (len := 3) (t := 180) (v := .long (-1)) rfl rfl rfl rfl rfl rfl ?_
  refine z_r_ls (ins := (.lstore 5)) (len := 2) (t := 182) (i := 5) rfl rfl rfl rfl rfl rfl rfl (fun l h5 hk => ?_)
  have h0 := hk _ _ h0 (by decide) (by decide) (Or.inl (by decide))
  have h1 := hk _ _ h1 (by decide) (by decide) (Or.inl (by decide))
  have h2 := hk _ _ h2 (by decide) (by decide) (Or.inl (by decide))
  have h3 := hk _ _ h3 (by decide) (by decide) (Or.inl (by decide))
  have h4 := hk _ _ h4 (by decide) (by decide) (Or.inr (by show (1 : Nat) ≠ 2; decide))
  refine z_r_ld (ins := (.iload 4)) (len := 2) (t := 184) (i := 4) rfl rfl rfl rfl rfl (fun _ => rfl) h4 rfl ?_
  refine z_r_pu (ins := (.iconst 1)) (len := 1) (t := 185) rfl rfl rfl rfl rfl ?_
  refine z_r_pu (ins := .iadd) (len := 1) (t := 186) rfl rfl rfl rfl rfl ?_
  refine z_r_is (kk := z_isI) (ins := (.istore 7)) (len := 2) (t := 188) (i := 7) rfl rfl rfl rfl rfl rfl rfl rfl (fun l h7 hk => ?_)
  have h0 := hk _ _ h0 (by decide) (Or.inl (by decide))
  have h1 := hk _ _ h1 (by decide) (Or.inl (by decide))
  have h2 := hk _ _ h2 (by decide) (Or.inl (by decide))
  have h3 := hk _ _ h3 (by decide) (Or.inl (by decide))
  have h4 := hk _ _ h4 (by decide) (Or.inl (by decide))
  have h5 := hk _ _ h5 (by decide) (Or.inl (by decide))
  exact kk l h0 h1 h2 h3 h4 h5 h7
theorem z_mk2c  {l : z_L} (h0 : z_get l 0 = some (.ref aM)) (h1 : z_get l 1 = some (.int k)) (h2 : z_get l 2 = some (.int w)) (h3 : z_get l 3 = some (.int m)) (h4 : z_get l 4 = some (.int a)) (hM : P[aM]? = some (10, fl)) (fM : aM < z_far) (q5 : fl[5]? = some (.int n)) (ha : 0 ≤ a.toInt) (he : a.toInt ≠ n.toInt)
    (kk : ∀ l, z_get l 0 = some (.ref aM) → z_get l 1 = some (.int k) → z_get l 2 = some (.int w) → z_get l 3 = some (.int m) → z_get l 4 = some (.int a) → z_get l 5 = some (.long (-1)) → z_get l 7 = some (.int (a + (Int32.ofInt 1))) → z_Rh (z_G xs) d 256 Ψ (188, l, [], P, 0, 0)) : z_Rh (z_G xs) d 256 Ψ (155, l, [], P, 0, 0) := by
  refine z_r_ld (ins := (.iload 4)) (len := 2) (t := 157) (i := 4) rfl rfl rfl rfl rfl (fun _ => rfl) h4 rfl ?_
  refine z_r_jm (ins := (.ifCond .lt 116)) (len := 3) (t := 160) rfl rfl rfl rfl (z_ifn (t := 273) rfl (by rw [z_c_lt, z_0t]; exact decide_eq_false (by omega))) ?_
  refine z_r_ld (ins := (.iload 4)) (len := 2) (t := 162) (i := 4) rfl rfl rfl rfl rfl (fun _ => rfl) h4 rfl ?_
  refine z_r_ld (ins := (.aload_n 0)) (len := 1) (t := 163) (i := 0) rfl rfl rfl rfl rfl (fun _ => rfl) h0 rfl ?_
  refine z_r_rd (ins := (.getfield 22)) (len := 3) (t := 166) rfl rfl rfl rfl rfl (z_gfv (ci := 10) (k := 5) rfl (z_lkn fM hM) (by decide) q5) ?_
  refine z_r_jm (ins := (.if_icmp .ne 11)) (len := 3) (t := 177) rfl rfl rfl rfl (z_icy (t := 177) rfl (by rw [z_c_ne]; exact decide_eq_true he)) ?_
  refine z_r_cs (ins := (.ldc2_w 337)) (len := 3) (t := 180) (v := .long (-1)) rfl rfl rfl rfl rfl rfl ?_
  refine z_r_ls (ins := (.lstore 5)) (len := 2) (t := 182) (i := 5) rfl rfl rfl rfl rfl rfl rfl (fun l h5 hk => ?_)
  have h0 := hk _ _ h0 (by decide) (by decide) (Or.inl (by decide))
  have h1 := hk _ _ h1 (by decide) (by decide) (Or.inl (by decide))
  have h2 := hk _ _ h2 (by decide) (by decide) (Or.inl (by decide))
  have h3 := hk _ _ h3 (by decide) (by decide) (Or.inl (by decide))
  have h4 := hk _ _ h4 (by decide) (by decide) (Or.inr (by show (1 : Nat) ≠ 2; decide))
  refine z_r_ld (ins := (.iload 4)) (len := 2) (t := 184) (i := 4) rfl rfl rfl rfl rfl (fun _ => rfl) h4 rfl ?_
  refine z_r_pu (ins := (.iconst 1)) (len := 1) (t := 185) rfl rfl rfl rfl rfl ?_
  refine z_r_pu (ins := .iadd) (len := 1) (t := 186) rfl rfl rfl rfl rfl ?_
  refine z_r_is (kk := z_isI) (ins := (.istore 7)) (len := 2) (t := 188) (i := 7) rfl rfl rfl rfl rfl rfl rfl rfl (fun l h7 hk => ?_)
  have h0 := hk _ _ h0 (by decide) (Or.inl (by decide))
  have h1 := hk _ _ h1 (by decide) (Or.inl (by decide))
  have h2 := hk _ _ h2 (by decide) (Or.inl (by decide))
  have h3 := hk _ _ h3 (by decide) (Or.inl (by decide))
  have h4 := hk _ _ h4 (by decide) (Or.inl (by decide))
  have h5 := hk _ _ h5 (by decide) (Or.inl (by decide))
  exact kk l h0 h1 h2 h3 h4 h5 h7
theorem z_mk3e  {l : z_L} (h0 : z_get l 0 = some (.ref aM)) (h1 : z_get l 1 = some (.int k)) (h2 : z_get l 2 = some (.int w)) (h3 : z_get l 3 = some (.int m)) (h4 : z_get l 4 = some (.int a)) (h5 : z_get l 5 = some (.long s)) (h7 : z_get l 7 = some (.int b)) (hM : P[aM]? = some (10, fl)) (fM : aM < z_far) (q5 : fl[5]? = some (.int n)) (hc : n.toInt < b.toInt)
    (kk : ∀ l, z_get l 0 = some (.ref aM) → z_get l 1 = some (.int k) → z_get l 2 = some (.int w) → z_get l 3 = some (.int m) → z_get l 4 = some (.int a) → z_get l 5 = some (.long s) → z_Rh (z_G xs) d 256 Ψ (254, l, [], P, 0, 0)) : z_Rh (z_G xs) d 256 Ψ (188, l, [], P, 0, 0) := by
  refine z_r_ld (ins := (.iload 7)) (len := 2) (t := 190) (i := 7) rfl rfl rfl rfl rfl (fun _ => rfl) h7 rfl ?_
  refine z_r_ld (ins := (.aload_n 0)) (len := 1) (t := 191) (i := 0) rfl rfl rfl rfl rfl (fun _ => rfl) h0 rfl ?_
  refine z_r_rd (ins := (.getfield 22)) (len := 3) (t := 194) rfl rfl rfl rfl rfl (z_gfv (ci := 10) (k := 5) rfl (z_lkn fM hM) (by decide) q5) ?_
  refine z_r_jm (ins := (.if_icmp .gt 60)) (len := 3) (t := 254) rfl rfl rfl rfl (z_icy (t := 254) rfl (by rw [z_c_gt]; exact decide_eq_true hc)) ?_
  exact kk l h0 h1 h2 h3 h4 h5
theorem z_mk3f  {l : z_L} (h0 : z_get l 0 = some (.ref aM)) (h1 : z_get l 1 = some (.int k)) (h2 : z_get l 2 = some (.int w)) (h3 : z_get l 3 = some (.int m)) (h4 : z_get l 4 = some (.int a)) (h5 : z_get l 5 = some (.long s)) (h7 : z_get l 7 = some (.int b)) (hM : P[aM]? = some (10, fl)) (fM : aM < z_far) (q5 : fl[5]? = some (.int n)) (hc : b.toInt ≤ n.toInt) (hm : m.toInt ≤ 0)
    (kk : ∀ l, z_get l 0 = some (.ref aM) → z_get l 1 = some (.int k) → z_get l 2 = some (.int w) → z_get l 3 = some (.int m) → z_get l 4 = some (.int a) → z_get l 5 = some (.long s) → z_Rh (z_G xs) d 256 Ψ (254, l, [], P, 0, 0)) : z_Rh (z_G xs) d 256 Ψ (188, l, [], P, 0, 0) := by
  refine z_r_ld (ins := (.iload 7)) (len := 2) (t := 190) (i := 7) rfl rfl rfl rfl rfl (fun _ => rfl) h7 rfl ?_
  refine z_r_ld (ins := (.aload_n 0)) (len := 1) (t := 191) (i := 0) rfl rfl rfl rfl rfl (fun _ => rfl) h0 rfl ?_
  refine z_r_rd (ins := (.getfield 22)) (len := 3) (t := 194) rfl rfl rfl rfl rfl (z_gfv (ci := 10) (k := 5) rfl (z_lkn fM hM) (by decide) q5) ?_
  refine z_r_jm (ins := (.if_icmp .gt 60)) (len := 3) (t := 197) rfl rfl rfl rfl (z_icn (t := 254) rfl (by rw [z_c_gt]; exact decide_eq_false (by omega))) ?_
  refine z_r_ld (ins := (.iload_n 3)) (len := 1) (t := 198) (i := 3) rfl rfl rfl rfl rfl (fun _ => rfl) h3 rfl ?_
  refine z_r_jm (ins := (.ifCond .le 56)) (len := 3) (t := 254) rfl rfl rfl rfl (z_ify (t := 254) rfl (by rw [z_c_le, z_0t]; exact decide_eq_true hm)) ?_
  exact kk l h0 h1 h2 h3 h4 h5
theorem z_mk3a  {l : z_L} (h0 : z_get l 0 = some (.ref aM)) (h1 : z_get l 1 = some (.int k)) (h2 : z_get l 2 = some (.int w)) (h3 : z_get l 3 = some (.int m)) (h4 : z_get l 4 = some (.int a)) (h5 : z_get l 5 = some (.long s)) (h7 : z_get l 7 = some (.int b)) (hM : P[aM]? = some (10, fl)) (fM : aM < z_far) (q5 : fl[5]? = some (.int n)) (hF : P[aF]? = some (104, L)) (fF : aF < z_far) (q43 : fl[43]? = some (.ref aF)) (hc : b.toInt ≤ n.toInt) (hm : 0 < m.toInt) (hi : (w * (m - Int32.ofInt 1) + b).toInt = (j : Int)) (hv : L[j]? = some (.long v)) (hx : v.toInt = -1)
    (kk : ∀ l, z_get l 0 = some (.ref aM) → z_get l 1 = some (.int k) → z_get l 2 = some (.int w) → z_get l 3 = some (.int m) → z_get l 4 = some (.int a) → z_get l 5 = some (.long s) → z_get l 7 = some (.int (b + Int32.ofInt 1)) → z_Rh (z_G xs) d 256 Ψ (188, l, [], P, 0, 0)) : z_Rh (z_G xs) d 256 Ψ (188, l, [], P, 0, 0) := by
  refine z_r_ld (ins := (.iload 7)) (len := 2) (t := 190) (i := 7) rfl rfl rfl rfl rfl (fun _ => rfl) h7 rfl ?_
  refine z_r_ld (ins := (.aload_n 0)) (len := 1) (t := 191) (i := 0) rfl rfl rfl rfl rfl (fun _ => rfl) h0 rfl ?_
  refine z_r_rd (ins := (.getfield 22)) (len := 3) (t := 194) rfl rfl rfl rfl rfl (z_gfv (ci := 10) (k := 5) rfl (z_lkn fM hM) (by decide) q5) ?_
  refine z_r_jm (ins := (.if_icmp .gt 60)) (len := 3) (t := 197) rfl rfl rfl rfl (z_icn (t := 254) rfl (by rw [z_c_gt]; exact decide_eq_false (by omega))) ?_
  refine z_r_ld (ins := (.iload_n 3)) (len := 1) (t := 198) (i := 3) rfl rfl rfl rfl rfl (fun _ => rfl) h3 rfl ?_
  refine z_r_jm (ins := (.ifCond .le 56)) (len := 3) (t := 201) rfl rfl rfl rfl (z_ifn (t := 254) rfl (by rw [z_c_le, z_0t]; exact decide_eq_false (by omega))) ?_
  refine z_r_ld (ins := (.aload_n 0)) (len := 1) (t := 202) (i := 0) rfl rfl rfl rfl rfl (fun _ => rfl) h0 rfl ?_
  refine z_r_rd (ins := (.getfield 87)) (len := 3) (t := 205) rfl rfl rfl rfl rfl (z_gfv (ci := 10) (k := 43) rfl (z_lkn fM hM) (by decide) q43) ?_
  refine z_r_ld (ins := (.iload_n 2)) (len := 1) (t := 206) (i := 2) rfl rfl rfl rfl rfl (fun _ => rfl) h2 rfl ?_
  refine z_r_ld (ins := (.iload_n 3)) (len := 1) (t := 207) (i := 3) rfl rfl rfl rfl rfl (fun _ => rfl) h3 rfl ?_
  refine z_r_pu (ins := (.iconst 1)) (len := 1) (t := 208) rfl rfl rfl rfl rfl ?_
  refine z_r_pu (ins := .isub) (len := 1) (t := 209) rfl rfl rfl rfl rfl ?_
  refine z_r_pu (ins := .imul) (len := 1) (t := 210) rfl rfl rfl rfl rfl ?_
  refine z_r_ld (ins := (.iload 7)) (len := 2) (t := 212) (i := 7) rfl rfl rfl rfl rfl (fun _ => rfl) h7 rfl ?_
  refine z_r_pu (ins := .iadd) (len := 1) (t := 213) rfl rfl rfl rfl rfl ?_
  refine z_r_rd (ins := .laload) (len := 1) (t := 214) rfl rfl rfl rfl rfl (z_lav (z_lkn fF hF) hi hv) ?_
  refine z_r_ls (ins := (.lstore 8)) (len := 2) (t := 216) (i := 8) rfl rfl rfl rfl rfl rfl rfl (fun l h8 hk => ?_)
  have h0 := hk _ _ h0 (by decide) (by decide) (Or.inl (by decide))
  have h1 := hk _ _ h1 (by decide) (by decide) (Or.inl (by decide))
  have h2 := hk _ _ h2 (by decide) (by decide) (Or.inl (by decide))
  have h3 := hk _ _ h3 (by decide) (by decide) (Or.inl (by decide))
  have h4 := hk _ _ h4 (by decide) (by decide) (Or.inl (by decide))
  have h5 := hk _ _ h5 (by decide) (by decide) (Or.inl (by decide))
  have h7 := hk _ _ h7 (by decide) (by decide) (Or.inr (by show (1 : Nat) ≠ 2; decide))
  refine z_r_ld (ins := (.lload 8)) (len := 2) (t := 218) (i := 8) rfl rfl rfl rfl rfl (fun _ => rfl) h8 rfl ?_
  refine z_r_cs (ins := (.ldc2_w 337)) (len := 3) (t := 221) (v := .long (-1)) rfl rfl rfl rfl rfl rfl ?_
  refine z_r_pu (ins := .lcmp) (len := 1) (t := 222) rfl rfl rfl rfl rfl ?_
  refine z_r_jm (ins := (.ifCond .eq 26)) (len := 3) (t := 248) rfl rfl rfl rfl (z_ify (t := 248) rfl (z_lge_t hx)) ?_
  refine z_r_ic (ins := (.iinc 7 1)) (len := 3) (t := 251) (i := 7) rfl rfl rfl rfl rfl rfl h7 (fun l h7 hk => ?_)
  have h0 := hk _ _ h0 (by decide) (Or.inl (by decide))
  have h1 := hk _ _ h1 (by decide) (Or.inl (by decide))
  have h2 := hk _ _ h2 (by decide) (Or.inl (by decide))
  have h3 := hk _ _ h3 (by decide) (Or.inl (by decide))
  have h4 := hk _ _ h4 (by decide) (Or.inl (by decide))
  have h5 := hk _ _ h5 (by decide) (Or.inl (by decide))
  have h8 := hk _ _ h8 (by decide) (Or.inl (by decide))
  refine z_r_jm (ins := (.goto (-63))) (len := 3) (t := 188) rfl rfl rfl rfl (z_gty rfl) ?_
  exact kk l h0 h1 h2 h3 h4 h5 h7
theorem z_mk3b {l : z_L} (h0 : z_get l 0 = some (.ref aM)) (h1 : z_get l 1 = some (.int k)) (h2 : z_get l 2 = some (.int w)) (h3 : z_get l 3 = some (.int m)) (h4 : z_get l 4 = some (.int a)) (h5 : z_get l 5 = some (.long s)) (h7 : z_get l 7 = some (.int b)) (hM : P[aM]? = some (10, fl)) (fM : aM < z_far) (q5 : fl[5]? = some (.int n)) (hF : P[aF]? = some (104, L)) (fF : aF < z_far) (q43 : fl[43]? = some (.ref aF)) (hW : P[aW]? = some (103, W)) (fW : aW < z_far) (q41 : fl[41]? = some (.ref aW)) (hd : 1 ≤ d) (hc : b.toInt ≤ n.toInt) (hm : 0 < m.toInt) (hi : (w * (m - Int32.ofInt 1) + b).toInt = (j : Int)) (hv : L[j]? = some (.long v)) (hx : v.toInt ≠ -1) (hi2 : (w * a + b).toInt = (j2 : Int)) (hy : W[j2]? = some (.int y))
    (kk : ∀ l u, u.toInt = max s.toInt (y.toInt64 + v).toInt → z_get l 0 = some (.ref aM) → z_get l 1 = some (.int k) → z_get l 2 = some (.int w) → z_get l 3 = some (.int m) → z_get l 4 = some (.int a) → z_get l 5 = some (.long u) → z_get l 7 = some (.int (b + Int32.ofInt 1)) → z_Rh (z_G xs) d 256 Ψ (188, l, [], P, 0, 0)) : z_Rh (z_G xs) d 256 Ψ (188, l, [], P, 0, 0) := by
  refine z_r_ld (ins := (.iload 7)) (len := 2) (t := 190) (i := 7) rfl rfl rfl rfl rfl (fun _ => rfl) h7 rfl ?_
  refine z_r_ld (ins := (.aload_n 0)) (len := 1) (t := 191) (i := 0) rfl rfl rfl rfl rfl (fun _ => rfl) h0 rfl ?_
  refine z_r_rd (ins := (.getfield 22)) (len := 3) (t := 194) rfl rfl rfl rfl rfl (z_gfv (ci := 10) (k := 5) rfl (z_lkn fM hM) (by decide) q5) ?_
  refine z_r_jm (ins := (.if_icmp .gt 60)) (len := 3) (t := 197) rfl rfl rfl rfl (z_icn (t := 254) rfl (by rw [z_c_gt]; exact decide_eq_false (by omega))) ?_
  refine z_r_ld (ins := (.iload_n 3)) (len := 1) (t := 198) (i := 3) rfl rfl rfl rfl rfl (fun _ => rfl) h3 rfl ?_
  refine z_r_jm (ins := (.ifCond .le 56)) (len := 3) (t := 201) rfl rfl rfl rfl (z_ifn (t := 254) rfl (by rw [z_c_le, z_0t]; exact decide_eq_false (by omega))) ?_
  refine z_r_ld (ins := (.aload_n 0)) (len := 1) (t := 202) (i := 0) rfl rfl rfl rfl rfl (fun _ => rfl) h0 rfl ?_
  refine z_r_rd (ins := (.getfield 87)) (len := 3) (t := 205) rfl rfl rfl rfl rfl (z_gfv (ci := 10) (k := 43) rfl (z_lkn fM hM) (by decide) q43) ?_
  refine z_r_ld (ins := (.iload_n 2)) (len := 1) (t := 206) (i := 2) rfl rfl rfl rfl rfl (fun _ => rfl) h2 rfl ?_
  refine z_r_ld (ins := (.iload_n 3)) (len := 1) (t := 207) (i := 3) rfl rfl rfl rfl rfl (fun _ => rfl) h3 rfl ?_
  refine z_r_pu (ins := (.iconst 1)) (len := 1) (t := 208) rfl rfl rfl rfl rfl ?_
  refine z_r_pu (ins := .isub) (len := 1) (t := 209) rfl rfl rfl rfl rfl ?_
  refine z_r_pu (ins := .imul) (len := 1) (t := 210) rfl rfl rfl rfl rfl ?_
  refine z_r_ld (ins := (.iload 7)) (len := 2) (t := 212) (i := 7) rfl rfl rfl rfl rfl (fun _ => rfl) h7 rfl ?_
  refine z_r_pu (ins := .iadd) (len := 1) (t := 213) rfl rfl rfl rfl rfl ?_
  refine z_r_rd (ins := .laload) (len := 1) (t := 214) rfl rfl rfl rfl rfl (z_lav (z_lkn fF hF) hi hv) ?_
  refine z_r_ls (ins := (.lstore 8)) (len := 2) (t := 216) (i := 8) rfl rfl rfl rfl rfl rfl rfl (fun l h8 hk => ?_)
  have h0 := hk _ _ h0 (by decide) (by decide) (Or.inl (by decide))
  have h1 := hk _ _ h1 (by decide) (by decide) (Or.inl (by decide))
  have h2 := hk _ _ h2 (by decide) (by decide) (Or.inl (by decide))
  have h3 := hk _ _ h3 (by decide) (by decide) (Or.inl (by decide))
  have h4 := hk _ _ h4 (by decide) (by decide) (Or.inl (by decide))
  have h5 := hk _ _ h5 (by decide) (by decide) (Or.inl (by decide))
  have h7 := hk _ _ h7 (by decide) (by decide) (Or.inr (by show (1 : Nat) ≠ 2; decide))
  refine z_r_ld (ins := (.lload 8)) (len := 2) (t := 218) (i := 8) rfl rfl rfl rfl rfl (fun _ => rfl) h8 rfl ?_
  refine z_r_cs (ins := (.ldc2_w 337)) (len := 3) (t := 221) (v := .long (-1)) rfl rfl rfl rfl rfl rfl ?_
  refine z_r_pu (ins := .lcmp) (len := 1) (t := 222) rfl rfl rfl rfl rfl ?_
  refine z_r_jm (ins := (.ifCond .eq 26)) (len := 3) (t := 225) rfl rfl rfl rfl (z_ifn (t := 248) rfl (z_lge_f hx)) ?_
  refine z_r_ld (ins := (.lload 5)) (len := 2) (t := 227) (i := 5) rfl rfl rfl rfl rfl (fun _ => rfl) h5 rfl ?_
  refine z_r_ld (ins := (.aload_n 0)) (len := 1) (t := 228) (i := 0) rfl rfl rfl rfl rfl (fun _ => rfl) h0 rfl ?_
  refine z_r_rd (ins := (.getfield 81)) (len := 3) (t := 231) rfl rfl rfl rfl rfl (z_gfv (ci := 10) (k := 41) rfl (z_lkn fM hM) (by decide) q41) ?_
  refine z_r_ld (ins := (.iload_n 2)) (len := 1) (t := 232) (i := 2) rfl rfl rfl rfl rfl (fun _ => rfl) h2 rfl ?_
  refine z_r_ld (ins := (.iload 4)) (len := 2) (t := 234) (i := 4) rfl rfl rfl rfl rfl (fun _ => rfl) h4 rfl ?_
  refine z_r_pu (ins := .imul) (len := 1) (t := 235) rfl rfl rfl rfl rfl ?_
  refine z_r_ld (ins := (.iload 7)) (len := 2) (t := 237) (i := 7) rfl rfl rfl rfl rfl (fun _ => rfl) h7 rfl ?_
  refine z_r_pu (ins := .iadd) (len := 1) (t := 238) rfl rfl rfl rfl rfl ?_
  refine z_r_rd (ins := .iaload) (len := 1) (t := 239) rfl rfl rfl rfl rfl (z_iav (z_lkn fW hW) hi2 hy) ?_
  refine z_r_pu (ins := .i2l) (len := 1) (t := 240) rfl rfl rfl rfl rfl ?_
  refine z_r_ld (ins := (.lload 8)) (len := 2) (t := 242) (i := 8) rfl rfl rfl rfl rfl (fun _ => rfl) h8 rfl ?_
  refine z_r_pu (ins := .ladd) (len := 1) (t := 243) rfl rfl rfl rfl rfl ?_
  obtain ⟨u, hu, hru⟩ := z_maxr (xs := xs) (d := d - 1) (P := P) s (y.toInt64 + v)
  refine z_r_ca (ins := .invokestatic 339) (t := 246) (kd := 0) rfl rfl (by decide) (z_argsv rfl rfl rfl hd (Nat.le_of_ble_eq_true rfl) rfl (Nat.le_of_ble_eq_true rfl) (Nat.le_refl _) (Nat.le_refl _) (Or.inl rfl) (Or.inl rfl)) rfl rfl rfl hru ?_
  refine z_r_ls (ins := (.lstore 5)) (len := 2) (t := 248) (i := 5) rfl rfl rfl rfl rfl rfl rfl (fun l h5 hk => ?_)
  have h0 := hk _ _ h0 (by decide) (by decide) (Or.inl (by decide))
  have h1 := hk _ _ h1 (by decide) (by decide) (Or.inl (by decide))
  have h2 := hk _ _ h2 (by decide) (by decide) (Or.inl (by decide))
  have h3 := hk _ _ h3 (by decide) (by decide) (Or.inl (by decide))
  have h4 := hk _ _ h4 (by decide) (by decide) (Or.inr (by show (1 : Nat) ≠ 2; decide))
  have h7 := hk _ _ h7 (by decide) (by decide) (Or.inl (by decide))
  have h8 := hk _ _ h8 (by decide) (by decide) (Or.inl (by decide))
  refine z_r_ic (ins := (.iinc 7 1)) (len := 3) (t := 251) (i := 7) rfl rfl rfl rfl rfl rfl h7 (fun l h7 hk => ?_)
  have h0 := hk _ _ h0 (by decide) (Or.inl (by decide))
  have h1 := hk _ _ h1 (by decide) (Or.inl (by decide))
  have h2 := hk _ _ h2 (by decide) (Or.inl (by decide))
  have h3 := hk _ _ h3 (by decide) (Or.inl (by decide))
  have h4 := hk _ _ h4 (by decide) (Or.inl (by decide))
  have h5 := hk _ _ h5 (by decide) (Or.inl (by decide))
  have h8 := hk _ _ h8 (by decide) (Or.inl (by decide))
  refine z_r_jm (ins := (.goto (-63))) (len := 3) (t := 188) rfl rfl rfl rfl (z_gty rfl) ?_
  exact kk l u hu h0 h1 h2 h3 h4 h5 h7
theorem z_mk4  {l : z_L} (h0 : z_get l 0 = some (.ref aM)) (h1 : z_get l 1 = some (.int k)) (h2 : z_get l 2 = some (.int w)) (h3 : z_get l 3 = some (.int m)) (h4 : z_get l 4 = some (.int a)) (h5 : z_get l 5 = some (.long s)) (hM : P[aM]? = some (10, fl)) (fM : aM < z_far) (hF : P[aF]? = some (104, L)) (fF : aF < z_far) (q43 : fl[43]? = some (.ref aF)) (hi : (w * m + a).toInt = (j : Int)) (hj : j < L.length)
    (kk : ∀ l, z_get l 0 = some (.ref aM) → z_get l 1 = some (.int k) → z_get l 2 = some (.int w) → z_get l 3 = some (.int m) → z_get l 4 = some (.int (a + Int32.ofInt (-1))) → z_Rh (z_G xs) d 256 Ψ (155, l, [], P.set aF (104, L.set j (.long s)), 0, 0)) : z_Rh (z_G xs) d 256 Ψ (254, l, [], P, 0, 0) := by
  refine z_r_ld (ins := (.aload_n 0)) (len := 1) (t := 255) (i := 0) rfl rfl rfl rfl rfl (fun _ => rfl) h0 rfl ?_
  refine z_r_rd (ins := (.getfield 87)) (len := 3) (t := 258) rfl rfl rfl rfl rfl (z_gfv (ci := 10) (k := 43) rfl (z_lkn fM hM) (by decide) q43) ?_
  refine z_r_ld (ins := (.iload_n 2)) (len := 1) (t := 259) (i := 2) rfl rfl rfl rfl rfl (fun _ => rfl) h2 rfl ?_
  refine z_r_ld (ins := (.iload_n 3)) (len := 1) (t := 260) (i := 3) rfl rfl rfl rfl rfl (fun _ => rfl) h3 rfl ?_
  refine z_r_pu (ins := .imul) (len := 1) (t := 261) rfl rfl rfl rfl rfl ?_
  refine z_r_ld (ins := (.iload 4)) (len := 2) (t := 263) (i := 4) rfl rfl rfl rfl rfl (fun _ => rfl) h4 rfl ?_
  refine z_r_pu (ins := .iadd) (len := 1) (t := 264) rfl rfl rfl rfl rfl ?_
  refine z_r_ld (ins := (.lload 5)) (len := 2) (t := 266) (i := 5) rfl rfl rfl rfl rfl (fun _ => rfl) h5 rfl ?_
  refine z_r_wr (ins := .lastore) (len := 1) (t := 267) rfl rfl rfl rfl rfl (z_lsv hF hi hj) ?_
  refine z_r_ic (ins := (.iinc 4 (-1))) (len := 3) (t := 270) (i := 4) rfl rfl rfl rfl rfl rfl h4 (fun l h4 hk => ?_)
  have h0 := hk _ _ h0 (by decide) (Or.inl (by decide))
  have h1 := hk _ _ h1 (by decide) (Or.inl (by decide))
  have h2 := hk _ _ h2 (by decide) (Or.inl (by decide))
  have h3 := hk _ _ h3 (by decide) (Or.inr (by show (1 : Nat) ≠ 2; decide))
  have h5 := hk _ _ h5 (by decide) (Or.inl (by decide))
  refine z_r_jm (ins := (.goto (-115))) (len := 3) (t := 155) rfl rfl rfl rfl (z_gty rfl) ?_
  exact kk l h0 h1 h2 h3 h4
theorem z_mkB0  {l : z_L} (h0 : z_get l 0 = some (.ref aM)) (h1 : z_get l 1 = some (.int k)) (h2 : z_get l 2 = some (.int w))  
    (kk : ∀ l, z_get l 0 = some (.ref aM) → z_get l 1 = some (.int k) → z_get l 2 = some (.int w) → z_get l 3 = some (.int (Int32.ofInt 0)) → z_get l 4 = some (.int (Int32.ofInt 1)) → z_Rh (z_G xs) d 256 Ψ (284, l, [], P, 0, 0)) : z_Rh (z_G xs) d 256 Ψ (279, l, [], P, 0, 0) := by
  refine z_r_pu (ins := (.iconst 0)) (len := 1) (t := 280) rfl rfl rfl rfl rfl ?_
  refine z_r_is (kk := z_isI) (ins := (.istore_n 3)) (len := 1) (t := 281) (i := 3) rfl rfl rfl rfl rfl rfl rfl rfl (fun l h3 hk => ?_)
  have h0 := hk _ _ h0 (by decide) (Or.inl (by decide))
  have h1 := hk _ _ h1 (by decide) (Or.inl (by decide))
  have h2 := hk _ _ h2 (by decide) (Or.inr (by show (1 : Nat) ≠ 2; decide))
  refine z_r_pu (ins := (.iconst 1)) (len := 1) (t := 282) rfl rfl rfl rfl rfl ?_
  refine z_r_is (kk := z_isI) (ins := (.istore 4)) (len := 2) (t := 284) (i := 4) rfl rfl rfl rfl rfl rfl rfl rfl (fun l h4 hk => ?_)
  have h0 := hk _ _ h0 (by decide) (Or.inl (by decide))
  have h1 := hk _ _ h1 (by decide) (Or.inl (by decide))
  have h2 := hk _ _ h2 (by decide) (Or.inl (by decide))
  have h3 := hk _ _ h3 (by decide) (Or.inr (by show (1 : Nat) ≠ 2; decide))
  exact kk l h0 h1 h2 h3 h4
theorem z_mkBe  {l : z_L} (h0 : z_get l 0 = some (.ref aM)) (h1 : z_get l 1 = some (.int k)) (h2 : z_get l 2 = some (.int w)) (h3 : z_get l 3 = some (.int m)) (h4 : z_get l 4 = some (.int a))  (hc : k.toInt < a.toInt)
    (kk : ∀ l, z_get l 0 = some (.ref aM) → z_get l 1 = some (.int k) → z_get l 2 = some (.int w) → z_get l 3 = some (.int m) → z_Rh (z_G xs) d 256 Ψ (324, l, [], P, 0, 0)) : z_Rh (z_G xs) d 256 Ψ (284, l, [], P, 0, 0) := by
  refine z_r_ld (ins := (.iload 4)) (len := 2) (t := 286) (i := 4) rfl rfl rfl rfl rfl (fun _ => rfl) h4 rfl ?_
  refine z_r_ld (ins := (.iload_n 1)) (len := 1) (t := 287) (i := 1) rfl rfl rfl rfl rfl (fun _ => rfl) h1 rfl ?_
  refine z_r_jm (ins := (.if_icmp .gt 37)) (len := 3) (t := 324) rfl rfl rfl rfl (z_icy (t := 324) rfl (by rw [z_c_gt]; exact decide_eq_true hc)) ?_
  exact kk l h0 h1 h2 h3
theorem z_mkB1  {l : z_L} (h0 : z_get l 0 = some (.ref aM)) (h1 : z_get l 1 = some (.int k)) (h2 : z_get l 2 = some (.int w)) (h3 : z_get l 3 = some (.int m)) (h4 : z_get l 4 = some (.int a))  (hc : a.toInt ≤ k.toInt) (hm : m.toInt = 0)
    (kk : ∀ l, z_get l 0 = some (.ref aM) → z_get l 1 = some (.int k) → z_get l 2 = some (.int w) → z_get l 3 = some (.int a) → z_get l 4 = some (.int (a + Int32.ofInt 1)) → z_Rh (z_G xs) d 256 Ψ (284, l, [], P, 0, 0)) : z_Rh (z_G xs) d 256 Ψ (284, l, [], P, 0, 0) := by
  refine z_r_ld (ins := (.iload 4)) (len := 2) (t := 286) (i := 4) rfl rfl rfl rfl rfl (fun _ => rfl) h4 rfl ?_
  refine z_r_ld (ins := (.iload_n 1)) (len := 1) (t := 287) (i := 1) rfl rfl rfl rfl rfl (fun _ => rfl) h1 rfl ?_
  refine z_r_jm (ins := (.if_icmp .gt 37)) (len := 3) (t := 290) rfl rfl rfl rfl (z_icn (t := 324) rfl (by rw [z_c_gt]; exact decide_eq_false (by omega))) ?_
  refine z_r_ld (ins := (.iload_n 3)) (len := 1) (t := 291) (i := 3) rfl rfl rfl rfl rfl (fun _ => rfl) h3 rfl ?_
  refine z_r_jm (ins := (.ifCond .eq 24)) (len := 3) (t := 315) rfl rfl rfl rfl (z_ify (t := 315) rfl (by rw [z_c_eq, z_0t]; exact decide_eq_true hm)) ?_
  refine z_r_ld (ins := (.iload 4)) (len := 2) (t := 317) (i := 4) rfl rfl rfl rfl rfl (fun _ => rfl) h4 rfl ?_
  refine z_r_is (kk := z_isI) (ins := (.istore_n 3)) (len := 1) (t := 318) (i := 3) rfl rfl rfl rfl rfl rfl rfl rfl (fun l h3 hk => ?_)
  have h0 := hk _ _ h0 (by decide) (Or.inl (by decide))
  have h1 := hk _ _ h1 (by decide) (Or.inl (by decide))
  have h2 := hk _ _ h2 (by decide) (Or.inr (by show (1 : Nat) ≠ 2; decide))
  have h4 := hk _ _ h4 (by decide) (Or.inl (by decide))
  refine z_r_ic (ins := (.iinc 4 1)) (len := 3) (t := 321) (i := 4) rfl rfl rfl rfl rfl rfl h4 (fun l h4 hk => ?_)
  have h0 := hk _ _ h0 (by decide) (Or.inl (by decide))
  have h1 := hk _ _ h1 (by decide) (Or.inl (by decide))
  have h2 := hk _ _ h2 (by decide) (Or.inl (by decide))
  have h3 := hk _ _ h3 (by decide) (Or.inr (by show (1 : Nat) ≠ 2; decide))
  refine z_r_jm (ins := (.goto (-37))) (len := 3) (t := 284) rfl rfl rfl rfl (z_gty rfl) ?_
  exact kk l h0 h1 h2 h3 h4
theorem z_mkB2  {l : z_L} (h0 : z_get l 0 = some (.ref aM)) (h1 : z_get l 1 = some (.int k)) (h2 : z_get l 2 = some (.int w)) (h3 : z_get l 3 = some (.int m)) (h4 : z_get l 4 = some (.int a)) (hM : P[aM]? = some (10, fl)) (fM : aM < z_far) (hF : P[aF]? = some (104, L)) (fF : aF < z_far) (q43 : fl[43]? = some (.ref aF)) (hc : a.toInt ≤ k.toInt) (hm : m.toInt ≠ 0) (hi : (w * a).toInt = (j : Int)) (hv : L[j]? = some (.long v)) (hi2 : (w * m).toInt = (j2 : Int)) (hs : L[j2]? = some (.long s)) (hx : s.toInt < v.toInt)
    (kk : ∀ l, z_get l 0 = some (.ref aM) → z_get l 1 = some (.int k) → z_get l 2 = some (.int w) → z_get l 3 = some (.int a) → z_get l 4 = some (.int (a + Int32.ofInt 1)) → z_Rh (z_G xs) d 256 Ψ (284, l, [], P, 0, 0)) : z_Rh (z_G xs) d 256 Ψ (284, l, [], P, 0, 0) := by
  refine z_r_ld (ins := (.iload 4)) (len := 2) (t := 286) (i := 4) rfl rfl rfl rfl rfl (fun _ => rfl) h4 rfl ?_
  refine z_r_ld (ins := (.iload_n 1)) (len := 1) (t := 287) (i := 1) rfl rfl rfl rfl rfl (fun _ => rfl) h1 rfl ?_
  refine z_r_jm (ins := (.if_icmp .gt 37)) (len := 3) (t := 290) rfl rfl rfl rfl (z_icn (t := 324) rfl (by rw [z_c_gt]; exact decide_eq_false (by omega))) ?_
  refine z_r_ld (ins := (.iload_n 3)) (len := 1) (t := 291) (i := 3) rfl rfl rfl rfl rfl (fun _ => rfl) h3 rfl ?_
  refine z_r_jm (ins := (.ifCond .eq 24)) (len := 3) (t := 294) rfl rfl rfl rfl (z_ifn (t := 315) rfl (by rw [z_c_eq, z_0t]; exact decide_eq_false hm)) ?_
  refine z_r_ld (ins := (.aload_n 0)) (len := 1) (t := 295) (i := 0) rfl rfl rfl rfl rfl (fun _ => rfl) h0 rfl ?_
  refine z_r_rd (ins := (.getfield 87)) (len := 3) (t := 298) rfl rfl rfl rfl rfl (z_gfv (ci := 10) (k := 43) rfl (z_lkn fM hM) (by decide) q43) ?_
  refine z_r_ld (ins := (.iload_n 2)) (len := 1) (t := 299) (i := 2) rfl rfl rfl rfl rfl (fun _ => rfl) h2 rfl ?_
  refine z_r_ld (ins := (.iload 4)) (len := 2) (t := 301) (i := 4) rfl rfl rfl rfl rfl (fun _ => rfl) h4 rfl ?_
  refine z_r_pu (ins := .imul) (len := 1) (t := 302) rfl rfl rfl rfl rfl ?_
  refine z_r_rd (ins := .laload) (len := 1) (t := 303) rfl rfl rfl rfl rfl (z_lav (z_lkn fF hF) hi hv) ?_
  refine z_r_ld (ins := (.aload_n 0)) (len := 1) (t := 304) (i := 0) rfl rfl rfl rfl rfl (fun _ => rfl) h0 rfl ?_
  refine z_r_rd (ins := (.getfield 87)) (len := 3) (t := 307) rfl rfl rfl rfl rfl (z_gfv (ci := 10) (k := 43) rfl (z_lkn fM hM) (by decide) q43) ?_
  refine z_r_ld (ins := (.iload_n 2)) (len := 1) (t := 308) (i := 2) rfl rfl rfl rfl rfl (fun _ => rfl) h2 rfl ?_
  refine z_r_ld (ins := (.iload_n 3)) (len := 1) (t := 309) (i := 3) rfl rfl rfl rfl rfl (fun _ => rfl) h3 rfl ?_
  refine z_r_pu (ins := .imul) (len := 1) (t := 310) rfl rfl rfl rfl rfl ?_
  refine z_r_rd (ins := .laload) (len := 1) (t := 311) rfl rfl rfl rfl rfl (z_lav (z_lkn fF hF) hi2 hs) ?_
  refine z_r_pu (ins := .lcmp) (len := 1) (t := 312) rfl rfl rfl rfl rfl ?_
  refine z_r_jm (ins := (.ifCond .le 6)) (len := 3) (t := 315) rfl rfl rfl rfl (z_ifn (t := 318) rfl (z_lgle_f hx)) ?_
  refine z_r_ld (ins := (.iload 4)) (len := 2) (t := 317) (i := 4) rfl rfl rfl rfl rfl (fun _ => rfl) h4 rfl ?_
  refine z_r_is (kk := z_isI) (ins := (.istore_n 3)) (len := 1) (t := 318) (i := 3) rfl rfl rfl rfl rfl rfl rfl rfl (fun l h3 hk => ?_)
  have h0 := hk _ _ h0 (by decide) (Or.inl (by decide))
  have h1 := hk _ _ h1 (by decide) (Or.inl (by decide))
  have h2 := hk _ _ h2 (by decide) (Or.inr (by show (1 : Nat) ≠ 2; decide))
  have h4 := hk _ _ h4 (by decide) (Or.inl (by decide))
  refine z_r_ic (ins := (.iinc 4 1)) (len := 3) (t := 321) (i := 4) rfl rfl rfl rfl rfl rfl h4 (fun l h4 hk => ?_)
  have h0 := hk _ _ h0 (by decide) (Or.inl (by decide))
  have h1 := hk _ _ h1 (by decide) (Or.inl (by decide))
  have h2 := hk _ _ h2 (by decide) (Or.inl (by decide))
  have h3 := hk _ _ h3 (by decide) (Or.inr (by show (1 : Nat) ≠ 2; decide))
  refine z_r_jm (ins := (.goto (-37))) (len := 3) (t := 284) rfl rfl rfl rfl (z_gty rfl) ?_
  exact kk l h0 h1 h2 h3 h4
theorem z_mkB3  {l : z_L} (h0 : z_get l 0 = some (.ref aM)) (h1 : z_get l 1 = some (.int k)) (h2 : z_get l 2 = some (.int w)) (h3 : z_get l 3 = some (.int m)) (h4 : z_get l 4 = some (.int a)) (hM : P[aM]? = some (10, fl)) (fM : aM < z_far) (hF : P[aF]? = some (104, L)) (fF : aF < z_far) (q43 : fl[43]? = some (.ref aF)) (hc : a.toInt ≤ k.toInt) (hm : m.toInt ≠ 0) (hi : (w * a).toInt = (j : Int)) (hv : L[j]? = some (.long v)) (hi2 : (w * m).toInt = (j2 : Int)) (hs : L[j2]? = some (.long s)) (hx : v.toInt ≤ s.toInt)
    (kk : ∀ l, z_get l 0 = some (.ref aM) → z_get l 1 = some (.int k) → z_get l 2 = some (.int w) → z_get l 3 = some (.int m) → z_get l 4 = some (.int (a + Int32.ofInt 1)) → z_Rh (z_G xs) d 256 Ψ (284, l, [], P, 0, 0)) : z_Rh (z_G xs) d 256 Ψ (284, l, [], P, 0, 0) := by
  refine z_r_ld (ins := (.iload 4)) (len := 2) (t := 286) (i := 4) rfl rfl rfl rfl rfl (fun _ => rfl) h4 rfl ?_
  refine z_r_ld (ins := (.iload_n 1)) (len := 1) (t := 287) (i := 1) rfl rfl rfl rfl rfl (fun _ => rfl) h1 rfl ?_
  refine z_r_jm (ins := (.if_icmp .gt 37)) (len := 3) (t := 290) rfl rfl rfl rfl (z_icn (t := 324) rfl (by rw [z_c_gt]; exact decide_eq_false (by omega))) ?_
  refine z_r_ld (ins := (.iload_n 3)) (len := 1) (t := 291) (i := 3) rfl rfl rfl rfl rfl (fun _ => rfl) h3 rfl ?_
  refine z_r_jm (ins := (.ifCond .eq 24)) (len := 3) (t := 294) rfl rfl rfl rfl (z_ifn (t := 315) rfl (by rw [z_c_eq, z_0t]; exact decide_eq_false hm)) ?_
  refine z_r_ld (ins := (.aload_n 0)) (len := 1) (t := 295) (i := 0) rfl rfl rfl rfl rfl (fun _ => rfl) h0 rfl ?_
  refine z_r_rd (ins := (.getfield 87)) (len := 3) (t := 298) rfl rfl rfl rfl rfl (z_gfv (ci := 10) (k := 43) rfl (z_lkn fM hM) (by decide) q43) ?_
  refine z_r_ld (ins := (.iload_n 2)) (len := 1) (t := 299) (i := 2) rfl rfl rfl rfl rfl (fun _ => rfl) h2 rfl ?_
  refine z_r_ld (ins := (.iload 4)) (len := 2) (t := 301) (i := 4) rfl rfl rfl rfl rfl (fun _ => rfl) h4 rfl ?_
  refine z_r_pu (ins := .imul) (len := 1) (t := 302) rfl rfl rfl rfl rfl ?_
  refine z_r_rd (ins := .laload) (len := 1) (t := 303) rfl rfl rfl rfl rfl (z_lav (z_lkn fF hF) hi hv) ?_
  refine z_r_ld (ins := (.aload_n 0)) (len := 1) (t := 304) (i := 0) rfl rfl rfl rfl rfl (fun _ => rfl) h0 rfl ?_
  refine z_r_rd (ins := (.getfield 87)) (len := 3) (t := 307) rfl rfl rfl rfl rfl (z_gfv (ci := 10) (k := 43) rfl (z_lkn fM hM) (by decide) q43) ?_
  refine z_r_ld (ins := (.iload_n 2)) (len := 1) (t := 308) (i := 2) rfl rfl rfl rfl rfl (fun _ => rfl) h2 rfl ?_
  refine z_r_ld (ins := (.iload_n 3)) (len := 1) (t := 309) (i := 3) rfl rfl rfl rfl rfl (fun _ => rfl) h3 rfl ?_
  refine z_r_pu (ins := .imul) (len := 1) (t := 310) rfl rfl rfl rfl rfl ?_
  refine z_r_rd (ins := .laload) (len := 1) (t := 311) rfl rfl rfl rfl rfl (z_lav (z_lkn fF hF) hi2 hs) ?_
  refine z_r_pu (ins := .lcmp) (len := 1) (t := 312) rfl rfl rfl rfl rfl ?_
  refine z_r_jm (ins := (.ifCond .le 6)) (len := 3) (t := 318) rfl rfl rfl rfl (z_ify (t := 318) rfl (z_lgle_t hx)) ?_
  refine z_r_ic (ins := (.iinc 4 1)) (len := 3) (t := 321) (i := 4) rfl rfl rfl rfl rfl rfl h4 (fun l h4 hk => ?_)
  have h0 := hk _ _ h0 (by decide) (Or.inl (by decide))
  have h1 := hk _ _ h1 (by decide) (Or.inl (by decide))
  have h2 := hk _ _ h2 (by decide) (Or.inl (by decide))
  have h3 := hk _ _ h3 (by decide) (Or.inr (by show (1 : Nat) ≠ 2; decide))
  refine z_r_jm (ins := (.goto (-37))) (len := 3) (t := 284) rfl rfl rfl rfl (z_gty rfl) ?_
  exact kk l h0 h1 h2 h3 h4
theorem z_mkT {l : z_L} (h0 : z_get l 0 = some (.ref aM)) (h2 : z_get l 2 = some (.int w)) (h3 : z_get l 3 = some (.int m)) (hM : P[aM]? = some (10, fl)) (fM : aM < z_far) (hR : P[aR]? = some (104, R)) (q12 : fl[12]? = some (.ref aR)) (q13 : fl[13]? = some (.int r)) (hne : aR ≠ aM) (hd : 1 ≤ d) (hj : 0 < R.length)
    (kk : ∀ l, z_get l 0 = some (.ref aM) → z_get l 2 = some (.int w) → z_get l 3 = some (.int m) → z_get l 4 = some (.int (Int32.ofInt 0)) → z_get l 5 = some (.int m) → z_Rh (z_G xs) d 256 Ψ (341, l, [], ((P.set aM (10, fl.set 13 (.int (Int32.ofInt 0)))).set aR (104, R.set 0 (.long m.toInt64))).set aM (10, (fl.set 13 (.int (Int32.ofInt 0))).set 13 (.int (Int32.ofInt 0 + Int32.ofInt 1))), 0, 0)) : z_Rh (z_G xs) d 256 Ψ (324, l, [], P, 0, 0) := by
  refine z_r_ld (ins := (.aload_n 0)) (len := 1) (t := 325) (i := 0) rfl rfl rfl rfl rfl (fun _ => rfl) h0 rfl ?_
  refine z_r_pu (ins := (.iconst 0)) (len := 1) (t := 326) rfl rfl rfl rfl rfl ?_
  refine z_r_wr (ins := (.putfield 127)) (len := 3) (t := 329) rfl rfl rfl rfl rfl (z_pfv (ci := 10) (k := 13) rfl hM (by decide) (List.getElem?_eq_some_iff.mp q13).1 rfl rfl rfl) ?_
  have hM : (P.set aM (10, fl.set 13 (.int (Int32.ofInt 0))))[aM]? = some (10, fl.set 13 (.int (Int32.ofInt 0))) := List.getElem?_set_self (List.getElem?_eq_some_iff.mp hM).1
  have hR : (P.set aM (10, fl.set 13 (.int (Int32.ofInt 0))))[aR]? = some (104, R) := by rw [List.getElem?_set_ne (fun q => hne q.symm)]; exact hR
  refine z_r_ld (ins := (.aload_n 0)) (len := 1) (t := 330) (i := 0) rfl rfl rfl rfl rfl (fun _ => rfl) h0 rfl ?_
  refine z_r_ld (ins := (.iload_n 3)) (len := 1) (t := 331) (i := 3) rfl rfl rfl rfl rfl (fun _ => rfl) h3 rfl ?_
  refine z_r_pu (ins := .i2l) (len := 1) (t := 332) rfl rfl rfl rfl rfl ?_
  refine z_r_ca (ins := .invokevirtual 281) (t := 335) (kd := 1) rfl rfl (by decide) (z_argsv rfl rfl rfl hd (Nat.le_of_ble_eq_true rfl) rfl (Nat.le_of_ble_eq_true rfl) (Nat.le_refl _) (Nat.le_refl _) (Or.inr (Nat.le_of_ble_eq_true rfl)) (Or.inr (z_atv (z_lkn fM hM) rfl))) rfl rfl rfl (z_tellr hM fM hR (by rw [List.getElem?_set_ne (by decide)]; exact q12) (List.getElem?_set_self (List.getElem?_eq_some_iff.mp q13).1) hne (j := 0) rfl hj) ?_
  refine z_r_pu (ins := (.iconst 0)) (len := 1) (t := 336) rfl rfl rfl rfl rfl ?_
  refine z_r_is (kk := z_isI) (ins := (.istore 4)) (len := 2) (t := 338) (i := 4) rfl rfl rfl rfl rfl rfl rfl rfl (fun l h4 hk => ?_)
  have h0 := hk _ _ h0 (by decide) (Or.inl (by decide))
  have h2 := hk _ _ h2 (by decide) (Or.inl (by decide))
  have h3 := hk _ _ h3 (by decide) (Or.inr (by show (1 : Nat) ≠ 2; decide))
  refine z_r_ld (ins := (.iload_n 3)) (len := 1) (t := 339) (i := 3) rfl rfl rfl rfl rfl (fun _ => rfl) h3 rfl ?_
  refine z_r_is (kk := z_isI) (ins := (.istore 5)) (len := 2) (t := 341) (i := 5) rfl rfl rfl rfl rfl rfl rfl rfl (fun l h5 hk => ?_)
  have h0 := hk _ _ h0 (by decide) (Or.inl (by decide))
  have h2 := hk _ _ h2 (by decide) (Or.inl (by decide))
  have h3 := hk _ _ h3 (by decide) (Or.inl (by decide))
  have h4 := hk _ _ h4 (by decide) (Or.inr (by show (1 : Nat) ≠ 2; decide))
  exact kk l h0 h2 h3 h4 h5
theorem z_mkW0 {l : z_L} (h0 : z_get l 0 = some (.ref aM)) (h2 : z_get l 2 = some (.int w)) (h3 : z_get l 3 = some (.int m)) (h4 : z_get l 4 = some (.int a)) (h5 : z_get l 5 = some (.int k)) (hM : P[aM]? = some (10, fl)) (fM : aM < z_far) (hF : P[aF]? = some (104, L)) (fF : aF < z_far) (q43 : fl[43]? = some (.ref aF)) (hc : k.toInt ≤ 1) (hi : (w * m).toInt = (j : Int)) (hv : L[j]? = some (.long v))
    (kk : ∀ l, z_get l 0 = some (.ref aM) → z_get l 2 = some (.int w) → z_get l 3 = some (.int m) → z_get l 4 = some (.int a) → z_get l 5 = some (.int k) → z_Rh (z_G xs) d 256 Ψ (450, l, [.int (v).toInt32], P, 0, 0)) : z_Rh (z_G xs) d 256 Ψ (341, l, [], P, 0, 0) := by
  refine z_r_ld (ins := (.iload 5)) (len := 2) (t := 343) (i := 5) rfl rfl rfl rfl rfl (fun _ => rfl) h5 rfl ?_
  refine z_r_pu (ins := (.iconst 1)) (len := 1) (t := 344) rfl rfl rfl rfl rfl ?_
  refine z_r_jm (ins := (.if_icmp .le 97)) (len := 3) (t := 441) rfl rfl rfl rfl (z_icy (t := 441) rfl (by rw [z_c_le, z_1t]; exact decide_eq_true hc)) ?_
  refine z_r_ld (ins := (.aload_n 0)) (len := 1) (t := 442) (i := 0) rfl rfl rfl rfl rfl (fun _ => rfl) h0 rfl ?_
  refine z_r_rd (ins := (.getfield 87)) (len := 3) (t := 445) rfl rfl rfl rfl rfl (z_gfv (ci := 10) (k := 43) rfl (z_lkn fM hM) (by decide) q43) ?_
  refine z_r_ld (ins := (.iload_n 2)) (len := 1) (t := 446) (i := 2) rfl rfl rfl rfl rfl (fun _ => rfl) h2 rfl ?_
  refine z_r_ld (ins := (.iload_n 3)) (len := 1) (t := 447) (i := 3) rfl rfl rfl rfl rfl (fun _ => rfl) h3 rfl ?_
  refine z_r_pu (ins := .imul) (len := 1) (t := 448) rfl rfl rfl rfl rfl ?_
  refine z_r_rd (ins := .laload) (len := 1) (t := 449) rfl rfl rfl rfl rfl (z_lav (z_lkn fF hF) hi hv) ?_
  refine z_r_pu (ins := .l2i) (len := 1) (t := 450) rfl rfl rfl rfl rfl ?_
  exact kk l h0 h2 h3 h4 h5
theorem z_mkW1 {l : z_L} (h0 : z_get l 0 = some (.ref aM)) (h2 : z_get l 2 = some (.int w)) (h3 : z_get l 3 = some (.int m)) (h4 : z_get l 4 = some (.int a)) (h5 : z_get l 5 = some (.int k))  (hc : 1 < k.toInt)
    (kk : ∀ l, z_get l 0 = some (.ref aM) → z_get l 2 = some (.int w) → z_get l 3 = some (.int m) → z_get l 4 = some (.int a) → z_get l 5 = some (.int k) → z_get l 6 = some (.int (a + (Int32.ofInt 1))) → z_Rh (z_G xs) d 256 Ψ (353, l, [], P, 0, 0)) : z_Rh (z_G xs) d 256 Ψ (341, l, [], P, 0, 0) := by
  refine z_r_ld (ins := (.iload 5)) (len := 2) (t := 343) (i := 5) rfl rfl rfl rfl rfl (fun _ => rfl) h5 rfl ?_
  refine z_r_pu (ins := (.iconst 1)) (len := 1) (t := 344) rfl rfl rfl rfl rfl ?_
  refine z_r_jm (ins := (.if_icmp .le 97)) (len := 3) (t := 347) rfl rfl rfl rfl (z_icn (t := 441) rfl (by rw [z_c_le, z_1t]; exact decide_eq_false (by omega))) ?_
  refine z_r_ld (ins := (.iload 4)) (len := 2) (t := 349) (i := 4) rfl rfl rfl rfl rfl (fun _ => rfl) h4 rfl ?_
  refine z_r_pu (ins := (.iconst 1)) (len := 1) (t := 350) rfl rfl rfl rfl rfl ?_
  refine z_r_pu (ins := .iadd) (len := 1) (t := 351) rfl rfl rfl rfl rfl ?_
  refine z_r_is (kk := z_isI) (ins := (.istore 6)) (len := 2) (t := 353) (i := 6) rfl rfl rfl rfl rfl rfl rfl rfl (fun l h6 hk => ?_)
  have h0 := hk _ _ h0 (by decide) (Or.inl (by decide))
  have h2 := hk _ _ h2 (by decide) (Or.inl (by decide))
  have h3 := hk _ _ h3 (by decide) (Or.inl (by decide))
  have h4 := hk _ _ h4 (by decide) (Or.inl (by decide))
  have h5 := hk _ _ h5 (by decide) (Or.inr (by show (1 : Nat) ≠ 2; decide))
  exact kk l h0 h2 h3 h4 h5 h6
theorem z_mkW2 {l : z_L} (h0 : z_get l 0 = some (.ref aM)) (h2 : z_get l 2 = some (.int w)) (h3 : z_get l 3 = some (.int m)) (h4 : z_get l 4 = some (.int a)) (h5 : z_get l 5 = some (.int k)) (h6 : z_get l 6 = some (.int b)) (hM : P[aM]? = some (10, fl)) (fM : aM < z_far) (hF : P[aF]? = some (104, L)) (fF : aF < z_far) (q43 : fl[43]? = some (.ref aF)) (hi : (w * (k - Int32.ofInt 1) + b).toInt = (j : Int)) (hv : L[j]? = some (.long v)) (hx : v.toInt = -1)
    (kk : ∀ l, z_get l 0 = some (.ref aM) → z_get l 2 = some (.int w) → z_get l 3 = some (.int m) → z_get l 4 = some (.int a) → z_get l 5 = some (.int k) → z_get l 6 = some (.int (b + Int32.ofInt 1)) → z_Rh (z_G xs) d 256 Ψ (353, l, [], P, 0, 0)) : z_Rh (z_G xs) d 256 Ψ (353, l, [], P, 0, 0) := by
  refine z_r_ld (ins := (.aload_n 0)) (len := 1) (t := 354) (i := 0) rfl rfl rfl rfl rfl (fun _ => rfl) h0 rfl ?_
  refine z_r_rd (ins := (.getfield 87)) (len := 3) (t := 357) rfl rfl rfl rfl rfl (z_gfv (ci := 10) (k := 43) rfl (z_lkn fM hM) (by decide) q43) ?_
  refine z_r_ld (ins := (.iload_n 2)) (len := 1) (t := 358) (i := 2) rfl rfl rfl rfl rfl (fun _ => rfl) h2 rfl ?_
  refine z_r_ld (ins := (.iload 5)) (len := 2) (t := 360) (i := 5) rfl rfl rfl rfl rfl (fun _ => rfl) h5 rfl ?_
  refine z_r_pu (ins := (.iconst 1)) (len := 1) (t := 361) rfl rfl rfl rfl rfl ?_
  refine z_r_pu (ins := .isub) (len := 1) (t := 362) rfl rfl rfl rfl rfl ?_
  refine z_r_pu (ins := .imul) (len := 1) (t := 363) rfl rfl rfl rfl rfl ?_
  refine z_r_ld (ins := (.iload 6)) (len := 2) (t := 365) (i := 6) rfl rfl rfl rfl rfl (fun _ => rfl) h6 rfl ?_
  refine z_r_pu (ins := .iadd) (len := 1) (t := 366) rfl rfl rfl rfl rfl ?_
  refine z_r_rd (ins := .laload) (len := 1) (t := 367) rfl rfl rfl rfl rfl (z_lav (z_lkn fF hF) hi hv) ?_
  refine z_r_cs (ins := (.ldc2_w 337)) (len := 3) (t := 370) (v := .long (-1)) rfl rfl rfl rfl rfl rfl ?_
  refine z_r_pu (ins := .lcmp) (len := 1) (t := 371) rfl rfl rfl rfl rfl ?_
  refine z_r_jm (ins := (.ifCond .eq 47)) (len := 3) (t := 418) rfl rfl rfl rfl (z_ify (t := 418) rfl (z_lge_t hx)) ?_
  refine z_r_ic (ins := (.iinc 6 1)) (len := 3) (t := 421) (i := 6) rfl rfl rfl rfl rfl rfl h6 (fun l h6 hk => ?_)
  have h0 := hk _ _ h0 (by decide) (Or.inl (by decide))
  have h2 := hk _ _ h2 (by decide) (Or.inl (by decide))
  have h3 := hk _ _ h3 (by decide) (Or.inl (by decide))
  have h4 := hk _ _ h4 (by decide) (Or.inl (by decide))
  have h5 := hk _ _ h5 (by decide) (Or.inr (by show (1 : Nat) ≠ 2; decide))
  refine z_r_jm (ins := (.goto (-68))) (len := 3) (t := 353) rfl rfl rfl rfl (z_gty rfl) ?_
  exact kk l h0 h2 h3 h4 h5 h6
theorem z_mkW3 {l : z_L} (h0 : z_get l 0 = some (.ref aM)) (h2 : z_get l 2 = some (.int w)) (h3 : z_get l 3 = some (.int m)) (h4 : z_get l 4 = some (.int a)) (h5 : z_get l 5 = some (.int k)) (h6 : z_get l 6 = some (.int b)) (hM : P[aM]? = some (10, fl)) (fM : aM < z_far) (hF : P[aF]? = some (104, L)) (fF : aF < z_far) (q43 : fl[43]? = some (.ref aF)) (hW : P[aW]? = some (103, W)) (fW : aW < z_far) (q41 : fl[41]? = some (.ref aW)) (hi : (w * (k - Int32.ofInt 1) + b).toInt = (j : Int)) (hv : L[j]? = some (.long v)) (hx : v.toInt ≠ -1) (hi2 : (w * a + b).toInt = (j2 : Int)) (hy : W[j2]? = some (.int y)) (hi3 : (w * k + a).toInt = (j3 : Int)) (hs : L[j3]? = some (.long s)) (he : (y.toInt64 + v).toInt ≠ s.toInt)
    (kk : ∀ l, z_get l 0 = some (.ref aM) → z_get l 2 = some (.int w) → z_get l 3 = some (.int m) → z_get l 4 = some (.int a) → z_get l 5 = some (.int k) → z_get l 6 = some (.int (b + Int32.ofInt 1)) → z_Rh (z_G xs) d 256 Ψ (353, l, [], P, 0, 0)) : z_Rh (z_G xs) d 256 Ψ (353, l, [], P, 0, 0) := by
  refine z_r_ld (ins := (.aload_n 0)) (len := 1) (t := 354) (i := 0) rfl rfl rfl rfl rfl (fun _ => rfl) h0 rfl ?_
  refine z_r_rd (ins := (.getfield 87)) (len := 3) (t := 357) rfl rfl rfl rfl rfl (z_gfv (ci := 10) (k := 43) rfl (z_lkn fM hM) (by decide) q43) ?_
  refine z_r_ld (ins := (.iload_n 2)) (len := 1) (t := 358) (i := 2) rfl rfl rfl rfl rfl (fun _ => rfl) h2 rfl ?_
  refine z_r_ld (ins := (.iload 5)) (len := 2) (t := 360) (i := 5) rfl rfl rfl rfl rfl (fun _ => rfl) h5 rfl ?_
  refine z_r_pu (ins := (.iconst 1)) (len := 1) (t := 361) rfl rfl rfl rfl rfl ?_
  refine z_r_pu (ins := .isub) (len := 1) (t := 362) rfl rfl rfl rfl rfl ?_
  refine z_r_pu (ins := .imul) (len := 1) (t := 363) rfl rfl rfl rfl rfl ?_
  refine z_r_ld (ins := (.iload 6)) (len := 2) (t := 365) (i := 6) rfl rfl rfl rfl rfl (fun _ => rfl) h6 rfl ?_
  refine z_r_pu (ins := .iadd) (len := 1) (t := 366) rfl rfl rfl rfl rfl ?_
  refine z_r_rd (ins := .laload) (len := 1) (t := 367) rfl rfl rfl rfl rfl (z_lav (z_lkn fF hF) hi hv) ?_
  refine z_r_cs (ins := (.ldc2_w 337)) (len := 3) (t := 370) (v := .long (-1)) rfl rfl rfl rfl rfl rfl ?_
  refine z_r_pu (ins := .lcmp) (len := 1) (t := 371) rfl rfl rfl rfl rfl ?_
  refine z_r_jm (ins := (.ifCond .eq 47)) (len := 3) (t := 374) rfl rfl rfl rfl (z_ifn (t := 418) rfl (z_lge_f hx)) ?_
  refine z_r_ld (ins := (.aload_n 0)) (len := 1) (t := 375) (i := 0) rfl rfl rfl rfl rfl (fun _ => rfl) h0 rfl ?_
  refine z_r_rd (ins := (.getfield 81)) (len := 3) (t := 378) rfl rfl rfl rfl rfl (z_gfv (ci := 10) (k := 41) rfl (z_lkn fM hM) (by decide) q41) ?_
  refine z_r_ld (ins := (.iload_n 2)) (len := 1) (t := 379) (i := 2) rfl rfl rfl rfl rfl (fun _ => rfl) h2 rfl ?_
  refine z_r_ld (ins := (.iload 4)) (len := 2) (t := 381) (i := 4) rfl rfl rfl rfl rfl (fun _ => rfl) h4 rfl ?_
  refine z_r_pu (ins := .imul) (len := 1) (t := 382) rfl rfl rfl rfl rfl ?_
  refine z_r_ld (ins := (.iload 6)) (len := 2) (t := 384) (i := 6) rfl rfl rfl rfl rfl (fun _ => rfl) h6 rfl ?_
  refine z_r_pu (ins := .iadd) (len := 1) (t := 385) rfl rfl rfl rfl rfl ?_
  refine z_r_rd (ins := .iaload) (len := 1) (t := 386) rfl rfl rfl rfl rfl (z_iav (z_lkn fW hW) hi2 hy) ?_
  refine z_r_pu (ins := .i2l) (len := 1) (t := 387) rfl rfl rfl rfl rfl ?_
  refine z_r_ld (ins := (.aload_n 0)) (len := 1) (t := 388) (i := 0) rfl rfl rfl rfl rfl (fun _ => rfl) h0 rfl ?_
  refine z_r_rd (ins := (.getfield 87)) (len := 3) (t := 391) rfl rfl rfl rfl rfl (z_gfv (ci := 10) (k := 43) rfl (z_lkn fM hM) (by decide) q43) ?_
  refine z_r_ld (ins := (.iload_n 2)) (len := 1) (t := 392) (i := 2) rfl rfl rfl rfl rfl (fun _ => rfl) h2 rfl ?_
  refine z_r_ld (ins := (.iload 5)) (len := 2) (t := 394) (i := 5) rfl rfl rfl rfl rfl (fun _ => rfl) h5 rfl ?_
  refine z_r_pu (ins := (.iconst 1)) (len := 1) (t := 395) rfl rfl rfl rfl rfl ?_
  refine z_r_pu (ins := .isub) (len := 1) (t := 396) rfl rfl rfl rfl rfl ?_
  refine z_r_pu (ins := .imul) (len := 1) (t := 397) rfl rfl rfl rfl rfl ?_
  refine z_r_ld (ins := (.iload 6)) (len := 2) (t := 399) (i := 6) rfl rfl rfl rfl rfl (fun _ => rfl) h6 rfl ?_
  refine z_r_pu (ins := .iadd) (len := 1) (t := 400) rfl rfl rfl rfl rfl ?_
  refine z_r_rd (ins := .laload) (len := 1) (t := 401) rfl rfl rfl rfl rfl (z_lav (z_lkn fF hF) hi hv) ?_
  refine z_r_pu (ins := .ladd) (len := 1) (t := 402) rfl rfl rfl rfl rfl ?_
  refine z_r_ld (ins := (.aload_n 0)) (len := 1) (t := 403) (i := 0) rfl rfl rfl rfl rfl (fun _ => rfl) h0 rfl ?_
  refine z_r_rd (ins := (.getfield 87)) (len := 3) (t := 406) rfl rfl rfl rfl rfl (z_gfv (ci := 10) (k := 43) rfl (z_lkn fM hM) (by decide) q43) ?_
  refine z_r_ld (ins := (.iload_n 2)) (len := 1) (t := 407) (i := 2) rfl rfl rfl rfl rfl (fun _ => rfl) h2 rfl ?_
  refine z_r_ld (ins := (.iload 5)) (len := 2) (t := 409) (i := 5) rfl rfl rfl rfl rfl (fun _ => rfl) h5 rfl ?_
  refine z_r_pu (ins := .imul) (len := 1) (t := 410) rfl rfl rfl rfl rfl ?_
  refine z_r_ld (ins := (.iload 4)) (len := 2) (t := 412) (i := 4) rfl rfl rfl rfl rfl (fun _ => rfl) h4 rfl ?_
  refine z_r_pu (ins := .iadd) (len := 1) (t := 413) rfl rfl rfl rfl rfl ?_
  refine z_r_rd (ins := .laload) (len := 1) (t := 414) rfl rfl rfl rfl rfl (z_lav (z_lkn fF hF) hi3 hs) ?_
  refine z_r_pu (ins := .lcmp) (len := 1) (t := 415) rfl rfl rfl rfl rfl ?_
  refine z_r_jm (ins := (.ifCond .eq 9)) (len := 3) (t := 418) rfl rfl rfl rfl (z_ifn (t := 424) rfl (z_lge_f he)) ?_
  refine z_r_ic (ins := (.iinc 6 1)) (len := 3) (t := 421) (i := 6) rfl rfl rfl rfl rfl rfl h6 (fun l h6 hk => ?_)
  have h0 := hk _ _ h0 (by decide) (Or.inl (by decide))
  have h2 := hk _ _ h2 (by decide) (Or.inl (by decide))
  have h3 := hk _ _ h3 (by decide) (Or.inl (by decide))
  have h4 := hk _ _ h4 (by decide) (Or.inl (by decide))
  have h5 := hk _ _ h5 (by decide) (Or.inr (by show (1 : Nat) ≠ 2; decide))
  refine z_r_jm (ins := (.goto (-68))) (len := 3) (t := 353) rfl rfl rfl rfl (z_gty rfl) ?_
  exact kk l h0 h2 h3 h4 h5 h6
theorem z_mkW4 {l : z_L} (h0 : z_get l 0 = some (.ref aM)) (h2 : z_get l 2 = some (.int w)) (h3 : z_get l 3 = some (.int m)) (h4 : z_get l 4 = some (.int a)) (h5 : z_get l 5 = some (.int k)) (h6 : z_get l 6 = some (.int b)) (hM : P[aM]? = some (10, fl)) (fM : aM < z_far) (hF : P[aF]? = some (104, L)) (fF : aF < z_far) (q43 : fl[43]? = some (.ref aF)) (hW : P[aW]? = some (103, W)) (fW : aW < z_far) (q41 : fl[41]? = some (.ref aW)) (hi : (w * (k - Int32.ofInt 1) + b).toInt = (j : Int)) (hv : L[j]? = some (.long v)) (hx : v.toInt ≠ -1) (hi2 : (w * a + b).toInt = (j2 : Int)) (hy : W[j2]? = some (.int y)) (hi3 : (w * k + a).toInt = (j3 : Int)) (hs : L[j3]? = some (.long s)) (he : (y.toInt64 + v).toInt = s.toInt)
    (kk : ∀ l, z_get l 0 = some (.ref aM) → z_get l 2 = some (.int w) → z_get l 3 = some (.int m) → z_get l 4 = some (.int a) → z_get l 5 = some (.int k) → z_get l 6 = some (.int b) → z_Rh (z_G xs) d 256 Ψ (424, l, [], P, 0, 0)) : z_Rh (z_G xs) d 256 Ψ (353, l, [], P, 0, 0) := by
  refine z_r_ld (ins := (.aload_n 0)) (len := 1) (t := 354) (i := 0) rfl rfl rfl rfl rfl (fun _ => rfl) h0 rfl ?_
  refine z_r_rd (ins := (.getfield 87)) (len := 3) (t := 357) rfl rfl rfl rfl rfl (z_gfv (ci := 10) (k := 43) rfl (z_lkn fM hM) (by decide) q43) ?_
  refine z_r_ld (ins := (.iload_n 2)) (len := 1) (t := 358) (i := 2) rfl rfl rfl rfl rfl (fun _ => rfl) h2 rfl ?_
  refine z_r_ld (ins := (.iload 5)) (len := 2) (t := 360) (i := 5) rfl rfl rfl rfl rfl (fun _ => rfl) h5 rfl ?_
  refine z_r_pu (ins := (.iconst 1)) (len := 1) (t := 361) rfl rfl rfl rfl rfl ?_
  refine z_r_pu (ins := .isub) (len := 1) (t := 362) rfl rfl rfl rfl rfl ?_
  refine z_r_pu (ins := .imul) (len := 1) (t := 363) rfl rfl rfl rfl rfl ?_
  refine z_r_ld (ins := (.iload 6)) (len := 2) (t := 365) (i := 6) rfl rfl rfl rfl rfl (fun _ => rfl) h6 rfl ?_
  refine z_r_pu (ins := .iadd) (len := 1) (t := 366) rfl rfl rfl rfl rfl ?_
  refine z_r_rd (ins := .laload) (len := 1) (t := 367) rfl rfl rfl rfl rfl (z_lav (z_lkn fF hF) hi hv) ?_
  refine z_r_cs (ins := (.ldc2_w 337)) (len := 3) (t := 370) (v := .long (-1)) rfl rfl rfl rfl rfl rfl ?_
  refine z_r_pu (ins := .lcmp) (len := 1) (t := 371) rfl rfl rfl rfl rfl ?_
  refine z_r_jm (ins := (.ifCond .eq 47)) (len := 3) (t := 374) rfl rfl rfl rfl (z_ifn (t := 418) rfl (z_lge_f hx)) ?_
  refine z_r_ld (ins := (.aload_n 0)) (len := 1) (t := 375) (i := 0) rfl rfl rfl rfl rfl (fun _ => rfl) h0 rfl ?_
  refine z_r_rd (ins := (.getfield 81)) (len := 3) (t := 378) rfl rfl rfl rfl rfl (z_gfv (ci := 10) (k := 41) rfl (z_lkn fM hM) (by decide) q41) ?_
  refine z_r_ld (ins := (.iload_n 2)) (len := 1) (t := 379) (i := 2) rfl rfl rfl rfl rfl (fun _ => rfl) h2 rfl ?_
  refine z_r_ld (ins := (.iload 4)) (len := 2) (t := 381) (i := 4) rfl rfl rfl rfl rfl (fun _ => rfl) h4 rfl ?_
  refine z_r_pu (ins := .imul) (len := 1) (t := 382) rfl rfl rfl rfl rfl ?_
  refine z_r_ld (ins := (.iload 6)) (len := 2) (t := 384) (i := 6) rfl rfl rfl rfl rfl (fun _ => rfl) h6 rfl ?_
  refine z_r_pu (ins := .iadd) (len := 1) (t := 385) rfl rfl rfl rfl rfl ?_
  refine z_r_rd (ins := .iaload) (len := 1) (t := 386) rfl rfl rfl rfl rfl (z_iav (z_lkn fW hW) hi2 hy) ?_
  refine z_r_pu (ins := .i2l) (len := 1) (t := 387) rfl rfl rfl rfl rfl ?_
  refine z_r_ld (ins := (.aload_n 0)) (len := 1) (t := 388) (i := 0) rfl rfl rfl rfl rfl (fun _ => rfl) h0 rfl ?_
  refine z_r_rd (ins := (.getfield 87)) (len := 3) (t := 391) rfl rfl rfl rfl rfl (z_gfv (ci := 10) (k := 43) rfl (z_lkn fM hM) (by decide) q43) ?_
  refine z_r_ld (ins := (.iload_n 2)) (len := 1) (t := 392) (i := 2) rfl rfl rfl rfl rfl (fun _ => rfl) h2 rfl ?_
  refine z_r_ld (ins := (.iload 5)) (len := 2) (t := 394) (i := 5) rfl rfl rfl rfl rfl (fun _ => rfl) h5 rfl ?_
  refine z_r_pu (ins := (.iconst 1)) (len := 1) (t := 395) rfl rfl rfl rfl rfl ?_
  refine z_r_pu (ins := .isub) (len := 1) (t := 396) rfl rfl rfl rfl rfl ?_
  refine z_r_pu (ins := .imul) (len := 1) (t := 397) rfl rfl rfl rfl rfl ?_
  refine z_r_ld (ins := (.iload 6)) (len := 2) (t := 399) (i := 6) rfl rfl rfl rfl rfl (fun _ => rfl) h6 rfl ?_
  refine z_r_pu (ins := .iadd) (len := 1) (t := 400) rfl rfl rfl rfl rfl ?_
  refine z_r_rd (ins := .laload) (len := 1) (t := 401) rfl rfl rfl rfl rfl (z_lav (z_lkn fF hF) hi hv) ?_
  refine z_r_pu (ins := .ladd) (len := 1) (t := 402) rfl rfl rfl rfl rfl ?_
  refine z_r_ld (ins := (.aload_n 0)) (len := 1) (t := 403) (i := 0) rfl rfl rfl rfl rfl (fun _ => rfl) h0 rfl ?_
  refine z_r_rd (ins := (.getfield 87)) (len := 3) (t := 406) rfl rfl rfl rfl rfl (z_gfv (ci := 10) (k := 43) rfl (z_lkn fM hM) (by decide) q43) ?_
  refine z_r_ld (ins := (.iload_n 2)) (len := 1) (t := 407) (i := 2) rfl rfl rfl rfl rfl (fun _ => rfl) h2 rfl ?_
  refine z_r_ld (ins := (.iload 5)) (len := 2) (t := 409) (i := 5) rfl rfl rfl rfl rfl (fun _ => rfl) h5 rfl ?_
  refine z_r_pu (ins := .imul) (len := 1) (t := 410) rfl rfl rfl rfl rfl ?_
  refine z_r_ld (ins := (.iload 4)) (len := 2) (t := 412) (i := 4) rfl rfl rfl rfl rfl (fun _ => rfl) h4 rfl ?_
  refine z_r_pu (ins := .iadd) (len := 1) (t := 413) rfl rfl rfl rfl rfl ?_
  refine z_r_rd (ins := .laload) (len := 1) (t := 414) rfl rfl rfl rfl rfl (z_lav (z_lkn fF hF) hi3 hs) ?_
  refine z_r_pu (ins := .lcmp) (len := 1) (t := 415) rfl rfl rfl rfl rfl ?_
  refine z_r_jm (ins := (.ifCond .eq 9)) (len := 3) (t := 424) rfl rfl rfl rfl (z_ify (t := 424) rfl (z_lge_t he)) ?_
  exact kk l h0 h2 h3 h4 h5 h6
theorem z_mkW5 {l : z_L} (h0 : z_get l 0 = some (.ref aM)) (h2 : z_get l 2 = some (.int w)) (h3 : z_get l 3 = some (.int m)) (h4 : z_get l 4 = some (.int a)) (h5 : z_get l 5 = some (.int k)) (h6 : z_get l 6 = some (.int b)) (hM : P[aM]? = some (10, fl)) (fM : aM < z_far) (hR : P[aR]? = some (104, R)) (q12 : fl[12]? = some (.ref aR)) (q13 : fl[13]? = some (.int r)) (hne : aR ≠ aM) (hd : 1 ≤ d) (hr : r.toInt = (j : Int)) (hj : j < R.length)
    (kk : ∀ l, z_get l 0 = some (.ref aM) → z_get l 2 = some (.int w) → z_get l 3 = some (.int m) → z_get l 4 = some (.int b) → z_get l 5 = some (.int (k + Int32.ofInt (-1))) → z_Rh (z_G xs) d 256 Ψ (341, l, [], (P.set aR (104, R.set j (.long b.toInt64))).set aM (10, fl.set 13 (.int (r + Int32.ofInt 1))), 0, 0)) : z_Rh (z_G xs) d 256 Ψ (424, l, [], P, 0, 0) := by
  refine z_r_ld (ins := (.aload_n 0)) (len := 1) (t := 425) (i := 0) rfl rfl rfl rfl rfl (fun _ => rfl) h0 rfl ?_
  refine z_r_ld (ins := (.iload 6)) (len := 2) (t := 427) (i := 6) rfl rfl rfl rfl rfl (fun _ => rfl) h6 rfl ?_
  refine z_r_pu (ins := .i2l) (len := 1) (t := 428) rfl rfl rfl rfl rfl ?_
  refine z_r_ca (ins := .invokevirtual 281) (t := 431) (kd := 1) rfl rfl (by decide) (z_argsv rfl rfl rfl hd (Nat.le_of_ble_eq_true rfl) rfl (Nat.le_of_ble_eq_true rfl) (Nat.le_refl _) (Nat.le_refl _) (Or.inr (Nat.le_of_ble_eq_true rfl)) (Or.inr (z_atv (z_lkn fM hM) rfl))) rfl rfl rfl (z_tellr hM fM hR q12 q13 hne hr hj) ?_
  refine z_r_ld (ins := (.iload 6)) (len := 2) (t := 433) (i := 6) rfl rfl rfl rfl rfl (fun _ => rfl) h6 rfl ?_
  refine z_r_is (kk := z_isI) (ins := (.istore 4)) (len := 2) (t := 435) (i := 4) rfl rfl rfl rfl rfl rfl rfl rfl (fun l h4 hk => ?_)
  have h0 := hk _ _ h0 (by decide) (Or.inl (by decide))
  have h2 := hk _ _ h2 (by decide) (Or.inl (by decide))
  have h3 := hk _ _ h3 (by decide) (Or.inr (by show (1 : Nat) ≠ 2; decide))
  have h5 := hk _ _ h5 (by decide) (Or.inl (by decide))
  have h6 := hk _ _ h6 (by decide) (Or.inl (by decide))
  refine z_r_ic (ins := (.iinc 5 (-1))) (len := 3) (t := 438) (i := 5) rfl rfl rfl rfl rfl rfl h5 (fun l h5 hk => ?_)
  have h0 := hk _ _ h0 (by decide) (Or.inl (by decide))
  have h2 := hk _ _ h2 (by decide) (Or.inl (by decide))
  have h3 := hk _ _ h3 (by decide) (Or.inl (by decide))
  have h4 := hk _ _ h4 (by decide) (Or.inr (by show (1 : Nat) ≠ 2; decide))
  have h6 := hk _ _ h6 (by decide) (Or.inl (by decide))
  refine z_r_jm (ins := (.goto (-97))) (len := 3) (t := 341) rfl rfl rfl rfl (z_gty rfl) ?_
  exact kk l h0 h2 h3 h4 h5
end ZMRK
