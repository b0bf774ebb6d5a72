/-! lineNow, by hand. -/
section ZLIN
theorem z_ref1 {N : List Int} {al : Nat → Option Nat} {cc : Nat} {v : Value} (h : z_gv N al (.inr (.inr (false, [cc]))) v) : ∃ a, v = .ref a ∧ al a = some cc := by
  rcases h with ⟨-, h⟩ | ⟨a, c', h1, h2, h3⟩
  · cases h
  · have h3 : c' = cc := by simpa using h3
    subst h3
    exact ⟨a, h1, h2⟩
theorem z_int1 {N : List Int} {al : Nat → Option Nat} {t : z_tk} {v : Value} (h : z_gv N al (.inl t) v) : ∃ x : Int32, v = .int x ∧ z_lo t ≤ x.toInt ∧ x.toInt ≤ z_hi t := by
  obtain ⟨x, h1, h2, h3, -⟩ := h
  exact ⟨x, h1, h2, h3⟩
def z_wv (ts : List Value) (j : Nat) : Int := match ts[j]? with
  | some (.int x) => x.toInt
  | _ => 0
def z_sm (ts : List Value) : Nat → Int
  | 0 => 0
  | k + 1 => z_sm ts k + z_wv ts k
theorem z_wv_at {ts : List Value} {j : Nat} {y : Int32} (h : ts[j]? = some (.int y)) : z_wv ts j = y.toInt := by
  unfold z_wv
  rw [h]
def z_tok (ts : List Value) : Prop := ts.length = 12 ∧ ∀ j, j < 12 → ∃ y : Int32, ts[j]? = some (.int y) ∧ 0 ≤ y.toInt ∧ y.toInt ≤ 99
theorem z_sm_bd {ts : List Value} (h : z_tok ts) : ∀ {k : Nat}, k ≤ 12 → 0 ≤ z_sm ts k ∧ z_sm ts k ≤ 99 * k
  | 0, _ => ⟨Int.le_refl _, Int.le_refl _⟩
  | k + 1, hk => by
    obtain ⟨h1, h2⟩ := z_sm_bd h (k := k) (by omega)
    obtain ⟨y, e, h3, h4⟩ := h.2 k (by omega)
    unfold z_sm
    rw [z_wv_at e]
    omega
theorem z_reti {G : z_Pg} {x : Nat} {v : Int32} (h : z_rty G x = some .int) : z_ret (z_rty G x) .ireturn [.int v] = some (some (.int v)) := by
  rw [h]
  show (if narrow .int (.int v) = .int v then some (some (Value.int v)) else none) = _
  exact if_pos rfl
variable {xs : List Int32} {d aM aT : Nat} {P : z_H} {fl ts : List Value} {vl vg : Int32} {Ψ : z_S → Prop}
theorem z_li1 {l : z_L} {s i : Int32} {k : Nat} (h0 : z_get l 0 = some (.ref aM)) (h1 : z_get l 1 = some (.int s)) (h2 : z_get l 2 = some (.int i)) (hM : P[aM]? = some (10, fl)) (fM : aM < z_far) (hT : P[aT]? = some (103, ts)) (fT : aT < z_far) (q21 : fl[21]? = some (.int vl)) (q23 : fl[23]? = some (.ref aT)) {y : Int32} (hi : i.toInt = (k : Int)) (hlt : i.toInt < vl.toInt) (hy : ts[k]? = some (.int y))
    (kk : ∀ l, z_get l 0 = some (.ref aM) → z_get l 1 = some (.int (s + y)) → z_get l 2 = some (.int (i + Int32.ofInt 1)) → z_Rh (z_G xs) d 225 Ψ (4, l, [], P, 0, 0)) : z_Rh (z_G xs) d 225 Ψ (4, l, [], P, 0, 0) := by
  refine z_r_ld (ins := (.iload_n 2)) (len := 1) (t := 5) (i := 2) rfl rfl rfl rfl rfl (fun _ => rfl) h2 rfl ?_
  refine z_r_ld (ins := (.aload_n 0)) (len := 1) (t := 6) (i := 0) rfl rfl rfl rfl rfl (fun _ => rfl) h0 rfl ?_
  refine z_r_rd (ins := (.getfield 195)) (len := 3) (t := 9) rfl rfl rfl rfl rfl (z_gfv (ci := 10) (k := 21) rfl (z_lkn fM hM) (by decide) q21) ?_
  refine z_r_jm (ins := (.if_icmp .ge 18)) (len := 3) (t := 12) rfl rfl rfl rfl (z_icn (t := 27) rfl (by rw [z_c_ge]; exact decide_eq_false (by omega))) ?_
  refine z_r_ld (ins := (.iload_n 1)) (len := 1) (t := 13) (i := 1) rfl rfl rfl rfl rfl (fun _ => rfl) h1 rfl ?_
  refine z_r_ld (ins := (.aload_n 0)) (len := 1) (t := 14) (i := 0) rfl rfl rfl rfl rfl (fun _ => rfl) h0 rfl ?_
  refine z_r_rd (ins := (.getfield 49)) (len := 3) (t := 17) rfl rfl rfl rfl rfl (z_gfv (ci := 10) (k := 23) rfl (z_lkn fM hM) (by decide) q23) ?_
  refine z_r_ld (ins := (.iload_n 2)) (len := 1) (t := 18) (i := 2) rfl rfl rfl rfl rfl (fun _ => rfl) h2 rfl ?_
  refine z_r_rd (ins := .iaload) (len := 1) (t := 19) rfl rfl rfl rfl rfl (z_iav (z_lkn fT hT) hi hy) ?_
  refine z_r_pu (ins := .iadd) (len := 1) (t := 20) rfl rfl rfl rfl rfl ?_
  refine z_r_is (kk := z_isI) (ins := (.istore_n 1)) (len := 1) (t := 21) (i := 1) rfl rfl rfl rfl rfl rfl rfl rfl (fun l h1 hk => ?_)
  have h0 := hk _ _ h0 (by decide) (Or.inr (by show (1 : Nat) ≠ 2; decide))
  have h2 := hk _ _ h2 (by decide) (Or.inl (by decide))
  refine z_r_ic (ins := (.iinc 2 1)) (len := 3) (t := 24) (i := 2) rfl rfl rfl rfl rfl rfl h2 (fun l h2 hk => ?_)
  have h0 := hk _ _ h0 (by decide) (Or.inl (by decide))
  have h1 := hk _ _ h1 (by decide) (Or.inr (by show (1 : Nat) ≠ 2; decide))
  refine z_r_jm (ins := (.goto (-20))) (len := 3) (t := 4) rfl rfl rfl rfl (z_gty rfl) ?_
  exact kk l h0 h1 h2
theorem z_li1e {l : z_L} {s i : Int32} (h0 : z_get l 0 = some (.ref aM)) (h1 : z_get l 1 = some (.int s)) (h2 : z_get l 2 = some (.int i)) (hM : P[aM]? = some (10, fl)) (fM : aM < z_far) (q21 : fl[21]? = some (.int vl)) (hge : vl.toInt ≤ i.toInt)
    (kk : z_Rh (z_G xs) d 225 Ψ (27, l, [], P, 0, 0)) : z_Rh (z_G xs) d 225 Ψ (4, l, [], P, 0, 0) := by
  refine z_r_ld (ins := (.iload_n 2)) (len := 1) (t := 5) (i := 2) rfl rfl rfl rfl rfl (fun _ => rfl) h2 rfl ?_
  refine z_r_ld (ins := (.aload_n 0)) (len := 1) (t := 6) (i := 0) rfl rfl rfl rfl rfl (fun _ => rfl) h0 rfl ?_
  refine z_r_rd (ins := (.getfield 195)) (len := 3) (t := 9) rfl rfl rfl rfl rfl (z_gfv (ci := 10) (k := 21) rfl (z_lkn fM hM) (by decide) q21) ?_
  refine z_r_jm (ins := (.if_icmp .ge 18)) (len := 3) (t := 27) rfl rfl rfl rfl (z_icy (t := 27) rfl (by rw [z_c_ge]; exact decide_eq_true hge)) ?_
  exact kk
theorem z_lil1 (hM : P[aM]? = some (10, fl)) (fM : aM < z_far) (hT : P[aT]? = some (103, ts)) (fT : aT < z_far) (q21 : fl[21]? = some (.int vl)) (q23 : fl[23]? = some (.ref aT)) (hts : z_tok ts) {nl : Nat} (hvl : vl.toInt = (nl : Int)) (hnl : nl ≤ 12)
    (kk : ∀ l s, z_get l 0 = some (.ref aM) → z_get l 1 = some (.int s) → s.toInt = z_sm ts nl → z_Rh (z_G xs) d 225 Ψ (27, l, [], P, 0, 0)) : ∀ (r k : Nat) {l : z_L} {s i : Int32}, r + k = nl → z_get l 0 = some (.ref aM) → z_get l 1 = some (.int s) → z_get l 2 = some (.int i) → i.toInt = (k : Int) → s.toInt = z_sm ts k → z_Rh (z_G xs) d 225 Ψ (4, l, [], P, 0, 0) := by
  intro r
  induction r with
  | zero =>
    intro k l s i hr h0 h1 h2 hi hs
    rw [Nat.zero_add] at hr
    subst hr
    exact z_li1e h0 h1 h2 hM fM q21 (by omega) (kk l s h0 h1 hs)
  | succ r ih =>
    intro k l s i hr h0 h1 h2 hi hs
    obtain ⟨y, hy, y1, y2⟩ := hts.2 k (by omega)
    obtain ⟨b1, b2⟩ := z_sm_bd hts (k := k) (by omega)
    refine z_li1 h0 h1 h2 hM fM hT fT q21 q23 hi (by omega) hy fun l g0 g1 g2 => ih (k + 1) (by omega) g0 g1 g2 ?_ ?_
    · rw [z_ad32 (by rw [show (Int32.ofInt 1).toInt = 1 from rfl]; omega) (by rw [show (Int32.ofInt 1).toInt = 1 from rfl]; omega), show (Int32.ofInt 1).toInt = 1 from rfl]
      omega
    · rw [z_ad32 (by omega) (by omega), hs]
      show _ = z_sm ts k + z_wv ts k
      rw [z_wv_at hy]
/-- no round -/
theorem z_li2 {l : z_L} {s : Int32} (h0 : z_get l 0 = some (.ref aM)) (h1 : z_get l 1 = some (.int s)) (hM : P[aM]? = some (10, fl)) (hl26 : 26 < fl.length) (hs : s.toInt = 0)
    (kk : z_Rh (z_G xs) d 225 Ψ (37, l, [.int (Int32.ofInt (-1))], P.set aM (10, fl.set 26 (.int (Int32.ofInt 0))), 0, 0)) : z_Rh (z_G xs) d 225 Ψ (27, l, [], P, 0, 0) := by
  refine z_r_ld (ins := (.aload_n 0)) (len := 1) (t := 28) (i := 0) rfl rfl rfl rfl rfl (fun _ => rfl) h0 rfl ?_
  refine z_r_pu (ins := (.iconst 0)) (len := 1) (t := 29) rfl rfl rfl rfl rfl ?_
  refine z_r_wr (ins := (.putfield 201)) (len := 3) (t := 32) rfl rfl rfl rfl rfl (z_pfv (ci := 10) (k := 26) rfl hM (by decide) hl26 rfl rfl rfl) ?_
  refine z_r_ld (ins := (.iload_n 1)) (len := 1) (t := 33) (i := 1) rfl rfl rfl rfl rfl (fun _ => rfl) h1 rfl ?_
  refine z_r_jm (ins := (.ifCond .ne 5)) (len := 3) (t := 36) rfl rfl rfl rfl (z_ifn (t := 38) rfl (by rw [z_c_ne]; exact decide_eq_false (by rw [hs]; decide))) ?_
  refine z_r_pu (ins := (.iconst (-1))) (len := 1) (t := 37) rfl rfl rfl rfl rfl ?_
  exact kk
theorem z_li3 {l : z_L} {s : Int32} (h0 : z_get l 0 = some (.ref aM)) (h1 : z_get l 1 = some (.int s)) (hM : P[aM]? = some (10, fl)) (fM : aM < z_far) (hl26 : 26 < fl.length) (q8 : fl[8]? = some (.int vg)) (hs : s.toInt ≠ 0)
    (kk : ∀ l, z_get l 0 = some (.ref aM) → z_get l 2 = some (.int (vg - vg / s * s)) → z_get l 3 = some (.int (Int32.ofInt 0)) → z_Rh (z_G xs) d 225 Ψ (47, l, [], P.set aM (10, fl.set 26 (.int (Int32.ofInt 0))), 0, 0)) : z_Rh (z_G xs) d 225 Ψ (27, l, [], P, 0, 0) := by
  refine z_r_ld (ins := (.aload_n 0)) (len := 1) (t := 28) (i := 0) rfl rfl rfl rfl rfl (fun _ => rfl) h0 rfl ?_
  refine z_r_pu (ins := (.iconst 0)) (len := 1) (t := 29) rfl rfl rfl rfl rfl ?_
  refine z_r_wr (ins := (.putfield 201)) (len := 3) (t := 32) rfl rfl rfl rfl rfl (z_pfv (ci := 10) (k := 26) rfl hM (by decide) hl26 rfl rfl rfl) ?_
  have hM : (P.set aM (10, fl.set 26 (.int (Int32.ofInt 0))))[aM]? = some (10, fl.set 26 (.int (Int32.ofInt 0))) := List.getElem?_set_self (List.getElem?_eq_some_iff.mp hM).1
  have q8 : (fl.set 26 (.int (Int32.ofInt 0)))[8]? = some (.int vg) := by rw [List.getElem?_set_ne (by decide)]; exact q8
  refine z_r_ld (ins := (.iload_n 1)) (len := 1) (t := 33) (i := 1) rfl rfl rfl rfl rfl (fun _ => rfl) h1 rfl ?_
  refine z_r_jm (ins := (.ifCond .ne 5)) (len := 3) (t := 38) rfl rfl rfl rfl (z_ify (t := 38) rfl (by rw [z_c_ne]; exact decide_eq_true (by rw [show (0 : Int32).toInt = 0 from rfl]; exact hs))) ?_
  refine z_r_ld (ins := (.aload_n 0)) (len := 1) (t := 39) (i := 0) rfl rfl rfl rfl rfl (fun _ => rfl) h0 rfl ?_
  refine z_r_rd (ins := (.getfield 198)) (len := 3) (t := 42) rfl rfl rfl rfl rfl (z_gfv (ci := 10) (k := 8) rfl (z_lkn fM hM) (by decide) q8) ?_
  refine z_r_ld (ins := (.iload_n 1)) (len := 1) (t := 43) (i := 1) rfl rfl rfl rfl rfl (fun _ => rfl) h1 rfl ?_
  refine z_r_pu (ins := .irem) (len := 1) (t := 44) rfl rfl rfl rfl (z_irm (fun h => hs (by rw [h]; rfl))) ?_
  refine z_r_is (kk := z_isI) (ins := (.istore_n 2)) (len := 1) (t := 45) (i := 2) rfl rfl rfl rfl rfl rfl rfl rfl (fun l h2 hk => ?_)
  have h0 := hk _ _ h0 (by decide) (Or.inl (by decide))
  have h1 := hk _ _ h1 (by decide) (Or.inr (by show (1 : Nat) ≠ 2; decide))
  refine z_r_pu (ins := (.iconst 0)) (len := 1) (t := 46) rfl rfl rfl rfl rfl ?_
  refine z_r_is (kk := z_isI) (ins := (.istore_n 3)) (len := 1) (t := 47) (i := 3) rfl rfl rfl rfl rfl rfl rfl rfl (fun l h3 hk => ?_)
  have h0 := hk _ _ h0 (by decide) (Or.inl (by decide))
  have h1 := hk _ _ h1 (by decide) (Or.inl (by decide))
  have h2 := hk _ _ h2 (by decide) (Or.inr (by show (1 : Nat) ≠ 2; decide))
  exact kk l h0 h2 h3
theorem z_li4 {l : z_L} {t k : Int32} {j : Nat} {y : Int32} (h0 : z_get l 0 = some (.ref aM)) (h2 : z_get l 2 = some (.int t)) (h3 : z_get l 3 = some (.int k)) (hM : P[aM]? = some (10, fl)) (fM : aM < z_far) (hT : P[aT]? = some (103, ts)) (fT : aT < z_far) (q23 : fl[23]? = some (.ref aT)) (hk0 : k.toInt = (j : Int)) (hy : ts[j]? = some (.int y)) (hge : y.toInt ≤ t.toInt)
    (kk : ∀ l, z_get l 0 = some (.ref aM) → z_get l 2 = some (.int (t - y)) → z_get l 3 = some (.int (k + Int32.ofInt 1)) → z_Rh (z_G xs) d 225 Ψ (47, l, [], P, 0, 0)) : z_Rh (z_G xs) d 225 Ψ (47, l, [], P, 0, 0) := by
  refine z_r_ld (ins := (.iload_n 2)) (len := 1) (t := 48) (i := 2) rfl rfl rfl rfl rfl (fun _ => rfl) h2 rfl ?_
  refine z_r_ld (ins := (.aload_n 0)) (len := 1) (t := 49) (i := 0) rfl rfl rfl rfl rfl (fun _ => rfl) h0 rfl ?_
  refine z_r_rd (ins := (.getfield 49)) (len := 3) (t := 52) rfl rfl rfl rfl rfl (z_gfv (ci := 10) (k := 23) rfl (z_lkn fM hM) (by decide) q23) ?_
  refine z_r_ld (ins := (.iload_n 3)) (len := 1) (t := 53) (i := 3) rfl rfl rfl rfl rfl (fun _ => rfl) h3 rfl ?_
  refine z_r_rd (ins := .iaload) (len := 1) (t := 54) rfl rfl rfl rfl rfl (z_iav (z_lkn fT hT) hk0 hy) ?_
  refine z_r_jm (ins := (.if_icmp .lt 18)) (len := 3) (t := 57) rfl rfl rfl rfl (z_icn (t := 72) rfl (by rw [z_c_lt]; exact decide_eq_false (by omega))) ?_
  refine z_r_ld (ins := (.iload_n 2)) (len := 1) (t := 58) (i := 2) rfl rfl rfl rfl rfl (fun _ => rfl) h2 rfl ?_
  refine z_r_ld (ins := (.aload_n 0)) (len := 1) (t := 59) (i := 0) rfl rfl rfl rfl rfl (fun _ => rfl) h0 rfl ?_
  refine z_r_rd (ins := (.getfield 49)) (len := 3) (t := 62) rfl rfl rfl rfl rfl (z_gfv (ci := 10) (k := 23) rfl (z_lkn fM hM) (by decide) q23) ?_
  refine z_r_ld (ins := (.iload_n 3)) (len := 1) (t := 63) (i := 3) rfl rfl rfl rfl rfl (fun _ => rfl) h3 rfl ?_
  refine z_r_rd (ins := .iaload) (len := 1) (t := 64) rfl rfl rfl rfl rfl (z_iav (z_lkn fT hT) hk0 hy) ?_
  refine z_r_pu (ins := .isub) (len := 1) (t := 65) rfl rfl rfl rfl rfl ?_
  refine z_r_is (kk := z_isI) (ins := (.istore_n 2)) (len := 1) (t := 66) (i := 2) rfl rfl rfl rfl rfl rfl rfl rfl (fun l h2 hk => ?_)
  have h0 := hk _ _ h0 (by decide) (Or.inl (by decide))
  have h3 := hk _ _ h3 (by decide) (Or.inl (by decide))
  refine z_r_ic (ins := (.iinc 3 1)) (len := 3) (t := 69) (i := 3) rfl rfl rfl rfl rfl rfl h3 (fun l h3 hk => ?_)
  have h0 := hk _ _ h0 (by decide) (Or.inl (by decide))
  have h2 := hk _ _ h2 (by decide) (Or.inr (by show (1 : Nat) ≠ 2; decide))
  refine z_r_jm (ins := (.goto (-22))) (len := 3) (t := 47) rfl rfl rfl rfl (z_gty rfl) ?_
  exact kk l h0 h2 h3
theorem z_li5 {l : z_L} {t k : Int32} {j : Nat} {y : Int32} (h0 : z_get l 0 = some (.ref aM)) (h2 : z_get l 2 = some (.int t)) (h3 : z_get l 3 = some (.int k)) (hM : P[aM]? = some (10, fl)) (fM : aM < z_far) (hT : P[aT]? = some (103, ts)) (fT : aT < z_far) (q23 : fl[23]? = some (.ref aT)) (hl26 : 26 < fl.length) (hk0 : k.toInt = (j : Int)) (hy : ts[j]? = some (.int y)) (hlt : t.toInt < y.toInt)
    (kk : z_Rh (z_G xs) d 225 Ψ (85, l, [.int k], P.set aM (10, fl.set 26 (.int (y - t))), 0, 0)) : z_Rh (z_G xs) d 225 Ψ (47, l, [], P, 0, 0) := by
  refine z_r_ld (ins := (.iload_n 2)) (len := 1) (t := 48) (i := 2) rfl rfl rfl rfl rfl (fun _ => rfl) h2 rfl ?_
  refine z_r_ld (ins := (.aload_n 0)) (len := 1) (t := 49) (i := 0) rfl rfl rfl rfl rfl (fun _ => rfl) h0 rfl ?_
  refine z_r_rd (ins := (.getfield 49)) (len := 3) (t := 52) rfl rfl rfl rfl rfl (z_gfv (ci := 10) (k := 23) rfl (z_lkn fM hM) (by decide) q23) ?_
  refine z_r_ld (ins := (.iload_n 3)) (len := 1) (t := 53) (i := 3) rfl rfl rfl rfl rfl (fun _ => rfl) h3 rfl ?_
  refine z_r_rd (ins := .iaload) (len := 1) (t := 54) rfl rfl rfl rfl rfl (z_iav (z_lkn fT hT) hk0 hy) ?_
  refine z_r_jm (ins := (.if_icmp .lt 18)) (len := 3) (t := 72) rfl rfl rfl rfl (z_icy (t := 72) rfl (by rw [z_c_lt]; exact decide_eq_true hlt)) ?_
  refine z_r_ld (ins := (.aload_n 0)) (len := 1) (t := 73) (i := 0) rfl rfl rfl rfl rfl (fun _ => rfl) h0 rfl ?_
  refine z_r_ld (ins := (.aload_n 0)) (len := 1) (t := 74) (i := 0) rfl rfl rfl rfl rfl (fun _ => rfl) h0 rfl ?_
  refine z_r_rd (ins := (.getfield 49)) (len := 3) (t := 77) rfl rfl rfl rfl rfl (z_gfv (ci := 10) (k := 23) rfl (z_lkn fM hM) (by decide) q23) ?_
  refine z_r_ld (ins := (.iload_n 3)) (len := 1) (t := 78) (i := 3) rfl rfl rfl rfl rfl (fun _ => rfl) h3 rfl ?_
  refine z_r_rd (ins := .iaload) (len := 1) (t := 79) rfl rfl rfl rfl rfl (z_iav (z_lkn fT hT) hk0 hy) ?_
  refine z_r_ld (ins := (.iload_n 2)) (len := 1) (t := 80) (i := 2) rfl rfl rfl rfl rfl (fun _ => rfl) h2 rfl ?_
  refine z_r_pu (ins := .isub) (len := 1) (t := 81) rfl rfl rfl rfl rfl ?_
  refine z_r_wr (ins := (.putfield 201)) (len := 3) (t := 84) rfl rfl rfl rfl rfl (z_pfv (ci := 10) (k := 26) rfl hM (by decide) hl26 rfl rfl rfl) ?_
  refine z_r_ld (ins := (.iload_n 3)) (len := 1) (t := 85) (i := 3) rfl rfl rfl rfl rfl (fun _ => rfl) h3 rfl ?_
  exact kk
theorem z_lil2 (hM : P[aM]? = some (10, fl)) (fM : aM < z_far) (hT : P[aT]? = some (103, ts)) (fT : aT < z_far) (q23 : fl[23]? = some (.ref aT)) (hl26 : 26 < fl.length) (hts : z_tok ts) {nl : Nat} (hnl : nl ≤ 12)
    (kk : ∀ (l : z_L) (k v : Int32), 0 ≤ k.toInt → k.toInt ≤ 11 → z_Rh (z_G xs) d 225 Ψ (85, l, [.int k], P.set aM (10, fl.set 26 (.int v)), 0, 0)) : ∀ (r j : Nat) {l : z_L} {t k : Int32}, r + j = nl → j < nl → z_get l 0 = some (.ref aM) → z_get l 2 = some (.int t) → z_get l 3 = some (.int k) → k.toInt = (j : Int) → t.toInt < z_sm ts nl - z_sm ts j → z_Rh (z_G xs) d 225 Ψ (47, l, [], P, 0, 0) := by
  intro r
  induction r with
  | zero => intro j l t k h1 h2; omega
  | succ r ih =>
    intro j l t k hr hj h0 h2 h3 hk ht
    obtain ⟨y, hy, y1, y2⟩ := hts.2 j (by omega)
    by_cases hc : y.toInt ≤ t.toInt
    · have hb := z_sm_bd hts (k := nl) hnl
      have hb2 := z_sm_bd hts (k := j) (by omega)
      have e1 : z_sm ts (j + 1) = z_sm ts j + y.toInt := by
        show z_sm ts j + z_wv ts j = _
        rw [z_wv_at hy]
      have e2 : (t - y).toInt = t.toInt - y.toInt := z_sb32 (by omega) (by omega)
      have e3 : (k + Int32.ofInt 1).toInt = ((j + 1 : Nat) : Int) := by
        rw [z_ad32 (by rw [show (Int32.ofInt 1).toInt = 1 from rfl]; omega) (by rw [show (Int32.ofInt 1).toInt = 1 from rfl]; omega), show (Int32.ofInt 1).toInt = 1 from rfl]
        omega
      have hlt : j + 1 < nl := by
        refine Decidable.byContradiction fun hn => ?_
        have : j + 1 = nl := by omega
        rw [← this] at ht
        omega
      exact z_li4 h0 h2 h3 hM fM hT fT q23 hk hy hc fun l g0 g2 g3 => ih (j + 1) (by omega) hlt g0 g2 g3 e3 (by omega)
    · exact z_li5 h0 h2 h3 hM fM hT fT q23 hl26 hk hy (by omega) (kk l k _ (by omega) (by omega))
theorem z_hlineNow {xs : List Int32} {H : List z_ac_} {A B : z_ac_} {tl tt tg tq : z_tk} {K : z_Kc} (hA : H[90]? = some A) (A1 : A.1 = 10) (A2 : A.2.1 = (true, true)) (A3 : A.2.2.1 = none) (fl : A.2.2.2[21]? = some (.inl tl)) (hl1 : 0 ≤ z_lo tl) (hl2 : z_hi tl ≤ 12) (ft : A.2.2.2[23]? = some (.inr (.inr (false, [101])))) (fg : A.2.2.2[8]? = some (.inl tg)) (fq : A.2.2.2[26]? = some (.inl tq))
    (hB : H[101]? = some B) (B1 : B.1 = 103) (B2 : B.2.1 = (true, true)) (B3 : B.2.2.1 = some 12) (B4 : B.2.2.2 = [.inl tt]) (ht1 : 0 ≤ z_lo tt) (ht2 : z_hi tt ≤ 99)
    (hK : K = (225, 2, ((225, 0, [(0, .inr (.inr (false, [90])))], [], 0, 0), [], H, 1, [], 900000), [], [(some (.inl (0, 0, 0, (-1), 11)), [(90, .inr [(26, .inl (0, 0, 0, (-2147483648), 2147483647))])], 0)], none)) : z_cn (z_G xs) 12 z_J K := by
  subst hK
  intro N al l P d hd hS hf hj
  obtain ⟨v, h0, hv⟩ := hS.1.2.2.1 0 _ rfl
  obtain ⟨aM, rfl, haM⟩ := z_ref1 hv
  have h0 : z_get l 0 = some (.ref aM) := h0
  have hH := hS.2.2.1
  obtain ⟨fM, uM, vs, hM, hz, -⟩ := z_plr hH haM hA (by rw [A2])
  have uM := uM (by rw [A2])
  have hz := hz A3
  rw [A1] at hM
  obtain ⟨w1, q21, g21⟩ := hz.get fl
  obtain ⟨vl, rfl, l1, l2⟩ := z_int1 g21
  obtain ⟨w2, q23, g23⟩ := hz.get ft
  obtain ⟨aT, rfl, haT⟩ := z_ref1 g23
  obtain ⟨w3, q8, g8⟩ := hz.get fg
  obtain ⟨vg, rfl, -, -⟩ := z_int1 g8
  obtain ⟨w4, q26, -⟩ := hz.get fq
  have hl26 : 26 < vs.length := (List.getElem?_eq_some_iff.mp q26).1
  obtain ⟨fT, -, ts, hT, -, hz2⟩ := z_plr hH haT hB (by rw [B2])
  obtain ⟨hlen, tk, htk, hall⟩ := hz2 _ B3
  rw [B4] at htk
  cases htk
  rw [B1] at hT
  have hts : z_tok ts := ⟨hlen, fun j hj => by
    obtain ⟨y, hy, y1, y2⟩ := z_int1 (hall _ (List.getElem_mem (l := ts) (n := j) (by omega)))
    exact ⟨y, by rw [List.getElem?_eq_getElem (by omega), hy], by omega, by omega⟩⟩
  have hne : aT ≠ aM := fun q => by rw [q, haM] at haT; cases haT
  obtain ⟨nl, hnl⟩ : ∃ nl : Nat, vl.toInt = (nl : Int) := ⟨vl.toInt.toNat, by omega⟩
  -- what is promised
  have fin : ∀ (v : Int32) (rv : Int32), -1 ≤ rv.toInt → rv.toInt ≤ 11 → z_J al (P.set aM (10, vs.set 26 (.int v))) ∧ z_post N al P (some (.inl (0, 0, 0, (-1), 11)), [(90, .inr [(26, .inl (0, 0, 0, (-2147483648), 2147483647))])], 0) (some (.int rv)) (P.set aM (10, vs.set 26 (.int v))) al := by
    intro v rv r1 r2
    have hv1 := v.le_toInt
    have hv2 := v.toInt_lt
    have hp := z_post_1 (t := .inl (0, 0, 0, (-2147483648), 2147483647)) (tr := some (.inl (0, 0, 0, (-1), 11))) (rv := some (.int rv)) hH haM uM hM hl26 (w := .int v) ⟨v, rfl, by show (-2147483648 : Int) ≤ _; omega, by show _ ≤ (2147483647 : Int); omega, Or.inl rfl⟩ ⟨rv, rfl, r1, r2, Or.inl rfl⟩
    exact ⟨z_Jok_d (D := [(90, some [26])]) rfl (fun _ _ h => h) (fun _ _ h => Or.inl h) hp.2.2.1 hj, hp⟩
  have hset : ∀ v w : Int32, (P.set aM (10, vs.set 26 (.int v))).set aM (10, (vs.set 26 (.int v)).set 26 (.int w)) = P.set aM (10, vs.set 26 (.int w)) := fun v w => by rw [List.set_set, List.set_set]
  have main : ∃ r P', z_Runs (z_G xs) d 225 (0, l, [], P, 0, 0) r P' ∧ (∃ (rv v : Int32), r = some (.int rv) ∧ P' = P.set aM (10, vs.set 26 (.int v)) ∧ -1 ≤ rv.toInt ∧ rv.toInt ≤ 11) := by
    refine z_rh_runs (Ψ := fun q => ∃ (l : z_L) (rv v : Int32) (pc : Nat), (pc = 37 ∨ pc = 85) ∧ q = (pc, l, [.int rv], P.set aM (10, vs.set 26 (.int v)), 0, 0) ∧ -1 ≤ rv.toInt ∧ rv.toInt ≤ 11) ?_ ?_
    · skip
      refine z_r_pu (ins := (.iconst 0)) (len := 1) (t := 1) rfl rfl rfl rfl rfl ?_
      refine z_r_is (kk := z_isI) (ins := (.istore_n 1)) (len := 1) (t := 2) (i := 1) rfl rfl rfl rfl rfl rfl rfl rfl (fun l h1 hk => ?_)
      have h0 := hk _ _ h0 (by decide) (Or.inr (by show (1 : Nat) ≠ 2; decide))
      refine z_r_pu (ins := (.iconst 0)) (len := 1) (t := 3) rfl rfl rfl rfl rfl ?_
      refine z_r_is (kk := z_isI) (ins := (.istore_n 2)) (len := 1) (t := 4) (i := 2) rfl rfl rfl rfl rfl rfl rfl rfl (fun l h2 hk => ?_)
      have h0 := hk _ _ h0 (by decide) (Or.inl (by decide))
      have h1 := hk _ _ h1 (by decide) (Or.inr (by show (1 : Nat) ≠ 2; decide))
      refine z_lil1 hM fM hT fT q21 q23 hts hnl (by omega) (fun l s h0 h1 hs => ?_) nl 0 rfl h0 h1 h2 rfl rfl
      have hb := z_sm_bd hts (k := nl) (by omega)
      by_cases hs0 : s.toInt = 0
      · exact z_li2 h0 h1 hM hl26 hs0 (z_rh_end ⟨_, _, _, 37, Or.inl rfl, rfl, by decide, by decide⟩)
      · refine z_li3 h0 h1 hM fM hl26 q8 hs0 fun l h0 h2 h3 => ?_
        have hM1 : (P.set aM (10, vs.set 26 (.int (Int32.ofInt 0))))[aM]? = some (10, vs.set 26 (.int (Int32.ofInt 0))) := List.getElem?_set_self (List.getElem?_eq_some_iff.mp hM).1
        have hT1 : (P.set aM (10, vs.set 26 (.int (Int32.ofInt 0))))[aT]? = some (103, ts) := by rw [List.getElem?_set_ne (fun q => hne q.symm)]; exact hT
        have hnl0 : 0 < nl := by
          refine Nat.pos_of_ne_zero fun q => hs0 ?_
          rw [hs, q]
          rfl
        refine z_lil2 hM1 fM hT1 fT (by rw [List.getElem?_set_ne (by decide)]; exact q23) (by rw [List.length_set]; exact hl26) hts (nl := nl) (by omega) (fun l k v k1 k2 => ?_) nl 0 rfl hnl0 h0 h2 h3 rfl ?_
        · rw [hset]
          exact z_rh_end ⟨_, _, _, 85, Or.inr rfl, rfl, by omega, k2⟩
        · rw [z_tmd32, hs]
          show _ < z_sm ts nl - 0
          have := Int.tmod_lt_of_pos vg.toInt (b := z_sm ts nl) (by omega)
          omega
    · rintro q1 ⟨l, rv, v, pc, hpc, rfl, r1, r2⟩
      refine ⟨some (.int rv), _, ?_, rv, v, rfl, rfl, r1, r2⟩
      rcases hpc with rfl | rfl
      · exact z_r_ret (ins := .ireturn) rfl rfl (z_reti rfl)
      · exact z_r_ret (ins := .ireturn) rfl rfl (z_reti rfl)
  obtain ⟨r, P', hrun, rv, v, rfl, rfl, r1, r2⟩ := main
  obtain ⟨j1, p1⟩ := fin v rv r1 r2
  exact ⟨_, _, al, _, List.mem_singleton_self _, hrun, j1, p1⟩
end ZLIN
